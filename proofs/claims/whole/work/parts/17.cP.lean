def rm_P_firstBad : Room := { frames := 5, cells := 0, slots := 0, locals := 119 }
set_option maxHeartbeats 4000000 in
set_option maxRecDepth 100000 in
theorem c_P_firstBad (l : Launch) (D : va_G) (cA : Nat → ClassId) (ad : Nat → Nat) (sz : Nat) (G_size : Int32) (G_inputs : Int32) (G_kinds : (Nat → Int32)) (G_lefts : (Nat → Int32)) (G_rights : (Nat → Int32)) (F_size : Int32) (F_kinds : (Nat → Int32)) (F_sizes : (Nat → Int32)) (F_literals : (Nat → Int32)) (F_leftOut : (Nat → Int32)) (U_conflict : Int32) (U_changed : Int32) (U_told : (Nat → Int32)) (p1 : Int32) (p2 : Int32) (post : Int32 → Int32 → Int32 → (Nat → Int32) → Prop) (h : wp_P_firstBad G_size G_kinds G_lefts G_rights F_size F_kinds F_sizes F_literals F_leftOut U_conflict U_changed U_told p1 p2 post) : Met l y_P_firstBad w_P_firstBad rm_P_firstBad (mPc D cA [.ref (ad 0), .int p1, .int p2] [(k_P cA ad), (k_G cA ad G_size G_inputs), (k_G_kinds cA ad G_kinds), (k_G_lefts cA ad G_lefts), (k_G_rights cA ad G_rights), (k_F cA ad F_size), (k_F_kinds cA ad F_kinds), (k_F_sizes cA ad F_sizes), (k_F_literals cA ad F_literals), (k_F_leftOut cA ad F_leftOut), (k_U cA ad U_conflict U_changed), (k_U_told cA ad U_told)] sz) (va_Qi (fun (r : Int32) (u : Int32 × Int32 × (Nat → Int32)) => post r u.1 u.2.1 u.2.2) (mB D (va_A [(k_P cA ad), (k_G cA ad G_size G_inputs), (k_G_kinds cA ad G_kinds), (k_G_lefts cA ad G_lefts), (k_G_rights cA ad G_rights), (k_F cA ad F_size), (k_F_kinds cA ad F_kinds), (k_F_sizes cA ad F_sizes), (k_F_literals cA ad F_literals), (k_F_leftOut cA ad F_leftOut), (k_U cA ad U_conflict U_changed), (k_U_told cA ad U_told)] sz) (fun (u : Int32 × Int32 × (Nat → Int32)) => [(k_P cA ad), (k_G cA ad G_size G_inputs), (k_G_kinds cA ad G_kinds), (k_G_lefts cA ad G_lefts), (k_G_rights cA ad G_rights), (k_F cA ad F_size), (k_F_kinds cA ad F_kinds), (k_F_sizes cA ad F_sizes), (k_F_literals cA ad F_literals), (k_F_leftOut cA ad F_leftOut), (k_U cA ad u.1 u.2.1), (k_U_told cA ad u.2.2)])) (va_A [(k_P cA ad), (k_G cA ad G_size G_inputs), (k_G_kinds cA ad G_kinds), (k_G_lefts cA ad G_lefts), (k_G_rights cA ad G_rights), (k_F cA ad F_size), (k_F_kinds cA ad F_kinds), (k_F_sizes cA ad F_sizes), (k_F_literals cA ad F_literals), (k_F_leftOut cA ad F_leftOut), (k_U cA ad U_conflict U_changed), (k_U_told cA ad U_told)] sz)) 0 0 (va_A [(k_P cA ad), (k_G cA ad G_size G_inputs), (k_G_kinds cA ad G_kinds), (k_G_lefts cA ad G_lefts), (k_G_rights cA ad G_rights), (k_F cA ad F_size), (k_F_kinds cA ad F_kinds), (k_F_sizes cA ad F_sizes), (k_F_literals cA ad F_literals), (k_F_leftOut cA ad F_leftOut), (k_U cA ad U_conflict U_changed), (k_U_told cA ad U_told)] sz) := by
  refine m_methI (by decide) rfl (Nat.le_of_ble_eq_true rfl) ?_
  intro p e s m below meth c A Q ls hx hb hml hown hts hK hA hw hl hE
  have hl : lv_has ls 4 [(0, .ref (ad 0)), (1, .int p1), (2, .int p2)] := hl
  have hown : s.vm.findClass R_P = some m.cls := hown
  have hg : ∀ {w : Cond}, w ∈ gw → w.before _ s = true := fun h => hts _ (List.mem_cons_of_mem _ h)
  obtain ⟨C2, hC2⟩ : ∃ C : Int32 → Int32 → Int32 → (Nat → Int32) → Prop, ∀ (x3 : Int32) (U_conflict : Int32) (U_changed : Int32) (U_told : (Nat → Int32)), C x3 U_conflict U_changed U_told ↔ (∀ (H : Heap) (locs : List Loc) (ls : Array Slot), mW D A s.heap [(k_P cA ad), (k_G cA ad G_size G_inputs), (k_G_kinds cA ad G_kinds), (k_G_lefts cA ad G_lefts), (k_G_rights cA ad G_rights), (k_F cA ad F_size), (k_F_kinds cA ad F_kinds), (k_F_sizes cA ad F_sizes), (k_F_literals cA ad F_literals), (k_F_leftOut cA ad F_leftOut), (k_U cA ad U_conflict U_changed), (k_U_told cA ad U_told)] H locs → lv_has ls 4 [(0, .ref (ad 0)), (2, .int p2), (3, .int x3)] → W p l e rm_P_firstBad s m [.ref (ad 0), .int p1, .int p2].toArray below meth c H locs 0 0 Q (F0 m 2 ls [])) := ⟨_, fun _ _ _ _ => Iff.rfl⟩
  have j40 : ∀ (x3 : Int32) (U_conflict : Int32) (U_changed : Int32) (U_told : (Nat → Int32)) (H : Heap) (locs : List Loc) (ls : Array Slot), s_P_firstBad_40 G_size G_kinds G_lefts G_rights F_size F_kinds F_sizes F_literals F_leftOut p1 p2 C2 post x3 U_conflict U_changed U_told → mW D A s.heap [(k_P cA ad), (k_G cA ad G_size G_inputs), (k_G_kinds cA ad G_kinds), (k_G_lefts cA ad G_lefts), (k_G_rights cA ad G_rights), (k_F cA ad F_size), (k_F_kinds cA ad F_kinds), (k_F_sizes cA ad F_sizes), (k_F_literals cA ad F_literals), (k_F_leftOut cA ad F_leftOut), (k_U cA ad U_conflict U_changed), (k_U_told cA ad U_told)] H locs → lv_has ls 4 [(0, .ref (ad 0)), (2, .int p2), (3, .int x3)] → W p l e rm_P_firstBad s m [.ref (ad 0), .int p1, .int p2].toArray below meth c H locs 0 0 Q (F0 m 40 ls []) := by
    intro x3 U_conflict U_changed U_told H locs ls h hw hl
    unfold s_P_firstBad_40 at h
    refine lv_iinc (v := (x3 + 1)) (lv' := [(3, .int (x3 + 1)), (0, .ref (ad 0)), (2, .int p2)]) hx hb d_P_firstBad_40 hl (k := 2) rfl rfl (by decide) rfl (fun ls hl => ?_)
    refine lv_goto (tgt := 2) hx hb d_P_firstBad_43 (by decide) ?_
    exact (hC2 _ _ _ _).1 h _ _ _ hw (lv_sub hl [1, 2, 0] rfl)
  have hc2 : ∀ (x3 : Int32) (U_conflict : Int32) (U_changed : Int32) (U_told : (Nat → Int32)), s_P_firstBad_2 G_size G_kinds G_lefts G_rights F_size F_kinds F_sizes F_literals F_leftOut p1 p2 C2 post x3 U_conflict U_changed U_told → C2 x3 U_conflict U_changed U_told := by
    intro x3 U_conflict U_changed U_told h
    unfold s_P_firstBad_2 at h
    refine (hC2 _ _ _ _).2 ?_
    intro H locs ls hw hl
    refine lv_iload_n hx hb d_P_firstBad_2 rfl (lv_at hl 2 rfl) ?_
    refine lv_aload_n hx hb d_P_firstBad_3 rfl (lv_at hl 0 rfl) ?_
    refine va_get (D := D) (ci := 0) (v := .ref (ad 6)) (C := R_P) (T := T_P) (N := 4) hx hb hts (fun w h => List.mem_cons_of_mem _ (iw_P w h)) hown hK.1 hw.1 0 rfl rfl 1 (by decide) (hg gm_142) (fun _ h9 => h9) rfl d_P_firstBad_4 ?_
    refine va_getN (D := D) (ci := 2) (v := .int F_size) (C := R_F) (T := T_F) (N := 5) hx hb hts (fun w h => List.mem_cons_of_mem _ (iw_F w h)) hown hK.1 hw.1 5 rfl rfl 4 (by decide) (va_Nw.use rfl (hK.2 _ nw_80)) (fun _ h9 => h9) rfl d_P_firstBad_7 ?_
    refine lv_icmp_ge (tgt := 46) hx hb d_P_firstBad_10 (by decide) (fun hc => ?_) (fun hc => ?_)
    · have h := h.1 hc
      refine lv_aload_n hx hb d_P_firstBad_46 rfl (lv_at hl 0 rfl) ?_
      refine va_get (D := D) (ci := 0) (v := .ref (ad 11)) (C := R_P) (T := T_P) (N := 4) hx hb hts (fun w h => List.mem_cons_of_mem _ (iw_P w h)) hown hK.1 hw.1 0 rfl rfl 2 (by decide) (hg gm_143) (fun _ h9 => h9) rfl d_P_firstBad_47 ?_
      refine lv_iload_n hx hb d_P_firstBad_50 rfl (lv_at hl 1 rfl) ?_
      refine m_calli (hr := va_runVN (As := [.int p2]) (rest := []) ⟨hx, hb, hml, hown, hts⟩ (c_U_literalFollows l D cA ad _ G_size G_inputs G_kinds G_lefts G_rights F_size F_kinds F_sizes F_literals F_leftOut U_conflict U_changed U_told p2 _ h) ⟨va_cnB 1 hts (gin gm_459) rfl rfl rfl (hK.2 _ nw_456) (hg gm_4) (by decide +kernel) ⟨Nat.le_of_ble_eq_true rfl, Nat.le_of_ble_eq_true rfl⟩, hg gm_458, hg gs_34⟩ (m_preV 3 10 rfl rfl hK hw [1, 2, 3, 4, 5, 6, 7, 8, 9, 10, 11] rfl rfl) rfl rfl hl.1 rfl (lv_room (Nat.le_of_ble_eq_true rfl)) d_P_firstBad_51 ⟨Nat.zero_le _, Nat.zero_le _⟩) (w2 := (fun (u : Int32 × Int32 × (Nat → Int32)) => [(k_P cA ad), (k_G cA ad G_size G_inputs), (k_G_kinds cA ad G_kinds), (k_G_lefts cA ad G_lefts), (k_G_rights cA ad G_rights), (k_F cA ad F_size), (k_F_kinds cA ad F_kinds), (k_F_sizes cA ad F_sizes), (k_F_literals cA ad F_literals), (k_F_leftOut cA ad F_leftOut), (k_U cA ad u.1 u.2.1), (k_U_told cA ad u.2.2)])) (wr := [(k_P cA ad)]) hw hA [1, 2, 3, 4, 5, 6, 7, 8, 9, 10, 11] [0] [0, 1, 2, 3, 4, 5, 6, 7, 8, 9, 10, 11] rfl rfl (by decide) (by decide) (by decide) (fun _ => rfl) (fun r51 u H locs hw h => ?_)
      obtain ⟨U_conflict_51, U_changed_51, U_told_51⟩ := u
      have hw : mW D A s.heap [(k_P cA ad), (k_G cA ad G_size G_inputs), (k_G_kinds cA ad G_kinds), (k_G_lefts cA ad G_lefts), (k_G_rights cA ad G_rights), (k_F cA ad F_size), (k_F_kinds cA ad F_kinds), (k_F_sizes cA ad F_sizes), (k_F_literals cA ad F_literals), (k_F_leftOut cA ad F_leftOut), (k_U cA ad U_conflict_51 U_changed_51), (k_U_told cA ad U_told_51)] H locs := hw
      refine lv_if_eq (tgt := 61) hx hb d_P_firstBad_54 (by decide) (fun hc => ?_) (fun hc => ?_)
      · have h := h.1 hc
        refine lv_iconst (v := 1) hx hb d_P_firstBad_61 (by decide) ?_
        refine lv_aload_n hx hb d_P_firstBad_62 rfl (lv_at hl 0 rfl) ?_
        refine va_get (D := D) (ci := 0) (v := .ref (ad 6)) (C := R_P) (T := T_P) (N := 4) hx hb hts (fun w h => List.mem_cons_of_mem _ (iw_P w h)) hown hK.1 hw.1 0 rfl rfl 1 (by decide) (hg gm_142) (fun _ h9 => h9) rfl d_P_firstBad_63 ?_
        refine va_getN (D := D) (ci := 2) (v := .int F_size) (C := R_F) (T := T_F) (N := 5) hx hb hts (fun w h => List.mem_cons_of_mem _ (iw_F w h)) hown hK.1 hw.1 5 rfl rfl 4 (by decide) (va_Nw.use rfl (hK.2 _ nw_80)) (fun _ h9 => h9) rfl d_P_firstBad_66 ?_
        refine lv_iadd hx hb d_P_firstBad_69 ?_
        exact hE (1 + F_size) (U_conflict_51, U_changed_51, U_told_51) _ _ _ _ h hw d_P_firstBad_70
      · have h := h.2 hc
        refine lv_iconst (v := 0) hx hb d_P_firstBad_57 (by decide) ?_
        refine lv_goto (tgt := 70) hx hb d_P_firstBad_58 (by decide) ?_
        exact hE 0 (U_conflict_51, U_changed_51, U_told_51) _ _ _ _ h hw d_P_firstBad_70
    · have h := h.2 hc
      refine lv_aload_n hx hb d_P_firstBad_13 rfl (lv_at hl 0 rfl) ?_
      refine va_get (D := D) (ci := 0) (v := .ref (ad 6)) (C := R_P) (T := T_P) (N := 4) hx hb hts (fun w h => List.mem_cons_of_mem _ (iw_P w h)) hown hK.1 hw.1 0 rfl rfl 1 (by decide) (hg gm_142) (fun _ h9 => h9) rfl d_P_firstBad_14 ?_
      refine va_getN (D := D) (ci := 2) (v := .ref (ad 10)) (C := R_F) (T := T_F) (N := 5) hx hb hts (fun w h => List.mem_cons_of_mem _ (iw_F w h)) hown hK.1 hw.1 5 rfl rfl 3 (by decide) (va_Nw.use rfl (hK.2 _ nw_76)) (fun _ h9 => h9) rfl d_P_firstBad_17 ?_
      refine lv_iload_n hx hb d_P_firstBad_20 rfl (lv_at hl 2 rfl) ?_
      refine va_zald hx hb hK.1 hw.1 9 1 rfl rfl h.1 d_P_firstBad_21 ?_
      have h := h.2
      refine lv_if_ne (tgt := 40) hx hb d_P_firstBad_22 (by decide) (fun hc => ?_) (fun hc => ?_)
      · have h := h.2 hc
        exact j40 _ _ _ _ _ _ _ h hw (lv_sub hl [0, 1, 2] rfl)
      · have h := h.1 hc
        refine lv_aload_n hx hb d_P_firstBad_25 rfl (lv_at hl 0 rfl) ?_
        refine va_get (D := D) (ci := 0) (v := .ref (ad 11)) (C := R_P) (T := T_P) (N := 4) hx hb hts (fun w h => List.mem_cons_of_mem _ (iw_P w h)) hown hK.1 hw.1 0 rfl rfl 2 (by decide) (hg gm_143) (fun _ h9 => h9) rfl d_P_firstBad_26 ?_
        refine lv_iload_n hx hb d_P_firstBad_29 rfl (lv_at hl 2 rfl) ?_
        refine m_calli (hr := va_runVN (As := [.int x3]) (rest := []) ⟨hx, hb, hml, hown, hts⟩ (c_U_lineFollows l D cA ad _ G_size G_inputs G_kinds G_lefts G_rights F_size F_kinds F_sizes F_literals F_leftOut U_conflict U_changed U_told x3 _ h) ⟨va_cnB 1 hts (gin gm_415) rfl rfl rfl (hK.2 _ nw_412) (hg gm_4) (by decide +kernel) ⟨Nat.le_of_ble_eq_true rfl, Nat.le_of_ble_eq_true rfl⟩, hg gm_414, hg gs_24⟩ (m_preV 3 10 rfl rfl hK hw [1, 2, 3, 4, 5, 6, 7, 8, 9, 10, 11] rfl rfl) rfl rfl hl.1 rfl (lv_room (Nat.le_of_ble_eq_true rfl)) d_P_firstBad_30 ⟨Nat.zero_le _, Nat.zero_le _⟩) (w2 := (fun (u : Int32 × Int32 × (Nat → Int32)) => [(k_P cA ad), (k_G cA ad G_size G_inputs), (k_G_kinds cA ad G_kinds), (k_G_lefts cA ad G_lefts), (k_G_rights cA ad G_rights), (k_F cA ad F_size), (k_F_kinds cA ad F_kinds), (k_F_sizes cA ad F_sizes), (k_F_literals cA ad F_literals), (k_F_leftOut cA ad F_leftOut), (k_U cA ad u.1 u.2.1), (k_U_told cA ad u.2.2)])) (wr := [(k_P cA ad)]) hw hA [1, 2, 3, 4, 5, 6, 7, 8, 9, 10, 11] [0] [0, 1, 2, 3, 4, 5, 6, 7, 8, 9, 10, 11] rfl rfl (by decide) (by decide) (by decide) (fun _ => rfl) (fun r30 u H locs hw h => ?_)
        obtain ⟨U_conflict_30, U_changed_30, U_told_30⟩ := u
        have hw : mW D A s.heap [(k_P cA ad), (k_G cA ad G_size G_inputs), (k_G_kinds cA ad G_kinds), (k_G_lefts cA ad G_lefts), (k_G_rights cA ad G_rights), (k_F cA ad F_size), (k_F_kinds cA ad F_kinds), (k_F_sizes cA ad F_sizes), (k_F_literals cA ad F_literals), (k_F_leftOut cA ad F_leftOut), (k_U cA ad U_conflict_30 U_changed_30), (k_U_told cA ad U_told_30)] H locs := hw
        refine lv_if_ne (tgt := 40) hx hb d_P_firstBad_33 (by decide) (fun hc => ?_) (fun hc => ?_)
        · have h := h.2 hc
          exact j40 _ _ _ _ _ _ _ h hw (lv_sub hl [0, 1, 2] rfl)
        · have h := h.1 hc
          refine lv_iconst (v := 1) hx hb d_P_firstBad_36 (by decide) ?_
          refine lv_iload_n hx hb d_P_firstBad_37 rfl (lv_at hl 2 rfl) ?_
          refine lv_iadd hx hb d_P_firstBad_38 ?_
          exact hE (1 + x3) (U_conflict_30, U_changed_30, U_told_30) _ _ _ _ h hw d_P_firstBad_39
  unfold wp_P_firstBad at h
  have h := h C2 hc2
  refine lv_iload_n hx hb d_P_firstBad_0 rfl (lv_at hl 1 rfl) ?_
  refine lv_istore_n (lv' := [(3, .int p1), (0, .ref (ad 0)), (1, .int p1), (2, .int p2)]) hx hb d_P_firstBad_1 rfl hl (by decide) rfl (fun ls hl => ?_)
  exact (hC2 _ _ _ _).1 h _ _ _ hw (lv_sub hl [1, 3, 0] rfl)
def rm_P_isNoneOrLiteral : Room := { frames := 2, cells := 0, slots := 0, locals := 42 }
set_option maxHeartbeats 4000000 in
set_option maxRecDepth 100000 in
theorem c_P_isNoneOrLiteral (l : Launch) (D : va_G) (cA : Nat → ClassId) (ad : Nat → Nat) (sz : Nat) (G_size : Int32) (G_inputs : Int32) (p1 : Int32) (post : Int32 → Prop) (h : wp_P_isNoneOrLiteral G_size p1 post) : Met l y_P_isNoneOrLiteral w_P_isNoneOrLiteral rm_P_isNoneOrLiteral (mPc D cA [.ref (ad 0), .int p1] [(k_P cA ad), (k_G cA ad G_size G_inputs)] sz) (va_Qi (fun (r : Int32) (_ : Unit) => post r) (mB D (va_A [(k_P cA ad), (k_G cA ad G_size G_inputs)] sz) (fun (_ : Unit) => [(k_P cA ad), (k_G cA ad G_size G_inputs)])) (va_A [(k_P cA ad), (k_G cA ad G_size G_inputs)] sz)) 0 0 (va_A [(k_P cA ad), (k_G cA ad G_size G_inputs)] sz) := by
  refine m_methZ (by decide) rfl (Nat.le_of_ble_eq_true rfl) ?_
  intro p e s m below meth c A Q ls hx hb hml hown hts hK hA hw hl hE
  have hl : lv_has ls 2 [(0, .ref (ad 0)), (1, .int p1)] := hl
  have hown : s.vm.findClass R_P = some m.cls := hown
  have hg : ∀ {w : Cond}, w ∈ gw → w.before _ s = true := fun h => hts _ (List.mem_cons_of_mem _ h)
  unfold wp_P_isNoneOrLiteral at h
  refine lv_iload_n hx hb d_P_isNoneOrLiteral_0 rfl (lv_at hl 1 rfl) ?_
  refine lv_iconst (v := (-1)) hx hb d_P_isNoneOrLiteral_1 (by decide) ?_
  refine lv_icmp_eq (tgt := 16) hx hb d_P_isNoneOrLiteral_2 (by decide) (fun hc => ?_) (fun hc => ?_)
  · have h := h.1 hc
    refine lv_iconst (v := 1) hx hb d_P_isNoneOrLiteral_16 (by decide) ?_
    refine lv_goto (tgt := 21) hx hb d_P_isNoneOrLiteral_17 (by decide) ?_
    exact hE 1 () _ _ _ _ h rfl hw d_P_isNoneOrLiteral_21
  · have h := h.2 hc
    refine lv_aload_n hx hb d_P_isNoneOrLiteral_5 rfl (lv_at hl 0 rfl) ?_
    refine va_get (D := D) (ci := 0) (v := .ref (ad 1)) (C := R_P) (T := T_P) (N := 4) hx hb hts (fun w h => List.mem_cons_of_mem _ (iw_P w h)) hown hK.1 hw.1 0 rfl rfl 0 (by decide) (hg gm_141) (fun _ h9 => h9) rfl d_P_isNoneOrLiteral_6 ?_
    refine lv_iload_n hx hb d_P_isNoneOrLiteral_9 rfl (lv_at hl 1 rfl) ?_
    refine m_calli (hr := va_runVN (As := [.int p1]) (rest := []) ⟨hx, hb, hml, hown, hts⟩ (c_G_hasLiteral l D cA ad _ G_size G_inputs p1 _ h) ⟨va_cnB 1 hts (gin gm_261) rfl rfl rfl (hK.2 _ nw_258) (hg gm_2) (by decide +kernel) ⟨Nat.le_of_ble_eq_true rfl, Nat.le_of_ble_eq_true rfl⟩, hg gm_260, hg gs_19⟩ (m_preV 1 1 rfl rfl hK hw [1] rfl rfl) rfl rfl hl.1 rfl (lv_room (Nat.le_of_ble_eq_true rfl)) d_P_isNoneOrLiteral_10 ⟨Nat.zero_le _, Nat.zero_le _⟩) (w2 := (fun (_ : Unit) => [(k_P cA ad), (k_G cA ad G_size G_inputs)])) (wr := [(k_P cA ad)]) hw hA [1] [0] [0, 1] rfl rfl (by decide) (by decide) (by decide) (fun _ => rfl) (fun r10 u H locs hw h => ?_)
    refine lv_if_eq (tgt := 20) hx hb d_P_isNoneOrLiteral_13 (by decide) (fun hc => ?_) (fun hc => ?_)
    · have h := h.1 hc
      refine lv_iconst (v := 0) hx hb d_P_isNoneOrLiteral_20 (by decide) ?_
      exact hE 0 () _ _ _ _ h rfl hw d_P_isNoneOrLiteral_21
    · have h := h.2 hc
      refine lv_iconst (v := 1) hx hb d_P_isNoneOrLiteral_16 (by decide) ?_
      refine lv_goto (tgt := 21) hx hb d_P_isNoneOrLiteral_17 (by decide) ?_
      exact hE 1 () _ _ _ _ h rfl hw d_P_isNoneOrLiteral_21
def rm_P_assumeUnlessNone : Room := { frames := 1, cells := 0, slots := 0, locals := 24 }
set_option maxHeartbeats 4000000 in
set_option maxRecDepth 100000 in
theorem c_P_assumeUnlessNone (l : Launch) (D : va_G) (cA : Nat → ClassId) (ad : Nat → Nat) (sz : Nat) (U_conflict : Int32) (U_changed : Int32) (U_told : (Nat → Int32)) (p1 : Int32) (post : Int32 → Int32 → (Nat → Int32) → Prop) (h : wp_P_assumeUnlessNone U_conflict U_changed U_told p1 post) : Met l y_P_assumeUnlessNone w_P_assumeUnlessNone rm_P_assumeUnlessNone (mPc D cA [.ref (ad 0), .int p1] [(k_P cA ad), (k_U cA ad U_conflict U_changed), (k_U_told cA ad U_told)] sz) (va_Qv (fun (u : Int32 × Int32 × (Nat → Int32)) => post u.1 u.2.1 u.2.2) (mB D (va_A [(k_P cA ad), (k_U cA ad U_conflict U_changed), (k_U_told cA ad U_told)] sz) (fun (u : Int32 × Int32 × (Nat → Int32)) => [(k_P cA ad), (k_U cA ad u.1 u.2.1), (k_U_told cA ad u.2.2)])) (va_A [(k_P cA ad), (k_U cA ad U_conflict U_changed), (k_U_told cA ad U_told)] sz)) 0 0 (va_A [(k_P cA ad), (k_U cA ad U_conflict U_changed), (k_U_told cA ad U_told)] sz) := by
  refine m_methV (by decide) rfl (Nat.le_of_ble_eq_true rfl) ?_
  intro p e s m below meth c A Q ls hx hb hml hown hts hK hA hw hl hE
  have hl : lv_has ls 2 [(0, .ref (ad 0)), (1, .int p1)] := hl
  have hown : s.vm.findClass R_P = some m.cls := hown
  have hg : ∀ {w : Cond}, w ∈ gw → w.before _ s = true := fun h => hts _ (List.mem_cons_of_mem _ h)
  unfold wp_P_assumeUnlessNone at h
  refine lv_iload_n hx hb d_P_assumeUnlessNone_0 rfl (lv_at hl 1 rfl) ?_
  refine lv_iconst (v := (-1)) hx hb d_P_assumeUnlessNone_1 (by decide) ?_
  refine lv_icmp_eq (tgt := 14) hx hb d_P_assumeUnlessNone_2 (by decide) (fun hc => ?_) (fun hc => ?_)
  · have h := h.1 hc
    exact hE (U_conflict, U_changed, U_told) _ _ _ _ h hw d_P_assumeUnlessNone_14
  · have h := h.2 hc
    refine lv_aload_n hx hb d_P_assumeUnlessNone_5 rfl (lv_at hl 0 rfl) ?_
    refine va_get (D := D) (ci := 0) (v := .ref (ad 11)) (C := R_P) (T := T_P) (N := 4) hx hb hts (fun w h => List.mem_cons_of_mem _ (iw_P w h)) hown hK.1 hw.1 0 rfl rfl 2 (by decide) (hg gm_143) (fun _ h9 => h9) rfl d_P_assumeUnlessNone_6 ?_
    refine lv_iload_n hx hb d_P_assumeUnlessNone_9 rfl (lv_at hl 1 rfl) ?_
    refine lv_iconst (v := 1) hx hb d_P_assumeUnlessNone_10 (by decide) ?_
    refine m_callv (hr := va_runVN (As := [.int p1, .int 1]) (rest := []) ⟨hx, hb, hml, hown, hts⟩ (c_U_tell l D cA ad _ U_conflict U_changed U_told p1 1 _ h) ⟨va_cnB 2 hts (gin gm_431) rfl rfl rfl (hK.2 _ nw_495) (hg gm_4) (by decide +kernel) ⟨Nat.le_of_ble_eq_true rfl, Nat.le_of_ble_eq_true rfl⟩, hg gm_430, hg gs_27⟩ (m_preV 3 1 rfl rfl hK hw [1, 2] rfl rfl) rfl rfl hl.1 rfl (lv_room (Nat.le_of_ble_eq_true rfl)) d_P_assumeUnlessNone_11 ⟨Nat.zero_le _, Nat.zero_le _⟩) (w2 := (fun (u : Int32 × Int32 × (Nat → Int32)) => [(k_P cA ad), (k_U cA ad u.1 u.2.1), (k_U_told cA ad u.2.2)])) (wr := [(k_P cA ad)]) hw hA [1, 2] [0] [0, 1, 2] rfl rfl (by decide) (by decide) (by decide) (fun _ => rfl) (fun u H locs hw h => ?_)
    obtain ⟨U_conflict_11, U_changed_11, U_told_11⟩ := u
    have hw : mW D A s.heap [(k_P cA ad), (k_U cA ad U_conflict_11 U_changed_11), (k_U_told cA ad U_told_11)] H locs := hw
    exact hE (U_conflict_11, U_changed_11, U_told_11) _ _ _ _ h hw d_P_assumeUnlessNone_14
def rm_P_unit : Room := { frames := 1, cells := 0, slots := 0, locals := 21 }
set_option maxHeartbeats 4000000 in
set_option maxRecDepth 100000 in
theorem c_P_unit (l : Launch) (D : va_G) (cA : Nat → ClassId) (ad : Nat → Nat) (sz : Nat) (T_size : Int32) (T_place : Int32) (T_fault : Int32) (T_bytes : (Nat → Int32)) (p1 : Int32) (post : Int32 → Int32 → (Nat → Int32) → Prop) (h : wp_P_unit T_size T_bytes p1 post) : Met l y_P_unit w_P_unit rm_P_unit (mPc D cA [.ref (ad 0), .int p1] [(k_P cA ad), (k_T cA ad T_size T_place T_fault), (k_T_bytes cA ad T_bytes)] sz) (va_Qi (fun (r : Int32) (u : Int32 × (Nat → Int32)) => post r u.1 u.2) (mB D (va_A [(k_P cA ad), (k_T cA ad T_size T_place T_fault), (k_T_bytes cA ad T_bytes)] sz) (fun (u : Int32 × (Nat → Int32)) => [(k_P cA ad), (k_T cA ad u.1 T_place T_fault), (k_T_bytes cA ad u.2)])) (va_A [(k_P cA ad), (k_T cA ad T_size T_place T_fault), (k_T_bytes cA ad T_bytes)] sz)) 0 0 (va_A [(k_P cA ad), (k_T cA ad T_size T_place T_fault), (k_T_bytes cA ad T_bytes)] sz) := by
  refine m_methZ (by decide) rfl (Nat.le_of_ble_eq_true rfl) ?_
  intro p e s m below meth c A Q ls hx hb hml hown hts hK hA hw hl hE
  have hl : lv_has ls 2 [(0, .ref (ad 0)), (1, .int p1)] := hl
  have hown : s.vm.findClass R_P = some m.cls := hown
  have hg : ∀ {w : Cond}, w ∈ gw → w.before _ s = true := fun h => hts _ (List.mem_cons_of_mem _ h)
  unfold wp_P_unit at h
  refine lv_aload_n hx hb d_P_unit_0 rfl (lv_at hl 0 rfl) ?_
  refine va_get (D := D) (ci := 0) (v := .ref (ad 13)) (C := R_P) (T := T_P) (N := 4) hx hb hts (fun w h => List.mem_cons_of_mem _ (iw_P w h)) hown hK.1 hw.1 0 rfl rfl 3 (by decide) (hg gm_144) (fun _ h9 => h9) rfl d_P_unit_1 ?_
  refine lv_iload_n hx hb d_P_unit_4 rfl (lv_at hl 1 rfl) ?_
  refine m_calli (hr := va_runVN (As := [.int p1]) (rest := []) ⟨hx, hb, hml, hown, hts⟩ (c_T_append l D cA ad _ T_size T_place T_fault T_bytes p1 _ h) ⟨va_cnB 1 hts (gin gm_161) rfl rfl rfl (hK.2 _ nw_158) (hg gm_5) (by decide +kernel) ⟨Nat.le_of_ble_eq_true rfl, Nat.le_of_ble_eq_true rfl⟩, hg gm_160, hg gs_0⟩ (m_preV 4 1 rfl rfl hK hw [1, 2] rfl rfl) rfl rfl hl.1 rfl (lv_room (Nat.le_of_ble_eq_true rfl)) d_P_unit_5 ⟨Nat.zero_le _, Nat.zero_le _⟩) (w2 := (fun (u : Int32 × (Nat → Int32)) => [(k_P cA ad), (k_T cA ad u.1 T_place T_fault), (k_T_bytes cA ad u.2)])) (wr := [(k_P cA ad)]) hw hA [1, 2] [0] [0, 1, 2] rfl rfl (by decide) (by decide) (by decide) (fun _ => rfl) (fun r5 u H locs hw h => ?_)
  obtain ⟨T_size_5, T_bytes_5⟩ := u
  have hw : mW D A s.heap [(k_P cA ad), (k_T cA ad T_size_5 T_place T_fault), (k_T_bytes cA ad T_bytes_5)] H locs := hw
  exact hE r5 (T_size_5, T_bytes_5) _ _ _ _ h.2 (isB_nar h.1) hw d_P_unit_8
def rm_P_read : Room := { frames := 6, cells := 0, slots := 0, locals := 130 }
set_option maxHeartbeats 4000000 in
set_option maxRecDepth 100000 in
theorem c_P_read (l : Launch) (D : va_G) (cA : Nat → ClassId) (ad : Nat → Nat) (sz : Nat) (G_size : Int32) (G_inputs : Int32) (F_size : Int32) (F_kinds : (Nat → Int32)) (F_sizes : (Nat → Int32)) (F_literals : (Nat → Int32)) (T_size : Int32) (T_place : Int32) (T_fault : Int32) (T_bytes : (Nat → Int32)) (post : Int32 → Int32 → (Nat → Int32) → (Nat → Int32) → (Nat → Int32) → Int32 → Int32 → Int32 → Prop) (h : wp_P_read G_size F_size F_kinds F_sizes F_literals T_size T_place T_fault T_bytes post) : Met l y_P_read w_P_read rm_P_read (mPc D cA [.ref (ad 0)] [(k_P cA ad), (k_G cA ad G_size G_inputs), (k_F cA ad F_size), (k_F_kinds cA ad F_kinds), (k_F_sizes cA ad F_sizes), (k_F_literals cA ad F_literals), (k_T cA ad T_size T_place T_fault), (k_T_bytes cA ad T_bytes)] sz) (va_Qi (fun (r : Int32) (u : Int32 × (Nat → Int32) × (Nat → Int32) × (Nat → Int32) × Int32 × Int32 × Int32) => post r u.1 u.2.1 u.2.2.1 u.2.2.2.1 u.2.2.2.2.1 u.2.2.2.2.2.1 u.2.2.2.2.2.2) (mB D (va_A [(k_P cA ad), (k_G cA ad G_size G_inputs), (k_F cA ad F_size), (k_F_kinds cA ad F_kinds), (k_F_sizes cA ad F_sizes), (k_F_literals cA ad F_literals), (k_T cA ad T_size T_place T_fault), (k_T_bytes cA ad T_bytes)] sz) (fun (u : Int32 × (Nat → Int32) × (Nat → Int32) × (Nat → Int32) × Int32 × Int32 × Int32) => [(k_P cA ad), (k_G cA ad G_size G_inputs), (k_F cA ad u.1), (k_F_kinds cA ad u.2.1), (k_F_sizes cA ad u.2.2.1), (k_F_literals cA ad u.2.2.2.1), (k_T cA ad u.2.2.2.2.1 u.2.2.2.2.2.1 u.2.2.2.2.2.2), (k_T_bytes cA ad T_bytes)])) (va_A [(k_P cA ad), (k_G cA ad G_size G_inputs), (k_F cA ad F_size), (k_F_kinds cA ad F_kinds), (k_F_sizes cA ad F_sizes), (k_F_literals cA ad F_literals), (k_T cA ad T_size T_place T_fault), (k_T_bytes cA ad T_bytes)] sz)) 0 0 (va_A [(k_P cA ad), (k_G cA ad G_size G_inputs), (k_F cA ad F_size), (k_F_kinds cA ad F_kinds), (k_F_sizes cA ad F_sizes), (k_F_literals cA ad F_literals), (k_T cA ad T_size T_place T_fault), (k_T_bytes cA ad T_bytes)] sz) := by
  refine m_methI (by decide) rfl (Nat.le_of_ble_eq_true rfl) ?_
  intro p e s m below meth c A Q ls hx hb hml hown hts hK hA hw hl hE
  have hl : lv_has ls 3 [(0, .ref (ad 0))] := hl
  have hown : s.vm.findClass R_P = some m.cls := hown
  have hg : ∀ {w : Cond}, w ∈ gw → w.before _ s = true := fun h => hts _ (List.mem_cons_of_mem _ h)
  unfold wp_P_read at h
  refine lv_aload_n hx hb d_P_read_0 rfl (lv_at hl 0 rfl) ?_
  refine va_get (D := D) (ci := 0) (v := .ref (ad 6)) (C := R_P) (T := T_P) (N := 4) hx hb hts (fun w h => List.mem_cons_of_mem _ (iw_P w h)) hown hK.1 hw.1 0 rfl rfl 1 (by decide) (hg gm_142) (fun _ h9 => h9) rfl d_P_read_1 ?_
  refine va_getN (D := D) (ci := 2) (v := .int F_size) (C := R_F) (T := T_F) (N := 5) hx hb hts (fun w h => List.mem_cons_of_mem _ (iw_F w h)) hown hK.1 hw.1 2 rfl rfl 4 (by decide) (va_Nw.use rfl (hK.2 _ nw_80)) (fun _ h9 => h9) rfl d_P_read_4 ?_
  refine lv_istore_n (lv' := [(1, .int F_size), (0, .ref (ad 0))]) hx hb d_P_read_7 rfl hl (by decide) rfl (fun ls hl => ?_)
  refine lv_aload_n hx hb d_P_read_8 rfl (lv_at hl 1 rfl) ?_
  refine va_get (D := D) (ci := 0) (v := .ref (ad 13)) (C := R_P) (T := T_P) (N := 4) hx hb hts (fun w h => List.mem_cons_of_mem _ (iw_P w h)) hown hK.1 hw.1 0 rfl rfl 3 (by decide) (hg gm_144) (fun _ h9 => h9) rfl d_P_read_9 ?_
  refine m_calli (hr := va_runVN (As := []) (rest := []) ⟨hx, hb, hml, hown, hts⟩ (c_T_readAll l D cA ad _ G_size G_inputs F_size F_kinds F_sizes F_literals T_size T_place T_fault T_bytes _ h) ⟨va_cnB 0 hts (gin gm_169) rfl rfl rfl (hK.2 _ nw_166) (hg gm_5) (by decide +kernel) ⟨Nat.le_of_ble_eq_true rfl, Nat.le_of_ble_eq_true rfl⟩, hg gm_168, hg gs_1⟩ (m_preV 4 6 rfl rfl hK hw [1, 2, 3, 4, 5, 6, 7] rfl rfl) rfl rfl hl.1 rfl (lv_room (Nat.le_of_ble_eq_true rfl)) d_P_read_12 ⟨Nat.zero_le _, Nat.zero_le _⟩) (w2 := (fun (u : Int32 × (Nat → Int32) × (Nat → Int32) × (Nat → Int32) × Int32 × Int32 × Int32) => [(k_P cA ad), (k_G cA ad G_size G_inputs), (k_F cA ad u.1), (k_F_kinds cA ad u.2.1), (k_F_sizes cA ad u.2.2.1), (k_F_literals cA ad u.2.2.2.1), (k_T cA ad u.2.2.2.2.1 u.2.2.2.2.2.1 u.2.2.2.2.2.2), (k_T_bytes cA ad T_bytes)])) (wr := [(k_P cA ad)]) hw hA [1, 2, 3, 4, 5, 6, 7] [0] [0, 1, 2, 3, 4, 5, 6, 7] rfl rfl (by decide) (by decide) (by decide) (fun _ => rfl) (fun r12 u H locs hw h => ?_)
  obtain ⟨F_size_12, F_kinds_12, F_sizes_12, F_literals_12, T_size_12, T_place_12, T_fault_12⟩ := u
  have hw : mW D A s.heap [(k_P cA ad), (k_G cA ad G_size G_inputs), (k_F cA ad F_size_12), (k_F_kinds cA ad F_kinds_12), (k_F_sizes cA ad F_sizes_12), (k_F_literals cA ad F_literals_12), (k_T cA ad T_size_12 T_place_12 T_fault_12), (k_T_bytes cA ad T_bytes)] H locs := hw
  refine lv_istore_n (lv' := [(2, .int r12), (1, .int F_size), (0, .ref (ad 0))]) hx hb d_P_read_15 rfl hl (by decide) rfl (fun ls hl => ?_)
  refine lv_iload_n hx hb d_P_read_16 rfl (lv_at hl 0 rfl) ?_
  refine lv_iconst (v := (-1)) hx hb d_P_read_17 (by decide) ?_
  refine lv_icmp_ne (tgt := 29) hx hb d_P_read_18 (by decide) (fun hc => ?_) (fun hc => ?_)
  · have h := h.2 hc
    refine lv_aload_n hx hb d_P_read_29 rfl (lv_at hl 2 rfl) ?_
    refine va_get (D := D) (ci := 0) (v := .ref (ad 6)) (C := R_P) (T := T_P) (N := 4) hx hb hts (fun w h => List.mem_cons_of_mem _ (iw_P w h)) hown hK.1 hw.1 0 rfl rfl 1 (by decide) (hg gm_142) (fun _ h9 => h9) rfl d_P_read_30 ?_
    refine lv_iload_n hx hb d_P_read_33 rfl (lv_at hl 1 rfl) ?_
    refine m_putN (ws' := [(k_P cA ad), (k_G cA ad G_size G_inputs), (k_F cA ad F_size), (k_F_kinds cA ad F_kinds_12), (k_F_sizes cA ad F_sizes_12), (k_F_literals cA ad F_literals_12), (k_T cA ad T_size_12 T_place_12 T_fault_12), (k_T_bytes cA ad T_bytes)]) (ci := 2) (v := .int F_size) (ty := .int) (C := R_F) (T := T_F) (N := 5) hx hb hts (fun w h => List.mem_cons_of_mem _ (iw_F w h)) ty_F tyok_F nm_F hown hK.1 hw 2 rfl rfl 4 (by decide) (va_Nw.use rfl (hK.2 _ nw_80)) (fun _ h9 => h9) rfl (by decide +kernel) rfl rfl (Nat.le_of_ble_eq_true rfl) rfl d_P_read_34 (fun H locs hw => ?_)
    refine lv_iconst (v := (-1)) hx hb d_P_read_37 (by decide) ?_
    refine lv_iload_n hx hb d_P_read_38 rfl (lv_at hl 0 rfl) ?_
    refine lv_isub hx hb d_P_read_39 ?_
    exact hE ((-1) - r12) (F_size, F_kinds_12, F_sizes_12, F_literals_12, T_size_12, T_place_12, T_fault_12) _ _ _ _ h hw d_P_read_40
  · have h := h.1 hc
    refine lv_aload_n hx hb d_P_read_21 rfl (lv_at hl 2 rfl) ?_
    refine va_get (D := D) (ci := 0) (v := .ref (ad 6)) (C := R_P) (T := T_P) (N := 4) hx hb hts (fun w h => List.mem_cons_of_mem _ (iw_P w h)) hown hK.1 hw.1 0 rfl rfl 1 (by decide) (hg gm_142) (fun _ h9 => h9) rfl d_P_read_22 ?_
    refine va_getN (D := D) (ci := 2) (v := .int F_size_12) (C := R_F) (T := T_F) (N := 5) hx hb hts (fun w h => List.mem_cons_of_mem _ (iw_F w h)) hown hK.1 hw.1 2 rfl rfl 4 (by decide) (va_Nw.use rfl (hK.2 _ nw_80)) (fun _ h9 => h9) rfl d_P_read_25 ?_
    exact hE F_size_12 (F_size_12, F_kinds_12, F_sizes_12, F_literals_12, T_size_12, T_place_12, T_fault_12) _ _ _ _ h hw d_P_read_28
def rm_P_clear : Room := { frames := 0, cells := 0, slots := 0, locals := 0 }
set_option maxHeartbeats 4000000 in
set_option maxRecDepth 100000 in
theorem c_P_clear (l : Launch) (D : va_G) (cA : Nat → ClassId) (ad : Nat → Nat) (sz : Nat) (F_size : Int32) (post : Int32 → Prop) (h : wp_P_clear F_size post) : Met l y_P_clear w_P_clear rm_P_clear (mPc D cA [.ref (ad 0)] [(k_P cA ad), (k_F cA ad F_size)] sz) (va_Qv (fun (u : Int32) => post u) (mB D (va_A [(k_P cA ad), (k_F cA ad F_size)] sz) (fun (u : Int32) => [(k_P cA ad), (k_F cA ad u)])) (va_A [(k_P cA ad), (k_F cA ad F_size)] sz)) 0 0 (va_A [(k_P cA ad), (k_F cA ad F_size)] sz) := by
  refine m_methV (by decide) rfl (Nat.le_of_ble_eq_true rfl) ?_
  intro p e s m below meth c A Q ls hx hb hml hown hts hK hA hw hl hE
  have hl : lv_has ls 1 [(0, .ref (ad 0))] := hl
  have hown : s.vm.findClass R_P = some m.cls := hown
  have hg : ∀ {w : Cond}, w ∈ gw → w.before _ s = true := fun h => hts _ (List.mem_cons_of_mem _ h)
  unfold wp_P_clear at h
  refine lv_aload_n hx hb d_P_clear_0 rfl (lv_at hl 0 rfl) ?_
  refine va_get (D := D) (ci := 0) (v := .ref (ad 6)) (C := R_P) (T := T_P) (N := 4) hx hb hts (fun w h => List.mem_cons_of_mem _ (iw_P w h)) hown hK.1 hw.1 0 rfl rfl 1 (by decide) (hg gm_142) (fun _ h9 => h9) rfl d_P_clear_1 ?_
  refine lv_iconst (v := 0) hx hb d_P_clear_4 (by decide) ?_
  refine m_putN (ws' := [(k_P cA ad), (k_F cA ad 0)]) (ci := 2) (v := .int 0) (ty := .int) (C := R_F) (T := T_F) (N := 5) hx hb hts (fun w h => List.mem_cons_of_mem _ (iw_F w h)) ty_F tyok_F nm_F hown hK.1 hw 1 rfl rfl 4 (by decide) (va_Nw.use rfl (hK.2 _ nw_80)) (fun _ h9 => h9) rfl (by decide +kernel) rfl rfl (Nat.le_of_ble_eq_true rfl) rfl d_P_clear_5 (fun H locs hw => ?_)
  exact hE (0) _ _ _ _ h hw d_P_clear_8
