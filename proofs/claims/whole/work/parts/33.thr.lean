def rx_P_gate : Room := { frames := 6, cells := 1, slots := 6, locals := 82 }
set_option maxHeartbeats 4000000 in
set_option maxRecDepth 100000 in
theorem t_P_gate (l : Launch) (hl9 : l.stackTraces = false) (D : va_G) (cA : Nat → ClassId) (ad : Nat → Nat) (s0 : State) (hs0 : tS s0) (sz : Nat) (G_size : Int32) (G_inputs : Int32) (G_kinds : (Nat → Int32)) (G_lefts : (Nat → Int32)) (G_rights : (Nat → Int32)) (p1 : Int32) (p2 : Int32) (p3 : Int32) (px : Nat → Prop) (h : wp_P_gate G_size G_inputs G_kinds G_lefts G_rights p1 p2 p3 (fun _ _ _ _ _ _ => False) (fun k _ _ _ _ _ => px k)) : xMet l y_P_gate w_P_gate rx_P_gate (mPcO D cA s0 [.ref (ad 0), .int p1, .int p2, .int p3] [(k_P cA ad), (k_G cA ad G_size G_inputs), (k_G_kinds cA ad G_kinds), (k_G_lefts cA ad G_lefts), (k_G_rights cA ad G_rights)] sz) px := by
  refine x_meth hl9 hs0 (by decide) rfl (Nat.le_of_ble_eq_true rfl) ⟨Nat.le_of_ble_eq_true rfl, Nat.le_of_ble_eq_true rfl, Nat.le_of_ble_eq_true rfl, Nat.le_of_ble_eq_true rfl⟩ ?_
  intro p e s m below meth c A Q ls hx hb hml hown hts hK hA hw hl hT
  have hl : lv_has ls 4 [(0, .ref (ad 0)), (1, .int p1), (2, .int p2), (3, .int p3)] := hl
  have hown : s.vm.findClass R_P = some m.cls := hown
  have hg : ∀ {w : Cond}, w ∈ gw → w.before _ s = true := fun h => hts _ (List.mem_cons_of_mem _ h)
  have j60 : ∀ (ls : Array Slot), s_P_gate_60 p1 p2 p3 (fun _ _ _ _ _ _ => False) (fun k _ _ _ _ _ => px k) G_size G_inputs G_kinds G_lefts G_rights → lv_has ls 4 [(0, .ref (ad 0)), (1, .int p1), (2, .int p2), (3, .int p3)] → W p l e rx_P_gate s m [.ref (ad 0), .int p1, .int p2, .int p3].toArray below meth c s.heap [] 0 0 Q (F0 m 60 ls []) := by
    intro ls h hl
    unfold s_P_gate_60 at h
    refine lv_aload_n hx hb d_P_gate_60 rfl (lv_at hl 0 rfl) ?_
    refine va_get (D := D) (ci := 0) (v := .ref (ad 1)) (C := R_P) (T := T_P) (N := 4) hx hb hts (fun w h => List.mem_cons_of_mem _ (iw_P w h)) hown hK.1 hw.1 0 rfl rfl 0 (by decide) (hg gm_141) (fun _ h9 => h9) rfl d_P_gate_61 ?_
    refine va_getN (D := D) (ci := 1) (v := .int G_size) (C := R_G) (T := T_G) (N := 6) hx hb hts (fun w h => List.mem_cons_of_mem _ (iw_G w h)) hown hK.1 hw.1 1 rfl rfl 4 (by decide) (va_Nw.use rfl (hK.2 _ nw_39)) (fun _ h9 => h9) rfl d_P_gate_64 ?_
    refine lv_bipush (v := 40) hx hb d_P_gate_67 (by decide) ?_
    refine lv_icmp_lt (tgt := 82) hx hb d_P_gate_69 (by decide) (fun hc => ?_) (fun hc => ?_)
    · have h := h.1 hc
      refine lv_aload_n hx hb d_P_gate_82 rfl (lv_at hl 0 rfl) ?_
      refine va_get (D := D) (ci := 0) (v := .ref (ad 1)) (C := R_P) (T := T_P) (N := 4) hx hb hts (fun w h => List.mem_cons_of_mem _ (iw_P w h)) hown hK.1 hw.1 0 rfl rfl 0 (by decide) (hg gm_141) (fun _ h9 => h9) rfl d_P_gate_83 ?_
      refine lv_iload_n hx hb d_P_gate_86 rfl (lv_at hl 1 rfl) ?_
      refine lv_iload_n hx hb d_P_gate_87 rfl (lv_at hl 2 rfl) ?_
      refine lv_iload_n hx hb d_P_gate_88 rfl (lv_at hl 3 rfl) ?_
      refine m_calli (hr := va_runVN (As := [.int p1, .int p2, .int p3]) (rest := []) ⟨hx, hb, hml, hown, hts⟩ (c_G_add l D cA ad _ G_size G_inputs G_kinds G_lefts G_rights p1 p2 p3 _ h) ⟨va_cnB 3 hts (gin gm_366) rfl rfl rfl (hK.2 _ nw_363) (hg gm_2) (by decide +kernel) ⟨Nat.le_of_ble_eq_true rfl, Nat.le_of_ble_eq_true rfl⟩, hg gm_365, hg gs_21⟩ (m_preV 1 1 rfl rfl hK hw [1, 2, 3, 4] rfl rfl) rfl rfl hl.1 rfl (lv_room (Nat.le_of_ble_eq_true rfl)) d_P_gate_89 ⟨Nat.zero_le _, Nat.zero_le _⟩) (w2 := (fun (u : Int32 × Int32 × (Nat → Int32) × (Nat → Int32) × (Nat → Int32)) => [(k_P cA ad), (k_G cA ad u.1 u.2.1), (k_G_kinds cA ad u.2.2.1), (k_G_lefts cA ad u.2.2.2.1), (k_G_rights cA ad u.2.2.2.2)])) (wr := [(k_P cA ad)]) hw hA [1, 2, 3, 4] [0] [0, 1, 2, 3, 4] rfl rfl (by decide) (by decide) (by decide) (fun _ => rfl) (fun r89 u H locs hw h => ?_)
      obtain ⟨G_size_89, G_inputs_89, G_kinds_89, G_lefts_89, G_rights_89⟩ := u
      have hw : mW D A s.heap [(k_P cA ad), (k_G cA ad G_size_89 G_inputs_89), (k_G_kinds cA ad G_kinds_89), (k_G_lefts cA ad G_lefts_89), (k_G_rights cA ad G_rights_89)] H locs := hw
      exact False.elim h
    · have h := h.2 hc
      exact hT 2 _ _ 59 61 63 "no more gates" h hl.1 ⟨(hg gm_347), (hg gm_12), by decide +kernel, site_2 hg hK.2, d_P_gate_72, d_P_gate_75, d_P_gate_76, d_P_gate_78, d_P_gate_81, by decide +kernel⟩
  have j36 : ∀ (ls : Array Slot), s_P_gate_36 p1 p2 p3 (fun _ _ _ _ _ _ => False) (fun k _ _ _ _ _ => px k) G_size G_inputs G_kinds G_lefts G_rights → lv_has ls 4 [(0, .ref (ad 0)), (1, .int p1), (2, .int p2), (3, .int p3)] → W p l e rx_P_gate s m [.ref (ad 0), .int p1, .int p2, .int p3].toArray below meth c s.heap [] 0 0 Q (F0 m 36 ls []) := by
    intro ls h hl
    unfold s_P_gate_36 at h
    refine lv_iload_n hx hb d_P_gate_36 rfl (lv_at hl 1 rfl) ?_
    refine lv_if_eq (tgt := 60) hx hb d_P_gate_37 (by decide) (fun hc => ?_) (fun hc => ?_)
    · have h := h.1 hc
      exact j60 _ h (lv_sub hl [0, 1, 2, 3] rfl)
    · have h := h.2 hc
      refine lv_iload_n hx hb d_P_gate_40 rfl (lv_at hl 1 rfl) ?_
      refine lv_iconst (v := 1) hx hb d_P_gate_41 (by decide) ?_
      refine lv_icmp_eq (tgt := 60) hx hb d_P_gate_42 (by decide) (fun hc => ?_) (fun hc => ?_)
      · have h := h.1 hc
        exact j60 _ h (lv_sub hl [0, 1, 2, 3] rfl)
      · have h := h.2 hc
        refine lv_iload_n hx hb d_P_gate_45 rfl (lv_at hl 1 rfl) ?_
        refine lv_iconst (v := 2) hx hb d_P_gate_46 (by decide) ?_
        refine lv_icmp_eq (tgt := 60) hx hb d_P_gate_47 (by decide) (fun hc => ?_) (fun hc => ?_)
        · have h := h.1 hc
          exact j60 _ h (lv_sub hl [0, 1, 2, 3] rfl)
        · have h := h.2 hc
          exact hT 1 _ _ 50 52 54 "no such kind of gate" h hl.1 ⟨(hg gm_331), (hg gm_11), by decide +kernel, site_1 hg hK.2, d_P_gate_50, d_P_gate_53, d_P_gate_54, d_P_gate_56, d_P_gate_59, by decide +kernel⟩
  unfold wp_P_gate at h
  refine lv_iload_n hx hb d_P_gate_0 rfl (lv_at hl 1 rfl) ?_
  refine lv_if_eq (tgt := 36) hx hb d_P_gate_1 (by decide) (fun hc => ?_) (fun hc => ?_)
  · have h := h.1 hc
    exact j36 _ h (lv_sub hl [0, 1, 2, 3] rfl)
  · have h := h.2 hc
    refine lv_aload_n hx hb d_P_gate_4 rfl (lv_at hl 0 rfl) ?_
    refine va_get (D := D) (ci := 0) (v := .ref (ad 1)) (C := R_P) (T := T_P) (N := 4) hx hb hts (fun w h => List.mem_cons_of_mem _ (iw_P w h)) hown hK.1 hw.1 0 rfl rfl 0 (by decide) (hg gm_141) (fun _ h9 => h9) rfl d_P_gate_5 ?_
    refine lv_iload_n hx hb d_P_gate_8 rfl (lv_at hl 2 rfl) ?_
    refine m_callr (hr := va_runVN (As := [.int p2]) (rest := []) ⟨hx, hb, hml, hown, hts⟩ (r_G_hasLiteral l D cA ad _ G_size G_inputs p2 _ h) ⟨va_cnB 1 hts (gin gm_261) rfl rfl rfl (hK.2 _ nw_258) (hg gm_2) (by decide +kernel) ⟨Nat.le_of_ble_eq_true rfl, Nat.le_of_ble_eq_true rfl⟩, hg gm_260, hg gs_19⟩ (m_preV 1 1 rfl rfl hK hw [1] rfl rfl) rfl rfl hl.1 rfl (lv_room (Nat.le_of_ble_eq_true rfl)) d_P_gate_9 ⟨Nat.zero_le _, Nat.zero_le _⟩) (fun r9 h => ?_)
    refine lv_if_eq (tgt := 26) hx hb d_P_gate_12 (by decide) (fun hc => ?_) (fun hc => ?_)
    · have h := h.1 hc
      exact hT 0 _ _ 43 45 47 "no such literal" h hl.1 ⟨(hg gm_263), (hg gm_10), by decide +kernel, site_0 hg hK.2, d_P_gate_26, d_P_gate_29, d_P_gate_30, d_P_gate_32, d_P_gate_35, by decide +kernel⟩
    · have h := h.2 hc
      refine lv_aload_n hx hb d_P_gate_15 rfl (lv_at hl 0 rfl) ?_
      refine va_get (D := D) (ci := 0) (v := .ref (ad 1)) (C := R_P) (T := T_P) (N := 4) hx hb hts (fun w h => List.mem_cons_of_mem _ (iw_P w h)) hown hK.1 hw.1 0 rfl rfl 0 (by decide) (hg gm_141) (fun _ h9 => h9) rfl d_P_gate_16 ?_
      refine lv_iload_n hx hb d_P_gate_19 rfl (lv_at hl 3 rfl) ?_
      refine m_callr (hr := va_runVN (As := [.int p3]) (rest := []) ⟨hx, hb, hml, hown, hts⟩ (r_G_hasLiteral l D cA ad _ G_size G_inputs p3 _ h) ⟨va_cnB 1 hts (gin gm_261) rfl rfl rfl (hK.2 _ nw_258) (hg gm_2) (by decide +kernel) ⟨Nat.le_of_ble_eq_true rfl, Nat.le_of_ble_eq_true rfl⟩, hg gm_260, hg gs_19⟩ (m_preV 1 1 rfl rfl hK hw [1] rfl rfl) rfl rfl hl.1 rfl (lv_room (Nat.le_of_ble_eq_true rfl)) d_P_gate_20 ⟨Nat.zero_le _, Nat.zero_le _⟩) (fun r20 h => ?_)
      refine lv_if_ne (tgt := 36) hx hb d_P_gate_23 (by decide) (fun hc => ?_) (fun hc => ?_)
      · have h := h.2 hc
        exact j36 _ h (lv_sub hl [0, 1, 2, 3] rfl)
      · have h := h.1 hc
        exact hT 0 _ _ 43 45 47 "no such literal" h hl.1 ⟨(hg gm_263), (hg gm_10), by decide +kernel, site_0 hg hK.2, d_P_gate_26, d_P_gate_29, d_P_gate_30, d_P_gate_32, d_P_gate_35, by decide +kernel⟩
def rx_P_line : Room := { frames := 6, cells := 1, slots := 6, locals := 82 }
set_option maxHeartbeats 4000000 in
set_option maxRecDepth 100000 in
theorem t_P_line (l : Launch) (hl9 : l.stackTraces = false) (D : va_G) (cA : Nat → ClassId) (ad : Nat → Nat) (s0 : State) (hs0 : tS s0) (sz : Nat) (F_size : Int32) (F_kinds : (Nat → Int32)) (F_sizes : (Nat → Int32)) (px : Nat → Prop) (h : wp_P_line F_size F_kinds F_sizes (fun _ _ _ _ => False) (fun k _ _ _ => px k)) : xMet l y_P_line w_P_line rx_P_line (mPcO D cA s0 [.ref (ad 0)] [(k_P cA ad), (k_F cA ad F_size), (k_F_kinds cA ad F_kinds), (k_F_sizes cA ad F_sizes)] sz) px := by
  refine x_meth hl9 hs0 (by decide) rfl (Nat.le_of_ble_eq_true rfl) ⟨Nat.le_of_ble_eq_true rfl, Nat.le_of_ble_eq_true rfl, Nat.le_of_ble_eq_true rfl, Nat.le_of_ble_eq_true rfl⟩ ?_
  intro p e s m below meth c A Q ls hx hb hml hown hts hK hA hw hl hT
  have hl : lv_has ls 1 [(0, .ref (ad 0))] := hl
  have hown : s.vm.findClass R_P = some m.cls := hown
  have hg : ∀ {w : Cond}, w ∈ gw → w.before _ s = true := fun h => hts _ (List.mem_cons_of_mem _ h)
  unfold wp_P_line at h
  refine lv_aload_n hx hb d_P_line_0 rfl (lv_at hl 0 rfl) ?_
  refine va_get (D := D) (ci := 0) (v := .ref (ad 6)) (C := R_P) (T := T_P) (N := 4) hx hb hts (fun w h => List.mem_cons_of_mem _ (iw_P w h)) hown hK.1 hw.1 0 rfl rfl 1 (by decide) (hg gm_142) (fun _ h9 => h9) rfl d_P_line_1 ?_
  refine m_callr (hr := va_runVN (As := []) (rest := []) ⟨hx, hb, hml, hown, hts⟩ (r_F_isFull l D cA ad _ F_size _ h) ⟨va_cnB 0 hts (gin gm_189) rfl rfl rfl (hK.2 _ nw_374) (hg gm_3) (by decide +kernel) ⟨Nat.le_of_ble_eq_true rfl, Nat.le_of_ble_eq_true rfl⟩, hg gm_188, hg gs_6⟩ (m_preV 2 1 rfl rfl hK hw [1] rfl rfl) rfl rfl hl.1 rfl (lv_room (Nat.le_of_ble_eq_true rfl)) d_P_line_4 ⟨Nat.zero_le _, Nat.zero_le _⟩) (fun r4 h => ?_)
  refine lv_if_eq (tgt := 20) hx hb d_P_line_7 (by decide) (fun hc => ?_) (fun hc => ?_)
  · have h := h.1 hc
    refine lv_aload_n hx hb d_P_line_20 rfl (lv_at hl 0 rfl) ?_
    refine va_get (D := D) (ci := 0) (v := .ref (ad 6)) (C := R_P) (T := T_P) (N := 4) hx hb hts (fun w h => List.mem_cons_of_mem _ (iw_P w h)) hown hK.1 hw.1 0 rfl rfl 1 (by decide) (hg gm_142) (fun _ h9 => h9) rfl d_P_line_21 ?_
    refine lv_iconst (v := 0) hx hb d_P_line_24 (by decide) ?_
    refine m_calli (hr := va_runVN (As := [.int 0]) (rest := []) ⟨hx, hb, hml, hown, hts⟩ (c_F_add l D cA ad _ F_size F_kinds F_sizes 0 _ h) ⟨va_cnB 1 hts (gin gm_193) rfl rfl rfl (hK.2 _ nw_376) (hg gm_3) (by decide +kernel) ⟨Nat.le_of_ble_eq_true rfl, Nat.le_of_ble_eq_true rfl⟩, hg gm_192, hg gs_7⟩ (m_preV 2 1 rfl rfl hK hw [1, 2, 3] rfl rfl) rfl rfl hl.1 rfl (lv_room (Nat.le_of_ble_eq_true rfl)) d_P_line_25 ⟨Nat.zero_le _, Nat.zero_le _⟩) (w2 := (fun (u : Int32 × (Nat → Int32) × (Nat → Int32)) => [(k_P cA ad), (k_F cA ad u.1), (k_F_kinds cA ad u.2.1), (k_F_sizes cA ad u.2.2)])) (wr := [(k_P cA ad)]) hw hA [1, 2, 3] [0] [0, 1, 2, 3] rfl rfl (by decide) (by decide) (by decide) (fun _ => rfl) (fun r25 u H locs hw h => ?_)
    obtain ⟨F_size_25, F_kinds_25, F_sizes_25⟩ := u
    have hw : mW D A s.heap [(k_P cA ad), (k_F cA ad F_size_25), (k_F_kinds cA ad F_kinds_25), (k_F_sizes cA ad F_sizes_25)] H locs := hw
    exact False.elim h
  · have h := h.2 hc
    exact hT 2 _ _ 59 72 63 "no more lines" h hl.1 ⟨(hg gm_347), (hg gm_12), by decide +kernel, site_2 hg hK.2, d_P_line_10, d_P_line_13, d_P_line_14, d_P_line_16, d_P_line_19, by decide +kernel⟩
def rx_P_literal : Room := { frames := 6, cells := 1, slots := 6, locals := 82 }
set_option maxHeartbeats 4000000 in
set_option maxRecDepth 100000 in
theorem t_P_literal (l : Launch) (hl9 : l.stackTraces = false) (D : va_G) (cA : Nat → ClassId) (ad : Nat → Nat) (s0 : State) (hs0 : tS s0) (sz : Nat) (G_size : Int32) (G_inputs : Int32) (F_size : Int32) (F_kinds : (Nat → Int32)) (F_sizes : (Nat → Int32)) (F_literals : (Nat → Int32)) (p1 : Int32) (p2 : Int32) (px : Nat → Prop) (h : wp_P_literal G_size F_size F_kinds F_sizes F_literals p1 p2 (fun _ _ _ => False) (fun k _ _ => px k)) : xMet l y_P_literal w_P_literal rx_P_literal (mPcO D cA s0 [.ref (ad 0), .int p1, .int p2] [(k_P cA ad), (k_G cA ad G_size G_inputs), (k_F cA ad F_size), (k_F_kinds cA ad F_kinds), (k_F_sizes cA ad F_sizes), (k_F_literals cA ad F_literals)] sz) px := by
  refine x_meth hl9 hs0 (by decide) rfl (Nat.le_of_ble_eq_true rfl) ⟨Nat.le_of_ble_eq_true rfl, Nat.le_of_ble_eq_true rfl, Nat.le_of_ble_eq_true rfl, Nat.le_of_ble_eq_true rfl⟩ ?_
  intro p e s m below meth c A Q ls hx hb hml hown hts hK hA hw hl hT
  have hl : lv_has ls 3 [(0, .ref (ad 0)), (1, .int p1), (2, .int p2)] := hl
  have hown : s.vm.findClass R_P = some m.cls := hown
  have hg : ∀ {w : Cond}, w ∈ gw → w.before _ s = true := fun h => hts _ (List.mem_cons_of_mem _ h)
  unfold wp_P_literal at h
  refine lv_aload_n hx hb d_P_literal_0 rfl (lv_at hl 0 rfl) ?_
  refine va_get (D := D) (ci := 0) (v := .ref (ad 6)) (C := R_P) (T := T_P) (N := 4) hx hb hts (fun w h => List.mem_cons_of_mem _ (iw_P w h)) hown hK.1 hw.1 0 rfl rfl 1 (by decide) (hg gm_142) (fun _ h9 => h9) rfl d_P_literal_1 ?_
  refine lv_iload_n hx hb d_P_literal_4 rfl (lv_at hl 1 rfl) ?_
  refine m_callr (hr := va_runVN (As := [.int p1]) (rest := []) ⟨hx, hb, hml, hown, hts⟩ (r_F_has l D cA ad _ F_size p1 _ h) ⟨va_cnB 1 hts (gin gm_387) rfl rfl rfl (hK.2 _ nw_384) (hg gm_3) (by decide +kernel) ⟨Nat.le_of_ble_eq_true rfl, Nat.le_of_ble_eq_true rfl⟩, hg gm_386, hg gs_22⟩ (m_preV 2 2 rfl rfl hK hw [2] rfl rfl) rfl rfl hl.1 rfl (lv_room (Nat.le_of_ble_eq_true rfl)) d_P_literal_5 ⟨Nat.zero_le _, Nat.zero_le _⟩) (fun r5 h => ?_)
  refine lv_if_eq (tgt := 22) hx hb d_P_literal_8 (by decide) (fun hc => ?_) (fun hc => ?_)
  · have h := h.1 hc
    exact hT 0 _ _ 43 80 47 "no such line or literal" h hl.1 ⟨(hg gm_263), (hg gm_10), by decide +kernel, site_0 hg hK.2, d_P_literal_22, d_P_literal_25, d_P_literal_26, d_P_literal_28, d_P_literal_31, by decide +kernel⟩
  · have h := h.2 hc
    refine lv_aload_n hx hb d_P_literal_11 rfl (lv_at hl 0 rfl) ?_
    refine va_get (D := D) (ci := 0) (v := .ref (ad 1)) (C := R_P) (T := T_P) (N := 4) hx hb hts (fun w h => List.mem_cons_of_mem _ (iw_P w h)) hown hK.1 hw.1 0 rfl rfl 0 (by decide) (hg gm_141) (fun _ h9 => h9) rfl d_P_literal_12 ?_
    refine lv_iload_n hx hb d_P_literal_15 rfl (lv_at hl 2 rfl) ?_
    refine m_callr (hr := va_runVN (As := [.int p2]) (rest := []) ⟨hx, hb, hml, hown, hts⟩ (r_G_hasLiteral l D cA ad _ G_size G_inputs p2 _ h) ⟨va_cnB 1 hts (gin gm_261) rfl rfl rfl (hK.2 _ nw_258) (hg gm_2) (by decide +kernel) ⟨Nat.le_of_ble_eq_true rfl, Nat.le_of_ble_eq_true rfl⟩, hg gm_260, hg gs_19⟩ (m_preV 1 1 rfl rfl hK hw [1] rfl rfl) rfl rfl hl.1 rfl (lv_room (Nat.le_of_ble_eq_true rfl)) d_P_literal_16 ⟨Nat.zero_le _, Nat.zero_le _⟩) (fun r16 h => ?_)
    refine lv_if_ne (tgt := 32) hx hb d_P_literal_19 (by decide) (fun hc => ?_) (fun hc => ?_)
    · have h := h.2 hc
      refine lv_aload_n hx hb d_P_literal_32 rfl (lv_at hl 0 rfl) ?_
      refine va_get (D := D) (ci := 0) (v := .ref (ad 6)) (C := R_P) (T := T_P) (N := 4) hx hb hts (fun w h => List.mem_cons_of_mem _ (iw_P w h)) hown hK.1 hw.1 0 rfl rfl 1 (by decide) (hg gm_142) (fun _ h9 => h9) rfl d_P_literal_33 ?_
      refine va_getN (D := D) (ci := 2) (v := .ref (ad 7)) (C := R_F) (T := T_F) (N := 5) hx hb hts (fun w h => List.mem_cons_of_mem _ (iw_F w h)) hown hK.1 hw.1 2 rfl rfl 0 (by decide) (va_Nw.use rfl (hK.2 _ nw_66)) (fun _ h9 => h9) rfl d_P_literal_36 ?_
      refine lv_iload_n hx hb d_P_literal_39 rfl (lv_at hl 1 rfl) ?_
      refine va_iald hx hb hK.1 hw.1 3 0 rfl rfl h.1 d_P_literal_40 ?_
      have h := h.2
      refine lv_iconst (v := 1) hx hb d_P_literal_41 (by decide) ?_
      refine lv_icmp_ne (tgt := 55) hx hb d_P_literal_42 (by decide) (fun hc => ?_) (fun hc => ?_)
      · have h := h.2 hc
        refine lv_aload_n hx hb d_P_literal_55 rfl (lv_at hl 0 rfl) ?_
        refine va_get (D := D) (ci := 0) (v := .ref (ad 6)) (C := R_P) (T := T_P) (N := 4) hx hb hts (fun w h => List.mem_cons_of_mem _ (iw_P w h)) hown hK.1 hw.1 0 rfl rfl 1 (by decide) (hg gm_142) (fun _ h9 => h9) rfl d_P_literal_56 ?_
        refine lv_iload_n hx hb d_P_literal_59 rfl (lv_at hl 1 rfl) ?_
        refine lv_iload_n hx hb d_P_literal_60 rfl (lv_at hl 2 rfl) ?_
        refine m_callr (hr := va_runVN (As := [.int p1, .int p2]) (rest := []) ⟨hx, hb, hml, hown, hts⟩ (r_F_contains l D cA ad _ F_size F_sizes F_literals p1 p2 _ h) ⟨va_cnB 2 hts (gin gm_231) rfl rfl rfl (hK.2 _ nw_390) (hg gm_3) (by decide +kernel) ⟨Nat.le_of_ble_eq_true rfl, Nat.le_of_ble_eq_true rfl⟩, hg gm_230, hg gs_15⟩ (m_preV 2 2 rfl rfl hK hw [2, 4, 5] rfl rfl) rfl rfl hl.1 rfl (lv_room (Nat.le_of_ble_eq_true rfl)) d_P_literal_61 ⟨Nat.zero_le _, Nat.zero_le _⟩) (fun r61 h => ?_)
        refine lv_if_eq (tgt := 69) hx hb d_P_literal_64 (by decide) (fun hc => ?_) (fun hc => ?_)
        · have h := h.1 hc
          refine lv_aload_n hx hb d_P_literal_69 rfl (lv_at hl 0 rfl) ?_
          refine va_get (D := D) (ci := 0) (v := .ref (ad 6)) (C := R_P) (T := T_P) (N := 4) hx hb hts (fun w h => List.mem_cons_of_mem _ (iw_P w h)) hown hK.1 hw.1 0 rfl rfl 1 (by decide) (hg gm_142) (fun _ h9 => h9) rfl d_P_literal_70 ?_
          refine lv_iload_n hx hb d_P_literal_73 rfl (lv_at hl 1 rfl) ?_
          refine m_callr (hr := va_runVN (As := [.int p1]) (rest := []) ⟨hx, hb, hml, hown, hts⟩ (r_F_isLineFull l D cA ad _ F_size F_kinds F_sizes p1 _ h) ⟨va_cnB 1 hts (gin gm_223) rfl rfl rfl (hK.2 _ nw_391) (hg gm_3) (by decide +kernel) ⟨Nat.le_of_ble_eq_true rfl, Nat.le_of_ble_eq_true rfl⟩, hg gm_222, hg gs_13⟩ (m_preV 2 2 rfl rfl hK hw [2, 3, 4] rfl rfl) rfl rfl hl.1 rfl (lv_room (Nat.le_of_ble_eq_true rfl)) d_P_literal_74 ⟨Nat.zero_le _, Nat.zero_le _⟩) (fun r74 h => ?_)
          refine lv_if_eq (tgt := 90) hx hb d_P_literal_77 (by decide) (fun hc => ?_) (fun hc => ?_)
          · have h := h.1 hc
            refine lv_aload_n hx hb d_P_literal_90 rfl (lv_at hl 0 rfl) ?_
            refine va_get (D := D) (ci := 0) (v := .ref (ad 6)) (C := R_P) (T := T_P) (N := 4) hx hb hts (fun w h => List.mem_cons_of_mem _ (iw_P w h)) hown hK.1 hw.1 0 rfl rfl 1 (by decide) (hg gm_142) (fun _ h9 => h9) rfl d_P_literal_91 ?_
            refine lv_iload_n hx hb d_P_literal_94 rfl (lv_at hl 1 rfl) ?_
            refine lv_iload_n hx hb d_P_literal_95 rfl (lv_at hl 2 rfl) ?_
            refine m_callv (hr := va_runVN (As := [.int p1, .int p2]) (rest := []) ⟨hx, hb, hml, hown, hts⟩ (c_F_append l D cA ad _ F_size F_sizes F_literals p1 p2 _ h) ⟨va_cnB 2 hts (gin gm_239) rfl rfl rfl (hK.2 _ nw_393) (hg gm_3) (by decide +kernel) ⟨Nat.le_of_ble_eq_true rfl, Nat.le_of_ble_eq_true rfl⟩, hg gm_238, hg gs_17⟩ (m_preV 2 2 rfl rfl hK hw [2, 4, 5] rfl rfl) rfl rfl hl.1 rfl (lv_room (Nat.le_of_ble_eq_true rfl)) d_P_literal_96 ⟨Nat.zero_le _, Nat.zero_le _⟩) (w2 := (fun (u : (Nat → Int32) × (Nat → Int32)) => [(k_P cA ad), (k_G cA ad G_size G_inputs), (k_F cA ad F_size), (k_F_kinds cA ad F_kinds), (k_F_sizes cA ad u.1), (k_F_literals cA ad u.2)])) (wr := [(k_P cA ad), (k_G cA ad G_size G_inputs), (k_F_kinds cA ad F_kinds)]) hw hA [2, 4, 5] [0, 1, 3] [0, 1, 3, 2, 4, 5] rfl rfl (by decide) (by decide) (by decide) (fun _ => rfl) (fun u H locs hw h => ?_)
            obtain ⟨F_sizes_96, F_literals_96⟩ := u
            have hw : mW D A s.heap [(k_P cA ad), (k_G cA ad G_size G_inputs), (k_F cA ad F_size), (k_F_kinds cA ad F_kinds), (k_F_sizes cA ad F_sizes_96), (k_F_literals cA ad F_literals_96)] H locs := hw
            refine lv_iconst (v := 1) hx hb d_P_literal_99 (by decide) ?_
            exact False.elim h
          · have h := h.2 hc
            exact hT 2 _ _ 59 95 63 "no more literals" h hl.1 ⟨(hg gm_347), (hg gm_12), by decide +kernel, site_2 hg hK.2, d_P_literal_80, d_P_literal_83, d_P_literal_84, d_P_literal_86, d_P_literal_89, by decide +kernel⟩
        · have h := h.2 hc
          refine lv_iconst (v := 0) hx hb d_P_literal_67 (by decide) ?_
          exact False.elim h
      · have h := h.1 hc
        exact hT 1 _ _ 50 86 54 "the line is an equality" h hl.1 ⟨(hg gm_331), (hg gm_11), by decide +kernel, site_1 hg hK.2, d_P_literal_45, d_P_literal_48, d_P_literal_49, d_P_literal_51, d_P_literal_54, by decide +kernel⟩
    · have h := h.1 hc
      exact hT 0 _ _ 43 80 47 "no such line or literal" h hl.1 ⟨(hg gm_263), (hg gm_10), by decide +kernel, site_0 hg hK.2, d_P_literal_22, d_P_literal_25, d_P_literal_26, d_P_literal_28, d_P_literal_31, by decide +kernel⟩
def rx_P_equalLine : Room := { frames := 6, cells := 1, slots := 6, locals := 82 }
set_option maxHeartbeats 4000000 in
set_option maxRecDepth 100000 in
theorem t_P_equalLine (l : Launch) (hl9 : l.stackTraces = false) (D : va_G) (cA : Nat → ClassId) (ad : Nat → Nat) (s0 : State) (hs0 : tS s0) (sz : Nat) (G_size : Int32) (G_inputs : Int32) (F_size : Int32) (F_kinds : (Nat → Int32)) (F_sizes : (Nat → Int32)) (F_literals : (Nat → Int32)) (p1 : Int32) (p2 : Int32) (px : Nat → Prop) (h : wp_P_equalLine G_size F_size F_kinds F_sizes F_literals p1 p2 (fun _ _ _ _ _ => False) (fun k _ _ _ _ => px k)) : xMet l y_P_equalLine w_P_equalLine rx_P_equalLine (mPcO D cA s0 [.ref (ad 0), .int p1, .int p2] [(k_P cA ad), (k_G cA ad G_size G_inputs), (k_F cA ad F_size), (k_F_kinds cA ad F_kinds), (k_F_sizes cA ad F_sizes), (k_F_literals cA ad F_literals)] sz) px := by
  refine x_meth hl9 hs0 (by decide) rfl (Nat.le_of_ble_eq_true rfl) ⟨Nat.le_of_ble_eq_true rfl, Nat.le_of_ble_eq_true rfl, Nat.le_of_ble_eq_true rfl, Nat.le_of_ble_eq_true rfl⟩ ?_
  intro p e s m below meth c A Q ls hx hb hml hown hts hK hA hw hl hT
  have hl : lv_has ls 4 [(0, .ref (ad 0)), (1, .int p1), (2, .int p2)] := hl
  have hown : s.vm.findClass R_P = some m.cls := hown
  have hg : ∀ {w : Cond}, w ∈ gw → w.before _ s = true := fun h => hts _ (List.mem_cons_of_mem _ h)
  unfold wp_P_equalLine at h
  refine lv_aload_n hx hb d_P_equalLine_0 rfl (lv_at hl 0 rfl) ?_
  refine va_get (D := D) (ci := 0) (v := .ref (ad 1)) (C := R_P) (T := T_P) (N := 4) hx hb hts (fun w h => List.mem_cons_of_mem _ (iw_P w h)) hown hK.1 hw.1 0 rfl rfl 0 (by decide) (hg gm_141) (fun _ h9 => h9) rfl d_P_equalLine_1 ?_
  refine lv_iload_n hx hb d_P_equalLine_4 rfl (lv_at hl 1 rfl) ?_
  refine m_callr (hr := va_runVN (As := [.int p1]) (rest := []) ⟨hx, hb, hml, hown, hts⟩ (r_G_hasLiteral l D cA ad _ G_size G_inputs p1 _ h) ⟨va_cnB 1 hts (gin gm_261) rfl rfl rfl (hK.2 _ nw_258) (hg gm_2) (by decide +kernel) ⟨Nat.le_of_ble_eq_true rfl, Nat.le_of_ble_eq_true rfl⟩, hg gm_260, hg gs_19⟩ (m_preV 1 1 rfl rfl hK hw [1] rfl rfl) rfl rfl hl.1 rfl (lv_room (Nat.le_of_ble_eq_true rfl)) d_P_equalLine_5 ⟨Nat.zero_le _, Nat.zero_le _⟩) (fun r5 h => ?_)
  refine lv_if_eq (tgt := 22) hx hb d_P_equalLine_8 (by decide) (fun hc => ?_) (fun hc => ?_)
  · have h := h.1 hc
    exact hT 0 _ _ 43 45 47 "no such literal" h hl.1 ⟨(hg gm_263), (hg gm_10), by decide +kernel, site_0 hg hK.2, d_P_equalLine_22, d_P_equalLine_25, d_P_equalLine_26, d_P_equalLine_28, d_P_equalLine_31, by decide +kernel⟩
  · have h := h.2 hc
    refine lv_aload_n hx hb d_P_equalLine_11 rfl (lv_at hl 0 rfl) ?_
    refine va_get (D := D) (ci := 0) (v := .ref (ad 1)) (C := R_P) (T := T_P) (N := 4) hx hb hts (fun w h => List.mem_cons_of_mem _ (iw_P w h)) hown hK.1 hw.1 0 rfl rfl 0 (by decide) (hg gm_141) (fun _ h9 => h9) rfl d_P_equalLine_12 ?_
    refine lv_iload_n hx hb d_P_equalLine_15 rfl (lv_at hl 2 rfl) ?_
    refine m_callr (hr := va_runVN (As := [.int p2]) (rest := []) ⟨hx, hb, hml, hown, hts⟩ (r_G_hasLiteral l D cA ad _ G_size G_inputs p2 _ h) ⟨va_cnB 1 hts (gin gm_261) rfl rfl rfl (hK.2 _ nw_258) (hg gm_2) (by decide +kernel) ⟨Nat.le_of_ble_eq_true rfl, Nat.le_of_ble_eq_true rfl⟩, hg gm_260, hg gs_19⟩ (m_preV 1 1 rfl rfl hK hw [1] rfl rfl) rfl rfl hl.1 rfl (lv_room (Nat.le_of_ble_eq_true rfl)) d_P_equalLine_16 ⟨Nat.zero_le _, Nat.zero_le _⟩) (fun r16 h => ?_)
    refine lv_if_ne (tgt := 32) hx hb d_P_equalLine_19 (by decide) (fun hc => ?_) (fun hc => ?_)
    · have h := h.2 hc
      refine lv_aload_n hx hb d_P_equalLine_32 rfl (lv_at hl 0 rfl) ?_
      refine va_get (D := D) (ci := 0) (v := .ref (ad 6)) (C := R_P) (T := T_P) (N := 4) hx hb hts (fun w h => List.mem_cons_of_mem _ (iw_P w h)) hown hK.1 hw.1 0 rfl rfl 1 (by decide) (hg gm_142) (fun _ h9 => h9) rfl d_P_equalLine_33 ?_
      refine m_callr (hr := va_runVN (As := []) (rest := []) ⟨hx, hb, hml, hown, hts⟩ (r_F_isFull l D cA ad _ F_size _ h) ⟨va_cnB 0 hts (gin gm_189) rfl rfl rfl (hK.2 _ nw_374) (hg gm_3) (by decide +kernel) ⟨Nat.le_of_ble_eq_true rfl, Nat.le_of_ble_eq_true rfl⟩, hg gm_188, hg gs_6⟩ (m_preV 2 2 rfl rfl hK hw [2] rfl rfl) rfl rfl hl.1 rfl (lv_room (Nat.le_of_ble_eq_true rfl)) d_P_equalLine_36 ⟨Nat.zero_le _, Nat.zero_le _⟩) (fun r36 h => ?_)
      refine lv_if_eq (tgt := 52) hx hb d_P_equalLine_39 (by decide) (fun hc => ?_) (fun hc => ?_)
      · have h := h.1 hc
        refine lv_aload_n hx hb d_P_equalLine_52 rfl (lv_at hl 0 rfl) ?_
        refine va_get (D := D) (ci := 0) (v := .ref (ad 6)) (C := R_P) (T := T_P) (N := 4) hx hb hts (fun w h => List.mem_cons_of_mem _ (iw_P w h)) hown hK.1 hw.1 0 rfl rfl 1 (by decide) (hg gm_142) (fun _ h9 => h9) rfl d_P_equalLine_53 ?_
        refine lv_iconst (v := 1) hx hb d_P_equalLine_56 (by decide) ?_
        refine m_calli (hr := va_runVN (As := [.int 1]) (rest := []) ⟨hx, hb, hml, hown, hts⟩ (c_F_add l D cA ad _ F_size F_kinds F_sizes 1 _ h) ⟨va_cnB 1 hts (gin gm_193) rfl rfl rfl (hK.2 _ nw_376) (hg gm_3) (by decide +kernel) ⟨Nat.le_of_ble_eq_true rfl, Nat.le_of_ble_eq_true rfl⟩, hg gm_192, hg gs_7⟩ (m_preV 2 2 rfl rfl hK hw [2, 3, 4] rfl rfl) rfl rfl hl.1 rfl (lv_room (Nat.le_of_ble_eq_true rfl)) d_P_equalLine_57 ⟨Nat.zero_le _, Nat.zero_le _⟩) (w2 := (fun (u : Int32 × (Nat → Int32) × (Nat → Int32)) => [(k_P cA ad), (k_G cA ad G_size G_inputs), (k_F cA ad u.1), (k_F_kinds cA ad u.2.1), (k_F_sizes cA ad u.2.2), (k_F_literals cA ad F_literals)])) (wr := [(k_P cA ad), (k_G cA ad G_size G_inputs), (k_F_literals cA ad F_literals)]) hw hA [2, 3, 4] [0, 1, 5] [0, 1, 3, 4, 5, 2] rfl rfl (by decide) (by decide) (by decide) (fun _ => rfl) (fun r57 u H locs hw h => ?_)
        obtain ⟨F_size_57, F_kinds_57, F_sizes_57⟩ := u
        have hw : mW D A s.heap [(k_P cA ad), (k_G cA ad G_size G_inputs), (k_F cA ad F_size_57), (k_F_kinds cA ad F_kinds_57), (k_F_sizes cA ad F_sizes_57), (k_F_literals cA ad F_literals)] H locs := hw
        refine lv_istore_n (lv' := [(3, .int r57), (0, .ref (ad 0)), (1, .int p1), (2, .int p2)]) hx hb d_P_equalLine_60 rfl hl (by decide) rfl (fun ls hl => ?_)
        refine lv_aload_n hx hb d_P_equalLine_61 rfl (lv_at hl 1 rfl) ?_
        refine va_get (D := D) (ci := 0) (v := .ref (ad 6)) (C := R_P) (T := T_P) (N := 4) hx hb hts (fun w h => List.mem_cons_of_mem _ (iw_P w h)) hown hK.1 hw.1 0 rfl rfl 1 (by decide) (hg gm_142) (fun _ h9 => h9) rfl d_P_equalLine_62 ?_
        refine lv_iload_n hx hb d_P_equalLine_65 rfl (lv_at hl 0 rfl) ?_
        refine lv_iload_n hx hb d_P_equalLine_66 rfl (lv_at hl 2 rfl) ?_
        refine m_callv (hr := va_runVN (As := [.int r57, .int p1]) (rest := []) ⟨hx, hb, hml, hown, hts⟩ (c_F_append l D cA ad _ F_size_57 F_sizes_57 F_literals r57 p1 _ h) ⟨va_cnB 2 hts (gin gm_239) rfl rfl rfl (hK.2 _ nw_393) (hg gm_3) (by decide +kernel) ⟨Nat.le_of_ble_eq_true rfl, Nat.le_of_ble_eq_true rfl⟩, hg gm_238, hg gs_17⟩ (m_preV 2 2 rfl rfl hK hw [2, 4, 5] rfl rfl) rfl rfl hl.1 rfl (lv_room (Nat.le_of_ble_eq_true rfl)) d_P_equalLine_67 ⟨Nat.zero_le _, Nat.zero_le _⟩) (w2 := (fun (u : (Nat → Int32) × (Nat → Int32)) => [(k_P cA ad), (k_G cA ad G_size G_inputs), (k_F cA ad F_size_57), (k_F_kinds cA ad F_kinds_57), (k_F_sizes cA ad u.1), (k_F_literals cA ad u.2)])) (wr := [(k_P cA ad), (k_G cA ad G_size G_inputs), (k_F_kinds cA ad F_kinds_57)]) hw hA [2, 4, 5] [0, 1, 3] [0, 1, 3, 2, 4, 5] rfl rfl (by decide) (by decide) (by decide) (fun _ => rfl) (fun u H locs hw h => ?_)
        obtain ⟨F_sizes_67, F_literals_67⟩ := u
        have hw : mW D A s.heap [(k_P cA ad), (k_G cA ad G_size G_inputs), (k_F cA ad F_size_57), (k_F_kinds cA ad F_kinds_57), (k_F_sizes cA ad F_sizes_67), (k_F_literals cA ad F_literals_67)] H locs := hw
        refine lv_aload_n hx hb d_P_equalLine_70 rfl (lv_at hl 1 rfl) ?_
        refine va_get (D := D) (ci := 0) (v := .ref (ad 6)) (C := R_P) (T := T_P) (N := 4) hx hb hts (fun w h => List.mem_cons_of_mem _ (iw_P w h)) hown hK.1 hw.1 0 rfl rfl 1 (by decide) (hg gm_142) (fun _ h9 => h9) rfl d_P_equalLine_71 ?_
        refine lv_iload_n hx hb d_P_equalLine_74 rfl (lv_at hl 0 rfl) ?_
        refine lv_iload_n hx hb d_P_equalLine_75 rfl (lv_at hl 3 rfl) ?_
        refine m_callv (hr := va_runVN (As := [.int r57, .int p2]) (rest := []) ⟨hx, hb, hml, hown, hts⟩ (c_F_append l D cA ad _ F_size_57 F_sizes_67 F_literals_67 r57 p2 _ h) ⟨va_cnB 2 hts (gin gm_239) rfl rfl rfl (hK.2 _ nw_393) (hg gm_3) (by decide +kernel) ⟨Nat.le_of_ble_eq_true rfl, Nat.le_of_ble_eq_true rfl⟩, hg gm_238, hg gs_17⟩ (m_preV 2 2 rfl rfl hK hw [2, 4, 5] rfl rfl) rfl rfl hl.1 rfl (lv_room (Nat.le_of_ble_eq_true rfl)) d_P_equalLine_76 ⟨Nat.zero_le _, Nat.zero_le _⟩) (w2 := (fun (u : (Nat → Int32) × (Nat → Int32)) => [(k_P cA ad), (k_G cA ad G_size G_inputs), (k_F cA ad F_size_57), (k_F_kinds cA ad F_kinds_57), (k_F_sizes cA ad u.1), (k_F_literals cA ad u.2)])) (wr := [(k_P cA ad), (k_G cA ad G_size G_inputs), (k_F_kinds cA ad F_kinds_57)]) hw hA [2, 4, 5] [0, 1, 3] [0, 1, 3, 2, 4, 5] rfl rfl (by decide) (by decide) (by decide) (fun _ => rfl) (fun u H locs hw h => ?_)
        obtain ⟨F_sizes_76, F_literals_76⟩ := u
        have hw : mW D A s.heap [(k_P cA ad), (k_G cA ad G_size G_inputs), (k_F cA ad F_size_57), (k_F_kinds cA ad F_kinds_57), (k_F_sizes cA ad F_sizes_76), (k_F_literals cA ad F_literals_76)] H locs := hw
        refine lv_iload_n hx hb d_P_equalLine_79 rfl (lv_at hl 0 rfl) ?_
        exact False.elim h
      · have h := h.2 hc
        exact hT 2 _ _ 59 72 63 "no more lines" h hl.1 ⟨(hg gm_347), (hg gm_12), by decide +kernel, site_2 hg hK.2, d_P_equalLine_42, d_P_equalLine_45, d_P_equalLine_46, d_P_equalLine_48, d_P_equalLine_51, by decide +kernel⟩
    · have h := h.1 hc
      exact hT 0 _ _ 43 45 47 "no such literal" h hl.1 ⟨(hg gm_263), (hg gm_10), by decide +kernel, site_0 hg hK.2, d_P_equalLine_22, d_P_equalLine_25, d_P_equalLine_26, d_P_equalLine_28, d_P_equalLine_31, by decide +kernel⟩
def rx_P_check : Room := { frames := 6, cells := 1, slots := 6, locals := 142 }
set_option maxHeartbeats 4000000 in
set_option maxRecDepth 100000 in
theorem t_P_check (l : Launch) (hl9 : l.stackTraces = false) (D : va_G) (cA : Nat → ClassId) (ad : Nat → Nat) (s0 : State) (hs0 : tS s0) (sz : Nat) (G_size : Int32) (G_inputs : Int32) (G_kinds : (Nat → Int32)) (G_lefts : (Nat → Int32)) (G_rights : (Nat → Int32)) (F_size : Int32) (F_kinds : (Nat → Int32)) (F_sizes : (Nat → Int32)) (F_literals : (Nat → Int32)) (F_leftOut : (Nat → Int32)) (U_conflict : Int32) (U_changed : Int32) (U_told : (Nat → Int32)) (p1 : Int32) (px : Nat → Prop) (h : wp_P_check G_size G_kinds G_lefts G_rights F_size F_kinds F_sizes F_literals F_leftOut U_conflict U_changed U_told p1 (fun _ _ _ _ => False) (fun k _ _ _ => px k)) : xMet l y_P_check w_P_check rx_P_check (mPcO D cA s0 [.ref (ad 0), .int p1] [(k_P cA ad), (k_G cA ad G_size G_inputs), (k_G_kinds cA ad G_kinds), (k_G_lefts cA ad G_lefts), (k_G_rights cA ad G_rights), (k_F cA ad F_size), (k_F_kinds cA ad F_kinds), (k_F_sizes cA ad F_sizes), (k_F_literals cA ad F_literals), (k_F_leftOut cA ad F_leftOut), (k_U cA ad U_conflict U_changed), (k_U_told cA ad U_told)] sz) px := by
  refine x_meth hl9 hs0 (by decide) rfl (Nat.le_of_ble_eq_true rfl) ⟨Nat.le_of_ble_eq_true rfl, Nat.le_of_ble_eq_true rfl, Nat.le_of_ble_eq_true rfl, Nat.le_of_ble_eq_true rfl⟩ ?_
  intro p e s m below meth c A Q ls hx hb hml hown hts hK hA hw hl hT
  have hl : lv_has ls 2 [(0, .ref (ad 0)), (1, .int p1)] := hl
  have hown : s.vm.findClass R_P = some m.cls := hown
  have hg : ∀ {w : Cond}, w ∈ gw → w.before _ s = true := fun h => hts _ (List.mem_cons_of_mem _ h)
  unfold wp_P_check at h
  refine lv_aload_n hx hb d_P_check_0 rfl (lv_at hl 0 rfl) ?_
  refine va_get (D := D) (ci := 0) (v := .ref (ad 1)) (C := R_P) (T := T_P) (N := 4) hx hb hts (fun w h => List.mem_cons_of_mem _ (iw_P w h)) hown hK.1 hw.1 0 rfl rfl 0 (by decide) (hg gm_141) (fun _ h9 => h9) rfl d_P_check_1 ?_
  refine lv_iload_n hx hb d_P_check_4 rfl (lv_at hl 1 rfl) ?_
  refine m_callr (hr := va_runVN (As := [.int p1]) (rest := []) ⟨hx, hb, hml, hown, hts⟩ (r_G_hasLiteral l D cA ad _ G_size G_inputs p1 _ h) ⟨va_cnB 1 hts (gin gm_261) rfl rfl rfl (hK.2 _ nw_258) (hg gm_2) (by decide +kernel) ⟨Nat.le_of_ble_eq_true rfl, Nat.le_of_ble_eq_true rfl⟩, hg gm_260, hg gs_19⟩ (m_preV 1 1 rfl rfl hK hw [1] rfl rfl) rfl rfl hl.1 rfl (lv_room (Nat.le_of_ble_eq_true rfl)) d_P_check_5 ⟨Nat.zero_le _, Nat.zero_le _⟩) (fun r5 h => ?_)
  refine lv_if_ne (tgt := 21) hx hb d_P_check_8 (by decide) (fun hc => ?_) (fun hc => ?_)
  · have h := h.2 hc
    refine lv_aload_n hx hb d_P_check_21 rfl (lv_at hl 0 rfl) ?_
    refine lv_iconst (v := 0) hx hb d_P_check_22 (by decide) ?_
    refine lv_iload_n hx hb d_P_check_23 rfl (lv_at hl 1 rfl) ?_
    refine m_calli (hr := va_runV (As := [.int 0, .int p1]) (rest := []) ⟨hx, hb, hml, hown, hts⟩ (c_P_firstBad l D cA ad _ G_size G_inputs G_kinds G_lefts G_rights F_size F_kinds F_sizes F_literals F_leftOut U_conflict U_changed U_told 0 p1 _ h) (cwV 2 hts (ginV gm_408 gm_410 gs_23 gm_1 gm_411) rfl rfl rfl (by decide +kernel) ⟨Nat.le_of_ble_eq_true rfl, Nat.le_of_ble_eq_true rfl⟩) (m_preV 0 0 rfl rfl hK hw [0, 1, 2, 3, 4, 5, 6, 7, 8, 9, 10, 11] rfl rfl) rfl rfl hl.1 rfl (lv_room (Nat.le_of_ble_eq_true rfl)) d_P_check_24 ⟨Nat.zero_le _, Nat.zero_le _⟩) (w2 := (fun (u : Int32 × Int32 × (Nat → Int32)) => [(k_P cA ad), (k_G cA ad G_size G_inputs), (k_G_kinds cA ad G_kinds), (k_G_lefts cA ad G_lefts), (k_G_rights cA ad G_rights), (k_F cA ad F_size), (k_F_kinds cA ad F_kinds), (k_F_sizes cA ad F_sizes), (k_F_literals cA ad F_literals), (k_F_leftOut cA ad F_leftOut), (k_U cA ad u.1 u.2.1), (k_U_told cA ad u.2.2)])) (wr := []) hw hA [0, 1, 2, 3, 4, 5, 6, 7, 8, 9, 10, 11] [] [0, 1, 2, 3, 4, 5, 6, 7, 8, 9, 10, 11] rfl rfl (by decide) (by decide) (by decide) (fun _ => rfl) (fun r24 u H locs hw h => ?_)
    obtain ⟨U_conflict_24, U_changed_24, U_told_24⟩ := u
    have hw : mW D A s.heap [(k_P cA ad), (k_G cA ad G_size G_inputs), (k_G_kinds cA ad G_kinds), (k_G_lefts cA ad G_lefts), (k_G_rights cA ad G_rights), (k_F cA ad F_size), (k_F_kinds cA ad F_kinds), (k_F_sizes cA ad F_sizes), (k_F_literals cA ad F_literals), (k_F_leftOut cA ad F_leftOut), (k_U cA ad U_conflict_24 U_changed_24), (k_U_told cA ad U_told_24)] H locs := hw
    exact False.elim h
  · have h := h.1 hc
    exact hT 0 _ _ 43 45 47 "no such literal" h hl.1 ⟨(hg gm_263), (hg gm_10), by decide +kernel, site_0 hg hK.2, d_P_check_11, d_P_check_14, d_P_check_15, d_P_check_17, d_P_check_20, by decide +kernel⟩
def rx_P_good : Room := { frames := 6, cells := 1, slots := 6, locals := 119 }
set_option maxHeartbeats 4000000 in
set_option maxRecDepth 100000 in
theorem t_P_good (l : Launch) (hl9 : l.stackTraces = false) (D : va_G) (cA : Nat → ClassId) (ad : Nat → Nat) (s0 : State) (hs0 : tS s0) (sz : Nat) (G_size : Int32) (G_inputs : Int32) (G_kinds : (Nat → Int32)) (G_lefts : (Nat → Int32)) (G_rights : (Nat → Int32)) (F_size : Int32) (F_kinds : (Nat → Int32)) (F_sizes : (Nat → Int32)) (F_literals : (Nat → Int32)) (F_leftOut : (Nat → Int32)) (U_conflict : Int32) (U_changed : Int32) (U_told : (Nat → Int32)) (p1 : Int32) (px : Nat → Prop) (h : wp_P_good G_size G_kinds G_lefts G_rights F_size F_kinds F_sizes F_literals F_leftOut U_conflict U_changed U_told p1 (fun _ _ _ _ => False) (fun k _ _ _ => px k)) : xMet l y_P_good w_P_good rx_P_good (mPcO D cA s0 [.ref (ad 0), .int p1] [(k_P cA ad), (k_G cA ad G_size G_inputs), (k_G_kinds cA ad G_kinds), (k_G_lefts cA ad G_lefts), (k_G_rights cA ad G_rights), (k_F cA ad F_size), (k_F_kinds cA ad F_kinds), (k_F_sizes cA ad F_sizes), (k_F_literals cA ad F_literals), (k_F_leftOut cA ad F_leftOut), (k_U cA ad U_conflict U_changed), (k_U_told cA ad U_told)] sz) px := by
  refine x_meth hl9 hs0 (by decide) rfl (Nat.le_of_ble_eq_true rfl) ⟨Nat.le_of_ble_eq_true rfl, Nat.le_of_ble_eq_true rfl, Nat.le_of_ble_eq_true rfl, Nat.le_of_ble_eq_true rfl⟩ ?_
  intro p e s m below meth c A Q ls hx hb hml hown hts hK hA hw hl hT
  have hl : lv_has ls 2 [(0, .ref (ad 0)), (1, .int p1)] := hl
  have hown : s.vm.findClass R_P = some m.cls := hown
  have hg : ∀ {w : Cond}, w ∈ gw → w.before _ s = true := fun h => hts _ (List.mem_cons_of_mem _ h)
  unfold wp_P_good at h
  refine lv_aload_n hx hb d_P_good_0 rfl (lv_at hl 0 rfl) ?_
  refine va_get (D := D) (ci := 0) (v := .ref (ad 6)) (C := R_P) (T := T_P) (N := 4) hx hb hts (fun w h => List.mem_cons_of_mem _ (iw_P w h)) hown hK.1 hw.1 0 rfl rfl 1 (by decide) (hg gm_142) (fun _ h9 => h9) rfl d_P_good_1 ?_
  refine lv_iload_n hx hb d_P_good_4 rfl (lv_at hl 1 rfl) ?_
  refine m_callr (hr := va_runVN (As := [.int p1]) (rest := []) ⟨hx, hb, hml, hown, hts⟩ (r_F_has l D cA ad _ F_size p1 _ h) ⟨va_cnB 1 hts (gin gm_387) rfl rfl rfl (hK.2 _ nw_384) (hg gm_3) (by decide +kernel) ⟨Nat.le_of_ble_eq_true rfl, Nat.le_of_ble_eq_true rfl⟩, hg gm_386, hg gs_22⟩ (m_preV 2 5 rfl rfl hK hw [5] rfl rfl) rfl rfl hl.1 rfl (lv_room (Nat.le_of_ble_eq_true rfl)) d_P_good_5 ⟨Nat.zero_le _, Nat.zero_le _⟩) (fun r5 h => ?_)
  refine lv_if_ne (tgt := 21) hx hb d_P_good_8 (by decide) (fun hc => ?_) (fun hc => ?_)
  · have h := h.2 hc
    refine lv_aload_n hx hb d_P_good_21 rfl (lv_at hl 0 rfl) ?_
    refine va_get (D := D) (ci := 0) (v := .ref (ad 11)) (C := R_P) (T := T_P) (N := 4) hx hb hts (fun w h => List.mem_cons_of_mem _ (iw_P w h)) hown hK.1 hw.1 0 rfl rfl 2 (by decide) (hg gm_143) (fun _ h9 => h9) rfl d_P_good_22 ?_
    refine lv_iload_n hx hb d_P_good_25 rfl (lv_at hl 1 rfl) ?_
    refine m_calli (hr := va_runVN (As := [.int p1]) (rest := []) ⟨hx, hb, hml, hown, hts⟩ (c_U_lineFollows l D cA ad _ G_size G_inputs G_kinds G_lefts G_rights F_size F_kinds F_sizes F_literals F_leftOut U_conflict U_changed U_told p1 _ h) ⟨va_cnB 1 hts (gin gm_415) rfl rfl rfl (hK.2 _ nw_412) (hg gm_4) (by decide +kernel) ⟨Nat.le_of_ble_eq_true rfl, Nat.le_of_ble_eq_true rfl⟩, hg gm_414, hg gs_24⟩ (m_preV 3 10 rfl rfl hK hw [1, 2, 3, 4, 5, 6, 7, 8, 9, 10, 11] rfl rfl) rfl rfl hl.1 rfl (lv_room (Nat.le_of_ble_eq_true rfl)) d_P_good_26 ⟨Nat.zero_le _, Nat.zero_le _⟩) (w2 := (fun (u : Int32 × Int32 × (Nat → Int32)) => [(k_P cA ad), (k_G cA ad G_size G_inputs), (k_G_kinds cA ad G_kinds), (k_G_lefts cA ad G_lefts), (k_G_rights cA ad G_rights), (k_F cA ad F_size), (k_F_kinds cA ad F_kinds), (k_F_sizes cA ad F_sizes), (k_F_literals cA ad F_literals), (k_F_leftOut cA ad F_leftOut), (k_U cA ad u.1 u.2.1), (k_U_told cA ad u.2.2)])) (wr := [(k_P cA ad)]) hw hA [1, 2, 3, 4, 5, 6, 7, 8, 9, 10, 11] [0] [0, 1, 2, 3, 4, 5, 6, 7, 8, 9, 10, 11] rfl rfl (by decide) (by decide) (by decide) (fun _ => rfl) (fun r26 u H locs hw h => ?_)
    obtain ⟨U_conflict_26, U_changed_26, U_told_26⟩ := u
    have hw : mW D A s.heap [(k_P cA ad), (k_G cA ad G_size G_inputs), (k_G_kinds cA ad G_kinds), (k_G_lefts cA ad G_lefts), (k_G_rights cA ad G_rights), (k_F cA ad F_size), (k_F_kinds cA ad F_kinds), (k_F_sizes cA ad F_sizes), (k_F_literals cA ad F_literals), (k_F_leftOut cA ad F_leftOut), (k_U cA ad U_conflict_26 U_changed_26), (k_U_told cA ad U_told_26)] H locs := hw
    exact False.elim h.2
  · have h := h.1 hc
    exact hT 0 _ _ 43 105 47 "no such line" h hl.1 ⟨(hg gm_263), (hg gm_10), by decide +kernel, site_0 hg hK.2, d_P_good_11, d_P_good_14, d_P_good_15, d_P_good_17, d_P_good_20, by decide +kernel⟩
def rx_P_lineAt : Room := { frames := 6, cells := 1, slots := 6, locals := 82 }
set_option maxHeartbeats 4000000 in
set_option maxRecDepth 100000 in
theorem t_P_lineAt (l : Launch) (hl9 : l.stackTraces = false) (D : va_G) (cA : Nat → ClassId) (ad : Nat → Nat) (s0 : State) (hs0 : tS s0) (sz : Nat) (F_size : Int32) (F_kinds : (Nat → Int32)) (F_sizes : (Nat → Int32)) (F_literals : (Nat → Int32)) (p1 : Int32) (p2 : Int32) (px : Nat → Prop) (h : wp_P_lineAt F_size F_kinds F_sizes F_literals p1 p2 (fun _ => False) (fun k => px k)) : xMet l y_P_lineAt w_P_lineAt rx_P_lineAt (mPcO D cA s0 [.ref (ad 0), .int p1, .int p2] [(k_P cA ad), (k_F cA ad F_size), (k_F_kinds cA ad F_kinds), (k_F_sizes cA ad F_sizes), (k_F_literals cA ad F_literals)] sz) px := by
  refine x_meth hl9 hs0 (by decide) rfl (Nat.le_of_ble_eq_true rfl) ⟨Nat.le_of_ble_eq_true rfl, Nat.le_of_ble_eq_true rfl, Nat.le_of_ble_eq_true rfl, Nat.le_of_ble_eq_true rfl⟩ ?_
  intro p e s m below meth c A Q ls hx hb hml hown hts hK hA hw hl hT
  have hl : lv_has ls 3 [(0, .ref (ad 0)), (1, .int p1), (2, .int p2)] := hl
  have hown : s.vm.findClass R_P = some m.cls := hown
  have hg : ∀ {w : Cond}, w ∈ gw → w.before _ s = true := fun h => hts _ (List.mem_cons_of_mem _ h)
  unfold wp_P_lineAt at h
  refine lv_aload_n hx hb d_P_lineAt_0 rfl (lv_at hl 0 rfl) ?_
  refine va_get (D := D) (ci := 0) (v := .ref (ad 6)) (C := R_P) (T := T_P) (N := 4) hx hb hts (fun w h => List.mem_cons_of_mem _ (iw_P w h)) hown hK.1 hw.1 0 rfl rfl 1 (by decide) (hg gm_142) (fun _ h9 => h9) rfl d_P_lineAt_1 ?_
  refine lv_iload_n hx hb d_P_lineAt_4 rfl (lv_at hl 1 rfl) ?_
  refine m_callr (hr := va_runVN (As := [.int p1]) (rest := []) ⟨hx, hb, hml, hown, hts⟩ (r_F_has l D cA ad _ F_size p1 _ h) ⟨va_cnB 1 hts (gin gm_387) rfl rfl rfl (hK.2 _ nw_384) (hg gm_3) (by decide +kernel) ⟨Nat.le_of_ble_eq_true rfl, Nat.le_of_ble_eq_true rfl⟩, hg gm_386, hg gs_22⟩ (m_preV 2 1 rfl rfl hK hw [1] rfl rfl) rfl rfl hl.1 rfl (lv_room (Nat.le_of_ble_eq_true rfl)) d_P_lineAt_5 ⟨Nat.zero_le _, Nat.zero_le _⟩) (fun r5 h => ?_)
  refine lv_if_eq (tgt := 30) hx hb d_P_lineAt_8 (by decide) (fun hc => ?_) (fun hc => ?_)
  · have h := h.1 hc
    exact hT 0 _ _ 43 113 47 "no such line or place" h hl.1 ⟨(hg gm_263), (hg gm_10), by decide +kernel, site_0 hg hK.2, d_P_lineAt_30, d_P_lineAt_33, d_P_lineAt_34, d_P_lineAt_36, d_P_lineAt_39, by decide +kernel⟩
  · have h := h.2 hc
    refine lv_iload_n hx hb d_P_lineAt_11 rfl (lv_at hl 2 rfl) ?_
    refine lv_if_lt (tgt := 30) hx hb d_P_lineAt_12 (by decide) (fun hc => ?_) (fun hc => ?_)
    · have h := h.1 hc
      exact hT 0 _ _ 43 113 47 "no such line or place" h hl.1 ⟨(hg gm_263), (hg gm_10), by decide +kernel, site_0 hg hK.2, d_P_lineAt_30, d_P_lineAt_33, d_P_lineAt_34, d_P_lineAt_36, d_P_lineAt_39, by decide +kernel⟩
    · have h := h.2 hc
      refine lv_iload_n hx hb d_P_lineAt_15 rfl (lv_at hl 2 rfl) ?_
      refine lv_iconst (v := 2) hx hb d_P_lineAt_16 (by decide) ?_
      refine lv_aload_n hx hb d_P_lineAt_17 rfl (lv_at hl 0 rfl) ?_
      refine va_get (D := D) (ci := 0) (v := .ref (ad 6)) (C := R_P) (T := T_P) (N := 4) hx hb hts (fun w h => List.mem_cons_of_mem _ (iw_P w h)) hown hK.1 hw.1 0 rfl rfl 1 (by decide) (hg gm_142) (fun _ h9 => h9) rfl d_P_lineAt_18 ?_
      refine va_getN (D := D) (ci := 2) (v := .ref (ad 8)) (C := R_F) (T := T_F) (N := 5) hx hb hts (fun w h => List.mem_cons_of_mem _ (iw_F w h)) hown hK.1 hw.1 1 rfl rfl 1 (by decide) (va_Nw.use rfl (hK.2 _ nw_72)) (fun _ h9 => h9) rfl d_P_lineAt_21 ?_
      refine lv_iload_n hx hb d_P_lineAt_24 rfl (lv_at hl 1 rfl) ?_
      refine va_iald hx hb hK.1 hw.1 3 0 rfl rfl h.1 d_P_lineAt_25 ?_
      have h := h.2
      refine lv_iadd hx hb d_P_lineAt_26 ?_
      refine lv_icmp_lt (tgt := 40) hx hb d_P_lineAt_27 (by decide) (fun hc => ?_) (fun hc => ?_)
      · have h := h.1 hc
        refine lv_iload_n hx hb d_P_lineAt_40 rfl (lv_at hl 2 rfl) ?_
        refine lv_if_ne (tgt := 54) hx hb d_P_lineAt_41 (by decide) (fun hc => ?_) (fun hc => ?_)
        · have h := h.2 hc
          refine lv_iload_n hx hb d_P_lineAt_54 rfl (lv_at hl 2 rfl) ?_
          refine lv_iconst (v := 1) hx hb d_P_lineAt_55 (by decide) ?_
          refine lv_icmp_ne (tgt := 71) hx hb d_P_lineAt_56 (by decide) (fun hc => ?_) (fun hc => ?_)
          · have h := h.2 hc
            refine lv_aload_n hx hb d_P_lineAt_71 rfl (lv_at hl 0 rfl) ?_
            refine va_get (D := D) (ci := 0) (v := .ref (ad 6)) (C := R_P) (T := T_P) (N := 4) hx hb hts (fun w h => List.mem_cons_of_mem _ (iw_P w h)) hown hK.1 hw.1 0 rfl rfl 1 (by decide) (hg gm_142) (fun _ h9 => h9) rfl d_P_lineAt_72 ?_
            refine lv_iload_n hx hb d_P_lineAt_75 rfl (lv_at hl 1 rfl) ?_
            refine lv_iload_n hx hb d_P_lineAt_76 rfl (lv_at hl 2 rfl) ?_
            refine lv_iconst (v := 2) hx hb d_P_lineAt_77 (by decide) ?_
            refine lv_isub hx hb d_P_lineAt_78 ?_
            refine m_callr (hr := va_runVN (As := [.int p1, .int (p2 - 2)]) (rest := []) ⟨hx, hb, hml, hown, hts⟩ (r_F_literalOf l D cA ad _ F_size F_literals p1 (p2 - 2) _ h) ⟨va_cnB 2 hts (gin gm_235) rfl rfl rfl (hK.2 _ nw_476) (hg gm_3) (by decide +kernel) ⟨Nat.le_of_ble_eq_true rfl, Nat.le_of_ble_eq_true rfl⟩, hg gm_234, hg gs_16⟩ (m_preV 2 1 rfl rfl hK hw [1, 4] rfl rfl) rfl rfl hl.1 rfl (lv_room (Nat.le_of_ble_eq_true rfl)) d_P_lineAt_79 ⟨Nat.zero_le _, Nat.zero_le _⟩) (fun r79 h => ?_)
            exact False.elim h
          · have h := h.1 hc
            refine lv_aload_n hx hb d_P_lineAt_59 rfl (lv_at hl 0 rfl) ?_
            refine va_get (D := D) (ci := 0) (v := .ref (ad 6)) (C := R_P) (T := T_P) (N := 4) hx hb hts (fun w h => List.mem_cons_of_mem _ (iw_P w h)) hown hK.1 hw.1 0 rfl rfl 1 (by decide) (hg gm_142) (fun _ h9 => h9) rfl d_P_lineAt_60 ?_
            refine va_getN (D := D) (ci := 2) (v := .ref (ad 8)) (C := R_F) (T := T_F) (N := 5) hx hb hts (fun w h => List.mem_cons_of_mem _ (iw_F w h)) hown hK.1 hw.1 1 rfl rfl 1 (by decide) (va_Nw.use rfl (hK.2 _ nw_72)) (fun _ h9 => h9) rfl d_P_lineAt_63 ?_
            refine lv_iload_n hx hb d_P_lineAt_66 rfl (lv_at hl 1 rfl) ?_
            refine va_iald hx hb hK.1 hw.1 3 0 rfl rfl h.1 d_P_lineAt_67 ?_
            have h := h.2
            refine lv_goto (tgt := 82) hx hb d_P_lineAt_68 (by decide) ?_
            exact False.elim h
        · have h := h.1 hc
          refine lv_aload_n hx hb d_P_lineAt_44 rfl (lv_at hl 0 rfl) ?_
          refine va_get (D := D) (ci := 0) (v := .ref (ad 6)) (C := R_P) (T := T_P) (N := 4) hx hb hts (fun w h => List.mem_cons_of_mem _ (iw_P w h)) hown hK.1 hw.1 0 rfl rfl 1 (by decide) (hg gm_142) (fun _ h9 => h9) rfl d_P_lineAt_45 ?_
          refine va_getN (D := D) (ci := 2) (v := .ref (ad 7)) (C := R_F) (T := T_F) (N := 5) hx hb hts (fun w h => List.mem_cons_of_mem _ (iw_F w h)) hown hK.1 hw.1 1 rfl rfl 0 (by decide) (va_Nw.use rfl (hK.2 _ nw_66)) (fun _ h9 => h9) rfl d_P_lineAt_48 ?_
          refine lv_iload_n hx hb d_P_lineAt_51 rfl (lv_at hl 1 rfl) ?_
          refine va_iald hx hb hK.1 hw.1 2 0 rfl rfl h.1 d_P_lineAt_52 ?_
          have h := h.2
          exact False.elim h
      · have h := h.2 hc
        exact hT 0 _ _ 43 113 47 "no such line or place" h hl.1 ⟨(hg gm_263), (hg gm_10), by decide +kernel, site_0 hg hK.2, d_P_lineAt_30, d_P_lineAt_33, d_P_lineAt_34, d_P_lineAt_36, d_P_lineAt_39, by decide +kernel⟩
def rx_P_implied : Room := { frames := 6, cells := 1, slots := 6, locals := 82 }
set_option maxHeartbeats 4000000 in
set_option maxRecDepth 100000 in
theorem t_P_implied (l : Launch) (hl9 : l.stackTraces = false) (D : va_G) (cA : Nat → ClassId) (ad : Nat → Nat) (s0 : State) (hs0 : tS s0) (sz : Nat) (G_size : Int32) (G_inputs : Int32) (G_kinds : (Nat → Int32)) (G_lefts : (Nat → Int32)) (G_rights : (Nat → Int32)) (F_size : Int32) (F_kinds : (Nat → Int32)) (F_sizes : (Nat → Int32)) (F_literals : (Nat → Int32)) (F_leftOut : (Nat → Int32)) (U_conflict : Int32) (U_changed : Int32) (U_told : (Nat → Int32)) (p1 : Int32) (p2 : Int32) (p3 : Int32) (p4 : Int32) (px : Nat → Prop) (h : wp_P_implied G_size G_kinds G_lefts G_rights F_size F_kinds F_sizes F_literals F_leftOut U_conflict U_changed U_told p1 p2 p3 p4 (fun _ _ _ _ => False) (fun k _ _ _ => px k)) : xMet l y_P_implied w_P_implied rx_P_implied (mPcO D cA s0 [.ref (ad 0), .int p1, .int p2, .int p3, .int p4] [(k_P cA ad), (k_G cA ad G_size G_inputs), (k_G_kinds cA ad G_kinds), (k_G_lefts cA ad G_lefts), (k_G_rights cA ad G_rights), (k_F cA ad F_size), (k_F_kinds cA ad F_kinds), (k_F_sizes cA ad F_sizes), (k_F_literals cA ad F_literals), (k_F_leftOut cA ad F_leftOut), (k_U cA ad U_conflict U_changed), (k_U_told cA ad U_told)] sz) px := by
  refine x_meth hl9 hs0 (by decide) rfl (Nat.le_of_ble_eq_true rfl) ⟨Nat.le_of_ble_eq_true rfl, Nat.le_of_ble_eq_true rfl, Nat.le_of_ble_eq_true rfl, Nat.le_of_ble_eq_true rfl⟩ ?_
  intro p e s m below meth c A Q ls hx hb hml hown hts hK hA hw hl hT
  have hl : lv_has ls 5 [(0, .ref (ad 0)), (1, .int p1), (2, .int p2), (3, .int p3), (4, .int p4)] := hl
  have hown : s.vm.findClass R_P = some m.cls := hown
  have hg : ∀ {w : Cond}, w ∈ gw → w.before _ s = true := fun h => hts _ (List.mem_cons_of_mem _ h)
  unfold wp_P_implied at h
  refine lv_aload_n hx hb d_P_implied_0 rfl (lv_at hl 0 rfl) ?_
  refine lv_iload_n hx hb d_P_implied_1 rfl (lv_at hl 1 rfl) ?_
  refine m_callr (hr := va_runV (As := [.int p1]) (rest := []) ⟨hx, hb, hml, hown, hts⟩ (r_P_isNoneOrLiteral l D cA ad _ G_size G_inputs p1 _ h) (cwV 1 hts (ginV gm_484 gm_486 gs_35 gm_1 gm_487) rfl rfl rfl (by decide +kernel) ⟨Nat.le_of_ble_eq_true rfl, Nat.le_of_ble_eq_true rfl⟩) (m_preV 0 0 rfl rfl hK hw [0, 1] rfl rfl) rfl rfl hl.1 rfl (lv_room (Nat.le_of_ble_eq_true rfl)) d_P_implied_2 ⟨Nat.zero_le _, Nat.zero_le _⟩) (fun r2 h => ?_)
  refine lv_if_eq (tgt := 36) hx hb d_P_implied_5 (by decide) (fun hc => ?_) (fun hc => ?_)
  · have h := h.1 hc
    exact hT 0 _ _ 43 122 47 "no such literal or gate" h hl.1 ⟨(hg gm_263), (hg gm_10), by decide +kernel, site_0 hg hK.2, d_P_implied_36, d_P_implied_39, d_P_implied_40, d_P_implied_42, d_P_implied_45, by decide +kernel⟩
  · have h := h.2 hc
    refine lv_aload_n hx hb d_P_implied_8 rfl (lv_at hl 0 rfl) ?_
    refine lv_iload_n hx hb d_P_implied_9 rfl (lv_at hl 2 rfl) ?_
    refine m_callr (hr := va_runV (As := [.int p2]) (rest := []) ⟨hx, hb, hml, hown, hts⟩ (r_P_isNoneOrLiteral l D cA ad _ G_size G_inputs p2 _ h) (cwV 1 hts (ginV gm_484 gm_486 gs_35 gm_1 gm_487) rfl rfl rfl (by decide +kernel) ⟨Nat.le_of_ble_eq_true rfl, Nat.le_of_ble_eq_true rfl⟩) (m_preV 0 0 rfl rfl hK hw [0, 1] rfl rfl) rfl rfl hl.1 rfl (lv_room (Nat.le_of_ble_eq_true rfl)) d_P_implied_10 ⟨Nat.zero_le _, Nat.zero_le _⟩) (fun r10 h => ?_)
    refine lv_if_eq (tgt := 36) hx hb d_P_implied_13 (by decide) (fun hc => ?_) (fun hc => ?_)
    · have h := h.1 hc
      exact hT 0 _ _ 43 122 47 "no such literal or gate" h hl.1 ⟨(hg gm_263), (hg gm_10), by decide +kernel, site_0 hg hK.2, d_P_implied_36, d_P_implied_39, d_P_implied_40, d_P_implied_42, d_P_implied_45, by decide +kernel⟩
    · have h := h.2 hc
      refine lv_aload_n hx hb d_P_implied_16 rfl (lv_at hl 0 rfl) ?_
      refine lv_iload_n hx hb d_P_implied_17 rfl (lv_at hl 3 rfl) ?_
      refine m_callr (hr := va_runV (As := [.int p3]) (rest := []) ⟨hx, hb, hml, hown, hts⟩ (r_P_isNoneOrLiteral l D cA ad _ G_size G_inputs p3 _ h) (cwV 1 hts (ginV gm_484 gm_486 gs_35 gm_1 gm_487) rfl rfl rfl (by decide +kernel) ⟨Nat.le_of_ble_eq_true rfl, Nat.le_of_ble_eq_true rfl⟩) (m_preV 0 0 rfl rfl hK hw [0, 1] rfl rfl) rfl rfl hl.1 rfl (lv_room (Nat.le_of_ble_eq_true rfl)) d_P_implied_18 ⟨Nat.zero_le _, Nat.zero_le _⟩) (fun r18 h => ?_)
      refine lv_if_eq (tgt := 36) hx hb d_P_implied_21 (by decide) (fun hc => ?_) (fun hc => ?_)
      · have h := h.1 hc
        exact hT 0 _ _ 43 122 47 "no such literal or gate" h hl.1 ⟨(hg gm_263), (hg gm_10), by decide +kernel, site_0 hg hK.2, d_P_implied_36, d_P_implied_39, d_P_implied_40, d_P_implied_42, d_P_implied_45, by decide +kernel⟩
      · have h := h.2 hc
        refine lv_aload_n hx hb d_P_implied_24 rfl (lv_at hl 0 rfl) ?_
        refine va_get (D := D) (ci := 0) (v := .ref (ad 1)) (C := R_P) (T := T_P) (N := 4) hx hb hts (fun w h => List.mem_cons_of_mem _ (iw_P w h)) hown hK.1 hw.1 0 rfl rfl 0 (by decide) (hg gm_141) (fun _ h9 => h9) rfl d_P_implied_25 ?_
        refine lv_iload hx hb d_P_implied_28 (lv_at hl 4 rfl) ?_
        refine m_callr (hr := va_runVN (As := [.int p4]) (rest := []) ⟨hx, hb, hml, hown, hts⟩ (r_G_has l D cA ad _ G_size G_inputs p4 _ h) ⟨va_cnB 1 hts (gin gm_227) rfl rfl rfl (hK.2 _ nw_488) (hg gm_2) (by decide +kernel) ⟨Nat.le_of_ble_eq_true rfl, Nat.le_of_ble_eq_true rfl⟩, hg gm_226, hg gs_14⟩ (m_preV 1 1 rfl rfl hK hw [1] rfl rfl) rfl rfl hl.1 rfl (lv_room (Nat.le_of_ble_eq_true rfl)) d_P_implied_30 ⟨Nat.zero_le _, Nat.zero_le _⟩) (fun r30 h => ?_)
        refine lv_if_ne (tgt := 46) hx hb d_P_implied_33 (by decide) (fun hc => ?_) (fun hc => ?_)
        · have h := h.2 hc
          refine lv_aload_n hx hb d_P_implied_46 rfl (lv_at hl 0 rfl) ?_
          refine va_get (D := D) (ci := 0) (v := .ref (ad 11)) (C := R_P) (T := T_P) (N := 4) hx hb hts (fun w h => List.mem_cons_of_mem _ (iw_P w h)) hown hK.1 hw.1 0 rfl rfl 2 (by decide) (hg gm_143) (fun _ h9 => h9) rfl d_P_implied_47 ?_
          refine m_callv (hr := va_runVN (As := []) (rest := []) ⟨hx, hb, hml, hown, hts⟩ (c_U_begin l D cA ad _ U_conflict U_changed U_told _ h) ⟨va_cnB 0 hts (gin gm_424) rfl rfl rfl (hK.2 _ nw_490) (hg gm_4) (by decide +kernel) ⟨Nat.le_of_ble_eq_true rfl, Nat.le_of_ble_eq_true rfl⟩, hg gm_423, hg gs_26⟩ (m_preV 3 10 rfl rfl hK hw [10, 11] rfl rfl) rfl rfl hl.1 rfl (lv_room (Nat.le_of_ble_eq_true rfl)) d_P_implied_50 ⟨Nat.zero_le _, Nat.zero_le _⟩) (w2 := (fun (u : Int32 × (Nat → Int32)) => [(k_P cA ad), (k_G cA ad G_size G_inputs), (k_G_kinds cA ad G_kinds), (k_G_lefts cA ad G_lefts), (k_G_rights cA ad G_rights), (k_F cA ad F_size), (k_F_kinds cA ad F_kinds), (k_F_sizes cA ad F_sizes), (k_F_literals cA ad F_literals), (k_F_leftOut cA ad F_leftOut), (k_U cA ad u.1 U_changed), (k_U_told cA ad u.2)])) (wr := [(k_P cA ad), (k_G cA ad G_size G_inputs), (k_G_kinds cA ad G_kinds), (k_G_lefts cA ad G_lefts), (k_G_rights cA ad G_rights), (k_F cA ad F_size), (k_F_kinds cA ad F_kinds), (k_F_sizes cA ad F_sizes), (k_F_literals cA ad F_literals), (k_F_leftOut cA ad F_leftOut)]) hw hA [10, 11] [0, 1, 2, 3, 4, 5, 6, 7, 8, 9] [0, 1, 2, 3, 4, 5, 6, 7, 8, 9, 10, 11] rfl rfl (by decide) (by decide) (by decide) (fun _ => rfl) (fun u H locs hw h => ?_)
          obtain ⟨U_conflict_50, U_told_50⟩ := u
          have hw : mW D A s.heap [(k_P cA ad), (k_G cA ad G_size G_inputs), (k_G_kinds cA ad G_kinds), (k_G_lefts cA ad G_lefts), (k_G_rights cA ad G_rights), (k_F cA ad F_size), (k_F_kinds cA ad F_kinds), (k_F_sizes cA ad F_sizes), (k_F_literals cA ad F_literals), (k_F_leftOut cA ad F_leftOut), (k_U cA ad U_conflict_50 U_changed), (k_U_told cA ad U_told_50)] H locs := hw
          refine lv_aload_n hx hb d_P_implied_53 rfl (lv_at hl 0 rfl) ?_
          refine lv_iload_n hx hb d_P_implied_54 rfl (lv_at hl 1 rfl) ?_
          refine m_callv (hr := va_runV (As := [.int p1]) (rest := []) ⟨hx, hb, hml, hown, hts⟩ (c_P_assumeUnlessNone l D cA ad _ U_conflict_50 U_changed U_told_50 p1 _ h) (cwV 1 hts (ginV gm_491 gm_493 gs_36 gm_1 gm_494) rfl rfl rfl (by decide +kernel) ⟨Nat.le_of_ble_eq_true rfl, Nat.le_of_ble_eq_true rfl⟩) (m_preV 0 0 rfl rfl hK hw [0, 10, 11] rfl rfl) rfl rfl hl.1 rfl (lv_room (Nat.le_of_ble_eq_true rfl)) d_P_implied_55 ⟨Nat.zero_le _, Nat.zero_le _⟩) (w2 := (fun (u : Int32 × Int32 × (Nat → Int32)) => [(k_P cA ad), (k_G cA ad G_size G_inputs), (k_G_kinds cA ad G_kinds), (k_G_lefts cA ad G_lefts), (k_G_rights cA ad G_rights), (k_F cA ad F_size), (k_F_kinds cA ad F_kinds), (k_F_sizes cA ad F_sizes), (k_F_literals cA ad F_literals), (k_F_leftOut cA ad F_leftOut), (k_U cA ad u.1 u.2.1), (k_U_told cA ad u.2.2)])) (wr := [(k_G cA ad G_size G_inputs), (k_G_kinds cA ad G_kinds), (k_G_lefts cA ad G_lefts), (k_G_rights cA ad G_rights), (k_F cA ad F_size), (k_F_kinds cA ad F_kinds), (k_F_sizes cA ad F_sizes), (k_F_literals cA ad F_literals), (k_F_leftOut cA ad F_leftOut)]) hw hA [0, 10, 11] [1, 2, 3, 4, 5, 6, 7, 8, 9] [9, 0, 1, 2, 3, 4, 5, 6, 7, 8, 10, 11] rfl rfl (by decide) (by decide) (by decide) (fun _ => rfl) (fun u H locs hw h => ?_)
          obtain ⟨U_conflict_55, U_changed_55, U_told_55⟩ := u
          have hw : mW D A s.heap [(k_P cA ad), (k_G cA ad G_size G_inputs), (k_G_kinds cA ad G_kinds), (k_G_lefts cA ad G_lefts), (k_G_rights cA ad G_rights), (k_F cA ad F_size), (k_F_kinds cA ad F_kinds), (k_F_sizes cA ad F_sizes), (k_F_literals cA ad F_literals), (k_F_leftOut cA ad F_leftOut), (k_U cA ad U_conflict_55 U_changed_55), (k_U_told cA ad U_told_55)] H locs := hw
          refine lv_aload_n hx hb d_P_implied_58 rfl (lv_at hl 0 rfl) ?_
          refine lv_iload_n hx hb d_P_implied_59 rfl (lv_at hl 2 rfl) ?_
          refine m_callv (hr := va_runV (As := [.int p2]) (rest := []) ⟨hx, hb, hml, hown, hts⟩ (c_P_assumeUnlessNone l D cA ad _ U_conflict_55 U_changed_55 U_told_55 p2 _ h) (cwV 1 hts (ginV gm_491 gm_493 gs_36 gm_1 gm_494) rfl rfl rfl (by decide +kernel) ⟨Nat.le_of_ble_eq_true rfl, Nat.le_of_ble_eq_true rfl⟩) (m_preV 0 0 rfl rfl hK hw [0, 10, 11] rfl rfl) rfl rfl hl.1 rfl (lv_room (Nat.le_of_ble_eq_true rfl)) d_P_implied_60 ⟨Nat.zero_le _, Nat.zero_le _⟩) (w2 := (fun (u : Int32 × Int32 × (Nat → Int32)) => [(k_P cA ad), (k_G cA ad G_size G_inputs), (k_G_kinds cA ad G_kinds), (k_G_lefts cA ad G_lefts), (k_G_rights cA ad G_rights), (k_F cA ad F_size), (k_F_kinds cA ad F_kinds), (k_F_sizes cA ad F_sizes), (k_F_literals cA ad F_literals), (k_F_leftOut cA ad F_leftOut), (k_U cA ad u.1 u.2.1), (k_U_told cA ad u.2.2)])) (wr := [(k_G cA ad G_size G_inputs), (k_G_kinds cA ad G_kinds), (k_G_lefts cA ad G_lefts), (k_G_rights cA ad G_rights), (k_F cA ad F_size), (k_F_kinds cA ad F_kinds), (k_F_sizes cA ad F_sizes), (k_F_literals cA ad F_literals), (k_F_leftOut cA ad F_leftOut)]) hw hA [0, 10, 11] [1, 2, 3, 4, 5, 6, 7, 8, 9] [9, 0, 1, 2, 3, 4, 5, 6, 7, 8, 10, 11] rfl rfl (by decide) (by decide) (by decide) (fun _ => rfl) (fun u H locs hw h => ?_)
          obtain ⟨U_conflict_60, U_changed_60, U_told_60⟩ := u
          have hw : mW D A s.heap [(k_P cA ad), (k_G cA ad G_size G_inputs), (k_G_kinds cA ad G_kinds), (k_G_lefts cA ad G_lefts), (k_G_rights cA ad G_rights), (k_F cA ad F_size), (k_F_kinds cA ad F_kinds), (k_F_sizes cA ad F_sizes), (k_F_literals cA ad F_literals), (k_F_leftOut cA ad F_leftOut), (k_U cA ad U_conflict_60 U_changed_60), (k_U_told cA ad U_told_60)] H locs := hw
          refine lv_aload_n hx hb d_P_implied_63 rfl (lv_at hl 0 rfl) ?_
          refine lv_iload_n hx hb d_P_implied_64 rfl (lv_at hl 3 rfl) ?_
          refine m_callv (hr := va_runV (As := [.int p3]) (rest := []) ⟨hx, hb, hml, hown, hts⟩ (c_P_assumeUnlessNone l D cA ad _ U_conflict_60 U_changed_60 U_told_60 p3 _ h) (cwV 1 hts (ginV gm_491 gm_493 gs_36 gm_1 gm_494) rfl rfl rfl (by decide +kernel) ⟨Nat.le_of_ble_eq_true rfl, Nat.le_of_ble_eq_true rfl⟩) (m_preV 0 0 rfl rfl hK hw [0, 10, 11] rfl rfl) rfl rfl hl.1 rfl (lv_room (Nat.le_of_ble_eq_true rfl)) d_P_implied_65 ⟨Nat.zero_le _, Nat.zero_le _⟩) (w2 := (fun (u : Int32 × Int32 × (Nat → Int32)) => [(k_P cA ad), (k_G cA ad G_size G_inputs), (k_G_kinds cA ad G_kinds), (k_G_lefts cA ad G_lefts), (k_G_rights cA ad G_rights), (k_F cA ad F_size), (k_F_kinds cA ad F_kinds), (k_F_sizes cA ad F_sizes), (k_F_literals cA ad F_literals), (k_F_leftOut cA ad F_leftOut), (k_U cA ad u.1 u.2.1), (k_U_told cA ad u.2.2)])) (wr := [(k_G cA ad G_size G_inputs), (k_G_kinds cA ad G_kinds), (k_G_lefts cA ad G_lefts), (k_G_rights cA ad G_rights), (k_F cA ad F_size), (k_F_kinds cA ad F_kinds), (k_F_sizes cA ad F_sizes), (k_F_literals cA ad F_literals), (k_F_leftOut cA ad F_leftOut)]) hw hA [0, 10, 11] [1, 2, 3, 4, 5, 6, 7, 8, 9] [9, 0, 1, 2, 3, 4, 5, 6, 7, 8, 10, 11] rfl rfl (by decide) (by decide) (by decide) (fun _ => rfl) (fun u H locs hw h => ?_)
          obtain ⟨U_conflict_65, U_changed_65, U_told_65⟩ := u
          have hw : mW D A s.heap [(k_P cA ad), (k_G cA ad G_size G_inputs), (k_G_kinds cA ad G_kinds), (k_G_lefts cA ad G_lefts), (k_G_rights cA ad G_rights), (k_F cA ad F_size), (k_F_kinds cA ad F_kinds), (k_F_sizes cA ad F_sizes), (k_F_literals cA ad F_literals), (k_F_leftOut cA ad F_leftOut), (k_U cA ad U_conflict_65 U_changed_65), (k_U_told cA ad U_told_65)] H locs := hw
          refine lv_aload_n hx hb d_P_implied_68 rfl (lv_at hl 0 rfl) ?_
          refine va_get (D := D) (ci := 0) (v := .ref (ad 11)) (C := R_P) (T := T_P) (N := 4) hx hb hts (fun w h => List.mem_cons_of_mem _ (iw_P w h)) hown hK.1 hw.1 0 rfl rfl 2 (by decide) (hg gm_143) (fun _ h9 => h9) rfl d_P_implied_69 ?_
          refine lv_aload_n hx hb d_P_implied_72 rfl (lv_at hl 0 rfl) ?_
          refine va_get (D := D) (ci := 0) (v := .ref (ad 6)) (C := R_P) (T := T_P) (N := 4) hx hb hts (fun w h => List.mem_cons_of_mem _ (iw_P w h)) hown hK.1 hw.1 0 rfl rfl 1 (by decide) (hg gm_142) (fun _ h9 => h9) rfl d_P_implied_73 ?_
          refine va_getN (D := D) (ci := 2) (v := .int F_size) (C := R_F) (T := T_F) (N := 5) hx hb hts (fun w h => List.mem_cons_of_mem _ (iw_F w h)) hown hK.1 hw.1 5 rfl rfl 4 (by decide) (va_Nw.use rfl (hK.2 _ nw_80)) (fun _ h9 => h9) rfl d_P_implied_76 ?_
          refine m_calli (hr := va_runVN (As := [.int F_size]) (rest := []) ⟨hx, hb, hml, hown, hts⟩ (c_U_comeToConflict l D cA ad _ G_size G_inputs G_kinds G_lefts G_rights F_size F_kinds F_sizes F_literals F_leftOut U_conflict_65 U_changed_65 U_told_65 F_size _ h) ⟨va_cnB 1 hts (gin gm_435) rfl rfl rfl (hK.2 _ nw_496) (hg gm_4) (by decide +kernel) ⟨Nat.le_of_ble_eq_true rfl, Nat.le_of_ble_eq_true rfl⟩, hg gm_434, hg gs_28⟩ (m_preV 3 10 rfl rfl hK hw [1, 2, 3, 4, 5, 6, 7, 8, 9, 10, 11] rfl rfl) rfl rfl hl.1 rfl (lv_room (Nat.le_of_ble_eq_true rfl)) d_P_implied_79 ⟨Nat.zero_le _, Nat.zero_le _⟩) (w2 := (fun (u : Int32 × Int32 × (Nat → Int32)) => [(k_P cA ad), (k_G cA ad G_size G_inputs), (k_G_kinds cA ad G_kinds), (k_G_lefts cA ad G_lefts), (k_G_rights cA ad G_rights), (k_F cA ad F_size), (k_F_kinds cA ad F_kinds), (k_F_sizes cA ad F_sizes), (k_F_literals cA ad F_literals), (k_F_leftOut cA ad F_leftOut), (k_U cA ad u.1 u.2.1), (k_U_told cA ad u.2.2)])) (wr := [(k_P cA ad)]) hw hA [1, 2, 3, 4, 5, 6, 7, 8, 9, 10, 11] [0] [0, 1, 2, 3, 4, 5, 6, 7, 8, 9, 10, 11] rfl rfl (by decide) (by decide) (by decide) (fun _ => rfl) (fun r79 u H locs hw h => ?_)
          obtain ⟨U_conflict_79, U_changed_79, U_told_79⟩ := u
          have hw : mW D A s.heap [(k_P cA ad), (k_G cA ad G_size G_inputs), (k_G_kinds cA ad G_kinds), (k_G_lefts cA ad G_lefts), (k_G_rights cA ad G_rights), (k_F cA ad F_size), (k_F_kinds cA ad F_kinds), (k_F_sizes cA ad F_sizes), (k_F_literals cA ad F_literals), (k_F_leftOut cA ad F_leftOut), (k_U cA ad U_conflict_79 U_changed_79), (k_U_told cA ad U_told_79)] H locs := hw
          refine lv_if_eq (tgt := 89) hx hb d_P_implied_82 (by decide) (fun hc => ?_) (fun hc => ?_)
          · have h := h.1 hc
            refine lv_aload_n hx hb d_P_implied_89 rfl (lv_at hl 0 rfl) ?_
            refine va_get (D := D) (ci := 0) (v := .ref (ad 11)) (C := R_P) (T := T_P) (N := 4) hx hb hts (fun w h => List.mem_cons_of_mem _ (iw_P w h)) hown hK.1 hw.1 0 rfl rfl 2 (by decide) (hg gm_143) (fun _ h9 => h9) rfl d_P_implied_90 ?_
            refine va_getN (D := D) (ci := 3) (v := .ref (ad 12)) (C := R_U) (T := T_U) (N := 5) hx hb hts (fun w h => List.mem_cons_of_mem _ (iw_U w h)) hown hK.1 hw.1 10 rfl rfl 2 (by decide) (va_Nw.use rfl (hK.2 _ nw_101)) (fun _ h9 => h9) rfl d_P_implied_93 ?_
            refine lv_iload hx hb d_P_implied_96 (lv_at hl 4 rfl) ?_
            refine va_iald hx hb hK.1 hw.1 11 0 rfl rfl h.1 d_P_implied_98 ?_
            have h := h.2
            exact False.elim h
          · have h := h.2 hc
            refine lv_iconst (v := 3) hx hb d_P_implied_85 (by decide) ?_
            refine lv_goto (tgt := 99) hx hb d_P_implied_86 (by decide) ?_
            exact False.elim h
        · have h := h.1 hc
          exact hT 0 _ _ 43 122 47 "no such literal or gate" h hl.1 ⟨(hg gm_263), (hg gm_10), by decide +kernel, site_0 hg hK.2, d_P_implied_36, d_P_implied_39, d_P_implied_40, d_P_implied_42, d_P_implied_45, by decide +kernel⟩
def rx_P_shorten : Room := { frames := 6, cells := 1, slots := 6, locals := 142 }
set_option maxHeartbeats 4000000 in
set_option maxRecDepth 100000 in
theorem t_P_shorten (l : Launch) (hl9 : l.stackTraces = false) (D : va_G) (cA : Nat → ClassId) (ad : Nat → Nat) (s0 : State) (hs0 : tS s0) (sz : Nat) (G_size : Int32) (G_inputs : Int32) (G_kinds : (Nat → Int32)) (G_lefts : (Nat → Int32)) (G_rights : (Nat → Int32)) (F_size : Int32) (F_kinds : (Nat → Int32)) (F_sizes : (Nat → Int32)) (F_literals : (Nat → Int32)) (F_leftOut : (Nat → Int32)) (U_conflict : Int32) (U_changed : Int32) (U_told : (Nat → Int32)) (p1 : Int32) (px : Nat → Prop) (h : wp_P_shorten G_size G_kinds G_lefts G_rights F_size F_kinds F_sizes F_literals F_leftOut U_conflict U_changed U_told p1 (fun _ _ _ _ _ _ _ _ _ => False) (fun k _ _ _ _ _ _ _ _ => px k)) : xMet l y_P_shorten w_P_shorten rx_P_shorten (mPcO D cA s0 [.ref (ad 0), .int p1] [(k_P cA ad), (k_G cA ad G_size G_inputs), (k_G_kinds cA ad G_kinds), (k_G_lefts cA ad G_lefts), (k_G_rights cA ad G_rights), (k_F cA ad F_size), (k_F_kinds cA ad F_kinds), (k_F_sizes cA ad F_sizes), (k_F_literals cA ad F_literals), (k_F_leftOut cA ad F_leftOut), (k_U cA ad U_conflict U_changed), (k_U_told cA ad U_told)] sz) px := by
  refine x_meth hl9 hs0 (by decide) rfl (Nat.le_of_ble_eq_true rfl) ⟨Nat.le_of_ble_eq_true rfl, Nat.le_of_ble_eq_true rfl, Nat.le_of_ble_eq_true rfl, Nat.le_of_ble_eq_true rfl⟩ ?_
  intro p e s m below meth c A Q ls hx hb hml hown hts hK hA hw hl hT
  have hl : lv_has ls 3 [(0, .ref (ad 0)), (1, .int p1)] := hl
  have hown : s.vm.findClass R_P = some m.cls := hown
  have hg : ∀ {w : Cond}, w ∈ gw → w.before _ s = true := fun h => hts _ (List.mem_cons_of_mem _ h)
  obtain ⟨C42, hC42⟩ : ∃ C : Int32 → Int32 → (Nat → Int32) → (Nat → Int32) → (Nat → Int32) → (Nat → Int32) → Int32 → Int32 → (Nat → Int32) → Prop, ∀ (x2 : Int32) (F_size : Int32) (F_kinds : (Nat → Int32)) (F_sizes : (Nat → Int32)) (F_literals : (Nat → Int32)) (F_leftOut : (Nat → Int32)) (U_conflict : Int32) (U_changed : Int32) (U_told : (Nat → Int32)), C x2 F_size F_kinds F_sizes F_literals F_leftOut U_conflict U_changed U_told ↔ (∀ (H : Heap) (locs : List Loc) (ls : Array Slot), mW D A s.heap [(k_P cA ad), (k_G cA ad G_size G_inputs), (k_G_kinds cA ad G_kinds), (k_G_lefts cA ad G_lefts), (k_G_rights cA ad G_rights), (k_F cA ad F_size), (k_F_kinds cA ad F_kinds), (k_F_sizes cA ad F_sizes), (k_F_literals cA ad F_literals), (k_F_leftOut cA ad F_leftOut), (k_U cA ad U_conflict U_changed), (k_U_told cA ad U_told)] H locs → lv_has ls 3 [(0, .ref (ad 0)), (1, .int p1), (2, .int x2)] → W p l e rx_P_shorten s m [.ref (ad 0), .int p1].toArray below meth c H locs 0 0 Q (F0 m 42 ls [])) := ⟨_, fun _ _ _ _ _ _ _ _ _ => Iff.rfl⟩
  have j80 : ∀ (s0 : Int32) (s1 : Int32) (x2 : Int32) (F_size : Int32) (F_kinds : (Nat → Int32)) (F_sizes : (Nat → Int32)) (F_literals : (Nat → Int32)) (F_leftOut : (Nat → Int32)) (U_conflict : Int32) (U_changed : Int32) (U_told : (Nat → Int32)) (H : Heap) (locs : List Loc) (ls : Array Slot), s_P_shorten_80 G_size G_kinds G_lefts G_rights p1 C42 (fun _ _ _ _ _ _ _ _ _ => False) (fun k _ _ _ _ _ _ _ _ => px k) s0 s1 x2 F_size F_kinds F_sizes F_literals F_leftOut U_conflict U_changed U_told → mW D A s.heap [(k_P cA ad), (k_G cA ad G_size G_inputs), (k_G_kinds cA ad G_kinds), (k_G_lefts cA ad G_lefts), (k_G_rights cA ad G_rights), (k_F cA ad F_size), (k_F_kinds cA ad F_kinds), (k_F_sizes cA ad F_sizes), (k_F_literals cA ad F_literals), (k_F_leftOut cA ad F_leftOut), (k_U cA ad U_conflict U_changed), (k_U_told cA ad U_told)] H locs → lv_has ls 3 [(0, .ref (ad 0)), (1, .int p1), (2, .int x2)] → W p l e rx_P_shorten s m [.ref (ad 0), .int p1].toArray below meth c H locs 0 0 Q (F0 m 80 ls [.int s0, .int s1, .ref (ad 10)]) := by
    intro s0 s1 x2 F_size F_kinds F_sizes F_literals F_leftOut U_conflict U_changed U_told H locs ls h hw hl
    unfold s_P_shorten_80 at h
    refine m_zast (ws' := [(k_P cA ad), (k_G cA ad G_size G_inputs), (k_G_kinds cA ad G_kinds), (k_G_lefts cA ad G_lefts), (k_G_rights cA ad G_rights), (k_F cA ad F_size), (k_F_kinds cA ad F_kinds), (k_F_sizes cA ad F_sizes), (k_F_literals cA ad F_literals), (k_F_leftOut cA ad (upd F_leftOut s1.toNatClampNeg (vp_nar .boolean s0))), (k_U cA ad U_conflict U_changed), (k_U_told cA ad U_told)]) hx hb hK.1 hw 9 1 rfl rfl h.1 rfl d_P_shorten_80 (fun H locs hw => ?_)
    have h := h.2
    refine lv_iinc (v := (x2 + (-1))) (lv' := [(2, .int (x2 + (-1))), (0, .ref (ad 0)), (1, .int p1)]) hx hb d_P_shorten_81 hl (k := 2) rfl rfl (by decide) rfl (fun ls hl => ?_)
    refine lv_goto (tgt := 42) hx hb d_P_shorten_84 (by decide) ?_
    exact (hC42 _ _ _ _ _ _ _ _ _).1 h _ _ _ hw (lv_sub hl [1, 2, 0] rfl)
  have hc42 : ∀ (x2 : Int32) (F_size : Int32) (F_kinds : (Nat → Int32)) (F_sizes : (Nat → Int32)) (F_literals : (Nat → Int32)) (F_leftOut : (Nat → Int32)) (U_conflict : Int32) (U_changed : Int32) (U_told : (Nat → Int32)), s_P_shorten_42 G_size G_kinds G_lefts G_rights p1 C42 (fun _ _ _ _ _ _ _ _ _ => False) (fun k _ _ _ _ _ _ _ _ => px k) x2 F_size F_kinds F_sizes F_literals F_leftOut U_conflict U_changed U_told → C42 x2 F_size F_kinds F_sizes F_literals F_leftOut U_conflict U_changed U_told := by
    intro x2 F_size F_kinds F_sizes F_literals F_leftOut U_conflict U_changed U_told h
    unfold s_P_shorten_42 at h
    refine (hC42 _ _ _ _ _ _ _ _ _).2 ?_
    intro H locs ls hw hl
    refine lv_iload_n hx hb d_P_shorten_42 rfl (lv_at hl 2 rfl) ?_
    refine lv_if_lt (tgt := 87) hx hb d_P_shorten_43 (by decide) (fun hc => ?_) (fun hc => ?_)
    · have h := h.1 hc
      refine lv_aload_n hx hb d_P_shorten_87 rfl (lv_at hl 0 rfl) ?_
      refine va_get (D := D) (ci := 0) (v := .ref (ad 6)) (C := R_P) (T := T_P) (N := 4) hx hb hts (fun w h => List.mem_cons_of_mem _ (iw_P w h)) hown hK.1 hw.1 0 rfl rfl 1 (by decide) (hg gm_142) (fun _ h9 => h9) rfl d_P_shorten_88 ?_
      refine m_callv (hr := va_runVN (As := []) (rest := []) ⟨hx, hb, hml, hown, hts⟩ (c_F_moveUp l D cA ad _ F_size F_kinds F_sizes F_literals F_leftOut _ h) ⟨va_cnB 0 hts (gin gm_507) rfl rfl rfl (hK.2 _ nw_504) (hg gm_3) (by decide +kernel) ⟨Nat.le_of_ble_eq_true rfl, Nat.le_of_ble_eq_true rfl⟩, hg gm_506, hg gs_37⟩ (m_preV 2 5 rfl rfl hK hw [5, 6, 7, 8, 9] rfl rfl) rfl rfl hl.1 rfl (lv_room (Nat.le_of_ble_eq_true rfl)) d_P_shorten_91 ⟨Nat.zero_le _, Nat.zero_le _⟩) (w2 := (fun (u : Int32 × (Nat → Int32) × (Nat → Int32) × (Nat → Int32) × (Nat → Int32)) => [(k_P cA ad), (k_G cA ad G_size G_inputs), (k_G_kinds cA ad G_kinds), (k_G_lefts cA ad G_lefts), (k_G_rights cA ad G_rights), (k_F cA ad u.1), (k_F_kinds cA ad u.2.1), (k_F_sizes cA ad u.2.2.1), (k_F_literals cA ad u.2.2.2.1), (k_F_leftOut cA ad u.2.2.2.2), (k_U cA ad U_conflict U_changed), (k_U_told cA ad U_told)])) (wr := [(k_P cA ad), (k_G cA ad G_size G_inputs), (k_G_kinds cA ad G_kinds), (k_G_lefts cA ad G_lefts), (k_G_rights cA ad G_rights), (k_U cA ad U_conflict U_changed), (k_U_told cA ad U_told)]) hw hA [5, 6, 7, 8, 9] [0, 1, 2, 3, 4, 10, 11] [0, 1, 2, 3, 4, 7, 8, 9, 10, 11, 5, 6] rfl rfl (by decide) (by decide) (by decide) (fun _ => rfl) (fun u H locs hw h => ?_)
      obtain ⟨F_size_91, F_kinds_91, F_sizes_91, F_literals_91, F_leftOut_91⟩ := u
      have hw : mW D A s.heap [(k_P cA ad), (k_G cA ad G_size G_inputs), (k_G_kinds cA ad G_kinds), (k_G_lefts cA ad G_lefts), (k_G_rights cA ad G_rights), (k_F cA ad F_size_91), (k_F_kinds cA ad F_kinds_91), (k_F_sizes cA ad F_sizes_91), (k_F_literals cA ad F_literals_91), (k_F_leftOut cA ad F_leftOut_91), (k_U cA ad U_conflict U_changed), (k_U_told cA ad U_told)] H locs := hw
      refine lv_aload_n hx hb d_P_shorten_94 rfl (lv_at hl 0 rfl) ?_
      refine va_get (D := D) (ci := 0) (v := .ref (ad 6)) (C := R_P) (T := T_P) (N := 4) hx hb hts (fun w h => List.mem_cons_of_mem _ (iw_P w h)) hown hK.1 hw.1 0 rfl rfl 1 (by decide) (hg gm_142) (fun _ h9 => h9) rfl d_P_shorten_95 ?_
      refine va_getN (D := D) (ci := 2) (v := .int F_size_91) (C := R_F) (T := T_F) (N := 5) hx hb hts (fun w h => List.mem_cons_of_mem _ (iw_F w h)) hown hK.1 hw.1 5 rfl rfl 4 (by decide) (va_Nw.use rfl (hK.2 _ nw_80)) (fun _ h9 => h9) rfl d_P_shorten_98 ?_
      exact False.elim h
    · have h := h.2 hc
      refine lv_aload_n hx hb d_P_shorten_46 rfl (lv_at hl 0 rfl) ?_
      refine va_get (D := D) (ci := 0) (v := .ref (ad 6)) (C := R_P) (T := T_P) (N := 4) hx hb hts (fun w h => List.mem_cons_of_mem _ (iw_P w h)) hown hK.1 hw.1 0 rfl rfl 1 (by decide) (hg gm_142) (fun _ h9 => h9) rfl d_P_shorten_47 ?_
      refine va_getN (D := D) (ci := 2) (v := .ref (ad 10)) (C := R_F) (T := T_F) (N := 5) hx hb hts (fun w h => List.mem_cons_of_mem _ (iw_F w h)) hown hK.1 hw.1 5 rfl rfl 3 (by decide) (va_Nw.use rfl (hK.2 _ nw_76)) (fun _ h9 => h9) rfl d_P_shorten_50 ?_
      refine lv_iload_n hx hb d_P_shorten_53 rfl (lv_at hl 2 rfl) ?_
      refine lv_iconst (v := 1) hx hb d_P_shorten_54 (by decide) ?_
      refine m_zast (ws' := [(k_P cA ad), (k_G cA ad G_size G_inputs), (k_G_kinds cA ad G_kinds), (k_G_lefts cA ad G_lefts), (k_G_rights cA ad G_rights), (k_F cA ad F_size), (k_F_kinds cA ad F_kinds), (k_F_sizes cA ad F_sizes), (k_F_literals cA ad F_literals), (k_F_leftOut cA ad (upd F_leftOut x2.toNatClampNeg (vp_nar .boolean 1))), (k_U cA ad U_conflict U_changed), (k_U_told cA ad U_told)]) hx hb hK.1 hw 9 1 rfl rfl h.1 rfl d_P_shorten_55 (fun H locs hw => ?_)
      have h := h.2
      refine lv_aload_n hx hb d_P_shorten_56 rfl (lv_at hl 0 rfl) ?_
      refine va_get (D := D) (ci := 0) (v := .ref (ad 6)) (C := R_P) (T := T_P) (N := 4) hx hb hts (fun w h => List.mem_cons_of_mem _ (iw_P w h)) hown hK.1 hw.1 0 rfl rfl 1 (by decide) (hg gm_142) (fun _ h9 => h9) rfl d_P_shorten_57 ?_
      refine va_getN (D := D) (ci := 2) (v := .ref (ad 10)) (C := R_F) (T := T_F) (N := 5) hx hb hts (fun w h => List.mem_cons_of_mem _ (iw_F w h)) hown hK.1 hw.1 5 rfl rfl 3 (by decide) (va_Nw.use rfl (hK.2 _ nw_76)) (fun _ h9 => h9) rfl d_P_shorten_60 ?_
      refine lv_iload_n hx hb d_P_shorten_63 rfl (lv_at hl 2 rfl) ?_
      refine lv_aload_n hx hb d_P_shorten_64 rfl (lv_at hl 0 rfl) ?_
      refine lv_iload_n hx hb d_P_shorten_65 rfl (lv_at hl 2 rfl) ?_
      refine lv_iconst (v := 1) hx hb d_P_shorten_66 (by decide) ?_
      refine lv_iadd hx hb d_P_shorten_67 ?_
      refine lv_iload_n hx hb d_P_shorten_68 rfl (lv_at hl 1 rfl) ?_
      refine m_calli (hr := va_runV (As := [.int (x2 + 1), .int p1]) (rest := [.int x2, .ref (ad 10)]) ⟨hx, hb, hml, hown, hts⟩ (c_P_firstBad l D cA ad _ G_size G_inputs G_kinds G_lefts G_rights F_size F_kinds F_sizes F_literals (upd F_leftOut x2.toNatClampNeg (vp_nar .boolean 1)) U_conflict U_changed U_told (x2 + 1) p1 _ h) (cwV 2 hts (ginV gm_408 gm_410 gs_23 gm_1 gm_411) rfl rfl rfl (by decide +kernel) ⟨Nat.le_of_ble_eq_true rfl, Nat.le_of_ble_eq_true rfl⟩) (m_preV 0 0 rfl rfl hK hw [0, 1, 2, 3, 4, 5, 6, 7, 8, 9, 10, 11] rfl rfl) rfl rfl hl.1 rfl (lv_room (Nat.le_of_ble_eq_true rfl)) d_P_shorten_69 ⟨Nat.zero_le _, Nat.zero_le _⟩) (w2 := (fun (u : Int32 × Int32 × (Nat → Int32)) => [(k_P cA ad), (k_G cA ad G_size G_inputs), (k_G_kinds cA ad G_kinds), (k_G_lefts cA ad G_lefts), (k_G_rights cA ad G_rights), (k_F cA ad F_size), (k_F_kinds cA ad F_kinds), (k_F_sizes cA ad F_sizes), (k_F_literals cA ad F_literals), (k_F_leftOut cA ad (upd F_leftOut x2.toNatClampNeg (vp_nar .boolean 1))), (k_U cA ad u.1 u.2.1), (k_U_told cA ad u.2.2)])) (wr := []) hw hA [0, 1, 2, 3, 4, 5, 6, 7, 8, 9, 10, 11] [] [0, 1, 2, 3, 4, 5, 6, 7, 8, 9, 10, 11] rfl rfl (by decide) (by decide) (by decide) (fun _ => rfl) (fun r69 u H locs hw h => ?_)
      obtain ⟨U_conflict_69, U_changed_69, U_told_69⟩ := u
      have hw : mW D A s.heap [(k_P cA ad), (k_G cA ad G_size G_inputs), (k_G_kinds cA ad G_kinds), (k_G_lefts cA ad G_lefts), (k_G_rights cA ad G_rights), (k_F cA ad F_size), (k_F_kinds cA ad F_kinds), (k_F_sizes cA ad F_sizes), (k_F_literals cA ad F_literals), (k_F_leftOut cA ad (upd F_leftOut x2.toNatClampNeg (vp_nar .boolean 1))), (k_U cA ad U_conflict_69 U_changed_69), (k_U_told cA ad U_told_69)] H locs := hw
      refine lv_if_ne (tgt := 79) hx hb d_P_shorten_72 (by decide) (fun hc => ?_) (fun hc => ?_)
      · have h := h.2 hc
        refine lv_iconst (v := 0) hx hb d_P_shorten_79 (by decide) ?_
        exact j80 _ _ _ _ _ _ _ _ _ _ _ _ _ _ h hw (lv_sub hl [0, 1, 2] rfl)
      · have h := h.1 hc
        refine lv_iconst (v := 1) hx hb d_P_shorten_75 (by decide) ?_
        refine lv_goto (tgt := 80) hx hb d_P_shorten_76 (by decide) ?_
        exact j80 _ _ _ _ _ _ _ _ _ _ _ _ _ _ h hw (lv_sub hl [0, 1, 2] rfl)
  unfold wp_P_shorten at h
  have h := h C42 hc42
  refine lv_aload_n hx hb d_P_shorten_0 rfl (lv_at hl 0 rfl) ?_
  refine va_get (D := D) (ci := 0) (v := .ref (ad 1)) (C := R_P) (T := T_P) (N := 4) hx hb hts (fun w h => List.mem_cons_of_mem _ (iw_P w h)) hown hK.1 hw.1 0 rfl rfl 0 (by decide) (hg gm_141) (fun _ h9 => h9) rfl d_P_shorten_1 ?_
  refine lv_iload_n hx hb d_P_shorten_4 rfl (lv_at hl 1 rfl) ?_
  refine m_callr (hr := va_runVN (As := [.int p1]) (rest := []) ⟨hx, hb, hml, hown, hts⟩ (r_G_hasLiteral l D cA ad _ G_size G_inputs p1 _ h) ⟨va_cnB 1 hts (gin gm_261) rfl rfl rfl (hK.2 _ nw_258) (hg gm_2) (by decide +kernel) ⟨Nat.le_of_ble_eq_true rfl, Nat.le_of_ble_eq_true rfl⟩, hg gm_260, hg gs_19⟩ (m_preV 1 1 rfl rfl hK hw [1] rfl rfl) rfl rfl hl.1 rfl (lv_room (Nat.le_of_ble_eq_true rfl)) d_P_shorten_5 ⟨Nat.zero_le _, Nat.zero_le _⟩) (fun r5 h => ?_)
  refine lv_if_ne (tgt := 21) hx hb d_P_shorten_8 (by decide) (fun hc => ?_) (fun hc => ?_)
  · have h := h.2 hc
    refine lv_aload_n hx hb d_P_shorten_21 rfl (lv_at hl 0 rfl) ?_
    refine lv_iconst (v := 0) hx hb d_P_shorten_22 (by decide) ?_
    refine lv_iload_n hx hb d_P_shorten_23 rfl (lv_at hl 1 rfl) ?_
    refine m_calli (hr := va_runV (As := [.int 0, .int p1]) (rest := []) ⟨hx, hb, hml, hown, hts⟩ (c_P_firstBad l D cA ad _ G_size G_inputs G_kinds G_lefts G_rights F_size F_kinds F_sizes F_literals F_leftOut U_conflict U_changed U_told 0 p1 _ h) (cwV 2 hts (ginV gm_408 gm_410 gs_23 gm_1 gm_411) rfl rfl rfl (by decide +kernel) ⟨Nat.le_of_ble_eq_true rfl, Nat.le_of_ble_eq_true rfl⟩) (m_preV 0 0 rfl rfl hK hw [0, 1, 2, 3, 4, 5, 6, 7, 8, 9, 10, 11] rfl rfl) rfl rfl hl.1 rfl (lv_room (Nat.le_of_ble_eq_true rfl)) d_P_shorten_24 ⟨Nat.zero_le _, Nat.zero_le _⟩) (w2 := (fun (u : Int32 × Int32 × (Nat → Int32)) => [(k_P cA ad), (k_G cA ad G_size G_inputs), (k_G_kinds cA ad G_kinds), (k_G_lefts cA ad G_lefts), (k_G_rights cA ad G_rights), (k_F cA ad F_size), (k_F_kinds cA ad F_kinds), (k_F_sizes cA ad F_sizes), (k_F_literals cA ad F_literals), (k_F_leftOut cA ad F_leftOut), (k_U cA ad u.1 u.2.1), (k_U_told cA ad u.2.2)])) (wr := []) hw hA [0, 1, 2, 3, 4, 5, 6, 7, 8, 9, 10, 11] [] [0, 1, 2, 3, 4, 5, 6, 7, 8, 9, 10, 11] rfl rfl (by decide) (by decide) (by decide) (fun _ => rfl) (fun r24 u H locs hw h => ?_)
    obtain ⟨U_conflict_24, U_changed_24, U_told_24⟩ := u
    have hw : mW D A s.heap [(k_P cA ad), (k_G cA ad G_size G_inputs), (k_G_kinds cA ad G_kinds), (k_G_lefts cA ad G_lefts), (k_G_rights cA ad G_rights), (k_F cA ad F_size), (k_F_kinds cA ad F_kinds), (k_F_sizes cA ad F_sizes), (k_F_literals cA ad F_literals), (k_F_leftOut cA ad F_leftOut), (k_U cA ad U_conflict_24 U_changed_24), (k_U_told cA ad U_told_24)] H locs := hw
    refine lv_if_eq (tgt := 32) hx hb d_P_shorten_27 (by decide) (fun hc => ?_) (fun hc => ?_)
    · have h := h.1 hc
      refine lv_aload_n hx hb d_P_shorten_32 rfl (lv_at hl 0 rfl) ?_
      refine va_get (D := D) (ci := 0) (v := .ref (ad 6)) (C := R_P) (T := T_P) (N := 4) hx hb hts (fun w h => List.mem_cons_of_mem _ (iw_P w h)) hown hK.1 hw.1 0 rfl rfl 1 (by decide) (hg gm_142) (fun _ h9 => h9) rfl d_P_shorten_33 ?_
      refine va_getN (D := D) (ci := 2) (v := .int F_size) (C := R_F) (T := T_F) (N := 5) hx hb hts (fun w h => List.mem_cons_of_mem _ (iw_F w h)) hown hK.1 hw.1 5 rfl rfl 4 (by decide) (va_Nw.use rfl (hK.2 _ nw_80)) (fun _ h9 => h9) rfl d_P_shorten_36 ?_
      refine lv_iconst (v := 1) hx hb d_P_shorten_39 (by decide) ?_
      refine lv_isub hx hb d_P_shorten_40 ?_
      refine lv_istore_n (lv' := [(2, .int (F_size - 1)), (0, .ref (ad 0)), (1, .int p1)]) hx hb d_P_shorten_41 rfl hl (by decide) rfl (fun ls hl => ?_)
      exact (hC42 _ _ _ _ _ _ _ _ _).1 h _ _ _ hw (lv_sub hl [1, 2, 0] rfl)
    · have h := h.2 hc
      refine lv_iconst (v := (-1)) hx hb d_P_shorten_30 (by decide) ?_
      exact False.elim h
  · have h := h.1 hc
    exact hT 0 _ _ 43 45 47 "no such literal" h hl.1 ⟨(hg gm_263), (hg gm_10), by decide +kernel, site_0 hg hK.2, d_P_shorten_11, d_P_shorten_14, d_P_shorten_15, d_P_shorten_17, d_P_shorten_20, by decide +kernel⟩
def rx_P_holds : Room := { frames := 6, cells := 1, slots := 6, locals := 82 }
set_option maxHeartbeats 4000000 in
set_option maxRecDepth 100000 in
theorem t_P_holds (l : Launch) (hl9 : l.stackTraces = false) (D : va_G) (cA : Nat → ClassId) (ad : Nat → Nat) (s0 : State) (hs0 : tS s0) (sz : Nat) (G_size : Int32) (G_inputs : Int32) (G_kinds : (Nat → Int32)) (G_lefts : (Nat → Int32)) (G_rights : (Nat → Int32)) (G_truths : (Nat → Int32)) (p1 : Int32) (p2 : Int64) (px : Nat → Prop) (h : wp_P_holds G_size G_kinds G_lefts G_rights G_truths p1 p2 (fun _ _ => False) (fun k _ => px k)) : xMet l y_P_holds w_P_holds rx_P_holds (mPcO D cA s0 [.ref (ad 0), .int p1, .long p2] [(k_P cA ad), (k_G cA ad G_size G_inputs), (k_G_kinds cA ad G_kinds), (k_G_lefts cA ad G_lefts), (k_G_rights cA ad G_rights), (k_G_truths cA ad G_truths)] sz) px := by
  refine x_meth hl9 hs0 (by decide) rfl (Nat.le_of_ble_eq_true rfl) ⟨Nat.le_of_ble_eq_true rfl, Nat.le_of_ble_eq_true rfl, Nat.le_of_ble_eq_true rfl, Nat.le_of_ble_eq_true rfl⟩ ?_
  intro p e s m below meth c A Q ls hx hb hml hown hts hK hA hw hl hT
  have hl : lv_has ls 4 [(0, .ref (ad 0)), (1, .int p1), (2, .long p2)] := hl
  have hown : s.vm.findClass R_P = some m.cls := hown
  have hg : ∀ {w : Cond}, w ∈ gw → w.before _ s = true := fun h => hts _ (List.mem_cons_of_mem _ h)
  unfold wp_P_holds at h
  refine lv_aload_n hx hb d_P_holds_0 rfl (lv_at hl 0 rfl) ?_
  refine va_get (D := D) (ci := 0) (v := .ref (ad 1)) (C := R_P) (T := T_P) (N := 4) hx hb hts (fun w h => List.mem_cons_of_mem _ (iw_P w h)) hown hK.1 hw.1 0 rfl rfl 0 (by decide) (hg gm_141) (fun _ h9 => h9) rfl d_P_holds_1 ?_
  refine lv_iload_n hx hb d_P_holds_4 rfl (lv_at hl 1 rfl) ?_
  refine m_callr (hr := va_runVN (As := [.int p1]) (rest := []) ⟨hx, hb, hml, hown, hts⟩ (r_G_hasLiteral l D cA ad _ G_size G_inputs p1 _ h) ⟨va_cnB 1 hts (gin gm_261) rfl rfl rfl (hK.2 _ nw_258) (hg gm_2) (by decide +kernel) ⟨Nat.le_of_ble_eq_true rfl, Nat.le_of_ble_eq_true rfl⟩, hg gm_260, hg gs_19⟩ (m_preV 1 1 rfl rfl hK hw [1] rfl rfl) rfl rfl hl.1 rfl (lv_room (Nat.le_of_ble_eq_true rfl)) d_P_holds_5 ⟨Nat.zero_le _, Nat.zero_le _⟩) (fun r5 h => ?_)
  refine lv_if_ne (tgt := 21) hx hb d_P_holds_8 (by decide) (fun hc => ?_) (fun hc => ?_)
  · have h := h.2 hc
    refine lv_aload_n hx hb d_P_holds_21 rfl (lv_at hl 0 rfl) ?_
    refine va_get (D := D) (ci := 0) (v := .ref (ad 1)) (C := R_P) (T := T_P) (N := 4) hx hb hts (fun w h => List.mem_cons_of_mem _ (iw_P w h)) hown hK.1 hw.1 0 rfl rfl 0 (by decide) (hg gm_141) (fun _ h9 => h9) rfl d_P_holds_22 ?_
    refine lv_iload_n hx hb d_P_holds_25 rfl (lv_at hl 1 rfl) ?_
    refine lv_lload_n hx hb d_P_holds_26 rfl (lv_at hl 2 rfl) ?_
    refine m_calli (hr := va_runVN (As := [.int p1, .long p2]) (rest := []) ⟨hx, hb, hml, hown, hts⟩ (c_G_isTrueWith l D cA ad _ G_size G_inputs G_kinds G_lefts G_rights G_truths p1 p2 _ h) ⟨va_cnB 2 hts (gin gm_521) rfl rfl rfl (hK.2 _ nw_518) (hg gm_2) (by decide +kernel) ⟨Nat.le_of_ble_eq_true rfl, Nat.le_of_ble_eq_true rfl⟩, hg gm_520, hg gs_38⟩ (m_preV 1 1 rfl rfl hK hw [1, 2, 3, 4, 5] rfl rfl) rfl rfl hl.1 rfl (lv_room (Nat.le_of_ble_eq_true rfl)) d_P_holds_27 ⟨Nat.zero_le _, Nat.zero_le _⟩) (w2 := (fun (u : (Nat → Int32)) => [(k_P cA ad), (k_G cA ad G_size G_inputs), (k_G_kinds cA ad G_kinds), (k_G_lefts cA ad G_lefts), (k_G_rights cA ad G_rights), (k_G_truths cA ad u)])) (wr := [(k_P cA ad)]) hw hA [1, 2, 3, 4, 5] [0] [0, 1, 2, 3, 4, 5] rfl rfl (by decide) (by decide) (by decide) (fun _ => rfl) (fun r27 u H locs hw h => ?_)
    obtain ⟨G_truths_27, rfl⟩ : ∃ z, z = u := ⟨_, rfl⟩
    have hw : mW D A s.heap [(k_P cA ad), (k_G cA ad G_size G_inputs), (k_G_kinds cA ad G_kinds), (k_G_lefts cA ad G_lefts), (k_G_rights cA ad G_rights), (k_G_truths cA ad G_truths_27)] H locs := hw
    exact False.elim h.2
  · have h := h.1 hc
    exact hT 0 _ _ 43 45 47 "no such literal" h hl.1 ⟨(hg gm_263), (hg gm_10), by decide +kernel, site_0 hg hK.2, d_P_holds_11, d_P_holds_14, d_P_holds_15, d_P_holds_17, d_P_holds_20, by decide +kernel⟩
def rx_P_text : Room := { frames := 6, cells := 1, slots := 6, locals := 92 }
set_option maxHeartbeats 4000000 in
set_option maxRecDepth 100000 in
theorem t_P_text (l : Launch) (hl9 : l.stackTraces = false) (D : va_G) (cA : Nat → ClassId) (ad : Nat → Nat) (s0 : State) (hs0 : tS s0) (sz : Nat) (F_size : Int32) (F_kinds : (Nat → Int32)) (F_sizes : (Nat → Int32)) (F_literals : (Nat → Int32)) (p1 : Int32) (px : Nat → Prop) (h : wp_P_text F_size F_kinds F_sizes F_literals p1 (fun _ => False) (fun k => px k)) : xMet l y_P_text w_P_text rx_P_text (mPcO D cA s0 [.ref (ad 0), .int p1] [(k_P cA ad), (k_F cA ad F_size), (k_F_kinds cA ad F_kinds), (k_F_sizes cA ad F_sizes), (k_F_literals cA ad F_literals)] sz) px := by
  refine x_meth hl9 hs0 (by decide) rfl (Nat.le_of_ble_eq_true rfl) ⟨Nat.le_of_ble_eq_true rfl, Nat.le_of_ble_eq_true rfl, Nat.le_of_ble_eq_true rfl, Nat.le_of_ble_eq_true rfl⟩ ?_
  intro p e s m below meth c A Q ls hx hb hml hown hts hK hA hw hl hT
  have hl : lv_has ls 2 [(0, .ref (ad 0)), (1, .int p1)] := hl
  have hown : s.vm.findClass R_P = some m.cls := hown
  have hg : ∀ {w : Cond}, w ∈ gw → w.before _ s = true := fun h => hts _ (List.mem_cons_of_mem _ h)
  unfold wp_P_text at h
  refine lv_iload_n hx hb d_P_text_0 rfl (lv_at hl 1 rfl) ?_
  refine lv_if_lt (tgt := 15) hx hb d_P_text_1 (by decide) (fun hc => ?_) (fun hc => ?_)
  · have h := h.1 hc
    exact hT 0 _ _ 43 155 47 "no such place" h hl.1 ⟨(hg gm_263), (hg gm_10), by decide +kernel, site_0 hg hK.2, d_P_text_15, d_P_text_18, d_P_text_19, d_P_text_21, d_P_text_24, by decide +kernel⟩
  · have h := h.2 hc
    refine lv_iload_n hx hb d_P_text_4 rfl (lv_at hl 1 rfl) ?_
    refine lv_aload_n hx hb d_P_text_5 rfl (lv_at hl 0 rfl) ?_
    refine va_get (D := D) (ci := 0) (v := .ref (ad 6)) (C := R_P) (T := T_P) (N := 4) hx hb hts (fun w h => List.mem_cons_of_mem _ (iw_P w h)) hown hK.1 hw.1 0 rfl rfl 1 (by decide) (hg gm_142) (fun _ h9 => h9) rfl d_P_text_6 ?_
    refine m_callr (hr := va_runSN (As := [.ref (ad 6)]) (rest := [.int p1]) ⟨hx, hb, hml, hown, hts⟩ (r_X_lengthOf l D cA ad _ F_size F_sizes F_literals _ h) ⟨va_cnB 1 hts (gin gm_535) rfl rfl rfl (hK.2 _ nw_533) (hg gm_15) (by decide +kernel) ⟨Nat.le_of_ble_eq_true rfl, Nat.le_of_ble_eq_true rfl⟩, hg gm_534, trivial⟩ (m_preS hK hw [1, 3, 4] rfl rfl) rfl rfl hl.1 rfl (lv_room (Nat.le_of_ble_eq_true rfl)) d_P_text_9 ⟨Nat.zero_le _, Nat.zero_le _⟩) (fun r9 h => ?_)
    refine lv_icmp_lt (tgt := 25) hx hb d_P_text_12 (by decide) (fun hc => ?_) (fun hc => ?_)
    · have h := h.1 hc
      refine lv_aload_n hx hb d_P_text_25 rfl (lv_at hl 0 rfl) ?_
      refine va_get (D := D) (ci := 0) (v := .ref (ad 6)) (C := R_P) (T := T_P) (N := 4) hx hb hts (fun w h => List.mem_cons_of_mem _ (iw_P w h)) hown hK.1 hw.1 0 rfl rfl 1 (by decide) (hg gm_142) (fun _ h9 => h9) rfl d_P_text_26 ?_
      refine lv_iload_n hx hb d_P_text_29 rfl (lv_at hl 1 rfl) ?_
      refine m_callr (hr := va_runSN (As := [.ref (ad 6), .int p1]) (rest := []) ⟨hx, hb, hml, hown, hts⟩ (r_X_byteOf l D cA ad _ F_size F_kinds F_sizes F_literals p1 _ h) ⟨va_cnB 2 hts (gin gm_546) rfl rfl rfl (hK.2 _ nw_544) (hg gm_15) (by decide +kernel) ⟨Nat.le_of_ble_eq_true rfl, Nat.le_of_ble_eq_true rfl⟩, hg gm_545, trivial⟩ (m_preS hK hw [1, 2, 3, 4] rfl rfl) rfl rfl hl.1 rfl (lv_room (Nat.le_of_ble_eq_true rfl)) d_P_text_30 ⟨Nat.zero_le _, Nat.zero_le _⟩) (fun r30 h => ?_)
      exact False.elim h
    · have h := h.2 hc
      exact hT 0 _ _ 43 155 47 "no such place" h hl.1 ⟨(hg gm_263), (hg gm_10), by decide +kernel, site_0 hg hK.2, d_P_text_15, d_P_text_18, d_P_text_19, d_P_text_21, d_P_text_24, by decide +kernel⟩
def rx_P_count : Room := { frames := 6, cells := 1, slots := 6, locals := 82 }
set_option maxHeartbeats 4000000 in
set_option maxRecDepth 100000 in
theorem t_P_count (l : Launch) (hl9 : l.stackTraces = false) (D : va_G) (cA : Nat → ClassId) (ad : Nat → Nat) (s0 : State) (hs0 : tS s0) (sz : Nat) (G_size : Int32) (G_inputs : Int32) (F_size : Int32) (F_sizes : (Nat → Int32)) (F_literals : (Nat → Int32)) (T_size : Int32) (T_place : Int32) (T_fault : Int32) (p1 : Int32) (px : Nat → Prop) (h : wp_P_count G_size G_inputs F_size F_sizes F_literals T_size p1 (fun _ => False) (fun k => px k)) : xMet l y_P_count w_P_count rx_P_count (mPcO D cA s0 [.ref (ad 0), .int p1] [(k_P cA ad), (k_G cA ad G_size G_inputs), (k_F cA ad F_size), (k_F_sizes cA ad F_sizes), (k_F_literals cA ad F_literals), (k_T cA ad T_size T_place T_fault)] sz) px := by
  refine x_meth hl9 hs0 (by decide) rfl (Nat.le_of_ble_eq_true rfl) ⟨Nat.le_of_ble_eq_true rfl, Nat.le_of_ble_eq_true rfl, Nat.le_of_ble_eq_true rfl, Nat.le_of_ble_eq_true rfl⟩ ?_
  intro p e s m below meth c A Q ls hx hb hml hown hts hK hA hw hl hT
  have hl : lv_has ls 2 [(0, .ref (ad 0)), (1, .int p1)] := hl
  have hown : s.vm.findClass R_P = some m.cls := hown
  have hg : ∀ {w : Cond}, w ∈ gw → w.before _ s = true := fun h => hts _ (List.mem_cons_of_mem _ h)
  unfold wp_P_count at h
  refine lv_iload_n hx hb d_P_count_0 rfl (lv_at hl 1 rfl) ?_
  by_cases hc0 : p1 = 0
  · have h := h.1 hc0
    refine lv_tableIn (tgt := 36) (off := 35) hx hb d_P_count_1 (by rw [hc0]; decide) (by rw [hc0]; decide) (by rw [hc0]; decide +kernel) (by decide) ?_
    refine lv_aload_n hx hb d_P_count_36 rfl (lv_at hl 0 rfl) ?_
    refine va_get (D := D) (ci := 0) (v := .ref (ad 1)) (C := R_P) (T := T_P) (N := 4) hx hb hts (fun w h => List.mem_cons_of_mem _ (iw_P w h)) hown hK.1 hw.1 0 rfl rfl 0 (by decide) (hg gm_141) (fun _ h9 => h9) rfl d_P_count_37 ?_
    refine va_getN (D := D) (ci := 1) (v := .int G_size) (C := R_G) (T := T_G) (N := 6) hx hb hts (fun w h => List.mem_cons_of_mem _ (iw_G w h)) hown hK.1 hw.1 1 rfl rfl 4 (by decide) (va_Nw.use rfl (hK.2 _ nw_39)) (fun _ h9 => h9) rfl d_P_count_40 ?_
    exact False.elim h
  by_cases hc1 : p1 = 1
  · have h := h.2.1 hc1
    refine lv_tableIn (tgt := 44) (off := 43) hx hb d_P_count_1 (by rw [hc1]; decide) (by rw [hc1]; decide) (by rw [hc1]; decide +kernel) (by decide) ?_
    refine lv_aload_n hx hb d_P_count_44 rfl (lv_at hl 0 rfl) ?_
    refine va_get (D := D) (ci := 0) (v := .ref (ad 1)) (C := R_P) (T := T_P) (N := 4) hx hb hts (fun w h => List.mem_cons_of_mem _ (iw_P w h)) hown hK.1 hw.1 0 rfl rfl 0 (by decide) (hg gm_141) (fun _ h9 => h9) rfl d_P_count_45 ?_
    refine va_getN (D := D) (ci := 1) (v := .int G_inputs) (C := R_G) (T := T_G) (N := 6) hx hb hts (fun w h => List.mem_cons_of_mem _ (iw_G w h)) hown hK.1 hw.1 1 rfl rfl 5 (by decide) (va_Nw.use rfl (hK.2 _ nw_42)) (fun _ h9 => h9) rfl d_P_count_48 ?_
    exact False.elim h
  by_cases hc2 : p1 = 2
  · have h := h.2.2.1 hc2
    refine lv_tableIn (tgt := 52) (off := 51) hx hb d_P_count_1 (by rw [hc2]; decide) (by rw [hc2]; decide) (by rw [hc2]; decide +kernel) (by decide) ?_
    refine lv_aload_n hx hb d_P_count_52 rfl (lv_at hl 0 rfl) ?_
    refine va_get (D := D) (ci := 0) (v := .ref (ad 6)) (C := R_P) (T := T_P) (N := 4) hx hb hts (fun w h => List.mem_cons_of_mem _ (iw_P w h)) hown hK.1 hw.1 0 rfl rfl 1 (by decide) (hg gm_142) (fun _ h9 => h9) rfl d_P_count_53 ?_
    refine va_getN (D := D) (ci := 2) (v := .int F_size) (C := R_F) (T := T_F) (N := 5) hx hb hts (fun w h => List.mem_cons_of_mem _ (iw_F w h)) hown hK.1 hw.1 2 rfl rfl 4 (by decide) (va_Nw.use rfl (hK.2 _ nw_80)) (fun _ h9 => h9) rfl d_P_count_56 ?_
    exact False.elim h
  by_cases hc3 : p1 = 3
  · have h := h.2.2.2.1 hc3
    refine lv_tableIn (tgt := 60) (off := 59) hx hb d_P_count_1 (by rw [hc3]; decide) (by rw [hc3]; decide) (by rw [hc3]; decide +kernel) (by decide) ?_
    refine lv_aload_n hx hb d_P_count_60 rfl (lv_at hl 0 rfl) ?_
    refine va_get (D := D) (ci := 0) (v := .ref (ad 13)) (C := R_P) (T := T_P) (N := 4) hx hb hts (fun w h => List.mem_cons_of_mem _ (iw_P w h)) hown hK.1 hw.1 0 rfl rfl 3 (by decide) (hg gm_144) (fun _ h9 => h9) rfl d_P_count_61 ?_
    refine va_getN (D := D) (ci := 4) (v := .int T_size) (C := R_T) (T := T_T) (N := 6) hx hb hts (fun w h => List.mem_cons_of_mem _ (iw_T w h)) hown hK.1 hw.1 5 rfl rfl 3 (by decide) (va_Nw.use rfl (hK.2 _ nw_125)) (fun _ h9 => h9) rfl d_P_count_64 ?_
    exact False.elim h
  by_cases hc4 : p1 = 4
  · have h := h.2.2.2.2.1 hc4
    refine lv_tableIn (tgt := 68) (off := 67) hx hb d_P_count_1 (by rw [hc4]; decide) (by rw [hc4]; decide) (by rw [hc4]; decide +kernel) (by decide) ?_
    refine lv_aload_n hx hb d_P_count_68 rfl (lv_at hl 0 rfl) ?_
    refine va_get (D := D) (ci := 0) (v := .ref (ad 6)) (C := R_P) (T := T_P) (N := 4) hx hb hts (fun w h => List.mem_cons_of_mem _ (iw_P w h)) hown hK.1 hw.1 0 rfl rfl 1 (by decide) (hg gm_142) (fun _ h9 => h9) rfl d_P_count_69 ?_
    refine m_callr (hr := va_runSN (As := [.ref (ad 6)]) (rest := []) ⟨hx, hb, hml, hown, hts⟩ (r_X_lengthOf l D cA ad _ F_size F_sizes F_literals _ h) ⟨va_cnB 1 hts (gin gm_535) rfl rfl rfl (hK.2 _ nw_533) (hg gm_15) (by decide +kernel) ⟨Nat.le_of_ble_eq_true rfl, Nat.le_of_ble_eq_true rfl⟩, hg gm_534, trivial⟩ (m_preS hK hw [2, 3, 4] rfl rfl) rfl rfl hl.1 rfl (lv_room (Nat.le_of_ble_eq_true rfl)) d_P_count_72 ⟨Nat.zero_le _, Nat.zero_le _⟩) (fun r72 h => ?_)
    exact False.elim h
  · have h := h.2.2.2.2.2 hc0 hc1 hc2 hc3 hc4
    refine lv_tableOut (tgt := 76) hx hb d_P_count_1 (sw_out5 hc0 hc1 hc2 hc3 hc4) (by decide) ?_
    exact hT 0 _ _ 43 171 47 "nothing that is counted" h hl.1 ⟨(hg gm_263), (hg gm_10), by decide +kernel, site_0 hg hK.2, d_P_count_76, d_P_count_79, d_P_count_80, d_P_count_82, d_P_count_85, by decide +kernel⟩
