def rm_M_thrown : Room := { frames := 0, cells := 0, slots := 0, locals := 0 }
set_option maxHeartbeats 4000000 in
set_option maxRecDepth 100000 in
theorem c_M_thrown (l : Launch) (D : va_G) (cA : Nat → ClassId) (ad : Nat → Nat) (sz : Nat) (M_thrown : Int32) (M_gates : Int32) (M_lines : Int32) (M_conflict : Int32) (M_moved : Int32) (M_tapeSize : Int32) (M_place : Int32) (M_found : Int32) (post : Int32 → Prop) (h : wp_M_thrown M_thrown post) : Met l y_M_thrown w_M_thrown rm_M_thrown (mPc D cA [.ref (ad 15)] [(k_M cA ad M_thrown M_gates M_lines M_conflict M_moved M_tapeSize M_place M_found)] sz) (va_Qi (fun (r : Int32) (_ : Unit) => post r) (mB D (va_A [(k_M cA ad M_thrown M_gates M_lines M_conflict M_moved M_tapeSize M_place M_found)] sz) (fun (_ : Unit) => [(k_M cA ad M_thrown M_gates M_lines M_conflict M_moved M_tapeSize M_place M_found)])) (va_A [(k_M cA ad M_thrown M_gates M_lines M_conflict M_moved M_tapeSize M_place M_found)] sz)) 0 0 (va_A [(k_M cA ad M_thrown M_gates M_lines M_conflict M_moved M_tapeSize M_place M_found)] sz) := by
  refine m_methI (by decide) rfl (Nat.le_of_ble_eq_true rfl) ?_
  intro p e s m below meth c A Q ls hx hb hml hown hts hK hA hw hl hE
  have hl : lv_has ls 1 [(0, .ref (ad 15))] := hl
  have hown : s.vm.findClass R_M = some m.cls := hown
  have hg : ∀ {w : Cond}, w ∈ gw → w.before _ s = true := fun h => hts _ (List.mem_cons_of_mem _ h)
  unfold wp_M_thrown at h
  refine lv_aload_n hx hb d_M_thrown_0 rfl (lv_at hl 0 rfl) ?_
  refine va_get (D := D) (ci := 5) (v := .int M_thrown) (C := R_M) (T := T_M) (N := 18) hx hb hts (fun w h => List.mem_cons_of_mem _ (iw_M w h)) hown hK.1 hw.1 0 rfl rfl 0 (by decide) (hg gm_567) (fun _ h9 => h9) rfl d_M_thrown_1 ?_
  exact hE M_thrown () _ _ _ _ h hw d_M_thrown_4
def rm_M_isLiteral : Room := { frames := 0, cells := 0, slots := 0, locals := 0 }
set_option maxHeartbeats 4000000 in
set_option maxRecDepth 100000 in
theorem c_M_isLiteral (l : Launch) (D : va_G) (cA : Nat → ClassId) (ad : Nat → Nat) (sz : Nat) (M_thrown : Int32) (M_gates : Int32) (M_lines : Int32) (M_conflict : Int32) (M_moved : Int32) (M_tapeSize : Int32) (M_place : Int32) (M_found : Int32) (p1 : Int32) (post : Int32 → Prop) (h : wp_M_isLiteral M_gates p1 post) : Met l y_M_isLiteral w_M_isLiteral rm_M_isLiteral (mPc D cA [.ref (ad 15), .int p1] [(k_M cA ad M_thrown M_gates M_lines M_conflict M_moved M_tapeSize M_place M_found)] sz) (va_Qi (fun (r : Int32) (_ : Unit) => post r) (mB D (va_A [(k_M cA ad M_thrown M_gates M_lines M_conflict M_moved M_tapeSize M_place M_found)] sz) (fun (_ : Unit) => [(k_M cA ad M_thrown M_gates M_lines M_conflict M_moved M_tapeSize M_place M_found)])) (va_A [(k_M cA ad M_thrown M_gates M_lines M_conflict M_moved M_tapeSize M_place M_found)] sz)) 0 0 (va_A [(k_M cA ad M_thrown M_gates M_lines M_conflict M_moved M_tapeSize M_place M_found)] sz) := by
  refine m_methZ (by decide) rfl (Nat.le_of_ble_eq_true rfl) ?_
  intro p e s m below meth c A Q ls hx hb hml hown hts hK hA hw hl hE
  have hl : lv_has ls 2 [(0, .ref (ad 15)), (1, .int p1)] := hl
  have hown : s.vm.findClass R_M = some m.cls := hown
  have hg : ∀ {w : Cond}, w ∈ gw → w.before _ s = true := fun h => hts _ (List.mem_cons_of_mem _ h)
  unfold wp_M_isLiteral at h
  refine lv_iload_n hx hb d_M_isLiteral_0 rfl (lv_at hl 1 rfl) ?_
  refine lv_if_lt (tgt := 18) hx hb d_M_isLiteral_1 (by decide) (fun hc => ?_) (fun hc => ?_)
  · have h := h.1 hc
    refine lv_iconst (v := 0) hx hb d_M_isLiteral_18 (by decide) ?_
    exact hE 0 () _ _ _ _ h rfl hw d_M_isLiteral_19
  · have h := h.2 hc
    refine lv_iload_n hx hb d_M_isLiteral_4 rfl (lv_at hl 1 rfl) ?_
    refine lv_iconst (v := 2) hx hb d_M_isLiteral_5 (by decide) ?_
    refine lv_idiv hx hb d_M_isLiteral_6 (by decide) ?_
    refine lv_aload_n hx hb d_M_isLiteral_7 rfl (lv_at hl 0 rfl) ?_
    refine va_get (D := D) (ci := 5) (v := .int M_gates) (C := R_M) (T := T_M) (N := 18) hx hb hts (fun w h => List.mem_cons_of_mem _ (iw_M w h)) hown hK.1 hw.1 0 rfl rfl 4 (by decide) (hg gm_571) (fun _ h9 => h9) rfl d_M_isLiteral_8 ?_
    refine lv_icmp_ge (tgt := 18) hx hb d_M_isLiteral_11 (by decide) (fun hc => ?_) (fun hc => ?_)
    · have h := h.1 hc
      refine lv_iconst (v := 0) hx hb d_M_isLiteral_18 (by decide) ?_
      exact hE 0 () _ _ _ _ h rfl hw d_M_isLiteral_19
    · have h := h.2 hc
      refine lv_iconst (v := 1) hx hb d_M_isLiteral_14 (by decide) ?_
      refine lv_goto (tgt := 19) hx hb d_M_isLiteral_15 (by decide) ?_
      exact hE 1 () _ _ _ _ h rfl hw d_M_isLiteral_19
def rm_M_isLine : Room := { frames := 0, cells := 0, slots := 0, locals := 0 }
set_option maxHeartbeats 4000000 in
set_option maxRecDepth 100000 in
theorem c_M_isLine (l : Launch) (D : va_G) (cA : Nat → ClassId) (ad : Nat → Nat) (sz : Nat) (M_thrown : Int32) (M_gates : Int32) (M_lines : Int32) (M_conflict : Int32) (M_moved : Int32) (M_tapeSize : Int32) (M_place : Int32) (M_found : Int32) (p1 : Int32) (post : Int32 → Prop) (h : wp_M_isLine M_lines p1 post) : Met l y_M_isLine w_M_isLine rm_M_isLine (mPc D cA [.ref (ad 15), .int p1] [(k_M cA ad M_thrown M_gates M_lines M_conflict M_moved M_tapeSize M_place M_found)] sz) (va_Qi (fun (r : Int32) (_ : Unit) => post r) (mB D (va_A [(k_M cA ad M_thrown M_gates M_lines M_conflict M_moved M_tapeSize M_place M_found)] sz) (fun (_ : Unit) => [(k_M cA ad M_thrown M_gates M_lines M_conflict M_moved M_tapeSize M_place M_found)])) (va_A [(k_M cA ad M_thrown M_gates M_lines M_conflict M_moved M_tapeSize M_place M_found)] sz)) 0 0 (va_A [(k_M cA ad M_thrown M_gates M_lines M_conflict M_moved M_tapeSize M_place M_found)] sz) := by
  refine m_methZ (by decide) rfl (Nat.le_of_ble_eq_true rfl) ?_
  intro p e s m below meth c A Q ls hx hb hml hown hts hK hA hw hl hE
  have hl : lv_has ls 2 [(0, .ref (ad 15)), (1, .int p1)] := hl
  have hown : s.vm.findClass R_M = some m.cls := hown
  have hg : ∀ {w : Cond}, w ∈ gw → w.before _ s = true := fun h => hts _ (List.mem_cons_of_mem _ h)
  unfold wp_M_isLine at h
  refine lv_iload_n hx hb d_M_isLine_0 rfl (lv_at hl 1 rfl) ?_
  refine lv_if_lt (tgt := 16) hx hb d_M_isLine_1 (by decide) (fun hc => ?_) (fun hc => ?_)
  · have h := h.1 hc
    refine lv_iconst (v := 0) hx hb d_M_isLine_16 (by decide) ?_
    exact hE 0 () _ _ _ _ h rfl hw d_M_isLine_17
  · have h := h.2 hc
    refine lv_iload_n hx hb d_M_isLine_4 rfl (lv_at hl 1 rfl) ?_
    refine lv_aload_n hx hb d_M_isLine_5 rfl (lv_at hl 0 rfl) ?_
    refine va_get (D := D) (ci := 5) (v := .int M_lines) (C := R_M) (T := T_M) (N := 18) hx hb hts (fun w h => List.mem_cons_of_mem _ (iw_M w h)) hown hK.1 hw.1 0 rfl rfl 8 (by decide) (hg gm_575) (fun _ h9 => h9) rfl d_M_isLine_6 ?_
    refine lv_icmp_ge (tgt := 16) hx hb d_M_isLine_9 (by decide) (fun hc => ?_) (fun hc => ?_)
    · have h := h.1 hc
      refine lv_iconst (v := 0) hx hb d_M_isLine_16 (by decide) ?_
      exact hE 0 () _ _ _ _ h rfl hw d_M_isLine_17
    · have h := h.2 hc
      refine lv_iconst (v := 1) hx hb d_M_isLine_12 (by decide) ?_
      refine lv_goto (tgt := 17) hx hb d_M_isLine_13 (by decide) ?_
      exact hE 1 () _ _ _ _ h rfl hw d_M_isLine_17
def rm_M_gate : Room := { frames := 1, cells := 0, slots := 0, locals := 21 }
set_option maxHeartbeats 4000000 in
set_option maxRecDepth 100000 in
theorem c_M_gate (l : Launch) (D : va_G) (cA : Nat → ClassId) (ad : Nat → Nat) (sz : Nat) (M_thrown : Int32) (M_gates : Int32) (M_lines : Int32) (M_conflict : Int32) (M_moved : Int32) (M_tapeSize : Int32) (M_place : Int32) (M_found : Int32) (M_kinds : (Nat → Int32)) (M_ones : (Nat → Int32)) (M_twos : (Nat → Int32)) (p1 : Int32) (p2 : Int32) (p3 : Int32) (post : Int32 → Int32 → Int32 → (Nat → Int32) → (Nat → Int32) → (Nat → Int32) → Prop) (h : wp_M_gate M_thrown M_gates M_kinds M_ones M_twos p1 p2 p3 post) : Met l y_M_gate w_M_gate rm_M_gate (mPc D cA [.ref (ad 15), .int p1, .int p2, .int p3] [(k_M cA ad M_thrown M_gates M_lines M_conflict M_moved M_tapeSize M_place M_found), (k_M_kinds cA ad M_kinds), (k_M_ones cA ad M_ones), (k_M_twos cA ad M_twos)] sz) (va_Qi (fun (r : Int32) (u : Int32 × Int32 × (Nat → Int32) × (Nat → Int32) × (Nat → Int32)) => post r u.1 u.2.1 u.2.2.1 u.2.2.2.1 u.2.2.2.2) (mB D (va_A [(k_M cA ad M_thrown M_gates M_lines M_conflict M_moved M_tapeSize M_place M_found), (k_M_kinds cA ad M_kinds), (k_M_ones cA ad M_ones), (k_M_twos cA ad M_twos)] sz) (fun (u : Int32 × Int32 × (Nat → Int32) × (Nat → Int32) × (Nat → Int32)) => [(k_M cA ad u.1 u.2.1 M_lines M_conflict M_moved M_tapeSize M_place M_found), (k_M_kinds cA ad u.2.2.1), (k_M_ones cA ad u.2.2.2.1), (k_M_twos cA ad u.2.2.2.2)])) (va_A [(k_M cA ad M_thrown M_gates M_lines M_conflict M_moved M_tapeSize M_place M_found), (k_M_kinds cA ad M_kinds), (k_M_ones cA ad M_ones), (k_M_twos cA ad M_twos)] sz)) 0 0 (va_A [(k_M cA ad M_thrown M_gates M_lines M_conflict M_moved M_tapeSize M_place M_found), (k_M_kinds cA ad M_kinds), (k_M_ones cA ad M_ones), (k_M_twos cA ad M_twos)] sz) := by
  refine m_methI (by decide) rfl (Nat.le_of_ble_eq_true rfl) ?_
  intro p e s m below meth c A Q ls hx hb hml hown hts hK hA hw hl hE
  have hl : lv_has ls 5 [(0, .ref (ad 15)), (1, .int p1), (2, .int p2), (3, .int p3)] := hl
  have hown : s.vm.findClass R_M = some m.cls := hown
  have hg : ∀ {w : Cond}, w ∈ gw → w.before _ s = true := fun h => hts _ (List.mem_cons_of_mem _ h)
  have j121 : ∀ (s0 : Int32) (s1 : Int32) (M_thrown : Int32) (M_gates : Int32) (M_kinds : (Nat → Int32)) (M_ones : (Nat → Int32)) (M_twos : (Nat → Int32)) (H : Heap) (locs : List Loc) (ls : Array Slot), s_M_gate_121 p1 p2 p3 post s0 s1 M_thrown M_gates M_kinds M_ones M_twos → mW D A s.heap [(k_M cA ad M_thrown M_gates M_lines M_conflict M_moved M_tapeSize M_place M_found), (k_M_kinds cA ad M_kinds), (k_M_ones cA ad M_ones), (k_M_twos cA ad M_twos)] H locs → lv_has ls 5 [(0, .ref (ad 15))] → W p l e rm_M_gate s m [.ref (ad 15), .int p1, .int p2, .int p3].toArray below meth c H locs 0 0 Q (F0 m 121 ls [.int s0, .int s1, .ref (ad 18)]) := by
    intro s0 s1 M_thrown M_gates M_kinds M_ones M_twos H locs ls h hw hl
    unfold s_M_gate_121 at h
    refine m_iast (ws' := [(k_M cA ad M_thrown M_gates M_lines M_conflict M_moved M_tapeSize M_place M_found), (k_M_kinds cA ad M_kinds), (k_M_ones cA ad M_ones), (k_M_twos cA ad (upd M_twos s1.toNatClampNeg s0))]) hx hb hK.1 hw 3 0 rfl rfl h.1 rfl d_M_gate_121 (fun H locs hw => ?_)
    have h := h.2
    refine lv_aload_n hx hb d_M_gate_122 rfl (lv_at hl 0 rfl) ?_
    refine lv_dup hx hb d_M_gate_123 rfl ?_
    refine va_get (D := D) (ci := 5) (v := .int M_gates) (C := R_M) (T := T_M) (N := 18) hx hb hts (fun w h => List.mem_cons_of_mem _ (iw_M w h)) hown hK.1 hw.1 0 rfl rfl 4 (by decide) (hg gm_571) (fun _ h9 => h9) rfl d_M_gate_124 ?_
    refine lv_iconst (v := 1) hx hb d_M_gate_127 (by decide) ?_
    refine lv_iadd hx hb d_M_gate_128 ?_
    refine m_put (ws' := [(k_M cA ad M_thrown (M_gates + 1) M_lines M_conflict M_moved M_tapeSize M_place M_found), (k_M_kinds cA ad M_kinds), (k_M_ones cA ad M_ones), (k_M_twos cA ad (upd M_twos s1.toNatClampNeg s0))]) (ci := 5) (v := .int (M_gates + 1)) (ty := .int) (C := R_M) (T := T_M) (N := 18) hx hb hts (fun w h => List.mem_cons_of_mem _ (iw_M w h)) ty_M tyok_M nm_M hown hK.1 hw 0 rfl rfl 4 (by decide) (hg gm_571) (fun _ h9 => h9) rfl (by decide +kernel) rfl rfl (Nat.le_of_ble_eq_true rfl) rfl d_M_gate_129 (fun H locs hw => ?_)
    refine lv_aload_n hx hb d_M_gate_132 rfl (lv_at hl 0 rfl) ?_
    refine va_get (D := D) (ci := 5) (v := .int (M_gates + 1)) (C := R_M) (T := T_M) (N := 18) hx hb hts (fun w h => List.mem_cons_of_mem _ (iw_M w h)) hown hK.1 hw.1 0 rfl rfl 4 (by decide) (hg gm_571) (fun _ h9 => h9) rfl d_M_gate_133 ?_
    refine lv_iconst (v := 1) hx hb d_M_gate_136 (by decide) ?_
    refine lv_isub hx hb d_M_gate_137 ?_
    exact hE ((M_gates + 1) - 1) (M_thrown, (M_gates + 1), M_kinds, M_ones, (upd M_twos s1.toNatClampNeg s0)) _ _ _ _ h hw d_M_gate_138
  have j103 : ∀ (s0 : Int32) (s1 : Int32) (M_thrown : Int32) (M_gates : Int32) (M_kinds : (Nat → Int32)) (M_ones : (Nat → Int32)) (M_twos : (Nat → Int32)) (H : Heap) (locs : List Loc) (ls : Array Slot), s_M_gate_103 p1 p2 p3 post s0 s1 M_thrown M_gates M_kinds M_ones M_twos → mW D A s.heap [(k_M cA ad M_thrown M_gates M_lines M_conflict M_moved M_tapeSize M_place M_found), (k_M_kinds cA ad M_kinds), (k_M_ones cA ad M_ones), (k_M_twos cA ad M_twos)] H locs → lv_has ls 5 [(0, .ref (ad 15)), (1, .int p1), (3, .int p3)] → W p l e rm_M_gate s m [.ref (ad 15), .int p1, .int p2, .int p3].toArray below meth c H locs 0 0 Q (F0 m 103 ls [.int s0, .int s1, .ref (ad 17)]) := by
    intro s0 s1 M_thrown M_gates M_kinds M_ones M_twos H locs ls h hw hl
    unfold s_M_gate_103 at h
    refine m_iast (ws' := [(k_M cA ad M_thrown M_gates M_lines M_conflict M_moved M_tapeSize M_place M_found), (k_M_kinds cA ad M_kinds), (k_M_ones cA ad (upd M_ones s1.toNatClampNeg s0)), (k_M_twos cA ad M_twos)]) hx hb hK.1 hw 2 0 rfl rfl h.1 rfl d_M_gate_103 (fun H locs hw => ?_)
    have h := h.2
    refine lv_aload_n hx hb d_M_gate_104 rfl (lv_at hl 0 rfl) ?_
    refine va_get (D := D) (ci := 5) (v := .ref (ad 18)) (C := R_M) (T := T_M) (N := 18) hx hb hts (fun w h => List.mem_cons_of_mem _ (iw_M w h)) hown hK.1 hw.1 0 rfl rfl 3 (by decide) (hg gm_570) (fun _ h9 => h9) rfl d_M_gate_105 ?_
    refine lv_aload_n hx hb d_M_gate_108 rfl (lv_at hl 0 rfl) ?_
    refine va_get (D := D) (ci := 5) (v := .int M_gates) (C := R_M) (T := T_M) (N := 18) hx hb hts (fun w h => List.mem_cons_of_mem _ (iw_M w h)) hown hK.1 hw.1 0 rfl rfl 4 (by decide) (hg gm_571) (fun _ h9 => h9) rfl d_M_gate_109 ?_
    refine lv_iload_n hx hb d_M_gate_112 rfl (lv_at hl 1 rfl) ?_
    refine lv_if_ne (tgt := 120) hx hb d_M_gate_113 (by decide) (fun hc => ?_) (fun hc => ?_)
    · have h := h.2 hc
      refine lv_iload_n hx hb d_M_gate_120 rfl (lv_at hl 2 rfl) ?_
      exact j121 _ _ _ _ _ _ _ _ _ _ h hw (lv_sub hl [0] rfl)
    · have h := h.1 hc
      refine lv_iconst (v := 0) hx hb d_M_gate_116 (by decide) ?_
      refine lv_goto (tgt := 121) hx hb d_M_gate_117 (by decide) ?_
      exact j121 _ _ _ _ _ _ _ _ _ _ h hw (lv_sub hl [0] rfl)
  have j64 : ∀ (s0 : Int32) (M_thrown : Int32) (M_gates : Int32) (M_kinds : (Nat → Int32)) (M_ones : (Nat → Int32)) (M_twos : (Nat → Int32)) (H : Heap) (locs : List Loc) (ls : Array Slot), s_M_gate_64 p1 p2 p3 post s0 M_thrown M_gates M_kinds M_ones M_twos → mW D A s.heap [(k_M cA ad M_thrown M_gates M_lines M_conflict M_moved M_tapeSize M_place M_found), (k_M_kinds cA ad M_kinds), (k_M_ones cA ad M_ones), (k_M_twos cA ad M_twos)] H locs → lv_has ls 5 [(0, .ref (ad 15)), (1, .int p1), (2, .int p2), (3, .int p3)] → W p l e rm_M_gate s m [.ref (ad 15), .int p1, .int p2, .int p3].toArray below meth c H locs 0 0 Q (F0 m 64 ls [.int s0, .ref (ad 15)]) := by
    intro s0 M_thrown M_gates M_kinds M_ones M_twos H locs ls h hw hl
    unfold s_M_gate_64 at h
    refine m_put (ws' := [(k_M cA ad s0 M_gates M_lines M_conflict M_moved M_tapeSize M_place M_found), (k_M_kinds cA ad M_kinds), (k_M_ones cA ad M_ones), (k_M_twos cA ad M_twos)]) (ci := 5) (v := .int s0) (ty := .int) (C := R_M) (T := T_M) (N := 18) hx hb hts (fun w h => List.mem_cons_of_mem _ (iw_M w h)) ty_M tyok_M nm_M hown hK.1 hw 0 rfl rfl 0 (by decide) (hg gm_567) (fun _ h9 => h9) rfl (by decide +kernel) rfl rfl (Nat.le_of_ble_eq_true rfl) rfl d_M_gate_64 (fun H locs hw => ?_)
    refine lv_aload_n hx hb d_M_gate_67 rfl (lv_at hl 0 rfl) ?_
    refine va_get (D := D) (ci := 5) (v := .int s0) (C := R_M) (T := T_M) (N := 18) hx hb hts (fun w h => List.mem_cons_of_mem _ (iw_M w h)) hown hK.1 hw.1 0 rfl rfl 0 (by decide) (hg gm_567) (fun _ h9 => h9) rfl d_M_gate_68 ?_
    refine lv_if_le (tgt := 76) hx hb d_M_gate_71 (by decide) (fun hc => ?_) (fun hc => ?_)
    · have h := h.1 hc
      refine lv_aload_n hx hb d_M_gate_76 rfl (lv_at hl 0 rfl) ?_
      refine va_get (D := D) (ci := 5) (v := .ref (ad 16)) (C := R_M) (T := T_M) (N := 18) hx hb hts (fun w h => List.mem_cons_of_mem _ (iw_M w h)) hown hK.1 hw.1 0 rfl rfl 1 (by decide) (hg gm_568) (fun _ h9 => h9) rfl d_M_gate_77 ?_
      refine lv_aload_n hx hb d_M_gate_80 rfl (lv_at hl 0 rfl) ?_
      refine va_get (D := D) (ci := 5) (v := .int M_gates) (C := R_M) (T := T_M) (N := 18) hx hb hts (fun w h => List.mem_cons_of_mem _ (iw_M w h)) hown hK.1 hw.1 0 rfl rfl 4 (by decide) (hg gm_571) (fun _ h9 => h9) rfl d_M_gate_81 ?_
      refine lv_iload_n hx hb d_M_gate_84 rfl (lv_at hl 1 rfl) ?_
      refine m_iast (ws' := [(k_M cA ad s0 M_gates M_lines M_conflict M_moved M_tapeSize M_place M_found), (k_M_kinds cA ad (upd M_kinds M_gates.toNatClampNeg p1)), (k_M_ones cA ad M_ones), (k_M_twos cA ad M_twos)]) hx hb hK.1 hw 1 0 rfl rfl h.1 rfl d_M_gate_85 (fun H locs hw => ?_)
      have h := h.2
      refine lv_aload_n hx hb d_M_gate_86 rfl (lv_at hl 0 rfl) ?_
      refine va_get (D := D) (ci := 5) (v := .ref (ad 17)) (C := R_M) (T := T_M) (N := 18) hx hb hts (fun w h => List.mem_cons_of_mem _ (iw_M w h)) hown hK.1 hw.1 0 rfl rfl 2 (by decide) (hg gm_569) (fun _ h9 => h9) rfl d_M_gate_87 ?_
      refine lv_aload_n hx hb d_M_gate_90 rfl (lv_at hl 0 rfl) ?_
      refine va_get (D := D) (ci := 5) (v := .int M_gates) (C := R_M) (T := T_M) (N := 18) hx hb hts (fun w h => List.mem_cons_of_mem _ (iw_M w h)) hown hK.1 hw.1 0 rfl rfl 4 (by decide) (hg gm_571) (fun _ h9 => h9) rfl d_M_gate_91 ?_
      refine lv_iload_n hx hb d_M_gate_94 rfl (lv_at hl 1 rfl) ?_
      refine lv_if_ne (tgt := 102) hx hb d_M_gate_95 (by decide) (fun hc => ?_) (fun hc => ?_)
      · have h := h.2 hc
        refine lv_iload_n hx hb d_M_gate_102 rfl (lv_at hl 2 rfl) ?_
        exact j103 _ _ _ _ _ _ _ _ _ _ h hw (lv_sub hl [0, 1, 3] rfl)
      · have h := h.1 hc
        refine lv_iconst (v := 0) hx hb d_M_gate_98 (by decide) ?_
        refine lv_goto (tgt := 103) hx hb d_M_gate_99 (by decide) ?_
        exact j103 _ _ _ _ _ _ _ _ _ _ h hw (lv_sub hl [0, 1, 3] rfl)
    · have h := h.2 hc
      refine lv_iconst (v := 0) hx hb d_M_gate_74 (by decide) ?_
      exact hE 0 (s0, M_gates, M_kinds, M_ones, M_twos) _ _ _ _ h hw d_M_gate_75
  have j46 : ∀ (M_thrown : Int32) (M_gates : Int32) (M_kinds : (Nat → Int32)) (M_ones : (Nat → Int32)) (M_twos : (Nat → Int32)) (H : Heap) (locs : List Loc) (ls : Array Slot), s_M_gate_46 p1 p2 p3 post M_thrown M_gates M_kinds M_ones M_twos → mW D A s.heap [(k_M cA ad M_thrown M_gates M_lines M_conflict M_moved M_tapeSize M_place M_found), (k_M_kinds cA ad M_kinds), (k_M_ones cA ad M_ones), (k_M_twos cA ad M_twos)] H locs → lv_has ls 5 [(0, .ref (ad 15)), (1, .int p1), (2, .int p2), (3, .int p3)] → W p l e rm_M_gate s m [.ref (ad 15), .int p1, .int p2, .int p3].toArray below meth c H locs 0 0 Q (F0 m 46 ls [.ref (ad 15)]) := by
    intro M_thrown M_gates M_kinds M_ones M_twos H locs ls h hw hl
    unfold s_M_gate_46 at h
    refine lv_iconst (v := 2) hx hb d_M_gate_46 (by decide) ?_
    refine lv_goto (tgt := 64) hx hb d_M_gate_47 (by decide) ?_
    exact j64 _ _ _ _ _ _ _ _ _ h hw (lv_sub hl [0, 1, 2, 3] rfl)
  have j25 : ∀ (s0 : Int32) (M_thrown : Int32) (M_gates : Int32) (M_kinds : (Nat → Int32)) (M_ones : (Nat → Int32)) (M_twos : (Nat → Int32)) (H : Heap) (locs : List Loc) (ls : Array Slot), s_M_gate_25 p1 p2 p3 post s0 M_thrown M_gates M_kinds M_ones M_twos → mW D A s.heap [(k_M cA ad M_thrown M_gates M_lines M_conflict M_moved M_tapeSize M_place M_found), (k_M_kinds cA ad M_kinds), (k_M_ones cA ad M_ones), (k_M_twos cA ad M_twos)] H locs → lv_has ls 5 [(0, .ref (ad 15)), (1, .int p1), (2, .int p2), (3, .int p3)] → W p l e rm_M_gate s m [.ref (ad 15), .int p1, .int p2, .int p3].toArray below meth c H locs 0 0 Q (F0 m 25 ls [.int s0]) := by
    intro s0 M_thrown M_gates M_kinds M_ones M_twos H locs ls h hw hl
    unfold s_M_gate_25 at h
    refine lv_istore (lv' := [(4, .int s0), (0, .ref (ad 15)), (1, .int p1), (2, .int p2), (3, .int p3)]) hx hb d_M_gate_25 hl (by decide) rfl (fun ls hl => ?_)
    refine lv_aload_n hx hb d_M_gate_27 rfl (lv_at hl 1 rfl) ?_
    refine lv_iload hx hb d_M_gate_28 (lv_at hl 0 rfl) ?_
    refine lv_if_ne (tgt := 37) hx hb d_M_gate_30 (by decide) (fun hc => ?_) (fun hc => ?_)
    · have h := h.2 hc
      refine lv_iload_n hx hb d_M_gate_37 rfl (lv_at hl 2 rfl) ?_
      refine lv_if_lt (tgt := 46) hx hb d_M_gate_38 (by decide) (fun hc => ?_) (fun hc => ?_)
      · have h := h.1 hc
        exact j46 _ _ _ _ _ _ _ _ h hw (lv_sub hl [1, 2, 3, 4] rfl)
      · have h := h.2 hc
        refine lv_iload_n hx hb d_M_gate_41 rfl (lv_at hl 2 rfl) ?_
        refine lv_iconst (v := 2) hx hb d_M_gate_42 (by decide) ?_
        refine lv_icmp_le (tgt := 50) hx hb d_M_gate_43 (by decide) (fun hc => ?_) (fun hc => ?_)
        · have h := h.1 hc
          refine lv_aload_n hx hb d_M_gate_50 rfl (lv_at hl 1 rfl) ?_
          refine va_get (D := D) (ci := 5) (v := .int M_gates) (C := R_M) (T := T_M) (N := 18) hx hb hts (fun w h => List.mem_cons_of_mem _ (iw_M w h)) hown hK.1 hw.1 0 rfl rfl 4 (by decide) (hg gm_571) (fun _ h9 => h9) rfl d_M_gate_51 ?_
          refine lv_bipush (v := 40) hx hb d_M_gate_54 (by decide) ?_
          refine lv_icmp_ne (tgt := 63) hx hb d_M_gate_56 (by decide) (fun hc => ?_) (fun hc => ?_)
          · have h := h.2 hc
            refine lv_iconst (v := 0) hx hb d_M_gate_63 (by decide) ?_
            exact j64 _ _ _ _ _ _ _ _ _ h hw (lv_sub hl [1, 2, 3, 4] rfl)
          · have h := h.1 hc
            refine lv_iconst (v := 3) hx hb d_M_gate_59 (by decide) ?_
            refine lv_goto (tgt := 64) hx hb d_M_gate_60 (by decide) ?_
            exact j64 _ _ _ _ _ _ _ _ _ h hw (lv_sub hl [1, 2, 3, 4] rfl)
        · have h := h.2 hc
          exact j46 _ _ _ _ _ _ _ _ h hw (lv_sub hl [1, 2, 3, 4] rfl)
    · have h := h.1 hc
      refine lv_iconst (v := 1) hx hb d_M_gate_33 (by decide) ?_
      refine lv_goto (tgt := 64) hx hb d_M_gate_34 (by decide) ?_
      exact j64 _ _ _ _ _ _ _ _ _ h hw (lv_sub hl [1, 2, 3, 4] rfl)
  have j24 : ∀ (M_thrown : Int32) (M_gates : Int32) (M_kinds : (Nat → Int32)) (M_ones : (Nat → Int32)) (M_twos : (Nat → Int32)) (H : Heap) (locs : List Loc) (ls : Array Slot), s_M_gate_24 p1 p2 p3 post M_thrown M_gates M_kinds M_ones M_twos → mW D A s.heap [(k_M cA ad M_thrown M_gates M_lines M_conflict M_moved M_tapeSize M_place M_found), (k_M_kinds cA ad M_kinds), (k_M_ones cA ad M_ones), (k_M_twos cA ad M_twos)] H locs → lv_has ls 5 [(0, .ref (ad 15)), (1, .int p1), (2, .int p2), (3, .int p3)] → W p l e rm_M_gate s m [.ref (ad 15), .int p1, .int p2, .int p3].toArray below meth c H locs 0 0 Q (F0 m 24 ls []) := by
    intro M_thrown M_gates M_kinds M_ones M_twos H locs ls h hw hl
    unfold s_M_gate_24 at h
    refine lv_iconst (v := 0) hx hb d_M_gate_24 (by decide) ?_
    exact j25 _ _ _ _ _ _ _ _ _ h hw (lv_sub hl [0, 1, 2, 3] rfl)
  have j20 : ∀ (M_thrown : Int32) (M_gates : Int32) (M_kinds : (Nat → Int32)) (M_ones : (Nat → Int32)) (M_twos : (Nat → Int32)) (H : Heap) (locs : List Loc) (ls : Array Slot), s_M_gate_20 p1 p2 p3 post M_thrown M_gates M_kinds M_ones M_twos → mW D A s.heap [(k_M cA ad M_thrown M_gates M_lines M_conflict M_moved M_tapeSize M_place M_found), (k_M_kinds cA ad M_kinds), (k_M_ones cA ad M_ones), (k_M_twos cA ad M_twos)] H locs → lv_has ls 5 [(0, .ref (ad 15)), (1, .int p1), (2, .int p2), (3, .int p3)] → W p l e rm_M_gate s m [.ref (ad 15), .int p1, .int p2, .int p3].toArray below meth c H locs 0 0 Q (F0 m 20 ls []) := by
    intro M_thrown M_gates M_kinds M_ones M_twos H locs ls h hw hl
    unfold s_M_gate_20 at h
    refine lv_iconst (v := 1) hx hb d_M_gate_20 (by decide) ?_
    refine lv_goto (tgt := 25) hx hb d_M_gate_21 (by decide) ?_
    exact j25 _ _ _ _ _ _ _ _ _ h hw (lv_sub hl [0, 1, 2, 3] rfl)
  unfold wp_M_gate at h
  refine lv_iload_n hx hb d_M_gate_0 rfl (lv_at hl 1 rfl) ?_
  refine lv_if_eq (tgt := 20) hx hb d_M_gate_1 (by decide) (fun hc => ?_) (fun hc => ?_)
  · have h := h.1 hc
    exact j20 _ _ _ _ _ _ _ _ h hw (lv_sub hl [0, 1, 2, 3] rfl)
  · have h := h.2 hc
    refine lv_aload_n hx hb d_M_gate_4 rfl (lv_at hl 0 rfl) ?_
    refine lv_iload_n hx hb d_M_gate_5 rfl (lv_at hl 2 rfl) ?_
    refine m_calli (hr := va_runV (As := [.int p2]) (rest := []) ⟨hx, hb, hml, hown, hts⟩ (c_M_isLiteral l D cA ad _ M_thrown M_gates M_lines M_conflict M_moved M_tapeSize M_place M_found p2 _ h) (cwV 1 hts (ginV gm_630 gm_632 gs_40 gm_6 gm_633) rfl rfl rfl (by decide +kernel) ⟨Nat.le_of_ble_eq_true rfl, Nat.le_of_ble_eq_true rfl⟩) (m_preV 5 0 rfl rfl hK hw [0] rfl rfl) rfl rfl hl.1 rfl (lv_room (Nat.le_of_ble_eq_true rfl)) d_M_gate_6 ⟨Nat.zero_le _, Nat.zero_le _⟩) (w2 := (fun (_ : Unit) => [(k_M cA ad M_thrown M_gates M_lines M_conflict M_moved M_tapeSize M_place M_found), (k_M_kinds cA ad M_kinds), (k_M_ones cA ad M_ones), (k_M_twos cA ad M_twos)])) (wr := [(k_M_kinds cA ad M_kinds), (k_M_ones cA ad M_ones), (k_M_twos cA ad M_twos)]) hw hA [0] [1, 2, 3] [3, 0, 1, 2] rfl rfl (by decide) (by decide) (by decide) (fun _ => rfl) (fun r6 u H locs hw h => ?_)
    refine lv_if_eq (tgt := 24) hx hb d_M_gate_9 (by decide) (fun hc => ?_) (fun hc => ?_)
    · have h := h.1 hc
      exact j24 _ _ _ _ _ _ _ _ h hw (lv_sub hl [0, 1, 2, 3] rfl)
    · have h := h.2 hc
      refine lv_aload_n hx hb d_M_gate_12 rfl (lv_at hl 0 rfl) ?_
      refine lv_iload_n hx hb d_M_gate_13 rfl (lv_at hl 3 rfl) ?_
      refine m_calli (hr := va_runV (As := [.int p3]) (rest := []) ⟨hx, hb, hml, hown, hts⟩ (c_M_isLiteral l D cA ad _ M_thrown M_gates M_lines M_conflict M_moved M_tapeSize M_place M_found p3 _ h) (cwV 1 hts (ginV gm_630 gm_632 gs_40 gm_6 gm_633) rfl rfl rfl (by decide +kernel) ⟨Nat.le_of_ble_eq_true rfl, Nat.le_of_ble_eq_true rfl⟩) (m_preV 5 0 rfl rfl hK hw [0] rfl rfl) rfl rfl hl.1 rfl (lv_room (Nat.le_of_ble_eq_true rfl)) d_M_gate_14 ⟨Nat.zero_le _, Nat.zero_le _⟩) (w2 := (fun (_ : Unit) => [(k_M cA ad M_thrown M_gates M_lines M_conflict M_moved M_tapeSize M_place M_found), (k_M_kinds cA ad M_kinds), (k_M_ones cA ad M_ones), (k_M_twos cA ad M_twos)])) (wr := [(k_M_kinds cA ad M_kinds), (k_M_ones cA ad M_ones), (k_M_twos cA ad M_twos)]) hw hA [0] [1, 2, 3] [3, 0, 1, 2] rfl rfl (by decide) (by decide) (by decide) (fun _ => rfl) (fun r14 u H locs hw h => ?_)
      refine lv_if_eq (tgt := 24) hx hb d_M_gate_17 (by decide) (fun hc => ?_) (fun hc => ?_)
      · have h := h.1 hc
        exact j24 _ _ _ _ _ _ _ _ h hw (lv_sub hl [0, 1, 2, 3] rfl)
      · have h := h.2 hc
        exact j20 _ _ _ _ _ _ _ _ h hw (lv_sub hl [0, 1, 2, 3] rfl)
def rm_M_line : Room := { frames := 0, cells := 0, slots := 0, locals := 0 }
set_option maxHeartbeats 4000000 in
set_option maxRecDepth 100000 in
theorem c_M_line (l : Launch) (D : va_G) (cA : Nat → ClassId) (ad : Nat → Nat) (sz : Nat) (M_thrown : Int32) (M_gates : Int32) (M_lines : Int32) (M_conflict : Int32) (M_moved : Int32) (M_tapeSize : Int32) (M_place : Int32) (M_found : Int32) (M_equals : (Nat → Int32)) (M_counts : (Nat → Int32)) (post : Int32 → Int32 → Int32 → (Nat → Int32) → (Nat → Int32) → Prop) (h : wp_M_line M_thrown M_lines M_equals M_counts post) : Met l y_M_line w_M_line rm_M_line (mPc D cA [.ref (ad 15)] [(k_M cA ad M_thrown M_gates M_lines M_conflict M_moved M_tapeSize M_place M_found), (k_M_equals cA ad M_equals), (k_M_counts cA ad M_counts)] sz) (va_Qi (fun (r : Int32) (u : Int32 × Int32 × (Nat → Int32) × (Nat → Int32)) => post r u.1 u.2.1 u.2.2.1 u.2.2.2) (mB D (va_A [(k_M cA ad M_thrown M_gates M_lines M_conflict M_moved M_tapeSize M_place M_found), (k_M_equals cA ad M_equals), (k_M_counts cA ad M_counts)] sz) (fun (u : Int32 × Int32 × (Nat → Int32) × (Nat → Int32)) => [(k_M cA ad u.1 M_gates u.2.1 M_conflict M_moved M_tapeSize M_place M_found), (k_M_equals cA ad u.2.2.1), (k_M_counts cA ad u.2.2.2)])) (va_A [(k_M cA ad M_thrown M_gates M_lines M_conflict M_moved M_tapeSize M_place M_found), (k_M_equals cA ad M_equals), (k_M_counts cA ad M_counts)] sz)) 0 0 (va_A [(k_M cA ad M_thrown M_gates M_lines M_conflict M_moved M_tapeSize M_place M_found), (k_M_equals cA ad M_equals), (k_M_counts cA ad M_counts)] sz) := by
  refine m_methI (by decide) rfl (Nat.le_of_ble_eq_true rfl) ?_
  intro p e s m below meth c A Q ls hx hb hml hown hts hK hA hw hl hE
  have hl : lv_has ls 1 [(0, .ref (ad 15))] := hl
  have hown : s.vm.findClass R_M = some m.cls := hown
  have hg : ∀ {w : Cond}, w ∈ gw → w.before _ s = true := fun h => hts _ (List.mem_cons_of_mem _ h)
  have j15 : ∀ (s0 : Int32) (M_thrown : Int32) (M_lines : Int32) (M_equals : (Nat → Int32)) (M_counts : (Nat → Int32)) (H : Heap) (locs : List Loc) (ls : Array Slot), s_M_line_15 post s0 M_thrown M_lines M_equals M_counts → mW D A s.heap [(k_M cA ad M_thrown M_gates M_lines M_conflict M_moved M_tapeSize M_place M_found), (k_M_equals cA ad M_equals), (k_M_counts cA ad M_counts)] H locs → lv_has ls 1 [(0, .ref (ad 15))] → W p l e rm_M_line s m [.ref (ad 15)].toArray below meth c H locs 0 0 Q (F0 m 15 ls [.int s0, .ref (ad 15)]) := by
    intro s0 M_thrown M_lines M_equals M_counts H locs ls h hw hl
    unfold s_M_line_15 at h
    refine m_put (ws' := [(k_M cA ad s0 M_gates M_lines M_conflict M_moved M_tapeSize M_place M_found), (k_M_equals cA ad M_equals), (k_M_counts cA ad M_counts)]) (ci := 5) (v := .int s0) (ty := .int) (C := R_M) (T := T_M) (N := 18) hx hb hts (fun w h => List.mem_cons_of_mem _ (iw_M w h)) ty_M tyok_M nm_M hown hK.1 hw 0 rfl rfl 0 (by decide) (hg gm_567) (fun _ h9 => h9) rfl (by decide +kernel) rfl rfl (Nat.le_of_ble_eq_true rfl) rfl d_M_line_15 (fun H locs hw => ?_)
    refine lv_aload_n hx hb d_M_line_18 rfl (lv_at hl 0 rfl) ?_
    refine va_get (D := D) (ci := 5) (v := .int s0) (C := R_M) (T := T_M) (N := 18) hx hb hts (fun w h => List.mem_cons_of_mem _ (iw_M w h)) hown hK.1 hw.1 0 rfl rfl 0 (by decide) (hg gm_567) (fun _ h9 => h9) rfl d_M_line_19 ?_
    refine lv_if_le (tgt := 27) hx hb d_M_line_22 (by decide) (fun hc => ?_) (fun hc => ?_)
    · have h := h.1 hc
      refine lv_aload_n hx hb d_M_line_27 rfl (lv_at hl 0 rfl) ?_
      refine va_get (D := D) (ci := 5) (v := .ref (ad 19)) (C := R_M) (T := T_M) (N := 18) hx hb hts (fun w h => List.mem_cons_of_mem _ (iw_M w h)) hown hK.1 hw.1 0 rfl rfl 5 (by decide) (hg gm_572) (fun _ h9 => h9) rfl d_M_line_28 ?_
      refine lv_aload_n hx hb d_M_line_31 rfl (lv_at hl 0 rfl) ?_
      refine va_get (D := D) (ci := 5) (v := .int M_lines) (C := R_M) (T := T_M) (N := 18) hx hb hts (fun w h => List.mem_cons_of_mem _ (iw_M w h)) hown hK.1 hw.1 0 rfl rfl 8 (by decide) (hg gm_575) (fun _ h9 => h9) rfl d_M_line_32 ?_
      refine lv_iconst (v := 0) hx hb d_M_line_35 (by decide) ?_
      refine m_zast (ws' := [(k_M cA ad s0 M_gates M_lines M_conflict M_moved M_tapeSize M_place M_found), (k_M_equals cA ad (upd M_equals M_lines.toNatClampNeg (vp_nar .boolean 0))), (k_M_counts cA ad M_counts)]) hx hb hK.1 hw 1 1 rfl rfl h.1 rfl d_M_line_36 (fun H locs hw => ?_)
      have h := h.2
      refine lv_aload_n hx hb d_M_line_37 rfl (lv_at hl 0 rfl) ?_
      refine va_get (D := D) (ci := 5) (v := .ref (ad 20)) (C := R_M) (T := T_M) (N := 18) hx hb hts (fun w h => List.mem_cons_of_mem _ (iw_M w h)) hown hK.1 hw.1 0 rfl rfl 6 (by decide) (hg gm_573) (fun _ h9 => h9) rfl d_M_line_38 ?_
      refine lv_aload_n hx hb d_M_line_41 rfl (lv_at hl 0 rfl) ?_
      refine va_get (D := D) (ci := 5) (v := .int M_lines) (C := R_M) (T := T_M) (N := 18) hx hb hts (fun w h => List.mem_cons_of_mem _ (iw_M w h)) hown hK.1 hw.1 0 rfl rfl 8 (by decide) (hg gm_575) (fun _ h9 => h9) rfl d_M_line_42 ?_
      refine lv_iconst (v := 0) hx hb d_M_line_45 (by decide) ?_
      refine m_iast (ws' := [(k_M cA ad s0 M_gates M_lines M_conflict M_moved M_tapeSize M_place M_found), (k_M_equals cA ad (upd M_equals M_lines.toNatClampNeg (vp_nar .boolean 0))), (k_M_counts cA ad (upd M_counts M_lines.toNatClampNeg 0))]) hx hb hK.1 hw 2 0 rfl rfl h.1 rfl d_M_line_46 (fun H locs hw => ?_)
      have h := h.2
      refine lv_aload_n hx hb d_M_line_47 rfl (lv_at hl 0 rfl) ?_
      refine lv_dup hx hb d_M_line_48 rfl ?_
      refine va_get (D := D) (ci := 5) (v := .int M_lines) (C := R_M) (T := T_M) (N := 18) hx hb hts (fun w h => List.mem_cons_of_mem _ (iw_M w h)) hown hK.1 hw.1 0 rfl rfl 8 (by decide) (hg gm_575) (fun _ h9 => h9) rfl d_M_line_49 ?_
      refine lv_iconst (v := 1) hx hb d_M_line_52 (by decide) ?_
      refine lv_iadd hx hb d_M_line_53 ?_
      refine m_put (ws' := [(k_M cA ad s0 M_gates (M_lines + 1) M_conflict M_moved M_tapeSize M_place M_found), (k_M_equals cA ad (upd M_equals M_lines.toNatClampNeg (vp_nar .boolean 0))), (k_M_counts cA ad (upd M_counts M_lines.toNatClampNeg 0))]) (ci := 5) (v := .int (M_lines + 1)) (ty := .int) (C := R_M) (T := T_M) (N := 18) hx hb hts (fun w h => List.mem_cons_of_mem _ (iw_M w h)) ty_M tyok_M nm_M hown hK.1 hw 0 rfl rfl 8 (by decide) (hg gm_575) (fun _ h9 => h9) rfl (by decide +kernel) rfl rfl (Nat.le_of_ble_eq_true rfl) rfl d_M_line_54 (fun H locs hw => ?_)
      refine lv_aload_n hx hb d_M_line_57 rfl (lv_at hl 0 rfl) ?_
      refine va_get (D := D) (ci := 5) (v := .int (M_lines + 1)) (C := R_M) (T := T_M) (N := 18) hx hb hts (fun w h => List.mem_cons_of_mem _ (iw_M w h)) hown hK.1 hw.1 0 rfl rfl 8 (by decide) (hg gm_575) (fun _ h9 => h9) rfl d_M_line_58 ?_
      refine lv_iconst (v := 1) hx hb d_M_line_61 (by decide) ?_
      refine lv_isub hx hb d_M_line_62 ?_
      exact hE ((M_lines + 1) - 1) (s0, (M_lines + 1), (upd M_equals M_lines.toNatClampNeg (vp_nar .boolean 0)), (upd M_counts M_lines.toNatClampNeg 0)) _ _ _ _ h hw d_M_line_63
    · have h := h.2 hc
      refine lv_iconst (v := 0) hx hb d_M_line_25 (by decide) ?_
      exact hE 0 (s0, M_lines, M_equals, M_counts) _ _ _ _ h hw d_M_line_26
  unfold wp_M_line at h
  refine lv_aload_n hx hb d_M_line_0 rfl (lv_at hl 0 rfl) ?_
  refine lv_aload_n hx hb d_M_line_1 rfl (lv_at hl 0 rfl) ?_
  refine va_get (D := D) (ci := 5) (v := .int M_lines) (C := R_M) (T := T_M) (N := 18) hx hb hts (fun w h => List.mem_cons_of_mem _ (iw_M w h)) hown hK.1 hw.1 0 rfl rfl 8 (by decide) (hg gm_575) (fun _ h9 => h9) rfl d_M_line_2 ?_
  refine lv_bipush (v := 24) hx hb d_M_line_5 (by decide) ?_
  refine lv_icmp_ne (tgt := 14) hx hb d_M_line_7 (by decide) (fun hc => ?_) (fun hc => ?_)
  · have h := h.2 hc
    refine lv_iconst (v := 0) hx hb d_M_line_14 (by decide) ?_
    exact j15 _ _ _ _ _ _ _ _ h hw (lv_sub hl [0] rfl)
  · have h := h.1 hc
    refine lv_iconst (v := 1) hx hb d_M_line_10 (by decide) ?_
    refine lv_goto (tgt := 15) hx hb d_M_line_11 (by decide) ?_
    exact j15 _ _ _ _ _ _ _ _ h hw (lv_sub hl [0] rfl)
def rm_M_isThere : Room := { frames := 0, cells := 0, slots := 0, locals := 0 }
set_option maxHeartbeats 4000000 in
set_option maxRecDepth 100000 in
theorem c_M_isThere (l : Launch) (D : va_G) (cA : Nat → ClassId) (ad : Nat → Nat) (sz : Nat) (M_thrown : Int32) (M_gates : Int32) (M_lines : Int32) (M_conflict : Int32) (M_moved : Int32) (M_tapeSize : Int32) (M_place : Int32) (M_found : Int32) (M_counts : (Nat → Int32)) (M_literals : (Nat → Int32)) (p1 : Int32) (p2 : Int32) (post : Int32 → Prop) (h : wp_M_isThere M_counts M_literals p1 p2 post) : Met l y_M_isThere w_M_isThere rm_M_isThere (mPc D cA [.ref (ad 15), .int p1, .int p2] [(k_M cA ad M_thrown M_gates M_lines M_conflict M_moved M_tapeSize M_place M_found), (k_M_counts cA ad M_counts), (k_M_literals cA ad M_literals)] sz) (va_Qi (fun (r : Int32) (_ : Unit) => post r) (mB D (va_A [(k_M cA ad M_thrown M_gates M_lines M_conflict M_moved M_tapeSize M_place M_found), (k_M_counts cA ad M_counts), (k_M_literals cA ad M_literals)] sz) (fun (_ : Unit) => [(k_M cA ad M_thrown M_gates M_lines M_conflict M_moved M_tapeSize M_place M_found), (k_M_counts cA ad M_counts), (k_M_literals cA ad M_literals)])) (va_A [(k_M cA ad M_thrown M_gates M_lines M_conflict M_moved M_tapeSize M_place M_found), (k_M_counts cA ad M_counts), (k_M_literals cA ad M_literals)] sz)) 0 0 (va_A [(k_M cA ad M_thrown M_gates M_lines M_conflict M_moved M_tapeSize M_place M_found), (k_M_counts cA ad M_counts), (k_M_literals cA ad M_literals)] sz) := by
  refine m_methZ (by decide) rfl (Nat.le_of_ble_eq_true rfl) ?_
  intro p e s m below meth c A Q ls hx hb hml hown hts hK hA hw hl hE
  have hl : lv_has ls 5 [(0, .ref (ad 15)), (1, .int p1), (2, .int p2)] := hl
  have hown : s.vm.findClass R_M = some m.cls := hown
  have hg : ∀ {w : Cond}, w ∈ gw → w.before _ s = true := fun h => hts _ (List.mem_cons_of_mem _ h)
  obtain ⟨C5, hC5⟩ : ∃ C : Int32 → Int32 → Prop, ∀ (x3 : Int32) (x4 : Int32), C x3 x4 ↔ (∀ (H : Heap) (locs : List Loc) (ls : Array Slot), mW D A s.heap [(k_M cA ad M_thrown M_gates M_lines M_conflict M_moved M_tapeSize M_place M_found), (k_M_counts cA ad M_counts), (k_M_literals cA ad M_literals)] H locs → lv_has ls 5 [(0, .ref (ad 15)), (1, .int p1), (2, .int p2), (3, .int x3), (4, .int x4)] → W p l e rm_M_isThere s m [.ref (ad 15), .int p1, .int p2].toArray below meth c H locs 0 0 Q (F0 m 5 ls [])) := ⟨_, fun _ _ => Iff.rfl⟩
  have j41 : ∀ (s0 : Int32) (x4 : Int32) (H : Heap) (locs : List Loc) (ls : Array Slot), s_M_isThere_41 M_counts M_literals p1 p2 C5 post s0 x4 → mW D A s.heap [(k_M cA ad M_thrown M_gates M_lines M_conflict M_moved M_tapeSize M_place M_found), (k_M_counts cA ad M_counts), (k_M_literals cA ad M_literals)] H locs → lv_has ls 5 [(0, .ref (ad 15)), (1, .int p1), (2, .int p2), (4, .int x4)] → W p l e rm_M_isThere s m [.ref (ad 15), .int p1, .int p2].toArray below meth c H locs 0 0 Q (F0 m 41 ls [.int s0]) := by
    intro s0 x4 H locs ls h hw hl
    unfold s_M_isThere_41 at h
    refine lv_istore_n (lv' := [(3, .int s0), (0, .ref (ad 15)), (1, .int p1), (2, .int p2), (4, .int x4)]) hx hb d_M_isThere_41 rfl hl (by decide) rfl (fun ls hl => ?_)
    refine lv_iinc (v := (x4 + 1)) (lv' := [(4, .int (x4 + 1)), (3, .int s0), (0, .ref (ad 15)), (1, .int p1), (2, .int p2)]) hx hb d_M_isThere_42 hl (k := 4) rfl rfl (by decide) rfl (fun ls hl => ?_)
    refine lv_goto (tgt := 5) hx hb d_M_isThere_45 (by decide) ?_
    exact (hC5 _ _).1 h _ _ _ hw (lv_sub hl [2, 3, 4, 1, 0] rfl)
  have j36 : ∀ (x4 : Int32) (H : Heap) (locs : List Loc) (ls : Array Slot), s_M_isThere_36 M_counts M_literals p1 p2 C5 post x4 → mW D A s.heap [(k_M cA ad M_thrown M_gates M_lines M_conflict M_moved M_tapeSize M_place M_found), (k_M_counts cA ad M_counts), (k_M_literals cA ad M_literals)] H locs → lv_has ls 5 [(0, .ref (ad 15)), (1, .int p1), (2, .int p2), (4, .int x4)] → W p l e rm_M_isThere s m [.ref (ad 15), .int p1, .int p2].toArray below meth c H locs 0 0 Q (F0 m 36 ls []) := by
    intro x4 H locs ls h hw hl
    unfold s_M_isThere_36 at h
    refine lv_iconst (v := 1) hx hb d_M_isThere_36 (by decide) ?_
    refine lv_goto (tgt := 41) hx hb d_M_isThere_37 (by decide) ?_
    exact j41 _ _ _ _ _ h hw (lv_sub hl [0, 1, 2, 3] rfl)
  have hc5 : ∀ (x3 : Int32) (x4 : Int32), s_M_isThere_5 M_counts M_literals p1 p2 C5 post x3 x4 → C5 x3 x4 := by
    intro x3 x4 h
    unfold s_M_isThere_5 at h
    refine (hC5 _ _).2 ?_
    intro H locs ls hw hl
    refine lv_iload hx hb d_M_isThere_5 (lv_at hl 4 rfl) ?_
    refine lv_aload_n hx hb d_M_isThere_7 rfl (lv_at hl 0 rfl) ?_
    refine va_get (D := D) (ci := 5) (v := .ref (ad 20)) (C := R_M) (T := T_M) (N := 18) hx hb hts (fun w h => List.mem_cons_of_mem _ (iw_M w h)) hown hK.1 hw.1 0 rfl rfl 6 (by decide) (hg gm_573) (fun _ h9 => h9) rfl d_M_isThere_8 ?_
    refine lv_iload_n hx hb d_M_isThere_11 rfl (lv_at hl 1 rfl) ?_
    refine va_iald hx hb hK.1 hw.1 1 0 rfl rfl h.1 d_M_isThere_12 ?_
    have h := h.2
    refine lv_icmp_ge (tgt := 48) hx hb d_M_isThere_13 (by decide) (fun hc => ?_) (fun hc => ?_)
    · have h := h.1 hc
      refine lv_iload_n hx hb d_M_isThere_48 rfl (lv_at hl 3 rfl) ?_
      exact hE x3 () _ _ _ _ h.2 (isB_nar h.1) hw d_M_isThere_49
    · have h := h.2 hc
      refine lv_iload_n hx hb d_M_isThere_16 rfl (lv_at hl 3 rfl) ?_
      refine lv_if_ne (tgt := 36) hx hb d_M_isThere_17 (by decide) (fun hc => ?_) (fun hc => ?_)
      · have h := h.2 hc
        exact j36 _ _ _ _ h hw (lv_sub hl [0, 1, 2, 4] rfl)
      · have h := h.1 hc
        refine lv_aload_n hx hb d_M_isThere_20 rfl (lv_at hl 0 rfl) ?_
        refine va_get (D := D) (ci := 5) (v := .ref (ad 21)) (C := R_M) (T := T_M) (N := 18) hx hb hts (fun w h => List.mem_cons_of_mem _ (iw_M w h)) hown hK.1 hw.1 0 rfl rfl 7 (by decide) (hg gm_574) (fun _ h9 => h9) rfl d_M_isThere_21 ?_
        refine lv_bipush (v := 6) hx hb d_M_isThere_24 (by decide) ?_
        refine lv_iload_n hx hb d_M_isThere_26 rfl (lv_at hl 1 rfl) ?_
        refine lv_imul hx hb d_M_isThere_27 ?_
        refine lv_iload hx hb d_M_isThere_28 (lv_at hl 4 rfl) ?_
        refine lv_iadd hx hb d_M_isThere_30 ?_
        refine va_iald hx hb hK.1 hw.1 2 0 rfl rfl h.1 d_M_isThere_31 ?_
        have h := h.2
        refine lv_iload_n hx hb d_M_isThere_32 rfl (lv_at hl 2 rfl) ?_
        refine lv_icmp_ne (tgt := 40) hx hb d_M_isThere_33 (by decide) (fun hc => ?_) (fun hc => ?_)
        · have h := h.2 hc
          refine lv_iconst (v := 0) hx hb d_M_isThere_40 (by decide) ?_
          exact j41 _ _ _ _ _ h hw (lv_sub hl [0, 1, 2, 4] rfl)
        · have h := h.1 hc
          exact j36 _ _ _ _ h hw (lv_sub hl [0, 1, 2, 4] rfl)
  unfold wp_M_isThere at h
  have h := h C5 hc5
  refine lv_iconst (v := 0) hx hb d_M_isThere_0 (by decide) ?_
  refine lv_istore_n (lv' := [(3, .int 0), (0, .ref (ad 15)), (1, .int p1), (2, .int p2)]) hx hb d_M_isThere_1 rfl hl (by decide) rfl (fun ls hl => ?_)
  refine lv_iconst (v := 0) hx hb d_M_isThere_2 (by decide) ?_
  refine lv_istore (lv' := [(4, .int 0), (3, .int 0), (0, .ref (ad 15)), (1, .int p1), (2, .int p2)]) hx hb d_M_isThere_3 hl (by decide) rfl (fun ls hl => ?_)
  exact (hC5 _ _).1 h _ _ _ hw (lv_sub hl [2, 3, 4, 1, 0] rfl)
def rm_M_add : Room := { frames := 0, cells := 0, slots := 0, locals := 0 }
set_option maxHeartbeats 4000000 in
set_option maxRecDepth 100000 in
theorem c_M_add (l : Launch) (D : va_G) (cA : Nat → ClassId) (ad : Nat → Nat) (sz : Nat) (M_thrown : Int32) (M_gates : Int32) (M_lines : Int32) (M_conflict : Int32) (M_moved : Int32) (M_tapeSize : Int32) (M_place : Int32) (M_found : Int32) (M_counts : (Nat → Int32)) (M_literals : (Nat → Int32)) (p1 : Int32) (p2 : Int32) (post : (Nat → Int32) → (Nat → Int32) → Prop) (h : wp_M_add M_counts M_literals p1 p2 post) : Met l y_M_add w_M_add rm_M_add (mPc D cA [.ref (ad 15), .int p1, .int p2] [(k_M cA ad M_thrown M_gates M_lines M_conflict M_moved M_tapeSize M_place M_found), (k_M_counts cA ad M_counts), (k_M_literals cA ad M_literals)] sz) (va_Qv (fun (u : (Nat → Int32) × (Nat → Int32)) => post u.1 u.2) (mB D (va_A [(k_M cA ad M_thrown M_gates M_lines M_conflict M_moved M_tapeSize M_place M_found), (k_M_counts cA ad M_counts), (k_M_literals cA ad M_literals)] sz) (fun (u : (Nat → Int32) × (Nat → Int32)) => [(k_M cA ad M_thrown M_gates M_lines M_conflict M_moved M_tapeSize M_place M_found), (k_M_counts cA ad u.1), (k_M_literals cA ad u.2)])) (va_A [(k_M cA ad M_thrown M_gates M_lines M_conflict M_moved M_tapeSize M_place M_found), (k_M_counts cA ad M_counts), (k_M_literals cA ad M_literals)] sz)) 0 0 (va_A [(k_M cA ad M_thrown M_gates M_lines M_conflict M_moved M_tapeSize M_place M_found), (k_M_counts cA ad M_counts), (k_M_literals cA ad M_literals)] sz) := by
  refine m_methV (by decide) rfl (Nat.le_of_ble_eq_true rfl) ?_
  intro p e s m below meth c A Q ls hx hb hml hown hts hK hA hw hl hE
  have hl : lv_has ls 3 [(0, .ref (ad 15)), (1, .int p1), (2, .int p2)] := hl
  have hown : s.vm.findClass R_M = some m.cls := hown
  have hg : ∀ {w : Cond}, w ∈ gw → w.before _ s = true := fun h => hts _ (List.mem_cons_of_mem _ h)
  unfold wp_M_add at h
  refine lv_aload_n hx hb d_M_add_0 rfl (lv_at hl 0 rfl) ?_
  refine va_get (D := D) (ci := 5) (v := .ref (ad 21)) (C := R_M) (T := T_M) (N := 18) hx hb hts (fun w h => List.mem_cons_of_mem _ (iw_M w h)) hown hK.1 hw.1 0 rfl rfl 7 (by decide) (hg gm_574) (fun _ h9 => h9) rfl d_M_add_1 ?_
  refine lv_bipush (v := 6) hx hb d_M_add_4 (by decide) ?_
  refine lv_iload_n hx hb d_M_add_6 rfl (lv_at hl 1 rfl) ?_
  refine lv_imul hx hb d_M_add_7 ?_
  refine lv_aload_n hx hb d_M_add_8 rfl (lv_at hl 0 rfl) ?_
  refine va_get (D := D) (ci := 5) (v := .ref (ad 20)) (C := R_M) (T := T_M) (N := 18) hx hb hts (fun w h => List.mem_cons_of_mem _ (iw_M w h)) hown hK.1 hw.1 0 rfl rfl 6 (by decide) (hg gm_573) (fun _ h9 => h9) rfl d_M_add_9 ?_
  refine lv_iload_n hx hb d_M_add_12 rfl (lv_at hl 1 rfl) ?_
  refine va_iald hx hb hK.1 hw.1 1 0 rfl rfl h.1 d_M_add_13 ?_
  have h := h.2
  refine lv_iadd hx hb d_M_add_14 ?_
  refine lv_iload_n hx hb d_M_add_15 rfl (lv_at hl 2 rfl) ?_
  refine m_iast (ws' := [(k_M cA ad M_thrown M_gates M_lines M_conflict M_moved M_tapeSize M_place M_found), (k_M_counts cA ad M_counts), (k_M_literals cA ad (upd M_literals ((6 * p1) + (M_counts p1.toNatClampNeg)).toNatClampNeg p2))]) hx hb hK.1 hw 2 0 rfl rfl h.1 rfl d_M_add_16 (fun H locs hw => ?_)
  have h := h.2
  refine lv_aload_n hx hb d_M_add_17 rfl (lv_at hl 0 rfl) ?_
  refine va_get (D := D) (ci := 5) (v := .ref (ad 20)) (C := R_M) (T := T_M) (N := 18) hx hb hts (fun w h => List.mem_cons_of_mem _ (iw_M w h)) hown hK.1 hw.1 0 rfl rfl 6 (by decide) (hg gm_573) (fun _ h9 => h9) rfl d_M_add_18 ?_
  refine lv_iload_n hx hb d_M_add_21 rfl (lv_at hl 1 rfl) ?_
  refine lv_dup2_11 hx hb d_M_add_22 rfl rfl ?_
  refine va_iald hx hb hK.1 hw.1 1 0 rfl rfl h.1 d_M_add_23 ?_
  have h := h.2
  refine lv_iconst (v := 1) hx hb d_M_add_24 (by decide) ?_
  refine lv_iadd hx hb d_M_add_25 ?_
  refine m_iast (ws' := [(k_M cA ad M_thrown M_gates M_lines M_conflict M_moved M_tapeSize M_place M_found), (k_M_counts cA ad (upd M_counts p1.toNatClampNeg ((M_counts p1.toNatClampNeg) + 1))), (k_M_literals cA ad (upd M_literals ((6 * p1) + (M_counts p1.toNatClampNeg)).toNatClampNeg p2))]) hx hb hK.1 hw 1 0 rfl rfl h.1 rfl d_M_add_26 (fun H locs hw => ?_)
  have h := h.2
  exact hE ((upd M_counts p1.toNatClampNeg ((M_counts p1.toNatClampNeg) + 1)), (upd M_literals ((6 * p1) + (M_counts p1.toNatClampNeg)).toNatClampNeg p2)) _ _ _ _ h hw d_M_add_27
def rm_M_literal : Room := { frames := 1, cells := 0, slots := 0, locals := 24 }
set_option maxHeartbeats 4000000 in
set_option maxRecDepth 100000 in
theorem c_M_literal (l : Launch) (D : va_G) (cA : Nat → ClassId) (ad : Nat → Nat) (sz : Nat) (M_thrown : Int32) (M_gates : Int32) (M_lines : Int32) (M_conflict : Int32) (M_moved : Int32) (M_tapeSize : Int32) (M_place : Int32) (M_found : Int32) (M_equals : (Nat → Int32)) (M_counts : (Nat → Int32)) (M_literals : (Nat → Int32)) (p1 : Int32) (p2 : Int32) (post : Int32 → Int32 → (Nat → Int32) → (Nat → Int32) → Prop) (h : wp_M_literal M_thrown M_gates M_lines M_equals M_counts M_literals p1 p2 post) : Met l y_M_literal w_M_literal rm_M_literal (mPc D cA [.ref (ad 15), .int p1, .int p2] [(k_M cA ad M_thrown M_gates M_lines M_conflict M_moved M_tapeSize M_place M_found), (k_M_equals cA ad M_equals), (k_M_counts cA ad M_counts), (k_M_literals cA ad M_literals)] sz) (va_Qi (fun (r : Int32) (u : Int32 × (Nat → Int32) × (Nat → Int32)) => post r u.1 u.2.1 u.2.2) (mB D (va_A [(k_M cA ad M_thrown M_gates M_lines M_conflict M_moved M_tapeSize M_place M_found), (k_M_equals cA ad M_equals), (k_M_counts cA ad M_counts), (k_M_literals cA ad M_literals)] sz) (fun (u : Int32 × (Nat → Int32) × (Nat → Int32)) => [(k_M cA ad u.1 M_gates M_lines M_conflict M_moved M_tapeSize M_place M_found), (k_M_equals cA ad M_equals), (k_M_counts cA ad u.2.1), (k_M_literals cA ad u.2.2)])) (va_A [(k_M cA ad M_thrown M_gates M_lines M_conflict M_moved M_tapeSize M_place M_found), (k_M_equals cA ad M_equals), (k_M_counts cA ad M_counts), (k_M_literals cA ad M_literals)] sz)) 0 0 (va_A [(k_M cA ad M_thrown M_gates M_lines M_conflict M_moved M_tapeSize M_place M_found), (k_M_equals cA ad M_equals), (k_M_counts cA ad M_counts), (k_M_literals cA ad M_literals)] sz) := by
  refine m_methZ (by decide) rfl (Nat.le_of_ble_eq_true rfl) ?_
  intro p e s m below meth c A Q ls hx hb hml hown hts hK hA hw hl hE
  have hl : lv_has ls 5 [(0, .ref (ad 15)), (1, .int p1), (2, .int p2)] := hl
  have hown : s.vm.findClass R_M = some m.cls := hown
  have hg : ∀ {w : Cond}, w ∈ gw → w.before _ s = true := fun h => hts _ (List.mem_cons_of_mem _ h)
  have j94 : ∀ (s0 : Int32) (x4 : Int32) (M_thrown : Int32) (M_counts : (Nat → Int32)) (M_literals : (Nat → Int32)) (H : Heap) (locs : List Loc) (ls : Array Slot), s_M_literal_94 M_gates M_lines M_equals p1 p2 post s0 x4 M_thrown M_counts M_literals → mW D A s.heap [(k_M cA ad M_thrown M_gates M_lines M_conflict M_moved M_tapeSize M_place M_found), (k_M_equals cA ad M_equals), (k_M_counts cA ad M_counts), (k_M_literals cA ad M_literals)] H locs → lv_has ls 5 [(0, .ref (ad 15)), (1, .int p1), (2, .int p2), (4, .int x4)] → W p l e rm_M_literal s m [.ref (ad 15), .int p1, .int p2].toArray below meth c H locs 0 0 Q (F0 m 94 ls [.int s0, .ref (ad 15)]) := by
    intro s0 x4 M_thrown M_counts M_literals H locs ls h hw hl
    unfold s_M_literal_94 at h
    refine m_put (ws' := [(k_M cA ad s0 M_gates M_lines M_conflict M_moved M_tapeSize M_place M_found), (k_M_equals cA ad M_equals), (k_M_counts cA ad M_counts), (k_M_literals cA ad M_literals)]) (ci := 5) (v := .int s0) (ty := .int) (C := R_M) (T := T_M) (N := 18) hx hb hts (fun w h => List.mem_cons_of_mem _ (iw_M w h)) ty_M tyok_M nm_M hown hK.1 hw 0 rfl rfl 0 (by decide) (hg gm_567) (fun _ h9 => h9) rfl (by decide +kernel) rfl rfl (Nat.le_of_ble_eq_true rfl) rfl d_M_literal_94 (fun H locs hw => ?_)
    refine lv_aload_n hx hb d_M_literal_97 rfl (lv_at hl 0 rfl) ?_
    refine va_get (D := D) (ci := 5) (v := .int s0) (C := R_M) (T := T_M) (N := 18) hx hb hts (fun w h => List.mem_cons_of_mem _ (iw_M w h)) hown hK.1 hw.1 0 rfl rfl 0 (by decide) (hg gm_567) (fun _ h9 => h9) rfl d_M_literal_98 ?_
    refine lv_if_gt (tgt := 109) hx hb d_M_literal_101 (by decide) (fun hc => ?_) (fun hc => ?_)
    · have h := h.1 hc
      refine lv_iconst (v := 0) hx hb d_M_literal_109 (by decide) ?_
      exact hE 0 (s0, M_counts, M_literals) _ _ _ _ h rfl hw d_M_literal_110
    · have h := h.2 hc
      refine lv_iload hx hb d_M_literal_104 (lv_at hl 3 rfl) ?_
      refine lv_if_eq (tgt := 111) hx hb d_M_literal_106 (by decide) (fun hc => ?_) (fun hc => ?_)
      · have h := h.1 hc
        refine lv_aload_n hx hb d_M_literal_111 rfl (lv_at hl 0 rfl) ?_
        refine lv_iload_n hx hb d_M_literal_112 rfl (lv_at hl 1 rfl) ?_
        refine lv_iload_n hx hb d_M_literal_113 rfl (lv_at hl 2 rfl) ?_
        refine m_callv (hr := va_runV (As := [.int p1, .int p2]) (rest := []) ⟨hx, hb, hml, hown, hts⟩ (c_M_add l D cA ad _ s0 M_gates M_lines M_conflict M_moved M_tapeSize M_place M_found M_counts M_literals p1 p2 _ h) (cwV 2 hts (ginV gm_650 gm_652 gs_43 gm_6 gm_653) rfl rfl rfl (by decide +kernel) ⟨Nat.le_of_ble_eq_true rfl, Nat.le_of_ble_eq_true rfl⟩) (m_preV 5 0 rfl rfl hK hw [0, 2, 3] rfl rfl) rfl rfl hl.1 rfl (lv_room (Nat.le_of_ble_eq_true rfl)) d_M_literal_114 ⟨Nat.zero_le _, Nat.zero_le _⟩) (w2 := (fun (u : (Nat → Int32) × (Nat → Int32)) => [(k_M cA ad s0 M_gates M_lines M_conflict M_moved M_tapeSize M_place M_found), (k_M_equals cA ad M_equals), (k_M_counts cA ad u.1), (k_M_literals cA ad u.2)])) (wr := [(k_M_equals cA ad M_equals)]) hw hA [0, 2, 3] [1] [1, 0, 2, 3] rfl rfl (by decide) (by decide) (by decide) (fun _ => rfl) (fun u H locs hw h => ?_)
        obtain ⟨M_counts_114, M_literals_114⟩ := u
        have hw : mW D A s.heap [(k_M cA ad s0 M_gates M_lines M_conflict M_moved M_tapeSize M_place M_found), (k_M_equals cA ad M_equals), (k_M_counts cA ad M_counts_114), (k_M_literals cA ad M_literals_114)] H locs := hw
        refine lv_iconst (v := 1) hx hb d_M_literal_117 (by decide) ?_
        exact hE 1 (s0, M_counts_114, M_literals_114) _ _ _ _ h rfl hw d_M_literal_118
      · have h := h.2 hc
        refine lv_iconst (v := 0) hx hb d_M_literal_109 (by decide) ?_
        exact hE 0 (s0, M_counts, M_literals) _ _ _ _ h rfl hw d_M_literal_110
  have j93 : ∀ (x4 : Int32) (M_thrown : Int32) (M_counts : (Nat → Int32)) (M_literals : (Nat → Int32)) (H : Heap) (locs : List Loc) (ls : Array Slot), s_M_literal_93 M_gates M_lines M_equals p1 p2 post x4 M_thrown M_counts M_literals → mW D A s.heap [(k_M cA ad M_thrown M_gates M_lines M_conflict M_moved M_tapeSize M_place M_found), (k_M_equals cA ad M_equals), (k_M_counts cA ad M_counts), (k_M_literals cA ad M_literals)] H locs → lv_has ls 5 [(0, .ref (ad 15)), (1, .int p1), (2, .int p2), (4, .int x4)] → W p l e rm_M_literal s m [.ref (ad 15), .int p1, .int p2].toArray below meth c H locs 0 0 Q (F0 m 93 ls [.ref (ad 15)]) := by
    intro x4 M_thrown M_counts M_literals H locs ls h hw hl
    unfold s_M_literal_93 at h
    refine lv_iconst (v := 0) hx hb d_M_literal_93 (by decide) ?_
    exact j94 _ _ _ _ _ _ _ _ h hw (lv_sub hl [0, 1, 2, 3] rfl)
  have j49 : ∀ (s0 : Int32) (x3 : Int32) (M_thrown : Int32) (M_counts : (Nat → Int32)) (M_literals : (Nat → Int32)) (H : Heap) (locs : List Loc) (ls : Array Slot), s_M_literal_49 M_gates M_lines M_equals p1 p2 post s0 x3 M_thrown M_counts M_literals → mW D A s.heap [(k_M cA ad M_thrown M_gates M_lines M_conflict M_moved M_tapeSize M_place M_found), (k_M_equals cA ad M_equals), (k_M_counts cA ad M_counts), (k_M_literals cA ad M_literals)] H locs → lv_has ls 5 [(0, .ref (ad 15)), (1, .int p1), (2, .int p2), (3, .int x3)] → W p l e rm_M_literal s m [.ref (ad 15), .int p1, .int p2].toArray below meth c H locs 0 0 Q (F0 m 49 ls [.int s0]) := by
    intro s0 x3 M_thrown M_counts M_literals H locs ls h hw hl
    unfold s_M_literal_49 at h
    refine lv_istore (lv' := [(4, .int s0), (0, .ref (ad 15)), (1, .int p1), (2, .int p2), (3, .int x3)]) hx hb d_M_literal_49 hl (by decide) rfl (fun ls hl => ?_)
    refine lv_aload_n hx hb d_M_literal_51 rfl (lv_at hl 1 rfl) ?_
    refine lv_iload_n hx hb d_M_literal_52 rfl (lv_at hl 4 rfl) ?_
    refine lv_if_ne (tgt := 60) hx hb d_M_literal_53 (by decide) (fun hc => ?_) (fun hc => ?_)
    · have h := h.2 hc
      refine lv_aload_n hx hb d_M_literal_60 rfl (lv_at hl 1 rfl) ?_
      refine va_get (D := D) (ci := 5) (v := .ref (ad 19)) (C := R_M) (T := T_M) (N := 18) hx hb hts (fun w h => List.mem_cons_of_mem _ (iw_M w h)) hown hK.1 hw.1 0 rfl rfl 5 (by decide) (hg gm_572) (fun _ h9 => h9) rfl d_M_literal_61 ?_
      refine lv_iload_n hx hb d_M_literal_64 rfl (lv_at hl 2 rfl) ?_
      refine va_zald hx hb hK.1 hw.1 1 1 rfl rfl h.1 d_M_literal_65 ?_
      have h := h.2
      refine lv_if_eq (tgt := 73) hx hb d_M_literal_66 (by decide) (fun hc => ?_) (fun hc => ?_)
      · have h := h.1 hc
        refine lv_iload hx hb d_M_literal_73 (lv_at hl 0 rfl) ?_
        refine lv_if_ne (tgt := 93) hx hb d_M_literal_75 (by decide) (fun hc => ?_) (fun hc => ?_)
        · have h := h.2 hc
          exact j93 _ _ _ _ _ _ _ h hw (lv_sub hl [1, 2, 3, 0] rfl)
        · have h := h.1 hc
          refine lv_aload_n hx hb d_M_literal_78 rfl (lv_at hl 1 rfl) ?_
          refine va_get (D := D) (ci := 5) (v := .ref (ad 20)) (C := R_M) (T := T_M) (N := 18) hx hb hts (fun w h => List.mem_cons_of_mem _ (iw_M w h)) hown hK.1 hw.1 0 rfl rfl 6 (by decide) (hg gm_573) (fun _ h9 => h9) rfl d_M_literal_79 ?_
          refine lv_iload_n hx hb d_M_literal_82 rfl (lv_at hl 2 rfl) ?_
          refine va_iald hx hb hK.1 hw.1 2 0 rfl rfl h.1 d_M_literal_83 ?_
          have h := h.2
          refine lv_bipush (v := 6) hx hb d_M_literal_84 (by decide) ?_
          refine lv_icmp_ne (tgt := 93) hx hb d_M_literal_86 (by decide) (fun hc => ?_) (fun hc => ?_)
          · have h := h.2 hc
            exact j93 _ _ _ _ _ _ _ h hw (lv_sub hl [1, 2, 3, 0] rfl)
          · have h := h.1 hc
            refine lv_iconst (v := 3) hx hb d_M_literal_89 (by decide) ?_
            refine lv_goto (tgt := 94) hx hb d_M_literal_90 (by decide) ?_
            exact j94 _ _ _ _ _ _ _ _ h hw (lv_sub hl [1, 2, 3, 0] rfl)
      · have h := h.2 hc
        refine lv_iconst (v := 2) hx hb d_M_literal_69 (by decide) ?_
        refine lv_goto (tgt := 94) hx hb d_M_literal_70 (by decide) ?_
        exact j94 _ _ _ _ _ _ _ _ h hw (lv_sub hl [1, 2, 3, 0] rfl)
    · have h := h.1 hc
      refine lv_iconst (v := 1) hx hb d_M_literal_56 (by decide) ?_
      refine lv_goto (tgt := 94) hx hb d_M_literal_57 (by decide) ?_
      exact j94 _ _ _ _ _ _ _ _ h hw (lv_sub hl [1, 2, 3, 0] rfl)
  have j48 : ∀ (x3 : Int32) (M_thrown : Int32) (M_counts : (Nat → Int32)) (M_literals : (Nat → Int32)) (H : Heap) (locs : List Loc) (ls : Array Slot), s_M_literal_48 M_gates M_lines M_equals p1 p2 post x3 M_thrown M_counts M_literals → mW D A s.heap [(k_M cA ad M_thrown M_gates M_lines M_conflict M_moved M_tapeSize M_place M_found), (k_M_equals cA ad M_equals), (k_M_counts cA ad M_counts), (k_M_literals cA ad M_literals)] H locs → lv_has ls 5 [(0, .ref (ad 15)), (1, .int p1), (2, .int p2), (3, .int x3)] → W p l e rm_M_literal s m [.ref (ad 15), .int p1, .int p2].toArray below meth c H locs 0 0 Q (F0 m 48 ls []) := by
    intro x3 M_thrown M_counts M_literals H locs ls h hw hl
    unfold s_M_literal_48 at h
    refine lv_iconst (v := 0) hx hb d_M_literal_48 (by decide) ?_
    exact j49 _ _ _ _ _ _ _ _ h hw (lv_sub hl [0, 1, 2, 3] rfl)
  have j21 : ∀ (s0 : Int32) (M_thrown : Int32) (M_counts : (Nat → Int32)) (M_literals : (Nat → Int32)) (H : Heap) (locs : List Loc) (ls : Array Slot), s_M_literal_21 M_gates M_lines M_equals p1 p2 post s0 M_thrown M_counts M_literals → mW D A s.heap [(k_M cA ad M_thrown M_gates M_lines M_conflict M_moved M_tapeSize M_place M_found), (k_M_equals cA ad M_equals), (k_M_counts cA ad M_counts), (k_M_literals cA ad M_literals)] H locs → lv_has ls 5 [(0, .ref (ad 15)), (1, .int p1), (2, .int p2)] → W p l e rm_M_literal s m [.ref (ad 15), .int p1, .int p2].toArray below meth c H locs 0 0 Q (F0 m 21 ls [.int s0]) := by
    intro s0 M_thrown M_counts M_literals H locs ls h hw hl
    unfold s_M_literal_21 at h
    refine lv_istore_n (lv' := [(3, .int s0), (0, .ref (ad 15)), (1, .int p1), (2, .int p2)]) hx hb d_M_literal_21 rfl hl (by decide) rfl (fun ls hl => ?_)
    refine lv_iload_n hx hb d_M_literal_22 rfl (lv_at hl 0 rfl) ?_
    refine lv_if_eq (tgt := 48) hx hb d_M_literal_23 (by decide) (fun hc => ?_) (fun hc => ?_)
    · have h := h.1 hc
      exact j48 _ _ _ _ _ _ _ h hw (lv_sub hl [1, 2, 3, 0] rfl)
    · have h := h.2 hc
      refine lv_aload_n hx hb d_M_literal_26 rfl (lv_at hl 1 rfl) ?_
      refine va_get (D := D) (ci := 5) (v := .ref (ad 19)) (C := R_M) (T := T_M) (N := 18) hx hb hts (fun w h => List.mem_cons_of_mem _ (iw_M w h)) hown hK.1 hw.1 0 rfl rfl 5 (by decide) (hg gm_572) (fun _ h9 => h9) rfl d_M_literal_27 ?_
      refine lv_iload_n hx hb d_M_literal_30 rfl (lv_at hl 2 rfl) ?_
      refine va_zald hx hb hK.1 hw.1 1 1 rfl rfl h.1 d_M_literal_31 ?_
      have h := h.2
      refine lv_if_ne (tgt := 48) hx hb d_M_literal_32 (by decide) (fun hc => ?_) (fun hc => ?_)
      · have h := h.2 hc
        exact j48 _ _ _ _ _ _ _ h hw (lv_sub hl [1, 2, 3, 0] rfl)
      · have h := h.1 hc
        refine lv_aload_n hx hb d_M_literal_35 rfl (lv_at hl 1 rfl) ?_
        refine lv_iload_n hx hb d_M_literal_36 rfl (lv_at hl 2 rfl) ?_
        refine lv_iload_n hx hb d_M_literal_37 rfl (lv_at hl 3 rfl) ?_
        refine m_calli (hr := va_runV (As := [.int p1, .int p2]) (rest := []) ⟨hx, hb, hml, hown, hts⟩ (c_M_isThere l D cA ad _ M_thrown M_gates M_lines M_conflict M_moved M_tapeSize M_place M_found M_counts M_literals p1 p2 _ h) (cwV 2 hts (ginV gm_646 gm_648 gs_42 gm_6 gm_649) rfl rfl rfl (by decide +kernel) ⟨Nat.le_of_ble_eq_true rfl, Nat.le_of_ble_eq_true rfl⟩) (m_preV 5 0 rfl rfl hK hw [0, 2, 3] rfl rfl) rfl rfl hl.1 rfl (lv_room (Nat.le_of_ble_eq_true rfl)) d_M_literal_38 ⟨Nat.zero_le _, Nat.zero_le _⟩) (w2 := (fun (_ : Unit) => [(k_M cA ad M_thrown M_gates M_lines M_conflict M_moved M_tapeSize M_place M_found), (k_M_equals cA ad M_equals), (k_M_counts cA ad M_counts), (k_M_literals cA ad M_literals)])) (wr := [(k_M_equals cA ad M_equals)]) hw hA [0, 2, 3] [1] [1, 0, 2, 3] rfl rfl (by decide) (by decide) (by decide) (fun _ => rfl) (fun r38 u H locs hw h => ?_)
        refine lv_if_eq (tgt := 48) hx hb d_M_literal_41 (by decide) (fun hc => ?_) (fun hc => ?_)
        · have h := h.1 hc
          exact j48 _ _ _ _ _ _ _ h hw (lv_sub hl [1, 2, 3, 0] rfl)
        · have h := h.2 hc
          refine lv_iconst (v := 1) hx hb d_M_literal_44 (by decide) ?_
          refine lv_goto (tgt := 49) hx hb d_M_literal_45 (by decide) ?_
          exact j49 _ _ _ _ _ _ _ _ h hw (lv_sub hl [1, 2, 3, 0] rfl)
  have j20 : ∀ (M_thrown : Int32) (M_counts : (Nat → Int32)) (M_literals : (Nat → Int32)) (H : Heap) (locs : List Loc) (ls : Array Slot), s_M_literal_20 M_gates M_lines M_equals p1 p2 post M_thrown M_counts M_literals → mW D A s.heap [(k_M cA ad M_thrown M_gates M_lines M_conflict M_moved M_tapeSize M_place M_found), (k_M_equals cA ad M_equals), (k_M_counts cA ad M_counts), (k_M_literals cA ad M_literals)] H locs → lv_has ls 5 [(0, .ref (ad 15)), (1, .int p1), (2, .int p2)] → W p l e rm_M_literal s m [.ref (ad 15), .int p1, .int p2].toArray below meth c H locs 0 0 Q (F0 m 20 ls []) := by
    intro M_thrown M_counts M_literals H locs ls h hw hl
    unfold s_M_literal_20 at h
    refine lv_iconst (v := 0) hx hb d_M_literal_20 (by decide) ?_
    exact j21 _ _ _ _ _ _ _ h hw (lv_sub hl [0, 1, 2] rfl)
  unfold wp_M_literal at h
  refine lv_aload_n hx hb d_M_literal_0 rfl (lv_at hl 0 rfl) ?_
  refine lv_iload_n hx hb d_M_literal_1 rfl (lv_at hl 1 rfl) ?_
  refine m_calli (hr := va_runV (As := [.int p1]) (rest := []) ⟨hx, hb, hml, hown, hts⟩ (c_M_isLine l D cA ad _ M_thrown M_gates M_lines M_conflict M_moved M_tapeSize M_place M_found p1 _ h) (cwV 1 hts (ginV gm_642 gm_644 gs_41 gm_6 gm_645) rfl rfl rfl (by decide +kernel) ⟨Nat.le_of_ble_eq_true rfl, Nat.le_of_ble_eq_true rfl⟩) (m_preV 5 0 rfl rfl hK hw [0] rfl rfl) rfl rfl hl.1 rfl (lv_room (Nat.le_of_ble_eq_true rfl)) d_M_literal_2 ⟨Nat.zero_le _, Nat.zero_le _⟩) (w2 := (fun (_ : Unit) => [(k_M cA ad M_thrown M_gates M_lines M_conflict M_moved M_tapeSize M_place M_found), (k_M_equals cA ad M_equals), (k_M_counts cA ad M_counts), (k_M_literals cA ad M_literals)])) (wr := [(k_M_equals cA ad M_equals), (k_M_counts cA ad M_counts), (k_M_literals cA ad M_literals)]) hw hA [0] [1, 2, 3] [3, 0, 1, 2] rfl rfl (by decide) (by decide) (by decide) (fun _ => rfl) (fun r2 u H locs hw h => ?_)
  refine lv_if_eq (tgt := 20) hx hb d_M_literal_5 (by decide) (fun hc => ?_) (fun hc => ?_)
  · have h := h.1 hc
    exact j20 _ _ _ _ _ _ h hw (lv_sub hl [0, 1, 2] rfl)
  · have h := h.2 hc
    refine lv_aload_n hx hb d_M_literal_8 rfl (lv_at hl 0 rfl) ?_
    refine lv_iload_n hx hb d_M_literal_9 rfl (lv_at hl 2 rfl) ?_
    refine m_calli (hr := va_runV (As := [.int p2]) (rest := []) ⟨hx, hb, hml, hown, hts⟩ (c_M_isLiteral l D cA ad _ M_thrown M_gates M_lines M_conflict M_moved M_tapeSize M_place M_found p2 _ h) (cwV 1 hts (ginV gm_630 gm_632 gs_40 gm_6 gm_633) rfl rfl rfl (by decide +kernel) ⟨Nat.le_of_ble_eq_true rfl, Nat.le_of_ble_eq_true rfl⟩) (m_preV 5 0 rfl rfl hK hw [0] rfl rfl) rfl rfl hl.1 rfl (lv_room (Nat.le_of_ble_eq_true rfl)) d_M_literal_10 ⟨Nat.zero_le _, Nat.zero_le _⟩) (w2 := (fun (_ : Unit) => [(k_M cA ad M_thrown M_gates M_lines M_conflict M_moved M_tapeSize M_place M_found), (k_M_equals cA ad M_equals), (k_M_counts cA ad M_counts), (k_M_literals cA ad M_literals)])) (wr := [(k_M_equals cA ad M_equals), (k_M_counts cA ad M_counts), (k_M_literals cA ad M_literals)]) hw hA [0] [1, 2, 3] [3, 0, 1, 2] rfl rfl (by decide) (by decide) (by decide) (fun _ => rfl) (fun r10 u H locs hw h => ?_)
    refine lv_if_eq (tgt := 20) hx hb d_M_literal_13 (by decide) (fun hc => ?_) (fun hc => ?_)
    · have h := h.1 hc
      exact j20 _ _ _ _ _ _ h hw (lv_sub hl [0, 1, 2] rfl)
    · have h := h.2 hc
      refine lv_iconst (v := 1) hx hb d_M_literal_16 (by decide) ?_
      refine lv_goto (tgt := 21) hx hb d_M_literal_17 (by decide) ?_
      exact j21 _ _ _ _ _ _ _ h hw (lv_sub hl [0, 1, 2] rfl)
def rm_M_equalLine : Room := { frames := 1, cells := 0, slots := 0, locals := 22 }
set_option maxHeartbeats 4000000 in
set_option maxRecDepth 100000 in
theorem c_M_equalLine (l : Launch) (D : va_G) (cA : Nat → ClassId) (ad : Nat → Nat) (sz : Nat) (M_thrown : Int32) (M_gates : Int32) (M_lines : Int32) (M_conflict : Int32) (M_moved : Int32) (M_tapeSize : Int32) (M_place : Int32) (M_found : Int32) (M_equals : (Nat → Int32)) (M_counts : (Nat → Int32)) (M_literals : (Nat → Int32)) (p1 : Int32) (p2 : Int32) (post : Int32 → Int32 → Int32 → (Nat → Int32) → (Nat → Int32) → (Nat → Int32) → Prop) (h : wp_M_equalLine M_thrown M_gates M_lines M_equals M_counts M_literals p1 p2 post) : Met l y_M_equalLine w_M_equalLine rm_M_equalLine (mPc D cA [.ref (ad 15), .int p1, .int p2] [(k_M cA ad M_thrown M_gates M_lines M_conflict M_moved M_tapeSize M_place M_found), (k_M_equals cA ad M_equals), (k_M_counts cA ad M_counts), (k_M_literals cA ad M_literals)] sz) (va_Qi (fun (r : Int32) (u : Int32 × Int32 × (Nat → Int32) × (Nat → Int32) × (Nat → Int32)) => post r u.1 u.2.1 u.2.2.1 u.2.2.2.1 u.2.2.2.2) (mB D (va_A [(k_M cA ad M_thrown M_gates M_lines M_conflict M_moved M_tapeSize M_place M_found), (k_M_equals cA ad M_equals), (k_M_counts cA ad M_counts), (k_M_literals cA ad M_literals)] sz) (fun (u : Int32 × Int32 × (Nat → Int32) × (Nat → Int32) × (Nat → Int32)) => [(k_M cA ad u.1 M_gates u.2.1 M_conflict M_moved M_tapeSize M_place M_found), (k_M_equals cA ad u.2.2.1), (k_M_counts cA ad u.2.2.2.1), (k_M_literals cA ad u.2.2.2.2)])) (va_A [(k_M cA ad M_thrown M_gates M_lines M_conflict M_moved M_tapeSize M_place M_found), (k_M_equals cA ad M_equals), (k_M_counts cA ad M_counts), (k_M_literals cA ad M_literals)] sz)) 0 0 (va_A [(k_M cA ad M_thrown M_gates M_lines M_conflict M_moved M_tapeSize M_place M_found), (k_M_equals cA ad M_equals), (k_M_counts cA ad M_counts), (k_M_literals cA ad M_literals)] sz) := by
  refine m_methI (by decide) rfl (Nat.le_of_ble_eq_true rfl) ?_
  intro p e s m below meth c A Q ls hx hb hml hown hts hK hA hw hl hE
  have hl : lv_has ls 3 [(0, .ref (ad 15)), (1, .int p1), (2, .int p2)] := hl
  have hown : s.vm.findClass R_M = some m.cls := hown
  have hg : ∀ {w : Cond}, w ∈ gw → w.before _ s = true := fun h => hts _ (List.mem_cons_of_mem _ h)
  have j35 : ∀ (s0 : Int32) (M_thrown : Int32) (M_lines : Int32) (M_equals : (Nat → Int32)) (M_counts : (Nat → Int32)) (M_literals : (Nat → Int32)) (H : Heap) (locs : List Loc) (ls : Array Slot), s_M_equalLine_35 M_gates p1 p2 post s0 M_thrown M_lines M_equals M_counts M_literals → mW D A s.heap [(k_M cA ad M_thrown M_gates M_lines M_conflict M_moved M_tapeSize M_place M_found), (k_M_equals cA ad M_equals), (k_M_counts cA ad M_counts), (k_M_literals cA ad M_literals)] H locs → lv_has ls 3 [(0, .ref (ad 15)), (1, .int p1), (2, .int p2)] → W p l e rm_M_equalLine s m [.ref (ad 15), .int p1, .int p2].toArray below meth c H locs 0 0 Q (F0 m 35 ls [.int s0, .ref (ad 15)]) := by
    intro s0 M_thrown M_lines M_equals M_counts M_literals H locs ls h hw hl
    unfold s_M_equalLine_35 at h
    refine m_put (ws' := [(k_M cA ad s0 M_gates M_lines M_conflict M_moved M_tapeSize M_place M_found), (k_M_equals cA ad M_equals), (k_M_counts cA ad M_counts), (k_M_literals cA ad M_literals)]) (ci := 5) (v := .int s0) (ty := .int) (C := R_M) (T := T_M) (N := 18) hx hb hts (fun w h => List.mem_cons_of_mem _ (iw_M w h)) ty_M tyok_M nm_M hown hK.1 hw 0 rfl rfl 0 (by decide) (hg gm_567) (fun _ h9 => h9) rfl (by decide +kernel) rfl rfl (Nat.le_of_ble_eq_true rfl) rfl d_M_equalLine_35 (fun H locs hw => ?_)
    refine lv_aload_n hx hb d_M_equalLine_38 rfl (lv_at hl 0 rfl) ?_
    refine va_get (D := D) (ci := 5) (v := .int s0) (C := R_M) (T := T_M) (N := 18) hx hb hts (fun w h => List.mem_cons_of_mem _ (iw_M w h)) hown hK.1 hw.1 0 rfl rfl 0 (by decide) (hg gm_567) (fun _ h9 => h9) rfl d_M_equalLine_39 ?_
    refine lv_if_le (tgt := 47) hx hb d_M_equalLine_42 (by decide) (fun hc => ?_) (fun hc => ?_)
    · have h := h.1 hc
      refine lv_aload_n hx hb d_M_equalLine_47 rfl (lv_at hl 0 rfl) ?_
      refine va_get (D := D) (ci := 5) (v := .ref (ad 19)) (C := R_M) (T := T_M) (N := 18) hx hb hts (fun w h => List.mem_cons_of_mem _ (iw_M w h)) hown hK.1 hw.1 0 rfl rfl 5 (by decide) (hg gm_572) (fun _ h9 => h9) rfl d_M_equalLine_48 ?_
      refine lv_aload_n hx hb d_M_equalLine_51 rfl (lv_at hl 0 rfl) ?_
      refine va_get (D := D) (ci := 5) (v := .int M_lines) (C := R_M) (T := T_M) (N := 18) hx hb hts (fun w h => List.mem_cons_of_mem _ (iw_M w h)) hown hK.1 hw.1 0 rfl rfl 8 (by decide) (hg gm_575) (fun _ h9 => h9) rfl d_M_equalLine_52 ?_
      refine lv_iconst (v := 1) hx hb d_M_equalLine_55 (by decide) ?_
      refine m_zast (ws' := [(k_M cA ad s0 M_gates M_lines M_conflict M_moved M_tapeSize M_place M_found), (k_M_equals cA ad (upd M_equals M_lines.toNatClampNeg (vp_nar .boolean 1))), (k_M_counts cA ad M_counts), (k_M_literals cA ad M_literals)]) hx hb hK.1 hw 1 1 rfl rfl h.1 rfl d_M_equalLine_56 (fun H locs hw => ?_)
      have h := h.2
      refine lv_aload_n hx hb d_M_equalLine_57 rfl (lv_at hl 0 rfl) ?_
      refine va_get (D := D) (ci := 5) (v := .ref (ad 20)) (C := R_M) (T := T_M) (N := 18) hx hb hts (fun w h => List.mem_cons_of_mem _ (iw_M w h)) hown hK.1 hw.1 0 rfl rfl 6 (by decide) (hg gm_573) (fun _ h9 => h9) rfl d_M_equalLine_58 ?_
      refine lv_aload_n hx hb d_M_equalLine_61 rfl (lv_at hl 0 rfl) ?_
      refine va_get (D := D) (ci := 5) (v := .int M_lines) (C := R_M) (T := T_M) (N := 18) hx hb hts (fun w h => List.mem_cons_of_mem _ (iw_M w h)) hown hK.1 hw.1 0 rfl rfl 8 (by decide) (hg gm_575) (fun _ h9 => h9) rfl d_M_equalLine_62 ?_
      refine lv_iconst (v := 0) hx hb d_M_equalLine_65 (by decide) ?_
      refine m_iast (ws' := [(k_M cA ad s0 M_gates M_lines M_conflict M_moved M_tapeSize M_place M_found), (k_M_equals cA ad (upd M_equals M_lines.toNatClampNeg (vp_nar .boolean 1))), (k_M_counts cA ad (upd M_counts M_lines.toNatClampNeg 0)), (k_M_literals cA ad M_literals)]) hx hb hK.1 hw 2 0 rfl rfl h.1 rfl d_M_equalLine_66 (fun H locs hw => ?_)
      have h := h.2
      refine lv_aload_n hx hb d_M_equalLine_67 rfl (lv_at hl 0 rfl) ?_
      refine lv_dup hx hb d_M_equalLine_68 rfl ?_
      refine va_get (D := D) (ci := 5) (v := .int M_lines) (C := R_M) (T := T_M) (N := 18) hx hb hts (fun w h => List.mem_cons_of_mem _ (iw_M w h)) hown hK.1 hw.1 0 rfl rfl 8 (by decide) (hg gm_575) (fun _ h9 => h9) rfl d_M_equalLine_69 ?_
      refine lv_iconst (v := 1) hx hb d_M_equalLine_72 (by decide) ?_
      refine lv_iadd hx hb d_M_equalLine_73 ?_
      refine m_put (ws' := [(k_M cA ad s0 M_gates (M_lines + 1) M_conflict M_moved M_tapeSize M_place M_found), (k_M_equals cA ad (upd M_equals M_lines.toNatClampNeg (vp_nar .boolean 1))), (k_M_counts cA ad (upd M_counts M_lines.toNatClampNeg 0)), (k_M_literals cA ad M_literals)]) (ci := 5) (v := .int (M_lines + 1)) (ty := .int) (C := R_M) (T := T_M) (N := 18) hx hb hts (fun w h => List.mem_cons_of_mem _ (iw_M w h)) ty_M tyok_M nm_M hown hK.1 hw 0 rfl rfl 8 (by decide) (hg gm_575) (fun _ h9 => h9) rfl (by decide +kernel) rfl rfl (Nat.le_of_ble_eq_true rfl) rfl d_M_equalLine_74 (fun H locs hw => ?_)
      refine lv_aload_n hx hb d_M_equalLine_77 rfl (lv_at hl 0 rfl) ?_
      refine lv_aload_n hx hb d_M_equalLine_78 rfl (lv_at hl 0 rfl) ?_
      refine va_get (D := D) (ci := 5) (v := .int (M_lines + 1)) (C := R_M) (T := T_M) (N := 18) hx hb hts (fun w h => List.mem_cons_of_mem _ (iw_M w h)) hown hK.1 hw.1 0 rfl rfl 8 (by decide) (hg gm_575) (fun _ h9 => h9) rfl d_M_equalLine_79 ?_
      refine lv_iconst (v := 1) hx hb d_M_equalLine_82 (by decide) ?_
      refine lv_isub hx hb d_M_equalLine_83 ?_
      refine lv_iload_n hx hb d_M_equalLine_84 rfl (lv_at hl 1 rfl) ?_
      refine m_callv (hr := va_runV (As := [.int ((M_lines + 1) - 1), .int p1]) (rest := []) ⟨hx, hb, hml, hown, hts⟩ (c_M_add l D cA ad _ s0 M_gates (M_lines + 1) M_conflict M_moved M_tapeSize M_place M_found (upd M_counts M_lines.toNatClampNeg 0) M_literals ((M_lines + 1) - 1) p1 _ h) (cwV 2 hts (ginV gm_650 gm_652 gs_43 gm_6 gm_653) rfl rfl rfl (by decide +kernel) ⟨Nat.le_of_ble_eq_true rfl, Nat.le_of_ble_eq_true rfl⟩) (m_preV 5 0 rfl rfl hK hw [0, 2, 3] rfl rfl) rfl rfl hl.1 rfl (lv_room (Nat.le_of_ble_eq_true rfl)) d_M_equalLine_85 ⟨Nat.zero_le _, Nat.zero_le _⟩) (w2 := (fun (u : (Nat → Int32) × (Nat → Int32)) => [(k_M cA ad s0 M_gates (M_lines + 1) M_conflict M_moved M_tapeSize M_place M_found), (k_M_equals cA ad (upd M_equals M_lines.toNatClampNeg (vp_nar .boolean 1))), (k_M_counts cA ad u.1), (k_M_literals cA ad u.2)])) (wr := [(k_M_equals cA ad (upd M_equals M_lines.toNatClampNeg (vp_nar .boolean 1)))]) hw hA [0, 2, 3] [1] [1, 0, 2, 3] rfl rfl (by decide) (by decide) (by decide) (fun _ => rfl) (fun u H locs hw h => ?_)
      obtain ⟨M_counts_85, M_literals_85⟩ := u
      have hw : mW D A s.heap [(k_M cA ad s0 M_gates (M_lines + 1) M_conflict M_moved M_tapeSize M_place M_found), (k_M_equals cA ad (upd M_equals M_lines.toNatClampNeg (vp_nar .boolean 1))), (k_M_counts cA ad M_counts_85), (k_M_literals cA ad M_literals_85)] H locs := hw
      refine lv_aload_n hx hb d_M_equalLine_88 rfl (lv_at hl 0 rfl) ?_
      refine lv_aload_n hx hb d_M_equalLine_89 rfl (lv_at hl 0 rfl) ?_
      refine va_get (D := D) (ci := 5) (v := .int (M_lines + 1)) (C := R_M) (T := T_M) (N := 18) hx hb hts (fun w h => List.mem_cons_of_mem _ (iw_M w h)) hown hK.1 hw.1 0 rfl rfl 8 (by decide) (hg gm_575) (fun _ h9 => h9) rfl d_M_equalLine_90 ?_
      refine lv_iconst (v := 1) hx hb d_M_equalLine_93 (by decide) ?_
      refine lv_isub hx hb d_M_equalLine_94 ?_
      refine lv_iload_n hx hb d_M_equalLine_95 rfl (lv_at hl 2 rfl) ?_
      refine m_callv (hr := va_runV (As := [.int ((M_lines + 1) - 1), .int p2]) (rest := []) ⟨hx, hb, hml, hown, hts⟩ (c_M_add l D cA ad _ s0 M_gates (M_lines + 1) M_conflict M_moved M_tapeSize M_place M_found M_counts_85 M_literals_85 ((M_lines + 1) - 1) p2 _ h) (cwV 2 hts (ginV gm_650 gm_652 gs_43 gm_6 gm_653) rfl rfl rfl (by decide +kernel) ⟨Nat.le_of_ble_eq_true rfl, Nat.le_of_ble_eq_true rfl⟩) (m_preV 5 0 rfl rfl hK hw [0, 2, 3] rfl rfl) rfl rfl hl.1 rfl (lv_room (Nat.le_of_ble_eq_true rfl)) d_M_equalLine_96 ⟨Nat.zero_le _, Nat.zero_le _⟩) (w2 := (fun (u : (Nat → Int32) × (Nat → Int32)) => [(k_M cA ad s0 M_gates (M_lines + 1) M_conflict M_moved M_tapeSize M_place M_found), (k_M_equals cA ad (upd M_equals M_lines.toNatClampNeg (vp_nar .boolean 1))), (k_M_counts cA ad u.1), (k_M_literals cA ad u.2)])) (wr := [(k_M_equals cA ad (upd M_equals M_lines.toNatClampNeg (vp_nar .boolean 1)))]) hw hA [0, 2, 3] [1] [1, 0, 2, 3] rfl rfl (by decide) (by decide) (by decide) (fun _ => rfl) (fun u H locs hw h => ?_)
      obtain ⟨M_counts_96, M_literals_96⟩ := u
      have hw : mW D A s.heap [(k_M cA ad s0 M_gates (M_lines + 1) M_conflict M_moved M_tapeSize M_place M_found), (k_M_equals cA ad (upd M_equals M_lines.toNatClampNeg (vp_nar .boolean 1))), (k_M_counts cA ad M_counts_96), (k_M_literals cA ad M_literals_96)] H locs := hw
      refine lv_aload_n hx hb d_M_equalLine_99 rfl (lv_at hl 0 rfl) ?_
      refine va_get (D := D) (ci := 5) (v := .int (M_lines + 1)) (C := R_M) (T := T_M) (N := 18) hx hb hts (fun w h => List.mem_cons_of_mem _ (iw_M w h)) hown hK.1 hw.1 0 rfl rfl 8 (by decide) (hg gm_575) (fun _ h9 => h9) rfl d_M_equalLine_100 ?_
      refine lv_iconst (v := 1) hx hb d_M_equalLine_103 (by decide) ?_
      refine lv_isub hx hb d_M_equalLine_104 ?_
      exact hE ((M_lines + 1) - 1) (s0, (M_lines + 1), (upd M_equals M_lines.toNatClampNeg (vp_nar .boolean 1)), M_counts_96, M_literals_96) _ _ _ _ h hw d_M_equalLine_105
    · have h := h.2 hc
      refine lv_iconst (v := 0) hx hb d_M_equalLine_45 (by decide) ?_
      exact hE 0 (s0, M_lines, M_equals, M_counts, M_literals) _ _ _ _ h hw d_M_equalLine_46
  have j17 : ∀ (M_thrown : Int32) (M_lines : Int32) (M_equals : (Nat → Int32)) (M_counts : (Nat → Int32)) (M_literals : (Nat → Int32)) (H : Heap) (locs : List Loc) (ls : Array Slot), s_M_equalLine_17 M_gates p1 p2 post M_thrown M_lines M_equals M_counts M_literals → mW D A s.heap [(k_M cA ad M_thrown M_gates M_lines M_conflict M_moved M_tapeSize M_place M_found), (k_M_equals cA ad M_equals), (k_M_counts cA ad M_counts), (k_M_literals cA ad M_literals)] H locs → lv_has ls 3 [(0, .ref (ad 15)), (1, .int p1), (2, .int p2)] → W p l e rm_M_equalLine s m [.ref (ad 15), .int p1, .int p2].toArray below meth c H locs 0 0 Q (F0 m 17 ls [.ref (ad 15)]) := by
    intro M_thrown M_lines M_equals M_counts M_literals H locs ls h hw hl
    unfold s_M_equalLine_17 at h
    refine lv_iconst (v := 1) hx hb d_M_equalLine_17 (by decide) ?_
    refine lv_goto (tgt := 35) hx hb d_M_equalLine_18 (by decide) ?_
    exact j35 _ _ _ _ _ _ _ _ _ h hw (lv_sub hl [0, 1, 2] rfl)
  unfold wp_M_equalLine at h
  refine lv_aload_n hx hb d_M_equalLine_0 rfl (lv_at hl 0 rfl) ?_
  refine lv_aload_n hx hb d_M_equalLine_1 rfl (lv_at hl 0 rfl) ?_
  refine lv_iload_n hx hb d_M_equalLine_2 rfl (lv_at hl 1 rfl) ?_
  refine m_calli (hr := va_runV (As := [.int p1]) (rest := [.ref (ad 15)]) ⟨hx, hb, hml, hown, hts⟩ (c_M_isLiteral l D cA ad _ M_thrown M_gates M_lines M_conflict M_moved M_tapeSize M_place M_found p1 _ h) (cwV 1 hts (ginV gm_630 gm_632 gs_40 gm_6 gm_633) rfl rfl rfl (by decide +kernel) ⟨Nat.le_of_ble_eq_true rfl, Nat.le_of_ble_eq_true rfl⟩) (m_preV 5 0 rfl rfl hK hw [0] rfl rfl) rfl rfl hl.1 rfl (lv_room (Nat.le_of_ble_eq_true rfl)) d_M_equalLine_3 ⟨Nat.zero_le _, Nat.zero_le _⟩) (w2 := (fun (_ : Unit) => [(k_M cA ad M_thrown M_gates M_lines M_conflict M_moved M_tapeSize M_place M_found), (k_M_equals cA ad M_equals), (k_M_counts cA ad M_counts), (k_M_literals cA ad M_literals)])) (wr := [(k_M_equals cA ad M_equals), (k_M_counts cA ad M_counts), (k_M_literals cA ad M_literals)]) hw hA [0] [1, 2, 3] [3, 0, 1, 2] rfl rfl (by decide) (by decide) (by decide) (fun _ => rfl) (fun r3 u H locs hw h => ?_)
  refine lv_if_eq (tgt := 17) hx hb d_M_equalLine_6 (by decide) (fun hc => ?_) (fun hc => ?_)
  · have h := h.1 hc
    exact j17 _ _ _ _ _ _ _ _ h hw (lv_sub hl [0, 1, 2] rfl)
  · have h := h.2 hc
    refine lv_aload_n hx hb d_M_equalLine_9 rfl (lv_at hl 0 rfl) ?_
    refine lv_iload_n hx hb d_M_equalLine_10 rfl (lv_at hl 2 rfl) ?_
    refine m_calli (hr := va_runV (As := [.int p2]) (rest := [.ref (ad 15)]) ⟨hx, hb, hml, hown, hts⟩ (c_M_isLiteral l D cA ad _ M_thrown M_gates M_lines M_conflict M_moved M_tapeSize M_place M_found p2 _ h) (cwV 1 hts (ginV gm_630 gm_632 gs_40 gm_6 gm_633) rfl rfl rfl (by decide +kernel) ⟨Nat.le_of_ble_eq_true rfl, Nat.le_of_ble_eq_true rfl⟩) (m_preV 5 0 rfl rfl hK hw [0] rfl rfl) rfl rfl hl.1 rfl (lv_room (Nat.le_of_ble_eq_true rfl)) d_M_equalLine_11 ⟨Nat.zero_le _, Nat.zero_le _⟩) (w2 := (fun (_ : Unit) => [(k_M cA ad M_thrown M_gates M_lines M_conflict M_moved M_tapeSize M_place M_found), (k_M_equals cA ad M_equals), (k_M_counts cA ad M_counts), (k_M_literals cA ad M_literals)])) (wr := [(k_M_equals cA ad M_equals), (k_M_counts cA ad M_counts), (k_M_literals cA ad M_literals)]) hw hA [0] [1, 2, 3] [3, 0, 1, 2] rfl rfl (by decide) (by decide) (by decide) (fun _ => rfl) (fun r11 u H locs hw h => ?_)
    refine lv_if_ne (tgt := 21) hx hb d_M_equalLine_14 (by decide) (fun hc => ?_) (fun hc => ?_)
    · have h := h.2 hc
      refine lv_aload_n hx hb d_M_equalLine_21 rfl (lv_at hl 0 rfl) ?_
      refine va_get (D := D) (ci := 5) (v := .int M_lines) (C := R_M) (T := T_M) (N := 18) hx hb hts (fun w h => List.mem_cons_of_mem _ (iw_M w h)) hown hK.1 hw.1 0 rfl rfl 8 (by decide) (hg gm_575) (fun _ h9 => h9) rfl d_M_equalLine_22 ?_
      refine lv_bipush (v := 24) hx hb d_M_equalLine_25 (by decide) ?_
      refine lv_icmp_ne (tgt := 34) hx hb d_M_equalLine_27 (by decide) (fun hc => ?_) (fun hc => ?_)
      · have h := h.2 hc
        refine lv_iconst (v := 0) hx hb d_M_equalLine_34 (by decide) ?_
        exact j35 _ _ _ _ _ _ _ _ _ h hw (lv_sub hl [0, 1, 2] rfl)
      · have h := h.1 hc
        refine lv_iconst (v := 2) hx hb d_M_equalLine_30 (by decide) ?_
        refine lv_goto (tgt := 35) hx hb d_M_equalLine_31 (by decide) ?_
        exact j35 _ _ _ _ _ _ _ _ _ h hw (lv_sub hl [0, 1, 2] rfl)
    · have h := h.1 hc
      exact j17 _ _ _ _ _ _ _ _ h hw (lv_sub hl [0, 1, 2] rfl)
def rm_M_value : Room := { frames := 0, cells := 0, slots := 0, locals := 0 }
set_option maxHeartbeats 4000000 in
set_option maxRecDepth 100000 in
theorem c_M_value (l : Launch) (D : va_G) (cA : Nat → ClassId) (ad : Nat → Nat) (sz : Nat) (M_thrown : Int32) (M_gates : Int32) (M_lines : Int32) (M_conflict : Int32) (M_moved : Int32) (M_tapeSize : Int32) (M_place : Int32) (M_found : Int32) (M_values : (Nat → Int32)) (p1 : Int32) (post : Int32 → Prop) (h : wp_M_value M_values p1 post) : Met l y_M_value w_M_value rm_M_value (mPc D cA [.ref (ad 15), .int p1] [(k_M cA ad M_thrown M_gates M_lines M_conflict M_moved M_tapeSize M_place M_found), (k_M_values cA ad M_values)] sz) (va_Qi (fun (r : Int32) (_ : Unit) => post r) (mB D (va_A [(k_M cA ad M_thrown M_gates M_lines M_conflict M_moved M_tapeSize M_place M_found), (k_M_values cA ad M_values)] sz) (fun (_ : Unit) => [(k_M cA ad M_thrown M_gates M_lines M_conflict M_moved M_tapeSize M_place M_found), (k_M_values cA ad M_values)])) (va_A [(k_M cA ad M_thrown M_gates M_lines M_conflict M_moved M_tapeSize M_place M_found), (k_M_values cA ad M_values)] sz)) 0 0 (va_A [(k_M cA ad M_thrown M_gates M_lines M_conflict M_moved M_tapeSize M_place M_found), (k_M_values cA ad M_values)] sz) := by
  refine m_methI (by decide) rfl (Nat.le_of_ble_eq_true rfl) ?_
  intro p e s m below meth c A Q ls hx hb hml hown hts hK hA hw hl hE
  have hl : lv_has ls 3 [(0, .ref (ad 15)), (1, .int p1)] := hl
  have hown : s.vm.findClass R_M = some m.cls := hown
  have hg : ∀ {w : Cond}, w ∈ gw → w.before _ s = true := fun h => hts _ (List.mem_cons_of_mem _ h)
  unfold wp_M_value at h
  refine lv_aload_n hx hb d_M_value_0 rfl (lv_at hl 0 rfl) ?_
  refine va_get (D := D) (ci := 5) (v := .ref (ad 22)) (C := R_M) (T := T_M) (N := 18) hx hb hts (fun w h => List.mem_cons_of_mem _ (iw_M w h)) hown hK.1 hw.1 0 rfl rfl 9 (by decide) (hg gm_576) (fun _ h9 => h9) rfl d_M_value_1 ?_
  refine lv_iload_n hx hb d_M_value_4 rfl (lv_at hl 1 rfl) ?_
  refine lv_iconst (v := 2) hx hb d_M_value_5 (by decide) ?_
  refine lv_idiv hx hb d_M_value_6 (by decide) ?_
  refine va_iald hx hb hK.1 hw.1 1 0 rfl rfl h.1 d_M_value_7 ?_
  have h := h.2
  refine lv_istore_n (lv' := [(2, .int (M_values (p1 / 2).toNatClampNeg)), (0, .ref (ad 15)), (1, .int p1)]) hx hb d_M_value_8 rfl hl (by decide) rfl (fun ls hl => ?_)
  refine lv_iload_n hx hb d_M_value_9 rfl (lv_at hl 0 rfl) ?_
  refine lv_iconst (v := 2) hx hb d_M_value_10 (by decide) ?_
  refine lv_icmp_ne (tgt := 18) hx hb d_M_value_11 (by decide) (fun hc => ?_) (fun hc => ?_)
  · have h := h.2 hc
    refine lv_iload_n hx hb d_M_value_18 rfl (lv_at hl 0 rfl) ?_
    refine lv_iload_n hx hb d_M_value_19 rfl (lv_at hl 2 rfl) ?_
    refine lv_iconst (v := 1) hx hb d_M_value_20 (by decide) ?_
    refine lv_iand hx hb d_M_value_21 ?_
    refine lv_ixor hx hb d_M_value_22 ?_
    exact hE ((M_values (p1 / 2).toNatClampNeg) ^^^ (p1 &&& 1)) () _ _ _ _ h hw d_M_value_23
  · have h := h.1 hc
    refine lv_iconst (v := 2) hx hb d_M_value_14 (by decide) ?_
    refine lv_goto (tgt := 23) hx hb d_M_value_15 (by decide) ?_
    exact hE 2 () _ _ _ _ h hw d_M_value_23
def rm_M_tell : Room := { frames := 1, cells := 0, slots := 0, locals := 22 }
set_option maxHeartbeats 4000000 in
set_option maxRecDepth 100000 in
theorem c_M_tell (l : Launch) (D : va_G) (cA : Nat → ClassId) (ad : Nat → Nat) (sz : Nat) (M_thrown : Int32) (M_gates : Int32) (M_lines : Int32) (M_conflict : Int32) (M_moved : Int32) (M_tapeSize : Int32) (M_place : Int32) (M_found : Int32) (M_values : (Nat → Int32)) (p1 : Int32) (p2 : Int32) (post : Int32 → Int32 → (Nat → Int32) → Prop) (h : wp_M_tell M_conflict M_moved M_values p1 p2 post) : Met l y_M_tell w_M_tell rm_M_tell (mPc D cA [.ref (ad 15), .int p1, .int p2] [(k_M cA ad M_thrown M_gates M_lines M_conflict M_moved M_tapeSize M_place M_found), (k_M_values cA ad M_values)] sz) (va_Qv (fun (u : Int32 × Int32 × (Nat → Int32)) => post u.1 u.2.1 u.2.2) (mB D (va_A [(k_M cA ad M_thrown M_gates M_lines M_conflict M_moved M_tapeSize M_place M_found), (k_M_values cA ad M_values)] sz) (fun (u : Int32 × Int32 × (Nat → Int32)) => [(k_M cA ad M_thrown M_gates M_lines u.1 u.2.1 M_tapeSize M_place M_found), (k_M_values cA ad u.2.2)])) (va_A [(k_M cA ad M_thrown M_gates M_lines M_conflict M_moved M_tapeSize M_place M_found), (k_M_values cA ad M_values)] sz)) 0 0 (va_A [(k_M cA ad M_thrown M_gates M_lines M_conflict M_moved M_tapeSize M_place M_found), (k_M_values cA ad M_values)] sz) := by
  refine m_methV (by decide) rfl (Nat.le_of_ble_eq_true rfl) ?_
  intro p e s m below meth c A Q ls hx hb hml hown hts hK hA hw hl hE
  have hl : lv_has ls 4 [(0, .ref (ad 15)), (1, .int p1), (2, .int p2)] := hl
  have hown : s.vm.findClass R_M = some m.cls := hown
  have hg : ∀ {w : Cond}, w ∈ gw → w.before _ s = true := fun h => hts _ (List.mem_cons_of_mem _ h)
  have j29 : ∀ (s0 : Int32) (x3 : Int32) (M_conflict : Int32) (M_moved : Int32) (M_values : (Nat → Int32)) (H : Heap) (locs : List Loc) (ls : Array Slot), s_M_tell_29 p1 p2 post s0 x3 M_conflict M_moved M_values → mW D A s.heap [(k_M cA ad M_thrown M_gates M_lines M_conflict M_moved M_tapeSize M_place M_found), (k_M_values cA ad M_values)] H locs → lv_has ls 4 [(0, .ref (ad 15)), (1, .int p1), (2, .int p2), (3, .int x3)] → W p l e rm_M_tell s m [.ref (ad 15), .int p1, .int p2].toArray below meth c H locs 0 0 Q (F0 m 29 ls [.int s0, .ref (ad 15)]) := by
    intro s0 x3 M_conflict M_moved M_values H locs ls h hw hl
    unfold s_M_tell_29 at h
    refine m_put (ws' := [(k_M cA ad M_thrown M_gates M_lines s0 M_moved M_tapeSize M_place M_found), (k_M_values cA ad M_values)]) (ci := 5) (v := .int s0) (ty := .boolean) (C := R_M) (T := T_M) (N := 18) hx hb hts (fun w h => List.mem_cons_of_mem _ (iw_M w h)) ty_M tyok_M nm_M hown hK.1 hw 0 rfl rfl 10 (by decide) (hg gm_577) (fun _ h9 => h9) rfl (by decide +kernel) (isB_nar h.1) (isB_fit h.1) (Nat.le_of_ble_eq_true rfl) rfl d_M_tell_29 (fun H locs hw => ?_)
    have h := h.2
    refine lv_iload_n hx hb d_M_tell_32 rfl (lv_at hl 3 rfl) ?_
    refine lv_iconst (v := 2) hx hb d_M_tell_33 (by decide) ?_
    refine lv_icmp_ne (tgt := 55) hx hb d_M_tell_34 (by decide) (fun hc => ?_) (fun hc => ?_)
    · have h := h.2 hc
      exact hE (s0, M_moved, M_values) _ _ _ _ h hw d_M_tell_55
    · have h := h.1 hc
      refine lv_aload_n hx hb d_M_tell_37 rfl (lv_at hl 0 rfl) ?_
      refine va_get (D := D) (ci := 5) (v := .ref (ad 22)) (C := R_M) (T := T_M) (N := 18) hx hb hts (fun w h => List.mem_cons_of_mem _ (iw_M w h)) hown hK.1 hw.1 0 rfl rfl 9 (by decide) (hg gm_576) (fun _ h9 => h9) rfl d_M_tell_38 ?_
      refine lv_iload_n hx hb d_M_tell_41 rfl (lv_at hl 1 rfl) ?_
      refine lv_iconst (v := 2) hx hb d_M_tell_42 (by decide) ?_
      refine lv_idiv hx hb d_M_tell_43 (by decide) ?_
      refine lv_iload_n hx hb d_M_tell_44 rfl (lv_at hl 2 rfl) ?_
      refine lv_iload_n hx hb d_M_tell_45 rfl (lv_at hl 1 rfl) ?_
      refine lv_iconst (v := 1) hx hb d_M_tell_46 (by decide) ?_
      refine lv_iand hx hb d_M_tell_47 ?_
      refine lv_ixor hx hb d_M_tell_48 ?_
      refine m_iast (ws' := [(k_M cA ad M_thrown M_gates M_lines s0 M_moved M_tapeSize M_place M_found), (k_M_values cA ad (upd M_values (p1 / 2).toNatClampNeg (p2 ^^^ (p1 &&& 1))))]) hx hb hK.1 hw 1 0 rfl rfl h.1 rfl d_M_tell_49 (fun H locs hw => ?_)
      have h := h.2
      refine lv_aload_n hx hb d_M_tell_50 rfl (lv_at hl 0 rfl) ?_
      refine lv_iconst (v := 1) hx hb d_M_tell_51 (by decide) ?_
      refine m_put (ws' := [(k_M cA ad M_thrown M_gates M_lines s0 1 M_tapeSize M_place M_found), (k_M_values cA ad (upd M_values (p1 / 2).toNatClampNeg (p2 ^^^ (p1 &&& 1))))]) (ci := 5) (v := .int 1) (ty := .boolean) (C := R_M) (T := T_M) (N := 18) hx hb hts (fun w h => List.mem_cons_of_mem _ (iw_M w h)) ty_M tyok_M nm_M hown hK.1 hw 0 rfl rfl 11 (by decide) (hg gm_578) (fun _ h9 => h9) rfl (by decide +kernel) rfl rfl (Nat.le_of_ble_eq_true rfl) rfl d_M_tell_52 (fun H locs hw => ?_)
      exact hE (s0, 1, (upd M_values (p1 / 2).toNatClampNeg (p2 ^^^ (p1 &&& 1)))) _ _ _ _ h hw d_M_tell_55
  have j28 : ∀ (x3 : Int32) (M_conflict : Int32) (M_moved : Int32) (M_values : (Nat → Int32)) (H : Heap) (locs : List Loc) (ls : Array Slot), s_M_tell_28 p1 p2 post x3 M_conflict M_moved M_values → mW D A s.heap [(k_M cA ad M_thrown M_gates M_lines M_conflict M_moved M_tapeSize M_place M_found), (k_M_values cA ad M_values)] H locs → lv_has ls 4 [(0, .ref (ad 15)), (1, .int p1), (2, .int p2), (3, .int x3)] → W p l e rm_M_tell s m [.ref (ad 15), .int p1, .int p2].toArray below meth c H locs 0 0 Q (F0 m 28 ls [.ref (ad 15)]) := by
    intro x3 M_conflict M_moved M_values H locs ls h hw hl
    unfold s_M_tell_28 at h
    refine lv_iconst (v := 0) hx hb d_M_tell_28 (by decide) ?_
    exact j29 _ _ _ _ _ _ _ _ h hw (lv_sub hl [0, 1, 2, 3] rfl)
  have j24 : ∀ (x3 : Int32) (M_conflict : Int32) (M_moved : Int32) (M_values : (Nat → Int32)) (H : Heap) (locs : List Loc) (ls : Array Slot), s_M_tell_24 p1 p2 post x3 M_conflict M_moved M_values → mW D A s.heap [(k_M cA ad M_thrown M_gates M_lines M_conflict M_moved M_tapeSize M_place M_found), (k_M_values cA ad M_values)] H locs → lv_has ls 4 [(0, .ref (ad 15)), (1, .int p1), (2, .int p2), (3, .int x3)] → W p l e rm_M_tell s m [.ref (ad 15), .int p1, .int p2].toArray below meth c H locs 0 0 Q (F0 m 24 ls [.ref (ad 15)]) := by
    intro x3 M_conflict M_moved M_values H locs ls h hw hl
    unfold s_M_tell_24 at h
    refine lv_iconst (v := 1) hx hb d_M_tell_24 (by decide) ?_
    refine lv_goto (tgt := 29) hx hb d_M_tell_25 (by decide) ?_
    exact j29 _ _ _ _ _ _ _ _ h hw (lv_sub hl [0, 1, 2, 3] rfl)
  unfold wp_M_tell at h
  refine lv_aload_n hx hb d_M_tell_0 rfl (lv_at hl 0 rfl) ?_
  refine lv_iload_n hx hb d_M_tell_1 rfl (lv_at hl 1 rfl) ?_
  refine m_calli (hr := va_runV (As := [.int p1]) (rest := []) ⟨hx, hb, hml, hown, hts⟩ (c_M_value l D cA ad _ M_thrown M_gates M_lines M_conflict M_moved M_tapeSize M_place M_found M_values p1 _ h) (cwV 1 hts (ginV gm_686 gm_688 gs_50 gm_6 gm_689) rfl rfl rfl (by decide +kernel) ⟨Nat.le_of_ble_eq_true rfl, Nat.le_of_ble_eq_true rfl⟩) (m_preV 5 0 rfl rfl hK hw [0, 1] rfl rfl) rfl rfl hl.1 rfl (lv_room (Nat.le_of_ble_eq_true rfl)) d_M_tell_2 ⟨Nat.zero_le _, Nat.zero_le _⟩) (w2 := (fun (_ : Unit) => [(k_M cA ad M_thrown M_gates M_lines M_conflict M_moved M_tapeSize M_place M_found), (k_M_values cA ad M_values)])) (wr := []) hw hA [0, 1] [] [0, 1] rfl rfl (by decide) (by decide) (by decide) (fun _ => rfl) (fun r2 u H locs hw h => ?_)
  refine lv_istore_n (lv' := [(3, .int r2), (0, .ref (ad 15)), (1, .int p1), (2, .int p2)]) hx hb d_M_tell_5 rfl hl (by decide) rfl (fun ls hl => ?_)
  refine lv_aload_n hx hb d_M_tell_6 rfl (lv_at hl 1 rfl) ?_
  refine lv_aload_n hx hb d_M_tell_7 rfl (lv_at hl 1 rfl) ?_
  refine va_get (D := D) (ci := 5) (v := .int M_conflict) (C := R_M) (T := T_M) (N := 18) hx hb hts (fun w h => List.mem_cons_of_mem _ (iw_M w h)) hown hK.1 hw.1 0 rfl rfl 10 (by decide) (hg gm_577) (fun _ h9 => h9) rfl d_M_tell_8 ?_
  refine lv_if_ne (tgt := 24) hx hb d_M_tell_11 (by decide) (fun hc => ?_) (fun hc => ?_)
  · have h := h.2 hc
    exact j24 _ _ _ _ _ _ _ h hw (lv_sub hl [1, 2, 3, 0] rfl)
  · have h := h.1 hc
    refine lv_iload_n hx hb d_M_tell_14 rfl (lv_at hl 0 rfl) ?_
    refine lv_iconst (v := 2) hx hb d_M_tell_15 (by decide) ?_
    refine lv_icmp_eq (tgt := 28) hx hb d_M_tell_16 (by decide) (fun hc => ?_) (fun hc => ?_)
    · have h := h.1 hc
      exact j28 _ _ _ _ _ _ _ h hw (lv_sub hl [1, 2, 3, 0] rfl)
    · have h := h.2 hc
      refine lv_iload_n hx hb d_M_tell_19 rfl (lv_at hl 0 rfl) ?_
      refine lv_iload_n hx hb d_M_tell_20 rfl (lv_at hl 3 rfl) ?_
      refine lv_icmp_eq (tgt := 28) hx hb d_M_tell_21 (by decide) (fun hc => ?_) (fun hc => ?_)
      · have h := h.1 hc
        exact j28 _ _ _ _ _ _ _ h hw (lv_sub hl [1, 2, 3, 0] rfl)
      · have h := h.2 hc
        exact j24 _ _ _ _ _ _ _ h hw (lv_sub hl [1, 2, 3, 0] rfl)
def rm_M_and : Room := { frames := 2, cells := 0, slots := 0, locals := 45 }
set_option maxHeartbeats 4000000 in
set_option maxRecDepth 100000 in
theorem c_M_and (l : Launch) (D : va_G) (cA : Nat → ClassId) (ad : Nat → Nat) (sz : Nat) (M_thrown : Int32) (M_gates : Int32) (M_lines : Int32) (M_conflict : Int32) (M_moved : Int32) (M_tapeSize : Int32) (M_place : Int32) (M_found : Int32) (M_ones : (Nat → Int32)) (M_twos : (Nat → Int32)) (M_values : (Nat → Int32)) (p1 : Int32) (post : Int32 → Int32 → (Nat → Int32) → Prop) (h : wp_M_and M_conflict M_moved M_ones M_twos M_values p1 post) : Met l y_M_and w_M_and rm_M_and (mPc D cA [.ref (ad 15), .int p1] [(k_M cA ad M_thrown M_gates M_lines M_conflict M_moved M_tapeSize M_place M_found), (k_M_ones cA ad M_ones), (k_M_twos cA ad M_twos), (k_M_values cA ad M_values)] sz) (va_Qv (fun (u : Int32 × Int32 × (Nat → Int32)) => post u.1 u.2.1 u.2.2) (mB D (va_A [(k_M cA ad M_thrown M_gates M_lines M_conflict M_moved M_tapeSize M_place M_found), (k_M_ones cA ad M_ones), (k_M_twos cA ad M_twos), (k_M_values cA ad M_values)] sz) (fun (u : Int32 × Int32 × (Nat → Int32)) => [(k_M cA ad M_thrown M_gates M_lines u.1 u.2.1 M_tapeSize M_place M_found), (k_M_ones cA ad M_ones), (k_M_twos cA ad M_twos), (k_M_values cA ad u.2.2)])) (va_A [(k_M cA ad M_thrown M_gates M_lines M_conflict M_moved M_tapeSize M_place M_found), (k_M_ones cA ad M_ones), (k_M_twos cA ad M_twos), (k_M_values cA ad M_values)] sz)) 0 0 (va_A [(k_M cA ad M_thrown M_gates M_lines M_conflict M_moved M_tapeSize M_place M_found), (k_M_ones cA ad M_ones), (k_M_twos cA ad M_twos), (k_M_values cA ad M_values)] sz) := by
  refine m_methV (by decide) rfl (Nat.le_of_ble_eq_true rfl) ?_
  intro p e s m below meth c A Q ls hx hb hml hown hts hK hA hw hl hE
  have hl : lv_has ls 5 [(0, .ref (ad 15)), (1, .int p1)] := hl
  have hown : s.vm.findClass R_M = some m.cls := hown
  have hg : ∀ {w : Cond}, w ∈ gw → w.before _ s = true := fun h => hts _ (List.mem_cons_of_mem _ h)
  have j114 : ∀ (x3 : Int32) (x4 : Int32) (M_conflict : Int32) (M_moved : Int32) (M_values : (Nat → Int32)) (H : Heap) (locs : List Loc) (ls : Array Slot), s_M_and_114 M_ones M_twos p1 post x3 x4 M_conflict M_moved M_values → mW D A s.heap [(k_M cA ad M_thrown M_gates M_lines M_conflict M_moved M_tapeSize M_place M_found), (k_M_ones cA ad M_ones), (k_M_twos cA ad M_twos), (k_M_values cA ad M_values)] H locs → lv_has ls 5 [(0, .ref (ad 15)), (1, .int p1), (3, .int x3), (4, .int x4)] → W p l e rm_M_and s m [.ref (ad 15), .int p1].toArray below meth c H locs 0 0 Q (F0 m 114 ls []) := by
    intro x3 x4 M_conflict M_moved M_values H locs ls h hw hl
    unfold s_M_and_114 at h
    refine lv_iload hx hb d_M_and_114 (lv_at hl 3 rfl) ?_
    refine lv_if_ne (tgt := 135) hx hb d_M_and_116 (by decide) (fun hc => ?_) (fun hc => ?_)
    · have h := h.2 hc
      exact hE (M_conflict, M_moved, M_values) _ _ _ _ h hw d_M_and_135
    · have h := h.1 hc
      refine lv_iload_n hx hb d_M_and_119 rfl (lv_at hl 2 rfl) ?_
      refine lv_iconst (v := 1) hx hb d_M_and_120 (by decide) ?_
      refine lv_icmp_ne (tgt := 135) hx hb d_M_and_121 (by decide) (fun hc => ?_) (fun hc => ?_)
      · have h := h.2 hc
        exact hE (M_conflict, M_moved, M_values) _ _ _ _ h hw d_M_and_135
      · have h := h.1 hc
        refine lv_aload_n hx hb d_M_and_124 rfl (lv_at hl 0 rfl) ?_
        refine lv_aload_n hx hb d_M_and_125 rfl (lv_at hl 0 rfl) ?_
        refine va_get (D := D) (ci := 5) (v := .ref (ad 17)) (C := R_M) (T := T_M) (N := 18) hx hb hts (fun w h => List.mem_cons_of_mem _ (iw_M w h)) hown hK.1 hw.1 0 rfl rfl 2 (by decide) (hg gm_569) (fun _ h9 => h9) rfl d_M_and_126 ?_
        refine lv_iload_n hx hb d_M_and_129 rfl (lv_at hl 1 rfl) ?_
        refine va_iald hx hb hK.1 hw.1 1 0 rfl rfl h.1 d_M_and_130 ?_
        have h := h.2
        refine lv_iconst (v := 0) hx hb d_M_and_131 (by decide) ?_
        refine m_callv (hr := va_runV (As := [.int (M_ones p1.toNatClampNeg), .int 0]) (rest := []) ⟨hx, hb, hml, hown, hts⟩ (c_M_tell l D cA ad _ M_thrown M_gates M_lines M_conflict M_moved M_tapeSize M_place M_found M_values (M_ones p1.toNatClampNeg) 0 _ h) (cwV 2 hts (ginV gm_682 gm_684 gs_49 gm_6 gm_685) rfl rfl rfl (by decide +kernel) ⟨Nat.le_of_ble_eq_true rfl, Nat.le_of_ble_eq_true rfl⟩) (m_preV 5 0 rfl rfl hK hw [0, 3] rfl rfl) rfl rfl hl.1 rfl (lv_room (Nat.le_of_ble_eq_true rfl)) d_M_and_132 ⟨Nat.zero_le _, Nat.zero_le _⟩) (w2 := (fun (u : Int32 × Int32 × (Nat → Int32)) => [(k_M cA ad M_thrown M_gates M_lines u.1 u.2.1 M_tapeSize M_place M_found), (k_M_ones cA ad M_ones), (k_M_twos cA ad M_twos), (k_M_values cA ad u.2.2)])) (wr := [(k_M_ones cA ad M_ones), (k_M_twos cA ad M_twos)]) hw hA [0, 3] [1, 2] [2, 0, 1, 3] rfl rfl (by decide) (by decide) (by decide) (fun _ => rfl) (fun u H locs hw h => ?_)
        obtain ⟨M_conflict_132, M_moved_132, M_values_132⟩ := u
        have hw : mW D A s.heap [(k_M cA ad M_thrown M_gates M_lines M_conflict_132 M_moved_132 M_tapeSize M_place M_found), (k_M_ones cA ad M_ones), (k_M_twos cA ad M_twos), (k_M_values cA ad M_values_132)] H locs := hw
        exact hE (M_conflict_132, M_moved_132, M_values_132) _ _ _ _ h hw d_M_and_135
  have j93 : ∀ (x2 : Int32) (x3 : Int32) (x4 : Int32) (M_conflict : Int32) (M_moved : Int32) (M_values : (Nat → Int32)) (H : Heap) (locs : List Loc) (ls : Array Slot), s_M_and_93 M_ones M_twos p1 post x2 x3 x4 M_conflict M_moved M_values → mW D A s.heap [(k_M cA ad M_thrown M_gates M_lines M_conflict M_moved M_tapeSize M_place M_found), (k_M_ones cA ad M_ones), (k_M_twos cA ad M_twos), (k_M_values cA ad M_values)] H locs → lv_has ls 5 [(0, .ref (ad 15)), (1, .int p1), (2, .int x2), (3, .int x3), (4, .int x4)] → W p l e rm_M_and s m [.ref (ad 15), .int p1].toArray below meth c H locs 0 0 Q (F0 m 93 ls []) := by
    intro x2 x3 x4 M_conflict M_moved M_values H locs ls h hw hl
    unfold s_M_and_93 at h
    refine lv_iload hx hb d_M_and_93 (lv_at hl 4 rfl) ?_
    refine lv_if_ne (tgt := 114) hx hb d_M_and_95 (by decide) (fun hc => ?_) (fun hc => ?_)
    · have h := h.2 hc
      exact j114 _ _ _ _ _ _ _ _ h hw (lv_sub hl [0, 1, 3, 4] rfl)
    · have h := h.1 hc
      refine lv_iload_n hx hb d_M_and_98 rfl (lv_at hl 2 rfl) ?_
      refine lv_iconst (v := 1) hx hb d_M_and_99 (by decide) ?_
      refine lv_icmp_ne (tgt := 114) hx hb d_M_and_100 (by decide) (fun hc => ?_) (fun hc => ?_)
      · have h := h.2 hc
        exact j114 _ _ _ _ _ _ _ _ h hw (lv_sub hl [0, 1, 3, 4] rfl)
      · have h := h.1 hc
        refine lv_aload_n hx hb d_M_and_103 rfl (lv_at hl 0 rfl) ?_
        refine lv_aload_n hx hb d_M_and_104 rfl (lv_at hl 0 rfl) ?_
        refine va_get (D := D) (ci := 5) (v := .ref (ad 18)) (C := R_M) (T := T_M) (N := 18) hx hb hts (fun w h => List.mem_cons_of_mem _ (iw_M w h)) hown hK.1 hw.1 0 rfl rfl 3 (by decide) (hg gm_570) (fun _ h9 => h9) rfl d_M_and_105 ?_
        refine lv_iload_n hx hb d_M_and_108 rfl (lv_at hl 1 rfl) ?_
        refine va_iald hx hb hK.1 hw.1 2 0 rfl rfl h.1 d_M_and_109 ?_
        have h := h.2
        refine lv_iconst (v := 0) hx hb d_M_and_110 (by decide) ?_
        refine m_callv (hr := va_runV (As := [.int (M_twos p1.toNatClampNeg), .int 0]) (rest := []) ⟨hx, hb, hml, hown, hts⟩ (c_M_tell l D cA ad _ M_thrown M_gates M_lines M_conflict M_moved M_tapeSize M_place M_found M_values (M_twos p1.toNatClampNeg) 0 _ h) (cwV 2 hts (ginV gm_682 gm_684 gs_49 gm_6 gm_685) rfl rfl rfl (by decide +kernel) ⟨Nat.le_of_ble_eq_true rfl, Nat.le_of_ble_eq_true rfl⟩) (m_preV 5 0 rfl rfl hK hw [0, 3] rfl rfl) rfl rfl hl.1 rfl (lv_room (Nat.le_of_ble_eq_true rfl)) d_M_and_111 ⟨Nat.zero_le _, Nat.zero_le _⟩) (w2 := (fun (u : Int32 × Int32 × (Nat → Int32)) => [(k_M cA ad M_thrown M_gates M_lines u.1 u.2.1 M_tapeSize M_place M_found), (k_M_ones cA ad M_ones), (k_M_twos cA ad M_twos), (k_M_values cA ad u.2.2)])) (wr := [(k_M_ones cA ad M_ones), (k_M_twos cA ad M_twos)]) hw hA [0, 3] [1, 2] [2, 0, 1, 3] rfl rfl (by decide) (by decide) (by decide) (fun _ => rfl) (fun u H locs hw h => ?_)
        obtain ⟨M_conflict_111, M_moved_111, M_values_111⟩ := u
        have hw : mW D A s.heap [(k_M cA ad M_thrown M_gates M_lines M_conflict_111 M_moved_111 M_tapeSize M_place M_found), (k_M_ones cA ad M_ones), (k_M_twos cA ad M_twos), (k_M_values cA ad M_values_111)] H locs := hw
        exact j114 _ _ _ _ _ _ _ _ h hw (lv_sub hl [0, 1, 3, 4] rfl)
  have j65 : ∀ (x2 : Int32) (x3 : Int32) (x4 : Int32) (M_conflict : Int32) (M_moved : Int32) (M_values : (Nat → Int32)) (H : Heap) (locs : List Loc) (ls : Array Slot), s_M_and_65 M_ones M_twos p1 post x2 x3 x4 M_conflict M_moved M_values → mW D A s.heap [(k_M cA ad M_thrown M_gates M_lines M_conflict M_moved M_tapeSize M_place M_found), (k_M_ones cA ad M_ones), (k_M_twos cA ad M_twos), (k_M_values cA ad M_values)] H locs → lv_has ls 5 [(0, .ref (ad 15)), (1, .int p1), (2, .int x2), (3, .int x3), (4, .int x4)] → W p l e rm_M_and s m [.ref (ad 15), .int p1].toArray below meth c H locs 0 0 Q (F0 m 65 ls []) := by
    intro x2 x3 x4 M_conflict M_moved M_values H locs ls h hw hl
    unfold s_M_and_65 at h
    refine lv_iload hx hb d_M_and_65 (lv_at hl 4 rfl) ?_
    refine lv_iconst (v := 1) hx hb d_M_and_67 (by decide) ?_
    refine lv_icmp_ne (tgt := 93) hx hb d_M_and_68 (by decide) (fun hc => ?_) (fun hc => ?_)
    · have h := h.2 hc
      exact j93 _ _ _ _ _ _ _ _ _ h hw (lv_sub hl [0, 1, 2, 3, 4] rfl)
    · have h := h.1 hc
      refine lv_aload_n hx hb d_M_and_71 rfl (lv_at hl 0 rfl) ?_
      refine lv_aload_n hx hb d_M_and_72 rfl (lv_at hl 0 rfl) ?_
      refine va_get (D := D) (ci := 5) (v := .ref (ad 17)) (C := R_M) (T := T_M) (N := 18) hx hb hts (fun w h => List.mem_cons_of_mem _ (iw_M w h)) hown hK.1 hw.1 0 rfl rfl 2 (by decide) (hg gm_569) (fun _ h9 => h9) rfl d_M_and_73 ?_
      refine lv_iload_n hx hb d_M_and_76 rfl (lv_at hl 1 rfl) ?_
      refine va_iald hx hb hK.1 hw.1 1 0 rfl rfl h.1 d_M_and_77 ?_
      have h := h.2
      refine lv_iconst (v := 1) hx hb d_M_and_78 (by decide) ?_
      refine m_callv (hr := va_runV (As := [.int (M_ones p1.toNatClampNeg), .int 1]) (rest := []) ⟨hx, hb, hml, hown, hts⟩ (c_M_tell l D cA ad _ M_thrown M_gates M_lines M_conflict M_moved M_tapeSize M_place M_found M_values (M_ones p1.toNatClampNeg) 1 _ h) (cwV 2 hts (ginV gm_682 gm_684 gs_49 gm_6 gm_685) rfl rfl rfl (by decide +kernel) ⟨Nat.le_of_ble_eq_true rfl, Nat.le_of_ble_eq_true rfl⟩) (m_preV 5 0 rfl rfl hK hw [0, 3] rfl rfl) rfl rfl hl.1 rfl (lv_room (Nat.le_of_ble_eq_true rfl)) d_M_and_79 ⟨Nat.zero_le _, Nat.zero_le _⟩) (w2 := (fun (u : Int32 × Int32 × (Nat → Int32)) => [(k_M cA ad M_thrown M_gates M_lines u.1 u.2.1 M_tapeSize M_place M_found), (k_M_ones cA ad M_ones), (k_M_twos cA ad M_twos), (k_M_values cA ad u.2.2)])) (wr := [(k_M_ones cA ad M_ones), (k_M_twos cA ad M_twos)]) hw hA [0, 3] [1, 2] [2, 0, 1, 3] rfl rfl (by decide) (by decide) (by decide) (fun _ => rfl) (fun u H locs hw h => ?_)
      obtain ⟨M_conflict_79, M_moved_79, M_values_79⟩ := u
      have hw : mW D A s.heap [(k_M cA ad M_thrown M_gates M_lines M_conflict_79 M_moved_79 M_tapeSize M_place M_found), (k_M_ones cA ad M_ones), (k_M_twos cA ad M_twos), (k_M_values cA ad M_values_79)] H locs := hw
      refine lv_aload_n hx hb d_M_and_82 rfl (lv_at hl 0 rfl) ?_
      refine lv_aload_n hx hb d_M_and_83 rfl (lv_at hl 0 rfl) ?_
      refine va_get (D := D) (ci := 5) (v := .ref (ad 18)) (C := R_M) (T := T_M) (N := 18) hx hb hts (fun w h => List.mem_cons_of_mem _ (iw_M w h)) hown hK.1 hw.1 0 rfl rfl 3 (by decide) (hg gm_570) (fun _ h9 => h9) rfl d_M_and_84 ?_
      refine lv_iload_n hx hb d_M_and_87 rfl (lv_at hl 1 rfl) ?_
      refine va_iald hx hb hK.1 hw.1 2 0 rfl rfl h.1 d_M_and_88 ?_
      have h := h.2
      refine lv_iconst (v := 1) hx hb d_M_and_89 (by decide) ?_
      refine m_callv (hr := va_runV (As := [.int (M_twos p1.toNatClampNeg), .int 1]) (rest := []) ⟨hx, hb, hml, hown, hts⟩ (c_M_tell l D cA ad _ M_thrown M_gates M_lines M_conflict_79 M_moved_79 M_tapeSize M_place M_found M_values_79 (M_twos p1.toNatClampNeg) 1 _ h) (cwV 2 hts (ginV gm_682 gm_684 gs_49 gm_6 gm_685) rfl rfl rfl (by decide +kernel) ⟨Nat.le_of_ble_eq_true rfl, Nat.le_of_ble_eq_true rfl⟩) (m_preV 5 0 rfl rfl hK hw [0, 3] rfl rfl) rfl rfl hl.1 rfl (lv_room (Nat.le_of_ble_eq_true rfl)) d_M_and_90 ⟨Nat.zero_le _, Nat.zero_le _⟩) (w2 := (fun (u : Int32 × Int32 × (Nat → Int32)) => [(k_M cA ad M_thrown M_gates M_lines u.1 u.2.1 M_tapeSize M_place M_found), (k_M_ones cA ad M_ones), (k_M_twos cA ad M_twos), (k_M_values cA ad u.2.2)])) (wr := [(k_M_ones cA ad M_ones), (k_M_twos cA ad M_twos)]) hw hA [0, 3] [1, 2] [2, 0, 1, 3] rfl rfl (by decide) (by decide) (by decide) (fun _ => rfl) (fun u H locs hw h => ?_)
      obtain ⟨M_conflict_90, M_moved_90, M_values_90⟩ := u
      have hw : mW D A s.heap [(k_M cA ad M_thrown M_gates M_lines M_conflict_90 M_moved_90 M_tapeSize M_place M_found), (k_M_ones cA ad M_ones), (k_M_twos cA ad M_twos), (k_M_values cA ad M_values_90)] H locs := hw
      exact j93 _ _ _ _ _ _ _ _ _ h hw (lv_sub hl [0, 1, 2, 3, 4] rfl)
  have j47 : ∀ (x2 : Int32) (x3 : Int32) (x4 : Int32) (M_conflict : Int32) (M_moved : Int32) (M_values : (Nat → Int32)) (H : Heap) (locs : List Loc) (ls : Array Slot), s_M_and_47 M_ones M_twos p1 post x2 x3 x4 M_conflict M_moved M_values → mW D A s.heap [(k_M cA ad M_thrown M_gates M_lines M_conflict M_moved M_tapeSize M_place M_found), (k_M_ones cA ad M_ones), (k_M_twos cA ad M_twos), (k_M_values cA ad M_values)] H locs → lv_has ls 5 [(0, .ref (ad 15)), (1, .int p1), (2, .int x2), (3, .int x3), (4, .int x4)] → W p l e rm_M_and s m [.ref (ad 15), .int p1].toArray below meth c H locs 0 0 Q (F0 m 47 ls []) := by
    intro x2 x3 x4 M_conflict M_moved M_values H locs ls h hw hl
    unfold s_M_and_47 at h
    refine lv_iload_n hx hb d_M_and_47 rfl (lv_at hl 2 rfl) ?_
    refine lv_iconst (v := 1) hx hb d_M_and_48 (by decide) ?_
    refine lv_icmp_ne (tgt := 65) hx hb d_M_and_49 (by decide) (fun hc => ?_) (fun hc => ?_)
    · have h := h.2 hc
      exact j65 _ _ _ _ _ _ _ _ _ h hw (lv_sub hl [0, 1, 2, 3, 4] rfl)
    · have h := h.1 hc
      refine lv_iload_n hx hb d_M_and_52 rfl (lv_at hl 3 rfl) ?_
      refine lv_iconst (v := 1) hx hb d_M_and_53 (by decide) ?_
      refine lv_icmp_ne (tgt := 65) hx hb d_M_and_54 (by decide) (fun hc => ?_) (fun hc => ?_)
      · have h := h.2 hc
        exact j65 _ _ _ _ _ _ _ _ _ h hw (lv_sub hl [0, 1, 2, 3, 4] rfl)
      · have h := h.1 hc
        refine lv_aload_n hx hb d_M_and_57 rfl (lv_at hl 0 rfl) ?_
        refine lv_iconst (v := 2) hx hb d_M_and_58 (by decide) ?_
        refine lv_iload_n hx hb d_M_and_59 rfl (lv_at hl 1 rfl) ?_
        refine lv_imul hx hb d_M_and_60 ?_
        refine lv_iconst (v := 1) hx hb d_M_and_61 (by decide) ?_
        refine m_callv (hr := va_runV (As := [.int (2 * p1), .int 1]) (rest := []) ⟨hx, hb, hml, hown, hts⟩ (c_M_tell l D cA ad _ M_thrown M_gates M_lines M_conflict M_moved M_tapeSize M_place M_found M_values (2 * p1) 1 _ h) (cwV 2 hts (ginV gm_682 gm_684 gs_49 gm_6 gm_685) rfl rfl rfl (by decide +kernel) ⟨Nat.le_of_ble_eq_true rfl, Nat.le_of_ble_eq_true rfl⟩) (m_preV 5 0 rfl rfl hK hw [0, 3] rfl rfl) rfl rfl hl.1 rfl (lv_room (Nat.le_of_ble_eq_true rfl)) d_M_and_62 ⟨Nat.zero_le _, Nat.zero_le _⟩) (w2 := (fun (u : Int32 × Int32 × (Nat → Int32)) => [(k_M cA ad M_thrown M_gates M_lines u.1 u.2.1 M_tapeSize M_place M_found), (k_M_ones cA ad M_ones), (k_M_twos cA ad M_twos), (k_M_values cA ad u.2.2)])) (wr := [(k_M_ones cA ad M_ones), (k_M_twos cA ad M_twos)]) hw hA [0, 3] [1, 2] [2, 0, 1, 3] rfl rfl (by decide) (by decide) (by decide) (fun _ => rfl) (fun u H locs hw h => ?_)
        obtain ⟨M_conflict_62, M_moved_62, M_values_62⟩ := u
        have hw : mW D A s.heap [(k_M cA ad M_thrown M_gates M_lines M_conflict_62 M_moved_62 M_tapeSize M_place M_found), (k_M_ones cA ad M_ones), (k_M_twos cA ad M_twos), (k_M_values cA ad M_values_62)] H locs := hw
        exact j65 _ _ _ _ _ _ _ _ _ h hw (lv_sub hl [0, 1, 2, 3, 4] rfl)
  have j39 : ∀ (x2 : Int32) (x3 : Int32) (x4 : Int32) (M_conflict : Int32) (M_moved : Int32) (M_values : (Nat → Int32)) (H : Heap) (locs : List Loc) (ls : Array Slot), s_M_and_39 M_ones M_twos p1 post x2 x3 x4 M_conflict M_moved M_values → mW D A s.heap [(k_M cA ad M_thrown M_gates M_lines M_conflict M_moved M_tapeSize M_place M_found), (k_M_ones cA ad M_ones), (k_M_twos cA ad M_twos), (k_M_values cA ad M_values)] H locs → lv_has ls 5 [(0, .ref (ad 15)), (1, .int p1), (2, .int x2), (3, .int x3), (4, .int x4)] → W p l e rm_M_and s m [.ref (ad 15), .int p1].toArray below meth c H locs 0 0 Q (F0 m 39 ls []) := by
    intro x2 x3 x4 M_conflict M_moved M_values H locs ls h hw hl
    unfold s_M_and_39 at h
    refine lv_aload_n hx hb d_M_and_39 rfl (lv_at hl 0 rfl) ?_
    refine lv_iconst (v := 2) hx hb d_M_and_40 (by decide) ?_
    refine lv_iload_n hx hb d_M_and_41 rfl (lv_at hl 1 rfl) ?_
    refine lv_imul hx hb d_M_and_42 ?_
    refine lv_iconst (v := 0) hx hb d_M_and_43 (by decide) ?_
    refine m_callv (hr := va_runV (As := [.int (2 * p1), .int 0]) (rest := []) ⟨hx, hb, hml, hown, hts⟩ (c_M_tell l D cA ad _ M_thrown M_gates M_lines M_conflict M_moved M_tapeSize M_place M_found M_values (2 * p1) 0 _ h) (cwV 2 hts (ginV gm_682 gm_684 gs_49 gm_6 gm_685) rfl rfl rfl (by decide +kernel) ⟨Nat.le_of_ble_eq_true rfl, Nat.le_of_ble_eq_true rfl⟩) (m_preV 5 0 rfl rfl hK hw [0, 3] rfl rfl) rfl rfl hl.1 rfl (lv_room (Nat.le_of_ble_eq_true rfl)) d_M_and_44 ⟨Nat.zero_le _, Nat.zero_le _⟩) (w2 := (fun (u : Int32 × Int32 × (Nat → Int32)) => [(k_M cA ad M_thrown M_gates M_lines u.1 u.2.1 M_tapeSize M_place M_found), (k_M_ones cA ad M_ones), (k_M_twos cA ad M_twos), (k_M_values cA ad u.2.2)])) (wr := [(k_M_ones cA ad M_ones), (k_M_twos cA ad M_twos)]) hw hA [0, 3] [1, 2] [2, 0, 1, 3] rfl rfl (by decide) (by decide) (by decide) (fun _ => rfl) (fun u H locs hw h => ?_)
    obtain ⟨M_conflict_44, M_moved_44, M_values_44⟩ := u
    have hw : mW D A s.heap [(k_M cA ad M_thrown M_gates M_lines M_conflict_44 M_moved_44 M_tapeSize M_place M_found), (k_M_ones cA ad M_ones), (k_M_twos cA ad M_twos), (k_M_values cA ad M_values_44)] H locs := hw
    exact j47 _ _ _ _ _ _ _ _ _ h hw (lv_sub hl [0, 1, 2, 3, 4] rfl)
  unfold wp_M_and at h
  refine lv_aload_n hx hb d_M_and_0 rfl (lv_at hl 0 rfl) ?_
  refine lv_aload_n hx hb d_M_and_1 rfl (lv_at hl 0 rfl) ?_
  refine va_get (D := D) (ci := 5) (v := .ref (ad 17)) (C := R_M) (T := T_M) (N := 18) hx hb hts (fun w h => List.mem_cons_of_mem _ (iw_M w h)) hown hK.1 hw.1 0 rfl rfl 2 (by decide) (hg gm_569) (fun _ h9 => h9) rfl d_M_and_2 ?_
  refine lv_iload_n hx hb d_M_and_5 rfl (lv_at hl 1 rfl) ?_
  refine va_iald hx hb hK.1 hw.1 1 0 rfl rfl h.1 d_M_and_6 ?_
  have h := h.2
  refine m_calli (hr := va_runV (As := [.int (M_ones p1.toNatClampNeg)]) (rest := []) ⟨hx, hb, hml, hown, hts⟩ (c_M_value l D cA ad _ M_thrown M_gates M_lines M_conflict M_moved M_tapeSize M_place M_found M_values (M_ones p1.toNatClampNeg) _ h) (cwV 1 hts (ginV gm_686 gm_688 gs_50 gm_6 gm_689) rfl rfl rfl (by decide +kernel) ⟨Nat.le_of_ble_eq_true rfl, Nat.le_of_ble_eq_true rfl⟩) (m_preV 5 0 rfl rfl hK hw [0, 3] rfl rfl) rfl rfl hl.1 rfl (lv_room (Nat.le_of_ble_eq_true rfl)) d_M_and_7 ⟨Nat.zero_le _, Nat.zero_le _⟩) (w2 := (fun (_ : Unit) => [(k_M cA ad M_thrown M_gates M_lines M_conflict M_moved M_tapeSize M_place M_found), (k_M_ones cA ad M_ones), (k_M_twos cA ad M_twos), (k_M_values cA ad M_values)])) (wr := [(k_M_ones cA ad M_ones), (k_M_twos cA ad M_twos)]) hw hA [0, 3] [1, 2] [2, 0, 1, 3] rfl rfl (by decide) (by decide) (by decide) (fun _ => rfl) (fun r7 u H locs hw h => ?_)
  refine lv_istore_n (lv' := [(2, .int r7), (0, .ref (ad 15)), (1, .int p1)]) hx hb d_M_and_10 rfl hl (by decide) rfl (fun ls hl => ?_)
  refine lv_aload_n hx hb d_M_and_11 rfl (lv_at hl 1 rfl) ?_
  refine lv_aload_n hx hb d_M_and_12 rfl (lv_at hl 1 rfl) ?_
  refine va_get (D := D) (ci := 5) (v := .ref (ad 18)) (C := R_M) (T := T_M) (N := 18) hx hb hts (fun w h => List.mem_cons_of_mem _ (iw_M w h)) hown hK.1 hw.1 0 rfl rfl 3 (by decide) (hg gm_570) (fun _ h9 => h9) rfl d_M_and_13 ?_
  refine lv_iload_n hx hb d_M_and_16 rfl (lv_at hl 2 rfl) ?_
  refine va_iald hx hb hK.1 hw.1 2 0 rfl rfl h.1 d_M_and_17 ?_
  have h := h.2
  refine m_calli (hr := va_runV (As := [.int (M_twos p1.toNatClampNeg)]) (rest := []) ⟨hx, hb, hml, hown, hts⟩ (c_M_value l D cA ad _ M_thrown M_gates M_lines M_conflict M_moved M_tapeSize M_place M_found M_values (M_twos p1.toNatClampNeg) _ h) (cwV 1 hts (ginV gm_686 gm_688 gs_50 gm_6 gm_689) rfl rfl rfl (by decide +kernel) ⟨Nat.le_of_ble_eq_true rfl, Nat.le_of_ble_eq_true rfl⟩) (m_preV 5 0 rfl rfl hK hw [0, 3] rfl rfl) rfl rfl hl.1 rfl (lv_room (Nat.le_of_ble_eq_true rfl)) d_M_and_18 ⟨Nat.zero_le _, Nat.zero_le _⟩) (w2 := (fun (_ : Unit) => [(k_M cA ad M_thrown M_gates M_lines M_conflict M_moved M_tapeSize M_place M_found), (k_M_ones cA ad M_ones), (k_M_twos cA ad M_twos), (k_M_values cA ad M_values)])) (wr := [(k_M_ones cA ad M_ones), (k_M_twos cA ad M_twos)]) hw hA [0, 3] [1, 2] [2, 0, 1, 3] rfl rfl (by decide) (by decide) (by decide) (fun _ => rfl) (fun r18 u H locs hw h => ?_)
  refine lv_istore_n (lv' := [(3, .int r18), (2, .int r7), (0, .ref (ad 15)), (1, .int p1)]) hx hb d_M_and_21 rfl hl (by decide) rfl (fun ls hl => ?_)
  refine lv_aload_n hx hb d_M_and_22 rfl (lv_at hl 2 rfl) ?_
  refine lv_iconst (v := 2) hx hb d_M_and_23 (by decide) ?_
  refine lv_iload_n hx hb d_M_and_24 rfl (lv_at hl 3 rfl) ?_
  refine lv_imul hx hb d_M_and_25 ?_
  refine m_calli (hr := va_runV (As := [.int (2 * p1)]) (rest := []) ⟨hx, hb, hml, hown, hts⟩ (c_M_value l D cA ad _ M_thrown M_gates M_lines M_conflict M_moved M_tapeSize M_place M_found M_values (2 * p1) _ h) (cwV 1 hts (ginV gm_686 gm_688 gs_50 gm_6 gm_689) rfl rfl rfl (by decide +kernel) ⟨Nat.le_of_ble_eq_true rfl, Nat.le_of_ble_eq_true rfl⟩) (m_preV 5 0 rfl rfl hK hw [0, 3] rfl rfl) rfl rfl hl.1 rfl (lv_room (Nat.le_of_ble_eq_true rfl)) d_M_and_26 ⟨Nat.zero_le _, Nat.zero_le _⟩) (w2 := (fun (_ : Unit) => [(k_M cA ad M_thrown M_gates M_lines M_conflict M_moved M_tapeSize M_place M_found), (k_M_ones cA ad M_ones), (k_M_twos cA ad M_twos), (k_M_values cA ad M_values)])) (wr := [(k_M_ones cA ad M_ones), (k_M_twos cA ad M_twos)]) hw hA [0, 3] [1, 2] [2, 0, 1, 3] rfl rfl (by decide) (by decide) (by decide) (fun _ => rfl) (fun r26 u H locs hw h => ?_)
  refine lv_istore (lv' := [(4, .int r26), (3, .int r18), (2, .int r7), (0, .ref (ad 15)), (1, .int p1)]) hx hb d_M_and_29 hl (by decide) rfl (fun ls hl => ?_)
  refine lv_iload_n hx hb d_M_and_31 rfl (lv_at hl 2 rfl) ?_
  refine lv_if_eq (tgt := 39) hx hb d_M_and_32 (by decide) (fun hc => ?_) (fun hc => ?_)
  · have h := h.1 hc
    exact j39 _ _ _ _ _ _ _ _ _ h hw (lv_sub hl [3, 4, 2, 1, 0] rfl)
  · have h := h.2 hc
    refine lv_iload_n hx hb d_M_and_35 rfl (lv_at hl 1 rfl) ?_
    refine lv_if_ne (tgt := 47) hx hb d_M_and_36 (by decide) (fun hc => ?_) (fun hc => ?_)
    · have h := h.2 hc
      exact j47 _ _ _ _ _ _ _ _ _ h hw (lv_sub hl [3, 4, 2, 1, 0] rfl)
    · have h := h.1 hc
      exact j39 _ _ _ _ _ _ _ _ _ h hw (lv_sub hl [3, 4, 2, 1, 0] rfl)
def rm_M_either : Room := { frames := 2, cells := 0, slots := 0, locals := 45 }
set_option maxHeartbeats 4000000 in
set_option maxRecDepth 100000 in
theorem c_M_either (l : Launch) (D : va_G) (cA : Nat → ClassId) (ad : Nat → Nat) (sz : Nat) (M_thrown : Int32) (M_gates : Int32) (M_lines : Int32) (M_conflict : Int32) (M_moved : Int32) (M_tapeSize : Int32) (M_place : Int32) (M_found : Int32) (M_ones : (Nat → Int32)) (M_twos : (Nat → Int32)) (M_values : (Nat → Int32)) (p1 : Int32) (post : Int32 → Int32 → (Nat → Int32) → Prop) (h : wp_M_either M_conflict M_moved M_ones M_twos M_values p1 post) : Met l y_M_either w_M_either rm_M_either (mPc D cA [.ref (ad 15), .int p1] [(k_M cA ad M_thrown M_gates M_lines M_conflict M_moved M_tapeSize M_place M_found), (k_M_ones cA ad M_ones), (k_M_twos cA ad M_twos), (k_M_values cA ad M_values)] sz) (va_Qv (fun (u : Int32 × Int32 × (Nat → Int32)) => post u.1 u.2.1 u.2.2) (mB D (va_A [(k_M cA ad M_thrown M_gates M_lines M_conflict M_moved M_tapeSize M_place M_found), (k_M_ones cA ad M_ones), (k_M_twos cA ad M_twos), (k_M_values cA ad M_values)] sz) (fun (u : Int32 × Int32 × (Nat → Int32)) => [(k_M cA ad M_thrown M_gates M_lines u.1 u.2.1 M_tapeSize M_place M_found), (k_M_ones cA ad M_ones), (k_M_twos cA ad M_twos), (k_M_values cA ad u.2.2)])) (va_A [(k_M cA ad M_thrown M_gates M_lines M_conflict M_moved M_tapeSize M_place M_found), (k_M_ones cA ad M_ones), (k_M_twos cA ad M_twos), (k_M_values cA ad M_values)] sz)) 0 0 (va_A [(k_M cA ad M_thrown M_gates M_lines M_conflict M_moved M_tapeSize M_place M_found), (k_M_ones cA ad M_ones), (k_M_twos cA ad M_twos), (k_M_values cA ad M_values)] sz) := by
  refine m_methV (by decide) rfl (Nat.le_of_ble_eq_true rfl) ?_
  intro p e s m below meth c A Q ls hx hb hml hown hts hK hA hw hl hE
  have hl : lv_has ls 5 [(0, .ref (ad 15)), (1, .int p1)] := hl
  have hown : s.vm.findClass R_M = some m.cls := hown
  have hg : ∀ {w : Cond}, w ∈ gw → w.before _ s = true := fun h => hts _ (List.mem_cons_of_mem _ h)
  have j76 : ∀ (x3 : Int32) (x4 : Int32) (M_conflict : Int32) (M_moved : Int32) (M_values : (Nat → Int32)) (H : Heap) (locs : List Loc) (ls : Array Slot), s_M_either_76 M_ones M_twos p1 post x3 x4 M_conflict M_moved M_values → mW D A s.heap [(k_M cA ad M_thrown M_gates M_lines M_conflict M_moved M_tapeSize M_place M_found), (k_M_ones cA ad M_ones), (k_M_twos cA ad M_twos), (k_M_values cA ad M_values)] H locs → lv_has ls 5 [(0, .ref (ad 15)), (1, .int p1), (3, .int x3), (4, .int x4)] → W p l e rm_M_either s m [.ref (ad 15), .int p1].toArray below meth c H locs 0 0 Q (F0 m 76 ls []) := by
    intro x3 x4 M_conflict M_moved M_values H locs ls h hw hl
    unfold s_M_either_76 at h
    refine lv_iload_n hx hb d_M_either_76 rfl (lv_at hl 2 rfl) ?_
    refine lv_iconst (v := 2) hx hb d_M_either_77 (by decide) ?_
    refine lv_icmp_eq (tgt := 101) hx hb d_M_either_78 (by decide) (fun hc => ?_) (fun hc => ?_)
    · have h := h.1 hc
      exact hE (M_conflict, M_moved, M_values) _ _ _ _ h hw d_M_either_101
    · have h := h.2 hc
      refine lv_iload hx hb d_M_either_81 (lv_at hl 3 rfl) ?_
      refine lv_iconst (v := 2) hx hb d_M_either_83 (by decide) ?_
      refine lv_icmp_eq (tgt := 101) hx hb d_M_either_84 (by decide) (fun hc => ?_) (fun hc => ?_)
      · have h := h.1 hc
        exact hE (M_conflict, M_moved, M_values) _ _ _ _ h hw d_M_either_101
      · have h := h.2 hc
        refine lv_aload_n hx hb d_M_either_87 rfl (lv_at hl 0 rfl) ?_
        refine lv_aload_n hx hb d_M_either_88 rfl (lv_at hl 0 rfl) ?_
        refine va_get (D := D) (ci := 5) (v := .ref (ad 17)) (C := R_M) (T := T_M) (N := 18) hx hb hts (fun w h => List.mem_cons_of_mem _ (iw_M w h)) hown hK.1 hw.1 0 rfl rfl 2 (by decide) (hg gm_569) (fun _ h9 => h9) rfl d_M_either_89 ?_
        refine lv_iload_n hx hb d_M_either_92 rfl (lv_at hl 1 rfl) ?_
        refine va_iald hx hb hK.1 hw.1 1 0 rfl rfl h.1 d_M_either_93 ?_
        have h := h.2
        refine lv_iload_n hx hb d_M_either_94 rfl (lv_at hl 2 rfl) ?_
        refine lv_iload hx hb d_M_either_95 (lv_at hl 3 rfl) ?_
        refine lv_ixor hx hb d_M_either_97 ?_
        refine m_callv (hr := va_runV (As := [.int (M_ones p1.toNatClampNeg), .int (x3 ^^^ x4)]) (rest := []) ⟨hx, hb, hml, hown, hts⟩ (c_M_tell l D cA ad _ M_thrown M_gates M_lines M_conflict M_moved M_tapeSize M_place M_found M_values (M_ones p1.toNatClampNeg) (x3 ^^^ x4) _ h) (cwV 2 hts (ginV gm_682 gm_684 gs_49 gm_6 gm_685) rfl rfl rfl (by decide +kernel) ⟨Nat.le_of_ble_eq_true rfl, Nat.le_of_ble_eq_true rfl⟩) (m_preV 5 0 rfl rfl hK hw [0, 3] rfl rfl) rfl rfl hl.1 rfl (lv_room (Nat.le_of_ble_eq_true rfl)) d_M_either_98 ⟨Nat.zero_le _, Nat.zero_le _⟩) (w2 := (fun (u : Int32 × Int32 × (Nat → Int32)) => [(k_M cA ad M_thrown M_gates M_lines u.1 u.2.1 M_tapeSize M_place M_found), (k_M_ones cA ad M_ones), (k_M_twos cA ad M_twos), (k_M_values cA ad u.2.2)])) (wr := [(k_M_ones cA ad M_ones), (k_M_twos cA ad M_twos)]) hw hA [0, 3] [1, 2] [2, 0, 1, 3] rfl rfl (by decide) (by decide) (by decide) (fun _ => rfl) (fun u H locs hw h => ?_)
        obtain ⟨M_conflict_98, M_moved_98, M_values_98⟩ := u
        have hw : mW D A s.heap [(k_M cA ad M_thrown M_gates M_lines M_conflict_98 M_moved_98 M_tapeSize M_place M_found), (k_M_ones cA ad M_ones), (k_M_twos cA ad M_twos), (k_M_values cA ad M_values_98)] H locs := hw
        exact hE (M_conflict_98, M_moved_98, M_values_98) _ _ _ _ h hw d_M_either_101
  have j51 : ∀ (x2 : Int32) (x3 : Int32) (x4 : Int32) (M_conflict : Int32) (M_moved : Int32) (M_values : (Nat → Int32)) (H : Heap) (locs : List Loc) (ls : Array Slot), s_M_either_51 M_ones M_twos p1 post x2 x3 x4 M_conflict M_moved M_values → mW D A s.heap [(k_M cA ad M_thrown M_gates M_lines M_conflict M_moved M_tapeSize M_place M_found), (k_M_ones cA ad M_ones), (k_M_twos cA ad M_twos), (k_M_values cA ad M_values)] H locs → lv_has ls 5 [(0, .ref (ad 15)), (1, .int p1), (2, .int x2), (3, .int x3), (4, .int x4)] → W p l e rm_M_either s m [.ref (ad 15), .int p1].toArray below meth c H locs 0 0 Q (F0 m 51 ls []) := by
    intro x2 x3 x4 M_conflict M_moved M_values H locs ls h hw hl
    unfold s_M_either_51 at h
    refine lv_iload_n hx hb d_M_either_51 rfl (lv_at hl 2 rfl) ?_
    refine lv_iconst (v := 2) hx hb d_M_either_52 (by decide) ?_
    refine lv_icmp_eq (tgt := 76) hx hb d_M_either_53 (by decide) (fun hc => ?_) (fun hc => ?_)
    · have h := h.1 hc
      exact j76 _ _ _ _ _ _ _ _ h hw (lv_sub hl [0, 1, 3, 4] rfl)
    · have h := h.2 hc
      refine lv_iload hx hb d_M_either_56 (lv_at hl 4 rfl) ?_
      refine lv_iconst (v := 2) hx hb d_M_either_58 (by decide) ?_
      refine lv_icmp_eq (tgt := 76) hx hb d_M_either_59 (by decide) (fun hc => ?_) (fun hc => ?_)
      · have h := h.1 hc
        exact j76 _ _ _ _ _ _ _ _ h hw (lv_sub hl [0, 1, 3, 4] rfl)
      · have h := h.2 hc
        refine lv_aload_n hx hb d_M_either_62 rfl (lv_at hl 0 rfl) ?_
        refine lv_aload_n hx hb d_M_either_63 rfl (lv_at hl 0 rfl) ?_
        refine va_get (D := D) (ci := 5) (v := .ref (ad 18)) (C := R_M) (T := T_M) (N := 18) hx hb hts (fun w h => List.mem_cons_of_mem _ (iw_M w h)) hown hK.1 hw.1 0 rfl rfl 3 (by decide) (hg gm_570) (fun _ h9 => h9) rfl d_M_either_64 ?_
        refine lv_iload_n hx hb d_M_either_67 rfl (lv_at hl 1 rfl) ?_
        refine va_iald hx hb hK.1 hw.1 2 0 rfl rfl h.1 d_M_either_68 ?_
        have h := h.2
        refine lv_iload_n hx hb d_M_either_69 rfl (lv_at hl 2 rfl) ?_
        refine lv_iload hx hb d_M_either_70 (lv_at hl 4 rfl) ?_
        refine lv_ixor hx hb d_M_either_72 ?_
        refine m_callv (hr := va_runV (As := [.int (M_twos p1.toNatClampNeg), .int (x2 ^^^ x4)]) (rest := []) ⟨hx, hb, hml, hown, hts⟩ (c_M_tell l D cA ad _ M_thrown M_gates M_lines M_conflict M_moved M_tapeSize M_place M_found M_values (M_twos p1.toNatClampNeg) (x2 ^^^ x4) _ h) (cwV 2 hts (ginV gm_682 gm_684 gs_49 gm_6 gm_685) rfl rfl rfl (by decide +kernel) ⟨Nat.le_of_ble_eq_true rfl, Nat.le_of_ble_eq_true rfl⟩) (m_preV 5 0 rfl rfl hK hw [0, 3] rfl rfl) rfl rfl hl.1 rfl (lv_room (Nat.le_of_ble_eq_true rfl)) d_M_either_73 ⟨Nat.zero_le _, Nat.zero_le _⟩) (w2 := (fun (u : Int32 × Int32 × (Nat → Int32)) => [(k_M cA ad M_thrown M_gates M_lines u.1 u.2.1 M_tapeSize M_place M_found), (k_M_ones cA ad M_ones), (k_M_twos cA ad M_twos), (k_M_values cA ad u.2.2)])) (wr := [(k_M_ones cA ad M_ones), (k_M_twos cA ad M_twos)]) hw hA [0, 3] [1, 2] [2, 0, 1, 3] rfl rfl (by decide) (by decide) (by decide) (fun _ => rfl) (fun u H locs hw h => ?_)
        obtain ⟨M_conflict_73, M_moved_73, M_values_73⟩ := u
        have hw : mW D A s.heap [(k_M cA ad M_thrown M_gates M_lines M_conflict_73 M_moved_73 M_tapeSize M_place M_found), (k_M_ones cA ad M_ones), (k_M_twos cA ad M_twos), (k_M_values cA ad M_values_73)] H locs := hw
        exact j76 _ _ _ _ _ _ _ _ h hw (lv_sub hl [0, 1, 3, 4] rfl)
  unfold wp_M_either at h
  refine lv_aload_n hx hb d_M_either_0 rfl (lv_at hl 0 rfl) ?_
  refine lv_aload_n hx hb d_M_either_1 rfl (lv_at hl 0 rfl) ?_
  refine va_get (D := D) (ci := 5) (v := .ref (ad 17)) (C := R_M) (T := T_M) (N := 18) hx hb hts (fun w h => List.mem_cons_of_mem _ (iw_M w h)) hown hK.1 hw.1 0 rfl rfl 2 (by decide) (hg gm_569) (fun _ h9 => h9) rfl d_M_either_2 ?_
  refine lv_iload_n hx hb d_M_either_5 rfl (lv_at hl 1 rfl) ?_
  refine va_iald hx hb hK.1 hw.1 1 0 rfl rfl h.1 d_M_either_6 ?_
  have h := h.2
  refine m_calli (hr := va_runV (As := [.int (M_ones p1.toNatClampNeg)]) (rest := []) ⟨hx, hb, hml, hown, hts⟩ (c_M_value l D cA ad _ M_thrown M_gates M_lines M_conflict M_moved M_tapeSize M_place M_found M_values (M_ones p1.toNatClampNeg) _ h) (cwV 1 hts (ginV gm_686 gm_688 gs_50 gm_6 gm_689) rfl rfl rfl (by decide +kernel) ⟨Nat.le_of_ble_eq_true rfl, Nat.le_of_ble_eq_true rfl⟩) (m_preV 5 0 rfl rfl hK hw [0, 3] rfl rfl) rfl rfl hl.1 rfl (lv_room (Nat.le_of_ble_eq_true rfl)) d_M_either_7 ⟨Nat.zero_le _, Nat.zero_le _⟩) (w2 := (fun (_ : Unit) => [(k_M cA ad M_thrown M_gates M_lines M_conflict M_moved M_tapeSize M_place M_found), (k_M_ones cA ad M_ones), (k_M_twos cA ad M_twos), (k_M_values cA ad M_values)])) (wr := [(k_M_ones cA ad M_ones), (k_M_twos cA ad M_twos)]) hw hA [0, 3] [1, 2] [2, 0, 1, 3] rfl rfl (by decide) (by decide) (by decide) (fun _ => rfl) (fun r7 u H locs hw h => ?_)
  refine lv_istore_n (lv' := [(2, .int r7), (0, .ref (ad 15)), (1, .int p1)]) hx hb d_M_either_10 rfl hl (by decide) rfl (fun ls hl => ?_)
  refine lv_aload_n hx hb d_M_either_11 rfl (lv_at hl 1 rfl) ?_
  refine lv_aload_n hx hb d_M_either_12 rfl (lv_at hl 1 rfl) ?_
  refine va_get (D := D) (ci := 5) (v := .ref (ad 18)) (C := R_M) (T := T_M) (N := 18) hx hb hts (fun w h => List.mem_cons_of_mem _ (iw_M w h)) hown hK.1 hw.1 0 rfl rfl 3 (by decide) (hg gm_570) (fun _ h9 => h9) rfl d_M_either_13 ?_
  refine lv_iload_n hx hb d_M_either_16 rfl (lv_at hl 2 rfl) ?_
  refine va_iald hx hb hK.1 hw.1 2 0 rfl rfl h.1 d_M_either_17 ?_
  have h := h.2
  refine m_calli (hr := va_runV (As := [.int (M_twos p1.toNatClampNeg)]) (rest := []) ⟨hx, hb, hml, hown, hts⟩ (c_M_value l D cA ad _ M_thrown M_gates M_lines M_conflict M_moved M_tapeSize M_place M_found M_values (M_twos p1.toNatClampNeg) _ h) (cwV 1 hts (ginV gm_686 gm_688 gs_50 gm_6 gm_689) rfl rfl rfl (by decide +kernel) ⟨Nat.le_of_ble_eq_true rfl, Nat.le_of_ble_eq_true rfl⟩) (m_preV 5 0 rfl rfl hK hw [0, 3] rfl rfl) rfl rfl hl.1 rfl (lv_room (Nat.le_of_ble_eq_true rfl)) d_M_either_18 ⟨Nat.zero_le _, Nat.zero_le _⟩) (w2 := (fun (_ : Unit) => [(k_M cA ad M_thrown M_gates M_lines M_conflict M_moved M_tapeSize M_place M_found), (k_M_ones cA ad M_ones), (k_M_twos cA ad M_twos), (k_M_values cA ad M_values)])) (wr := [(k_M_ones cA ad M_ones), (k_M_twos cA ad M_twos)]) hw hA [0, 3] [1, 2] [2, 0, 1, 3] rfl rfl (by decide) (by decide) (by decide) (fun _ => rfl) (fun r18 u H locs hw h => ?_)
  refine lv_istore_n (lv' := [(3, .int r18), (2, .int r7), (0, .ref (ad 15)), (1, .int p1)]) hx hb d_M_either_21 rfl hl (by decide) rfl (fun ls hl => ?_)
  refine lv_aload_n hx hb d_M_either_22 rfl (lv_at hl 2 rfl) ?_
  refine lv_iconst (v := 2) hx hb d_M_either_23 (by decide) ?_
  refine lv_iload_n hx hb d_M_either_24 rfl (lv_at hl 3 rfl) ?_
  refine lv_imul hx hb d_M_either_25 ?_
  refine m_calli (hr := va_runV (As := [.int (2 * p1)]) (rest := []) ⟨hx, hb, hml, hown, hts⟩ (c_M_value l D cA ad _ M_thrown M_gates M_lines M_conflict M_moved M_tapeSize M_place M_found M_values (2 * p1) _ h) (cwV 1 hts (ginV gm_686 gm_688 gs_50 gm_6 gm_689) rfl rfl rfl (by decide +kernel) ⟨Nat.le_of_ble_eq_true rfl, Nat.le_of_ble_eq_true rfl⟩) (m_preV 5 0 rfl rfl hK hw [0, 3] rfl rfl) rfl rfl hl.1 rfl (lv_room (Nat.le_of_ble_eq_true rfl)) d_M_either_26 ⟨Nat.zero_le _, Nat.zero_le _⟩) (w2 := (fun (_ : Unit) => [(k_M cA ad M_thrown M_gates M_lines M_conflict M_moved M_tapeSize M_place M_found), (k_M_ones cA ad M_ones), (k_M_twos cA ad M_twos), (k_M_values cA ad M_values)])) (wr := [(k_M_ones cA ad M_ones), (k_M_twos cA ad M_twos)]) hw hA [0, 3] [1, 2] [2, 0, 1, 3] rfl rfl (by decide) (by decide) (by decide) (fun _ => rfl) (fun r26 u H locs hw h => ?_)
  refine lv_istore (lv' := [(4, .int r26), (3, .int r18), (2, .int r7), (0, .ref (ad 15)), (1, .int p1)]) hx hb d_M_either_29 hl (by decide) rfl (fun ls hl => ?_)
  refine lv_iload_n hx hb d_M_either_31 rfl (lv_at hl 2 rfl) ?_
  refine lv_iconst (v := 2) hx hb d_M_either_32 (by decide) ?_
  refine lv_icmp_eq (tgt := 51) hx hb d_M_either_33 (by decide) (fun hc => ?_) (fun hc => ?_)
  · have h := h.1 hc
    exact j51 _ _ _ _ _ _ _ _ _ h hw (lv_sub hl [3, 4, 2, 1, 0] rfl)
  · have h := h.2 hc
    refine lv_iload_n hx hb d_M_either_36 rfl (lv_at hl 1 rfl) ?_
    refine lv_iconst (v := 2) hx hb d_M_either_37 (by decide) ?_
    refine lv_icmp_eq (tgt := 51) hx hb d_M_either_38 (by decide) (fun hc => ?_) (fun hc => ?_)
    · have h := h.1 hc
      exact j51 _ _ _ _ _ _ _ _ _ h hw (lv_sub hl [3, 4, 2, 1, 0] rfl)
    · have h := h.2 hc
      refine lv_aload_n hx hb d_M_either_41 rfl (lv_at hl 3 rfl) ?_
      refine lv_iconst (v := 2) hx hb d_M_either_42 (by decide) ?_
      refine lv_iload_n hx hb d_M_either_43 rfl (lv_at hl 4 rfl) ?_
      refine lv_imul hx hb d_M_either_44 ?_
      refine lv_iload_n hx hb d_M_either_45 rfl (lv_at hl 2 rfl) ?_
      refine lv_iload_n hx hb d_M_either_46 rfl (lv_at hl 1 rfl) ?_
      refine lv_ixor hx hb d_M_either_47 ?_
      refine m_callv (hr := va_runV (As := [.int (2 * p1), .int (r7 ^^^ r18)]) (rest := []) ⟨hx, hb, hml, hown, hts⟩ (c_M_tell l D cA ad _ M_thrown M_gates M_lines M_conflict M_moved M_tapeSize M_place M_found M_values (2 * p1) (r7 ^^^ r18) _ h) (cwV 2 hts (ginV gm_682 gm_684 gs_49 gm_6 gm_685) rfl rfl rfl (by decide +kernel) ⟨Nat.le_of_ble_eq_true rfl, Nat.le_of_ble_eq_true rfl⟩) (m_preV 5 0 rfl rfl hK hw [0, 3] rfl rfl) rfl rfl hl.1 rfl (lv_room (Nat.le_of_ble_eq_true rfl)) d_M_either_48 ⟨Nat.zero_le _, Nat.zero_le _⟩) (w2 := (fun (u : Int32 × Int32 × (Nat → Int32)) => [(k_M cA ad M_thrown M_gates M_lines u.1 u.2.1 M_tapeSize M_place M_found), (k_M_ones cA ad M_ones), (k_M_twos cA ad M_twos), (k_M_values cA ad u.2.2)])) (wr := [(k_M_ones cA ad M_ones), (k_M_twos cA ad M_twos)]) hw hA [0, 3] [1, 2] [2, 0, 1, 3] rfl rfl (by decide) (by decide) (by decide) (fun _ => rfl) (fun u H locs hw h => ?_)
      obtain ⟨M_conflict_48, M_moved_48, M_values_48⟩ := u
      have hw : mW D A s.heap [(k_M cA ad M_thrown M_gates M_lines M_conflict_48 M_moved_48 M_tapeSize M_place M_found), (k_M_ones cA ad M_ones), (k_M_twos cA ad M_twos), (k_M_values cA ad M_values_48)] H locs := hw
      exact j51 _ _ _ _ _ _ _ _ _ h hw (lv_sub hl [3, 4, 2, 1, 0] rfl)
def rm_M_clause : Room := { frames := 2, cells := 0, slots := 0, locals := 45 }
set_option maxHeartbeats 4000000 in
set_option maxRecDepth 100000 in
theorem c_M_clause (l : Launch) (D : va_G) (cA : Nat → ClassId) (ad : Nat → Nat) (sz : Nat) (M_thrown : Int32) (M_gates : Int32) (M_lines : Int32) (M_conflict : Int32) (M_moved : Int32) (M_tapeSize : Int32) (M_place : Int32) (M_found : Int32) (M_counts : (Nat → Int32)) (M_literals : (Nat → Int32)) (M_values : (Nat → Int32)) (p1 : Int32) (post : Int32 → Int32 → (Nat → Int32) → Prop) (h : wp_M_clause M_conflict M_moved M_counts M_literals M_values p1 post) : Met l y_M_clause w_M_clause rm_M_clause (mPc D cA [.ref (ad 15), .int p1] [(k_M cA ad M_thrown M_gates M_lines M_conflict M_moved M_tapeSize M_place M_found), (k_M_counts cA ad M_counts), (k_M_literals cA ad M_literals), (k_M_values cA ad M_values)] sz) (va_Qv (fun (u : Int32 × Int32 × (Nat → Int32)) => post u.1 u.2.1 u.2.2) (mB D (va_A [(k_M cA ad M_thrown M_gates M_lines M_conflict M_moved M_tapeSize M_place M_found), (k_M_counts cA ad M_counts), (k_M_literals cA ad M_literals), (k_M_values cA ad M_values)] sz) (fun (u : Int32 × Int32 × (Nat → Int32)) => [(k_M cA ad M_thrown M_gates M_lines u.1 u.2.1 M_tapeSize M_place M_found), (k_M_counts cA ad M_counts), (k_M_literals cA ad M_literals), (k_M_values cA ad u.2.2)])) (va_A [(k_M cA ad M_thrown M_gates M_lines M_conflict M_moved M_tapeSize M_place M_found), (k_M_counts cA ad M_counts), (k_M_literals cA ad M_literals), (k_M_values cA ad M_values)] sz)) 0 0 (va_A [(k_M cA ad M_thrown M_gates M_lines M_conflict M_moved M_tapeSize M_place M_found), (k_M_counts cA ad M_counts), (k_M_literals cA ad M_literals), (k_M_values cA ad M_values)] sz) := by
  refine m_methV (by decide) rfl (Nat.le_of_ble_eq_true rfl) ?_
  intro p e s m below meth c A Q ls hx hb hml hown hts hK hA hw hl hE
  have hl : lv_has ls 6 [(0, .ref (ad 15)), (1, .int p1)] := hl
  have hown : s.vm.findClass R_M = some m.cls := hown
  have hg : ∀ {w : Cond}, w ∈ gw → w.before _ s = true := fun h => hts _ (List.mem_cons_of_mem _ h)
  obtain ⟨C7, hC7⟩ : ∃ C : Int32 → Int32 → Int32 → Int32 → Int32 → (Nat → Int32) → Prop, ∀ (x2 : Int32) (x3 : Int32) (x4 : Int32) (M_conflict : Int32) (M_moved : Int32) (M_values : (Nat → Int32)), C x2 x3 x4 M_conflict M_moved M_values ↔ (∀ (H : Heap) (locs : List Loc) (ls : Array Slot), mW D A s.heap [(k_M cA ad M_thrown M_gates M_lines M_conflict M_moved M_tapeSize M_place M_found), (k_M_counts cA ad M_counts), (k_M_literals cA ad M_literals), (k_M_values cA ad M_values)] H locs → lv_has ls 6 [(0, .ref (ad 15)), (1, .int p1), (2, .int x2), (3, .int x3), (4, .int x4)] → W p l e rm_M_clause s m [.ref (ad 15), .int p1].toArray below meth c H locs 0 0 Q (F0 m 7 ls [])) := ⟨_, fun _ _ _ _ _ _ => Iff.rfl⟩
  have j70 : ∀ (x2 : Int32) (x3 : Int32) (x4 : Int32) (M_conflict : Int32) (M_moved : Int32) (M_values : (Nat → Int32)) (H : Heap) (locs : List Loc) (ls : Array Slot), s_M_clause_70 M_counts M_literals p1 C7 post x2 x3 x4 M_conflict M_moved M_values → mW D A s.heap [(k_M cA ad M_thrown M_gates M_lines M_conflict M_moved M_tapeSize M_place M_found), (k_M_counts cA ad M_counts), (k_M_literals cA ad M_literals), (k_M_values cA ad M_values)] H locs → lv_has ls 6 [(0, .ref (ad 15)), (1, .int p1), (2, .int x2), (3, .int x3), (4, .int x4)] → W p l e rm_M_clause s m [.ref (ad 15), .int p1].toArray below meth c H locs 0 0 Q (F0 m 70 ls []) := by
    intro x2 x3 x4 M_conflict M_moved M_values H locs ls h hw hl
    unfold s_M_clause_70 at h
    refine lv_iinc (v := (x4 + 1)) (lv' := [(4, .int (x4 + 1)), (0, .ref (ad 15)), (1, .int p1), (2, .int x2), (3, .int x3)]) hx hb d_M_clause_70 hl (k := 4) rfl rfl (by decide) rfl (fun ls hl => ?_)
    refine lv_goto (tgt := 7) hx hb d_M_clause_73 (by decide) ?_
    exact (hC7 _ _ _ _ _ _).1 h _ _ _ hw (lv_sub hl [1, 2, 3, 4, 0] rfl)
  have j59 : ∀ (s0 : Int32) (x4 : Int32) (x5 : Int32) (M_conflict : Int32) (M_moved : Int32) (M_values : (Nat → Int32)) (H : Heap) (locs : List Loc) (ls : Array Slot), s_M_clause_59 M_counts M_literals p1 C7 post s0 x4 x5 M_conflict M_moved M_values → mW D A s.heap [(k_M cA ad M_thrown M_gates M_lines M_conflict M_moved M_tapeSize M_place M_found), (k_M_counts cA ad M_counts), (k_M_literals cA ad M_literals), (k_M_values cA ad M_values)] H locs → lv_has ls 6 [(0, .ref (ad 15)), (1, .int p1), (4, .int x4), (5, .int x5)] → W p l e rm_M_clause s m [.ref (ad 15), .int p1].toArray below meth c H locs 0 0 Q (F0 m 59 ls [.int s0]) := by
    intro s0 x4 x5 M_conflict M_moved M_values H locs ls h hw hl
    unfold s_M_clause_59 at h
    refine lv_istore_n (lv' := [(3, .int s0), (0, .ref (ad 15)), (1, .int p1), (4, .int x4), (5, .int x5)]) hx hb d_M_clause_59 rfl hl (by decide) rfl (fun ls hl => ?_)
    refine lv_iload hx hb d_M_clause_60 (lv_at hl 4 rfl) ?_
    refine lv_istore_n (lv' := [(2, .int x5), (3, .int s0), (0, .ref (ad 15)), (1, .int p1), (4, .int x4), (5, .int x5)]) hx hb d_M_clause_62 rfl hl (by decide) rfl (fun ls hl => ?_)
    refine lv_iload_n hx hb d_M_clause_63 rfl (lv_at hl 1 rfl) ?_
    refine lv_bipush (v := 8) hx hb d_M_clause_64 (by decide) ?_
    refine lv_icmp_le (tgt := 70) hx hb d_M_clause_66 (by decide) (fun hc => ?_) (fun hc => ?_)
    · have h := h.1 hc
      exact j70 _ _ _ _ _ _ _ _ _ h hw (lv_sub hl [2, 3, 0, 1, 4] rfl)
    · have h := h.2 hc
      exact hE (M_conflict, M_moved, M_values) _ _ _ _ h hw d_M_clause_69
  have hc7 : ∀ (x2 : Int32) (x3 : Int32) (x4 : Int32) (M_conflict : Int32) (M_moved : Int32) (M_values : (Nat → Int32)), s_M_clause_7 M_counts M_literals p1 C7 post x2 x3 x4 M_conflict M_moved M_values → C7 x2 x3 x4 M_conflict M_moved M_values := by
    intro x2 x3 x4 M_conflict M_moved M_values h
    unfold s_M_clause_7 at h
    refine (hC7 _ _ _ _ _ _).2 ?_
    intro H locs ls hw hl
    refine lv_iload hx hb d_M_clause_7 (lv_at hl 4 rfl) ?_
    refine lv_aload_n hx hb d_M_clause_9 rfl (lv_at hl 0 rfl) ?_
    refine va_get (D := D) (ci := 5) (v := .ref (ad 20)) (C := R_M) (T := T_M) (N := 18) hx hb hts (fun w h => List.mem_cons_of_mem _ (iw_M w h)) hown hK.1 hw.1 0 rfl rfl 6 (by decide) (hg gm_573) (fun _ h9 => h9) rfl d_M_clause_10 ?_
    refine lv_iload_n hx hb d_M_clause_13 rfl (lv_at hl 1 rfl) ?_
    refine va_iald hx hb hK.1 hw.1 1 0 rfl rfl h.1 d_M_clause_14 ?_
    have h := h.2
    refine lv_icmp_ge (tgt := 76) hx hb d_M_clause_15 (by decide) (fun hc => ?_) (fun hc => ?_)
    · have h := h.1 hc
      refine lv_iload_n hx hb d_M_clause_76 rfl (lv_at hl 3 rfl) ?_
      refine lv_if_ne (tgt := 88) hx hb d_M_clause_77 (by decide) (fun hc => ?_) (fun hc => ?_)
      · have h := h.2 hc
        refine lv_iload_n hx hb d_M_clause_88 rfl (lv_at hl 3 rfl) ?_
        refine lv_iconst (v := 1) hx hb d_M_clause_89 (by decide) ?_
        refine lv_icmp_ne (tgt := 99) hx hb d_M_clause_90 (by decide) (fun hc => ?_) (fun hc => ?_)
        · have h := h.2 hc
          exact hE (M_conflict, M_moved, M_values) _ _ _ _ h hw d_M_clause_99
        · have h := h.1 hc
          refine lv_aload_n hx hb d_M_clause_93 rfl (lv_at hl 0 rfl) ?_
          refine lv_iload_n hx hb d_M_clause_94 rfl (lv_at hl 2 rfl) ?_
          refine lv_iconst (v := 1) hx hb d_M_clause_95 (by decide) ?_
          refine m_callv (hr := va_runV (As := [.int x2, .int 1]) (rest := []) ⟨hx, hb, hml, hown, hts⟩ (c_M_tell l D cA ad _ M_thrown M_gates M_lines M_conflict M_moved M_tapeSize M_place M_found M_values x2 1 _ h) (cwV 2 hts (ginV gm_682 gm_684 gs_49 gm_6 gm_685) rfl rfl rfl (by decide +kernel) ⟨Nat.le_of_ble_eq_true rfl, Nat.le_of_ble_eq_true rfl⟩) (m_preV 5 0 rfl rfl hK hw [0, 3] rfl rfl) rfl rfl hl.1 rfl (lv_room (Nat.le_of_ble_eq_true rfl)) d_M_clause_96 ⟨Nat.zero_le _, Nat.zero_le _⟩) (w2 := (fun (u : Int32 × Int32 × (Nat → Int32)) => [(k_M cA ad M_thrown M_gates M_lines u.1 u.2.1 M_tapeSize M_place M_found), (k_M_counts cA ad M_counts), (k_M_literals cA ad M_literals), (k_M_values cA ad u.2.2)])) (wr := [(k_M_counts cA ad M_counts), (k_M_literals cA ad M_literals)]) hw hA [0, 3] [1, 2] [2, 0, 1, 3] rfl rfl (by decide) (by decide) (by decide) (fun _ => rfl) (fun u H locs hw h => ?_)
          obtain ⟨M_conflict_96, M_moved_96, M_values_96⟩ := u
          have hw : mW D A s.heap [(k_M cA ad M_thrown M_gates M_lines M_conflict_96 M_moved_96 M_tapeSize M_place M_found), (k_M_counts cA ad M_counts), (k_M_literals cA ad M_literals), (k_M_values cA ad M_values_96)] H locs := hw
          exact hE (M_conflict_96, M_moved_96, M_values_96) _ _ _ _ h hw d_M_clause_99
      · have h := h.1 hc
        refine lv_aload_n hx hb d_M_clause_80 rfl (lv_at hl 0 rfl) ?_
        refine lv_iconst (v := 1) hx hb d_M_clause_81 (by decide) ?_
        refine m_put (ws' := [(k_M cA ad M_thrown M_gates M_lines 1 M_moved M_tapeSize M_place M_found), (k_M_counts cA ad M_counts), (k_M_literals cA ad M_literals), (k_M_values cA ad M_values)]) (ci := 5) (v := .int 1) (ty := .boolean) (C := R_M) (T := T_M) (N := 18) hx hb hts (fun w h => List.mem_cons_of_mem _ (iw_M w h)) ty_M tyok_M nm_M hown hK.1 hw 0 rfl rfl 10 (by decide) (hg gm_577) (fun _ h9 => h9) rfl (by decide +kernel) rfl rfl (Nat.le_of_ble_eq_true rfl) rfl d_M_clause_82 (fun H locs hw => ?_)
        refine lv_goto (tgt := 99) hx hb d_M_clause_85 (by decide) ?_
        exact hE (1, M_moved, M_values) _ _ _ _ h hw d_M_clause_99
    · have h := h.2 hc
      refine lv_aload_n hx hb d_M_clause_18 rfl (lv_at hl 0 rfl) ?_
      refine va_get (D := D) (ci := 5) (v := .ref (ad 21)) (C := R_M) (T := T_M) (N := 18) hx hb hts (fun w h => List.mem_cons_of_mem _ (iw_M w h)) hown hK.1 hw.1 0 rfl rfl 7 (by decide) (hg gm_574) (fun _ h9 => h9) rfl d_M_clause_19 ?_
      refine lv_bipush (v := 6) hx hb d_M_clause_22 (by decide) ?_
      refine lv_iload_n hx hb d_M_clause_24 rfl (lv_at hl 1 rfl) ?_
      refine lv_imul hx hb d_M_clause_25 ?_
      refine lv_iload hx hb d_M_clause_26 (lv_at hl 4 rfl) ?_
      refine lv_iadd hx hb d_M_clause_28 ?_
      refine va_iald hx hb hK.1 hw.1 2 0 rfl rfl h.1 d_M_clause_29 ?_
      have h := h.2
      refine lv_istore (lv' := [(5, .int (M_literals ((6 * p1) + x4).toNatClampNeg)), (0, .ref (ad 15)), (1, .int p1), (2, .int x2), (3, .int x3), (4, .int x4)]) hx hb d_M_clause_30 hl (by decide) rfl (fun ls hl => ?_)
      refine lv_aload_n hx hb d_M_clause_32 rfl (lv_at hl 1 rfl) ?_
      refine lv_iload hx hb d_M_clause_33 (lv_at hl 0 rfl) ?_
      refine m_calli (hr := va_runV (As := [.int (M_literals ((6 * p1) + x4).toNatClampNeg)]) (rest := []) ⟨hx, hb, hml, hown, hts⟩ (c_M_value l D cA ad _ M_thrown M_gates M_lines M_conflict M_moved M_tapeSize M_place M_found M_values (M_literals ((6 * p1) + x4).toNatClampNeg) _ h) (cwV 1 hts (ginV gm_686 gm_688 gs_50 gm_6 gm_689) rfl rfl rfl (by decide +kernel) ⟨Nat.le_of_ble_eq_true rfl, Nat.le_of_ble_eq_true rfl⟩) (m_preV 5 0 rfl rfl hK hw [0, 3] rfl rfl) rfl rfl hl.1 rfl (lv_room (Nat.le_of_ble_eq_true rfl)) d_M_clause_35 ⟨Nat.zero_le _, Nat.zero_le _⟩) (w2 := (fun (_ : Unit) => [(k_M cA ad M_thrown M_gates M_lines M_conflict M_moved M_tapeSize M_place M_found), (k_M_counts cA ad M_counts), (k_M_literals cA ad M_literals), (k_M_values cA ad M_values)])) (wr := [(k_M_counts cA ad M_counts), (k_M_literals cA ad M_literals)]) hw hA [0, 3] [1, 2] [2, 0, 1, 3] rfl rfl (by decide) (by decide) (by decide) (fun _ => rfl) (fun r35 u H locs hw h => ?_)
      refine lv_if_eq (tgt := 70) hx hb d_M_clause_38 (by decide) (fun hc => ?_) (fun hc => ?_)
      · have h := h.1 hc
        exact j70 _ _ _ _ _ _ _ _ _ h hw (lv_sub hl [1, 2, 3, 4, 5] rfl)
      · have h := h.2 hc
        refine lv_aload_n hx hb d_M_clause_41 rfl (lv_at hl 1 rfl) ?_
        refine lv_iload hx hb d_M_clause_42 (lv_at hl 0 rfl) ?_
        refine m_calli (hr := va_runV (As := [.int (M_literals ((6 * p1) + x4).toNatClampNeg)]) (rest := []) ⟨hx, hb, hml, hown, hts⟩ (c_M_value l D cA ad _ M_thrown M_gates M_lines M_conflict M_moved M_tapeSize M_place M_found M_values (M_literals ((6 * p1) + x4).toNatClampNeg) _ h) (cwV 1 hts (ginV gm_686 gm_688 gs_50 gm_6 gm_689) rfl rfl rfl (by decide +kernel) ⟨Nat.le_of_ble_eq_true rfl, Nat.le_of_ble_eq_true rfl⟩) (m_preV 5 0 rfl rfl hK hw [0, 3] rfl rfl) rfl rfl hl.1 rfl (lv_room (Nat.le_of_ble_eq_true rfl)) d_M_clause_44 ⟨Nat.zero_le _, Nat.zero_le _⟩) (w2 := (fun (_ : Unit) => [(k_M cA ad M_thrown M_gates M_lines M_conflict M_moved M_tapeSize M_place M_found), (k_M_counts cA ad M_counts), (k_M_literals cA ad M_literals), (k_M_values cA ad M_values)])) (wr := [(k_M_counts cA ad M_counts), (k_M_literals cA ad M_literals)]) hw hA [0, 3] [1, 2] [2, 0, 1, 3] rfl rfl (by decide) (by decide) (by decide) (fun _ => rfl) (fun r44 u H locs hw h => ?_)
        refine lv_iconst (v := 1) hx hb d_M_clause_47 (by decide) ?_
        refine lv_icmp_ne (tgt := 56) hx hb d_M_clause_48 (by decide) (fun hc => ?_) (fun hc => ?_)
        · have h := h.2 hc
          refine lv_iload_n hx hb d_M_clause_56 rfl (lv_at hl 4 rfl) ?_
          refine lv_iconst (v := 1) hx hb d_M_clause_57 (by decide) ?_
          refine lv_iadd hx hb d_M_clause_58 ?_
          exact j59 _ _ _ _ _ _ _ _ _ h hw (lv_sub hl [1, 2, 5, 0] rfl)
        · have h := h.1 hc
          refine lv_bipush (v := 9) hx hb d_M_clause_51 (by decide) ?_
          refine lv_goto (tgt := 59) hx hb d_M_clause_53 (by decide) ?_
          exact j59 _ _ _ _ _ _ _ _ _ h hw (lv_sub hl [1, 2, 5, 0] rfl)
  unfold wp_M_clause at h
  have h := h C7 hc7
  refine lv_iconst (v := (-1)) hx hb d_M_clause_0 (by decide) ?_
  refine lv_istore_n (lv' := [(2, .int (-1)), (0, .ref (ad 15)), (1, .int p1)]) hx hb d_M_clause_1 rfl hl (by decide) rfl (fun ls hl => ?_)
  refine lv_iconst (v := 0) hx hb d_M_clause_2 (by decide) ?_
  refine lv_istore_n (lv' := [(3, .int 0), (2, .int (-1)), (0, .ref (ad 15)), (1, .int p1)]) hx hb d_M_clause_3 rfl hl (by decide) rfl (fun ls hl => ?_)
  refine lv_iconst (v := 0) hx hb d_M_clause_4 (by decide) ?_
  refine lv_istore (lv' := [(4, .int 0), (3, .int 0), (2, .int (-1)), (0, .ref (ad 15)), (1, .int p1)]) hx hb d_M_clause_5 hl (by decide) rfl (fun ls hl => ?_)
  exact (hC7 _ _ _ _ _ _).1 h _ _ _ hw (lv_sub hl [3, 4, 2, 1, 0] rfl)
def rm_M_equality : Room := { frames := 2, cells := 0, slots := 0, locals := 45 }
set_option maxHeartbeats 4000000 in
set_option maxRecDepth 100000 in
theorem c_M_equality (l : Launch) (D : va_G) (cA : Nat → ClassId) (ad : Nat → Nat) (sz : Nat) (M_thrown : Int32) (M_gates : Int32) (M_lines : Int32) (M_conflict : Int32) (M_moved : Int32) (M_tapeSize : Int32) (M_place : Int32) (M_found : Int32) (M_literals : (Nat → Int32)) (M_values : (Nat → Int32)) (p1 : Int32) (post : Int32 → Int32 → (Nat → Int32) → Prop) (h : wp_M_equality M_conflict M_moved M_literals M_values p1 post) : Met l y_M_equality w_M_equality rm_M_equality (mPc D cA [.ref (ad 15), .int p1] [(k_M cA ad M_thrown M_gates M_lines M_conflict M_moved M_tapeSize M_place M_found), (k_M_literals cA ad M_literals), (k_M_values cA ad M_values)] sz) (va_Qv (fun (u : Int32 × Int32 × (Nat → Int32)) => post u.1 u.2.1 u.2.2) (mB D (va_A [(k_M cA ad M_thrown M_gates M_lines M_conflict M_moved M_tapeSize M_place M_found), (k_M_literals cA ad M_literals), (k_M_values cA ad M_values)] sz) (fun (u : Int32 × Int32 × (Nat → Int32)) => [(k_M cA ad M_thrown M_gates M_lines u.1 u.2.1 M_tapeSize M_place M_found), (k_M_literals cA ad M_literals), (k_M_values cA ad u.2.2)])) (va_A [(k_M cA ad M_thrown M_gates M_lines M_conflict M_moved M_tapeSize M_place M_found), (k_M_literals cA ad M_literals), (k_M_values cA ad M_values)] sz)) 0 0 (va_A [(k_M cA ad M_thrown M_gates M_lines M_conflict M_moved M_tapeSize M_place M_found), (k_M_literals cA ad M_literals), (k_M_values cA ad M_values)] sz) := by
  refine m_methV (by decide) rfl (Nat.le_of_ble_eq_true rfl) ?_
  intro p e s m below meth c A Q ls hx hb hml hown hts hK hA hw hl hE
  have hl : lv_has ls 4 [(0, .ref (ad 15)), (1, .int p1)] := hl
  have hown : s.vm.findClass R_M = some m.cls := hown
  have hg : ∀ {w : Cond}, w ∈ gw → w.before _ s = true := fun h => hts _ (List.mem_cons_of_mem _ h)
  have j41 : ∀ (x2 : Int32) (x3 : Int32) (M_conflict : Int32) (M_moved : Int32) (M_values : (Nat → Int32)) (H : Heap) (locs : List Loc) (ls : Array Slot), s_M_equality_41 M_literals p1 post x2 x3 M_conflict M_moved M_values → mW D A s.heap [(k_M cA ad M_thrown M_gates M_lines M_conflict M_moved M_tapeSize M_place M_found), (k_M_literals cA ad M_literals), (k_M_values cA ad M_values)] H locs → lv_has ls 4 [(0, .ref (ad 15)), (2, .int x2), (3, .int x3)] → W p l e rm_M_equality s m [.ref (ad 15), .int p1].toArray below meth c H locs 0 0 Q (F0 m 41 ls []) := by
    intro x2 x3 M_conflict M_moved M_values H locs ls h hw hl
    unfold s_M_equality_41 at h
    refine lv_aload_n hx hb d_M_equality_41 rfl (lv_at hl 0 rfl) ?_
    refine lv_iload_n hx hb d_M_equality_42 rfl (lv_at hl 2 rfl) ?_
    refine m_calli (hr := va_runV (As := [.int x3]) (rest := []) ⟨hx, hb, hml, hown, hts⟩ (c_M_value l D cA ad _ M_thrown M_gates M_lines M_conflict M_moved M_tapeSize M_place M_found M_values x3 _ h) (cwV 1 hts (ginV gm_686 gm_688 gs_50 gm_6 gm_689) rfl rfl rfl (by decide +kernel) ⟨Nat.le_of_ble_eq_true rfl, Nat.le_of_ble_eq_true rfl⟩) (m_preV 5 0 rfl rfl hK hw [0, 2] rfl rfl) rfl rfl hl.1 rfl (lv_room (Nat.le_of_ble_eq_true rfl)) d_M_equality_43 ⟨Nat.zero_le _, Nat.zero_le _⟩) (w2 := (fun (_ : Unit) => [(k_M cA ad M_thrown M_gates M_lines M_conflict M_moved M_tapeSize M_place M_found), (k_M_literals cA ad M_literals), (k_M_values cA ad M_values)])) (wr := [(k_M_literals cA ad M_literals)]) hw hA [0, 2] [1] [1, 0, 2] rfl rfl (by decide) (by decide) (by decide) (fun _ => rfl) (fun r43 u H locs hw h => ?_)
    refine lv_iconst (v := 2) hx hb d_M_equality_46 (by decide) ?_
    refine lv_icmp_eq (tgt := 60) hx hb d_M_equality_47 (by decide) (fun hc => ?_) (fun hc => ?_)
    · have h := h.1 hc
      exact hE (M_conflict, M_moved, M_values) _ _ _ _ h hw d_M_equality_60
    · have h := h.2 hc
      refine lv_aload_n hx hb d_M_equality_50 rfl (lv_at hl 0 rfl) ?_
      refine lv_iload_n hx hb d_M_equality_51 rfl (lv_at hl 1 rfl) ?_
      refine lv_aload_n hx hb d_M_equality_52 rfl (lv_at hl 0 rfl) ?_
      refine lv_iload_n hx hb d_M_equality_53 rfl (lv_at hl 2 rfl) ?_
      refine m_calli (hr := va_runV (As := [.int x3]) (rest := [.int x2, .ref (ad 15)]) ⟨hx, hb, hml, hown, hts⟩ (c_M_value l D cA ad _ M_thrown M_gates M_lines M_conflict M_moved M_tapeSize M_place M_found M_values x3 _ h) (cwV 1 hts (ginV gm_686 gm_688 gs_50 gm_6 gm_689) rfl rfl rfl (by decide +kernel) ⟨Nat.le_of_ble_eq_true rfl, Nat.le_of_ble_eq_true rfl⟩) (m_preV 5 0 rfl rfl hK hw [0, 2] rfl rfl) rfl rfl hl.1 rfl (lv_room (Nat.le_of_ble_eq_true rfl)) d_M_equality_54 ⟨Nat.zero_le _, Nat.zero_le _⟩) (w2 := (fun (_ : Unit) => [(k_M cA ad M_thrown M_gates M_lines M_conflict M_moved M_tapeSize M_place M_found), (k_M_literals cA ad M_literals), (k_M_values cA ad M_values)])) (wr := [(k_M_literals cA ad M_literals)]) hw hA [0, 2] [1] [1, 0, 2] rfl rfl (by decide) (by decide) (by decide) (fun _ => rfl) (fun r54 u H locs hw h => ?_)
      refine m_callv (hr := va_runV (As := [.int x2, .int r54]) (rest := []) ⟨hx, hb, hml, hown, hts⟩ (c_M_tell l D cA ad _ M_thrown M_gates M_lines M_conflict M_moved M_tapeSize M_place M_found M_values x2 r54 _ h) (cwV 2 hts (ginV gm_682 gm_684 gs_49 gm_6 gm_685) rfl rfl rfl (by decide +kernel) ⟨Nat.le_of_ble_eq_true rfl, Nat.le_of_ble_eq_true rfl⟩) (m_preV 5 0 rfl rfl hK hw [0, 2] rfl rfl) rfl rfl hl.1 rfl (lv_room (Nat.le_of_ble_eq_true rfl)) d_M_equality_57 ⟨Nat.zero_le _, Nat.zero_le _⟩) (w2 := (fun (u : Int32 × Int32 × (Nat → Int32)) => [(k_M cA ad M_thrown M_gates M_lines u.1 u.2.1 M_tapeSize M_place M_found), (k_M_literals cA ad M_literals), (k_M_values cA ad u.2.2)])) (wr := [(k_M_literals cA ad M_literals)]) hw hA [0, 2] [1] [1, 0, 2] rfl rfl (by decide) (by decide) (by decide) (fun _ => rfl) (fun u H locs hw h => ?_)
      obtain ⟨M_conflict_57, M_moved_57, M_values_57⟩ := u
      have hw : mW D A s.heap [(k_M cA ad M_thrown M_gates M_lines M_conflict_57 M_moved_57 M_tapeSize M_place M_found), (k_M_literals cA ad M_literals), (k_M_values cA ad M_values_57)] H locs := hw
      exact hE (M_conflict_57, M_moved_57, M_values_57) _ _ _ _ h hw d_M_equality_60
  unfold wp_M_equality at h
  refine lv_aload_n hx hb d_M_equality_0 rfl (lv_at hl 0 rfl) ?_
  refine va_get (D := D) (ci := 5) (v := .ref (ad 21)) (C := R_M) (T := T_M) (N := 18) hx hb hts (fun w h => List.mem_cons_of_mem _ (iw_M w h)) hown hK.1 hw.1 0 rfl rfl 7 (by decide) (hg gm_574) (fun _ h9 => h9) rfl d_M_equality_1 ?_
  refine lv_bipush (v := 6) hx hb d_M_equality_4 (by decide) ?_
  refine lv_iload_n hx hb d_M_equality_6 rfl (lv_at hl 1 rfl) ?_
  refine lv_imul hx hb d_M_equality_7 ?_
  refine va_iald hx hb hK.1 hw.1 1 0 rfl rfl h.1 d_M_equality_8 ?_
  have h := h.2
  refine lv_istore_n (lv' := [(2, .int (M_literals (6 * p1).toNatClampNeg)), (0, .ref (ad 15)), (1, .int p1)]) hx hb d_M_equality_9 rfl hl (by decide) rfl (fun ls hl => ?_)
  refine lv_aload_n hx hb d_M_equality_10 rfl (lv_at hl 1 rfl) ?_
  refine va_get (D := D) (ci := 5) (v := .ref (ad 21)) (C := R_M) (T := T_M) (N := 18) hx hb hts (fun w h => List.mem_cons_of_mem _ (iw_M w h)) hown hK.1 hw.1 0 rfl rfl 7 (by decide) (hg gm_574) (fun _ h9 => h9) rfl d_M_equality_11 ?_
  refine lv_bipush (v := 6) hx hb d_M_equality_14 (by decide) ?_
  refine lv_iload_n hx hb d_M_equality_16 rfl (lv_at hl 2 rfl) ?_
  refine lv_imul hx hb d_M_equality_17 ?_
  refine lv_iconst (v := 1) hx hb d_M_equality_18 (by decide) ?_
  refine lv_iadd hx hb d_M_equality_19 ?_
  refine va_iald hx hb hK.1 hw.1 1 0 rfl rfl h.1 d_M_equality_20 ?_
  have h := h.2
  refine lv_istore_n (lv' := [(3, .int (M_literals ((6 * p1) + 1).toNatClampNeg)), (2, .int (M_literals (6 * p1).toNatClampNeg)), (0, .ref (ad 15)), (1, .int p1)]) hx hb d_M_equality_21 rfl hl (by decide) rfl (fun ls hl => ?_)
  refine lv_aload_n hx hb d_M_equality_22 rfl (lv_at hl 2 rfl) ?_
  refine lv_iload_n hx hb d_M_equality_23 rfl (lv_at hl 1 rfl) ?_
  refine m_calli (hr := va_runV (As := [.int (M_literals (6 * p1).toNatClampNeg)]) (rest := []) ⟨hx, hb, hml, hown, hts⟩ (c_M_value l D cA ad _ M_thrown M_gates M_lines M_conflict M_moved M_tapeSize M_place M_found M_values (M_literals (6 * p1).toNatClampNeg) _ h) (cwV 1 hts (ginV gm_686 gm_688 gs_50 gm_6 gm_689) rfl rfl rfl (by decide +kernel) ⟨Nat.le_of_ble_eq_true rfl, Nat.le_of_ble_eq_true rfl⟩) (m_preV 5 0 rfl rfl hK hw [0, 2] rfl rfl) rfl rfl hl.1 rfl (lv_room (Nat.le_of_ble_eq_true rfl)) d_M_equality_24 ⟨Nat.zero_le _, Nat.zero_le _⟩) (w2 := (fun (_ : Unit) => [(k_M cA ad M_thrown M_gates M_lines M_conflict M_moved M_tapeSize M_place M_found), (k_M_literals cA ad M_literals), (k_M_values cA ad M_values)])) (wr := [(k_M_literals cA ad M_literals)]) hw hA [0, 2] [1] [1, 0, 2] rfl rfl (by decide) (by decide) (by decide) (fun _ => rfl) (fun r24 u H locs hw h => ?_)
  refine lv_iconst (v := 2) hx hb d_M_equality_27 (by decide) ?_
  refine lv_icmp_eq (tgt := 41) hx hb d_M_equality_28 (by decide) (fun hc => ?_) (fun hc => ?_)
  · have h := h.1 hc
    exact j41 _ _ _ _ _ _ _ _ h hw (lv_sub hl [2, 1, 0] rfl)
  · have h := h.2 hc
    refine lv_aload_n hx hb d_M_equality_31 rfl (lv_at hl 2 rfl) ?_
    refine lv_iload_n hx hb d_M_equality_32 rfl (lv_at hl 0 rfl) ?_
    refine lv_aload_n hx hb d_M_equality_33 rfl (lv_at hl 2 rfl) ?_
    refine lv_iload_n hx hb d_M_equality_34 rfl (lv_at hl 1 rfl) ?_
    refine m_calli (hr := va_runV (As := [.int (M_literals (6 * p1).toNatClampNeg)]) (rest := [.int (M_literals ((6 * p1) + 1).toNatClampNeg), .ref (ad 15)]) ⟨hx, hb, hml, hown, hts⟩ (c_M_value l D cA ad _ M_thrown M_gates M_lines M_conflict M_moved M_tapeSize M_place M_found M_values (M_literals (6 * p1).toNatClampNeg) _ h) (cwV 1 hts (ginV gm_686 gm_688 gs_50 gm_6 gm_689) rfl rfl rfl (by decide +kernel) ⟨Nat.le_of_ble_eq_true rfl, Nat.le_of_ble_eq_true rfl⟩) (m_preV 5 0 rfl rfl hK hw [0, 2] rfl rfl) rfl rfl hl.1 rfl (lv_room (Nat.le_of_ble_eq_true rfl)) d_M_equality_35 ⟨Nat.zero_le _, Nat.zero_le _⟩) (w2 := (fun (_ : Unit) => [(k_M cA ad M_thrown M_gates M_lines M_conflict M_moved M_tapeSize M_place M_found), (k_M_literals cA ad M_literals), (k_M_values cA ad M_values)])) (wr := [(k_M_literals cA ad M_literals)]) hw hA [0, 2] [1] [1, 0, 2] rfl rfl (by decide) (by decide) (by decide) (fun _ => rfl) (fun r35 u H locs hw h => ?_)
    refine m_callv (hr := va_runV (As := [.int (M_literals ((6 * p1) + 1).toNatClampNeg), .int r35]) (rest := []) ⟨hx, hb, hml, hown, hts⟩ (c_M_tell l D cA ad _ M_thrown M_gates M_lines M_conflict M_moved M_tapeSize M_place M_found M_values (M_literals ((6 * p1) + 1).toNatClampNeg) r35 _ h) (cwV 2 hts (ginV gm_682 gm_684 gs_49 gm_6 gm_685) rfl rfl rfl (by decide +kernel) ⟨Nat.le_of_ble_eq_true rfl, Nat.le_of_ble_eq_true rfl⟩) (m_preV 5 0 rfl rfl hK hw [0, 2] rfl rfl) rfl rfl hl.1 rfl (lv_room (Nat.le_of_ble_eq_true rfl)) d_M_equality_38 ⟨Nat.zero_le _, Nat.zero_le _⟩) (w2 := (fun (u : Int32 × Int32 × (Nat → Int32)) => [(k_M cA ad M_thrown M_gates M_lines u.1 u.2.1 M_tapeSize M_place M_found), (k_M_literals cA ad M_literals), (k_M_values cA ad u.2.2)])) (wr := [(k_M_literals cA ad M_literals)]) hw hA [0, 2] [1] [1, 0, 2] rfl rfl (by decide) (by decide) (by decide) (fun _ => rfl) (fun u H locs hw h => ?_)
    obtain ⟨M_conflict_38, M_moved_38, M_values_38⟩ := u
    have hw : mW D A s.heap [(k_M cA ad M_thrown M_gates M_lines M_conflict_38 M_moved_38 M_tapeSize M_place M_found), (k_M_literals cA ad M_literals), (k_M_values cA ad M_values_38)] H locs := hw
    exact j41 _ _ _ _ _ _ _ _ h hw (lv_sub hl [2, 1, 0] rfl)
def rm_M_begin : Room := { frames := 0, cells := 0, slots := 0, locals := 0 }
set_option maxHeartbeats 4000000 in
set_option maxRecDepth 100000 in
theorem c_M_begin (l : Launch) (D : va_G) (cA : Nat → ClassId) (ad : Nat → Nat) (sz : Nat) (M_thrown : Int32) (M_gates : Int32) (M_lines : Int32) (M_conflict : Int32) (M_moved : Int32) (M_tapeSize : Int32) (M_place : Int32) (M_found : Int32) (M_values : (Nat → Int32)) (post : Int32 → (Nat → Int32) → Prop) (h : wp_M_begin M_gates M_conflict M_values post) : Met l y_M_begin w_M_begin rm_M_begin (mPc D cA [.ref (ad 15)] [(k_M cA ad M_thrown M_gates M_lines M_conflict M_moved M_tapeSize M_place M_found), (k_M_values cA ad M_values)] sz) (va_Qv (fun (u : Int32 × (Nat → Int32)) => post u.1 u.2) (mB D (va_A [(k_M cA ad M_thrown M_gates M_lines M_conflict M_moved M_tapeSize M_place M_found), (k_M_values cA ad M_values)] sz) (fun (u : Int32 × (Nat → Int32)) => [(k_M cA ad M_thrown M_gates M_lines u.1 M_moved M_tapeSize M_place M_found), (k_M_values cA ad u.2)])) (va_A [(k_M cA ad M_thrown M_gates M_lines M_conflict M_moved M_tapeSize M_place M_found), (k_M_values cA ad M_values)] sz)) 0 0 (va_A [(k_M cA ad M_thrown M_gates M_lines M_conflict M_moved M_tapeSize M_place M_found), (k_M_values cA ad M_values)] sz) := by
  refine m_methV (by decide) rfl (Nat.le_of_ble_eq_true rfl) ?_
  intro p e s m below meth c A Q ls hx hb hml hown hts hK hA hw hl hE
  have hl : lv_has ls 2 [(0, .ref (ad 15))] := hl
  have hown : s.vm.findClass R_M = some m.cls := hown
  have hg : ∀ {w : Cond}, w ∈ gw → w.before _ s = true := fun h => hts _ (List.mem_cons_of_mem _ h)
  obtain ⟨C7, hC7⟩ : ∃ C : Int32 → Int32 → (Nat → Int32) → Prop, ∀ (x1 : Int32) (M_conflict : Int32) (M_values : (Nat → Int32)), C x1 M_conflict M_values ↔ (∀ (H : Heap) (locs : List Loc) (ls : Array Slot), mW D A s.heap [(k_M cA ad M_thrown M_gates M_lines M_conflict M_moved M_tapeSize M_place M_found), (k_M_values cA ad M_values)] H locs → lv_has ls 2 [(0, .ref (ad 15)), (1, .int x1)] → W p l e rm_M_begin s m [.ref (ad 15)].toArray below meth c H locs 0 0 Q (F0 m 7 ls [])) := ⟨_, fun _ _ _ => Iff.rfl⟩
  have hc7 : ∀ (x1 : Int32) (M_conflict : Int32) (M_values : (Nat → Int32)), s_M_begin_7 M_gates C7 post x1 M_conflict M_values → C7 x1 M_conflict M_values := by
    intro x1 M_conflict M_values h
    unfold s_M_begin_7 at h
    refine (hC7 _ _ _).2 ?_
    intro H locs ls hw hl
    refine lv_iload_n hx hb d_M_begin_7 rfl (lv_at hl 1 rfl) ?_
    refine lv_aload_n hx hb d_M_begin_8 rfl (lv_at hl 0 rfl) ?_
    refine va_get (D := D) (ci := 5) (v := .int M_gates) (C := R_M) (T := T_M) (N := 18) hx hb hts (fun w h => List.mem_cons_of_mem _ (iw_M w h)) hown hK.1 hw.1 0 rfl rfl 4 (by decide) (hg gm_571) (fun _ h9 => h9) rfl d_M_begin_9 ?_
    refine lv_icmp_ge (tgt := 28) hx hb d_M_begin_12 (by decide) (fun hc => ?_) (fun hc => ?_)
    · have h := h.1 hc
      refine lv_aload_n hx hb d_M_begin_28 rfl (lv_at hl 0 rfl) ?_
      refine va_get (D := D) (ci := 5) (v := .ref (ad 22)) (C := R_M) (T := T_M) (N := 18) hx hb hts (fun w h => List.mem_cons_of_mem _ (iw_M w h)) hown hK.1 hw.1 0 rfl rfl 9 (by decide) (hg gm_576) (fun _ h9 => h9) rfl d_M_begin_29 ?_
      refine lv_iconst (v := 0) hx hb d_M_begin_32 (by decide) ?_
      refine lv_iconst (v := 0) hx hb d_M_begin_33 (by decide) ?_
      refine m_iast (ws' := [(k_M cA ad M_thrown M_gates M_lines M_conflict M_moved M_tapeSize M_place M_found), (k_M_values cA ad (upd M_values (0 : Int32).toNatClampNeg 0))]) hx hb hK.1 hw 1 0 rfl rfl h.1 rfl d_M_begin_34 (fun H locs hw => ?_)
      have h := h.2
      exact hE (M_conflict, (upd M_values (0 : Int32).toNatClampNeg 0)) _ _ _ _ h hw d_M_begin_35
    · have h := h.2 hc
      refine lv_aload_n hx hb d_M_begin_15 rfl (lv_at hl 0 rfl) ?_
      refine va_get (D := D) (ci := 5) (v := .ref (ad 22)) (C := R_M) (T := T_M) (N := 18) hx hb hts (fun w h => List.mem_cons_of_mem _ (iw_M w h)) hown hK.1 hw.1 0 rfl rfl 9 (by decide) (hg gm_576) (fun _ h9 => h9) rfl d_M_begin_16 ?_
      refine lv_iload_n hx hb d_M_begin_19 rfl (lv_at hl 1 rfl) ?_
      refine lv_iconst (v := 2) hx hb d_M_begin_20 (by decide) ?_
      refine m_iast (ws' := [(k_M cA ad M_thrown M_gates M_lines M_conflict M_moved M_tapeSize M_place M_found), (k_M_values cA ad (upd M_values x1.toNatClampNeg 2))]) hx hb hK.1 hw 1 0 rfl rfl h.1 rfl d_M_begin_21 (fun H locs hw => ?_)
      have h := h.2
      refine lv_iinc (v := (x1 + 1)) (lv' := [(1, .int (x1 + 1)), (0, .ref (ad 15))]) hx hb d_M_begin_22 hl (k := 1) rfl rfl (by decide) rfl (fun ls hl => ?_)
      refine lv_goto (tgt := 7) hx hb d_M_begin_25 (by decide) ?_
      exact (hC7 _ _ _).1 h _ _ _ hw (lv_sub hl [1, 0] rfl)
  unfold wp_M_begin at h
  have h := h C7 hc7
  refine lv_aload_n hx hb d_M_begin_0 rfl (lv_at hl 0 rfl) ?_
  refine lv_iconst (v := 0) hx hb d_M_begin_1 (by decide) ?_
  refine m_put (ws' := [(k_M cA ad M_thrown M_gates M_lines 0 M_moved M_tapeSize M_place M_found), (k_M_values cA ad M_values)]) (ci := 5) (v := .int 0) (ty := .boolean) (C := R_M) (T := T_M) (N := 18) hx hb hts (fun w h => List.mem_cons_of_mem _ (iw_M w h)) ty_M tyok_M nm_M hown hK.1 hw 0 rfl rfl 10 (by decide) (hg gm_577) (fun _ h9 => h9) rfl (by decide +kernel) rfl rfl (Nat.le_of_ble_eq_true rfl) rfl d_M_begin_2 (fun H locs hw => ?_)
  refine lv_iconst (v := 0) hx hb d_M_begin_5 (by decide) ?_
  refine lv_istore_n (lv' := [(1, .int 0), (0, .ref (ad 15))]) hx hb d_M_begin_6 rfl hl (by decide) rfl (fun ls hl => ?_)
  exact (hC7 _ _ _).1 h _ _ _ hw (lv_sub hl [1, 0] rfl)
def rm_M_steps : Room := { frames := 3, cells := 0, slots := 0, locals := 70 }
set_option maxHeartbeats 4000000 in
set_option maxRecDepth 100000 in
theorem c_M_steps (l : Launch) (D : va_G) (cA : Nat → ClassId) (ad : Nat → Nat) (sz : Nat) (M_thrown : Int32) (M_gates : Int32) (M_lines : Int32) (M_conflict : Int32) (M_moved : Int32) (M_tapeSize : Int32) (M_place : Int32) (M_found : Int32) (M_kinds : (Nat → Int32)) (M_ones : (Nat → Int32)) (M_twos : (Nat → Int32)) (M_equals : (Nat → Int32)) (M_counts : (Nat → Int32)) (M_literals : (Nat → Int32)) (M_values : (Nat → Int32)) (M_out : (Nat → Int32)) (p1 : Int32) (post : Int32 → Int32 → (Nat → Int32) → Prop) (h : wp_M_steps M_gates M_conflict M_moved M_kinds M_ones M_twos M_equals M_counts M_literals M_values M_out p1 post) : Met l y_M_steps w_M_steps rm_M_steps (mPc D cA [.ref (ad 15), .int p1] [(k_M cA ad M_thrown M_gates M_lines M_conflict M_moved M_tapeSize M_place M_found), (k_M_kinds cA ad M_kinds), (k_M_ones cA ad M_ones), (k_M_twos cA ad M_twos), (k_M_equals cA ad M_equals), (k_M_counts cA ad M_counts), (k_M_literals cA ad M_literals), (k_M_values cA ad M_values), (k_M_out cA ad M_out)] sz) (va_Qv (fun (u : Int32 × Int32 × (Nat → Int32)) => post u.1 u.2.1 u.2.2) (mB D (va_A [(k_M cA ad M_thrown M_gates M_lines M_conflict M_moved M_tapeSize M_place M_found), (k_M_kinds cA ad M_kinds), (k_M_ones cA ad M_ones), (k_M_twos cA ad M_twos), (k_M_equals cA ad M_equals), (k_M_counts cA ad M_counts), (k_M_literals cA ad M_literals), (k_M_values cA ad M_values), (k_M_out cA ad M_out)] sz) (fun (u : Int32 × Int32 × (Nat → Int32)) => [(k_M cA ad M_thrown M_gates M_lines u.1 u.2.1 M_tapeSize M_place M_found), (k_M_kinds cA ad M_kinds), (k_M_ones cA ad M_ones), (k_M_twos cA ad M_twos), (k_M_equals cA ad M_equals), (k_M_counts cA ad M_counts), (k_M_literals cA ad M_literals), (k_M_values cA ad u.2.2), (k_M_out cA ad M_out)])) (va_A [(k_M cA ad M_thrown M_gates M_lines M_conflict M_moved M_tapeSize M_place M_found), (k_M_kinds cA ad M_kinds), (k_M_ones cA ad M_ones), (k_M_twos cA ad M_twos), (k_M_equals cA ad M_equals), (k_M_counts cA ad M_counts), (k_M_literals cA ad M_literals), (k_M_values cA ad M_values), (k_M_out cA ad M_out)] sz)) 0 0 (va_A [(k_M cA ad M_thrown M_gates M_lines M_conflict M_moved M_tapeSize M_place M_found), (k_M_kinds cA ad M_kinds), (k_M_ones cA ad M_ones), (k_M_twos cA ad M_twos), (k_M_equals cA ad M_equals), (k_M_counts cA ad M_counts), (k_M_literals cA ad M_literals), (k_M_values cA ad M_values), (k_M_out cA ad M_out)] sz) := by
  refine m_methV (by decide) rfl (Nat.le_of_ble_eq_true rfl) ?_
  intro p e s m below meth c A Q ls hx hb hml hown hts hK hA hw hl hE
  have hl : lv_has ls 3 [(0, .ref (ad 15)), (1, .int p1)] := hl
  have hown : s.vm.findClass R_M = some m.cls := hown
  have hg : ∀ {w : Cond}, w ∈ gw → w.before _ s = true := fun h => hts _ (List.mem_cons_of_mem _ h)
  obtain ⟨C5, hC5⟩ : ∃ C : Int32 → Int32 → (Nat → Int32) → Prop, ∀ (M_conflict : Int32) (M_moved : Int32) (M_values : (Nat → Int32)), C M_conflict M_moved M_values ↔ (∀ (H : Heap) (locs : List Loc) (ls : Array Slot), mW D A s.heap [(k_M cA ad M_thrown M_gates M_lines M_conflict M_moved M_tapeSize M_place M_found), (k_M_kinds cA ad M_kinds), (k_M_ones cA ad M_ones), (k_M_twos cA ad M_twos), (k_M_equals cA ad M_equals), (k_M_counts cA ad M_counts), (k_M_literals cA ad M_literals), (k_M_values cA ad M_values), (k_M_out cA ad M_out)] H locs → lv_has ls 3 [(0, .ref (ad 15)), (1, .int p1)] → W p l e rm_M_steps s m [.ref (ad 15), .int p1].toArray below meth c H locs 0 0 Q (F0 m 5 ls [])) := ⟨_, fun _ _ _ => Iff.rfl⟩
  obtain ⟨C26, hC26⟩ : ∃ C : Int32 → Int32 → Int32 → (Nat → Int32) → Prop, ∀ (x2 : Int32) (M_conflict : Int32) (M_moved : Int32) (M_values : (Nat → Int32)), C x2 M_conflict M_moved M_values ↔ (∀ (H : Heap) (locs : List Loc) (ls : Array Slot), mW D A s.heap [(k_M cA ad M_thrown M_gates M_lines M_conflict M_moved M_tapeSize M_place M_found), (k_M_kinds cA ad M_kinds), (k_M_ones cA ad M_ones), (k_M_twos cA ad M_twos), (k_M_equals cA ad M_equals), (k_M_counts cA ad M_counts), (k_M_literals cA ad M_literals), (k_M_values cA ad M_values), (k_M_out cA ad M_out)] H locs → lv_has ls 3 [(0, .ref (ad 15)), (1, .int p1), (2, .int x2)] → W p l e rm_M_steps s m [.ref (ad 15), .int p1].toArray below meth c H locs 0 0 Q (F0 m 26 ls [])) := ⟨_, fun _ _ _ _ => Iff.rfl⟩
  obtain ⟨C75, hC75⟩ : ∃ C : Int32 → Int32 → Int32 → (Nat → Int32) → Prop, ∀ (x2 : Int32) (M_conflict : Int32) (M_moved : Int32) (M_values : (Nat → Int32)), C x2 M_conflict M_moved M_values ↔ (∀ (H : Heap) (locs : List Loc) (ls : Array Slot), mW D A s.heap [(k_M cA ad M_thrown M_gates M_lines M_conflict M_moved M_tapeSize M_place M_found), (k_M_kinds cA ad M_kinds), (k_M_ones cA ad M_ones), (k_M_twos cA ad M_twos), (k_M_equals cA ad M_equals), (k_M_counts cA ad M_counts), (k_M_literals cA ad M_literals), (k_M_values cA ad M_values), (k_M_out cA ad M_out)] H locs → lv_has ls 3 [(0, .ref (ad 15)), (1, .int p1), (2, .int x2)] → W p l e rm_M_steps s m [.ref (ad 15), .int p1].toArray below meth c H locs 0 0 Q (F0 m 75 ls [])) := ⟨_, fun _ _ _ _ => Iff.rfl⟩
  have j120 : ∀ (x2 : Int32) (M_conflict : Int32) (M_moved : Int32) (M_values : (Nat → Int32)) (H : Heap) (locs : List Loc) (ls : Array Slot), s_M_steps_120 M_gates M_kinds M_ones M_twos M_equals M_counts M_literals M_out p1 C5 C26 C75 post x2 M_conflict M_moved M_values → mW D A s.heap [(k_M cA ad M_thrown M_gates M_lines M_conflict M_moved M_tapeSize M_place M_found), (k_M_kinds cA ad M_kinds), (k_M_ones cA ad M_ones), (k_M_twos cA ad M_twos), (k_M_equals cA ad M_equals), (k_M_counts cA ad M_counts), (k_M_literals cA ad M_literals), (k_M_values cA ad M_values), (k_M_out cA ad M_out)] H locs → lv_has ls 3 [(0, .ref (ad 15)), (1, .int p1), (2, .int x2)] → W p l e rm_M_steps s m [.ref (ad 15), .int p1].toArray below meth c H locs 0 0 Q (F0 m 120 ls []) := by
    intro x2 M_conflict M_moved M_values H locs ls h hw hl
    unfold s_M_steps_120 at h
    refine lv_iinc (v := (x2 + 1)) (lv' := [(2, .int (x2 + 1)), (0, .ref (ad 15)), (1, .int p1)]) hx hb d_M_steps_120 hl (k := 2) rfl rfl (by decide) rfl (fun ls hl => ?_)
    refine lv_goto (tgt := 75) hx hb d_M_steps_123 (by decide) ?_
    exact (hC75 _ _ _ _).1 h _ _ _ hw (lv_sub hl [1, 2, 0] rfl)
  have j106 : ∀ (x2 : Int32) (M_conflict : Int32) (M_moved : Int32) (M_values : (Nat → Int32)) (H : Heap) (locs : List Loc) (ls : Array Slot), s_M_steps_106 M_gates M_kinds M_ones M_twos M_equals M_counts M_literals M_out p1 C5 C26 C75 post x2 M_conflict M_moved M_values → mW D A s.heap [(k_M cA ad M_thrown M_gates M_lines M_conflict M_moved M_tapeSize M_place M_found), (k_M_kinds cA ad M_kinds), (k_M_ones cA ad M_ones), (k_M_twos cA ad M_twos), (k_M_equals cA ad M_equals), (k_M_counts cA ad M_counts), (k_M_literals cA ad M_literals), (k_M_values cA ad M_values), (k_M_out cA ad M_out)] H locs → lv_has ls 3 [(0, .ref (ad 15)), (1, .int p1), (2, .int x2)] → W p l e rm_M_steps s m [.ref (ad 15), .int p1].toArray below meth c H locs 0 0 Q (F0 m 106 ls []) := by
    intro x2 M_conflict M_moved M_values H locs ls h hw hl
    unfold s_M_steps_106 at h
    refine lv_aload_n hx hb d_M_steps_106 rfl (lv_at hl 0 rfl) ?_
    refine va_get (D := D) (ci := 5) (v := .ref (ad 25)) (C := R_M) (T := T_M) (N := 18) hx hb hts (fun w h => List.mem_cons_of_mem _ (iw_M w h)) hown hK.1 hw.1 0 rfl rfl 16 (by decide) (hg gm_583) (fun _ h9 => h9) rfl d_M_steps_107 ?_
    refine lv_iload_n hx hb d_M_steps_110 rfl (lv_at hl 2 rfl) ?_
    refine va_zald hx hb hK.1 hw.1 8 1 rfl rfl h.1 d_M_steps_111 ?_
    have h := h.2
    refine lv_if_ne (tgt := 120) hx hb d_M_steps_112 (by decide) (fun hc => ?_) (fun hc => ?_)
    · have h := h.2 hc
      exact j120 _ _ _ _ _ _ _ h hw (lv_sub hl [0, 1, 2] rfl)
    · have h := h.1 hc
      refine lv_aload_n hx hb d_M_steps_115 rfl (lv_at hl 0 rfl) ?_
      refine lv_iload_n hx hb d_M_steps_116 rfl (lv_at hl 2 rfl) ?_
      refine m_callv (hr := va_runV (As := [.int x2]) (rest := []) ⟨hx, hb, hml, hown, hts⟩ (c_M_clause l D cA ad _ M_thrown M_gates M_lines M_conflict M_moved M_tapeSize M_place M_found M_counts M_literals M_values x2 _ h) (cwV 1 hts (ginV gm_706 gm_708 gs_55 gm_6 gm_709) rfl rfl rfl (by decide +kernel) ⟨Nat.le_of_ble_eq_true rfl, Nat.le_of_ble_eq_true rfl⟩) (m_preV 5 0 rfl rfl hK hw [0, 5, 6, 7] rfl rfl) rfl rfl hl.1 rfl (lv_room (Nat.le_of_ble_eq_true rfl)) d_M_steps_117 ⟨Nat.zero_le _, Nat.zero_le _⟩) (w2 := (fun (u : Int32 × Int32 × (Nat → Int32)) => [(k_M cA ad M_thrown M_gates M_lines u.1 u.2.1 M_tapeSize M_place M_found), (k_M_kinds cA ad M_kinds), (k_M_ones cA ad M_ones), (k_M_twos cA ad M_twos), (k_M_equals cA ad M_equals), (k_M_counts cA ad M_counts), (k_M_literals cA ad M_literals), (k_M_values cA ad u.2.2), (k_M_out cA ad M_out)])) (wr := [(k_M_kinds cA ad M_kinds), (k_M_ones cA ad M_ones), (k_M_twos cA ad M_twos), (k_M_equals cA ad M_equals), (k_M_out cA ad M_out)]) hw hA [0, 5, 6, 7] [1, 2, 3, 4, 8] [5, 0, 1, 2, 3, 6, 7, 8, 4] rfl rfl (by decide) (by decide) (by decide) (fun _ => rfl) (fun u H locs hw h => ?_)
      obtain ⟨M_conflict_117, M_moved_117, M_values_117⟩ := u
      have hw : mW D A s.heap [(k_M cA ad M_thrown M_gates M_lines M_conflict_117 M_moved_117 M_tapeSize M_place M_found), (k_M_kinds cA ad M_kinds), (k_M_ones cA ad M_ones), (k_M_twos cA ad M_twos), (k_M_equals cA ad M_equals), (k_M_counts cA ad M_counts), (k_M_literals cA ad M_literals), (k_M_values cA ad M_values_117), (k_M_out cA ad M_out)] H locs := hw
      exact j120 _ _ _ _ _ _ _ h hw (lv_sub hl [0, 1, 2] rfl)
  have j67 : ∀ (x2 : Int32) (M_conflict : Int32) (M_moved : Int32) (M_values : (Nat → Int32)) (H : Heap) (locs : List Loc) (ls : Array Slot), s_M_steps_67 M_gates M_kinds M_ones M_twos M_equals M_counts M_literals M_out p1 C5 C26 C75 post x2 M_conflict M_moved M_values → mW D A s.heap [(k_M cA ad M_thrown M_gates M_lines M_conflict M_moved M_tapeSize M_place M_found), (k_M_kinds cA ad M_kinds), (k_M_ones cA ad M_ones), (k_M_twos cA ad M_twos), (k_M_equals cA ad M_equals), (k_M_counts cA ad M_counts), (k_M_literals cA ad M_literals), (k_M_values cA ad M_values), (k_M_out cA ad M_out)] H locs → lv_has ls 3 [(0, .ref (ad 15)), (1, .int p1), (2, .int x2)] → W p l e rm_M_steps s m [.ref (ad 15), .int p1].toArray below meth c H locs 0 0 Q (F0 m 67 ls []) := by
    intro x2 M_conflict M_moved M_values H locs ls h hw hl
    unfold s_M_steps_67 at h
    refine lv_iinc (v := (x2 + 1)) (lv' := [(2, .int (x2 + 1)), (0, .ref (ad 15)), (1, .int p1)]) hx hb d_M_steps_67 hl (k := 2) rfl rfl (by decide) rfl (fun ls hl => ?_)
    refine lv_goto (tgt := 26) hx hb d_M_steps_70 (by decide) ?_
    exact (hC26 _ _ _ _).1 h _ _ _ hw (lv_sub hl [1, 2, 0] rfl)
  have hc5 : ∀ (M_conflict : Int32) (M_moved : Int32) (M_values : (Nat → Int32)), s_M_steps_5 M_gates M_kinds M_ones M_twos M_equals M_counts M_literals M_out p1 C5 C26 C75 post M_conflict M_moved M_values → C5 M_conflict M_moved M_values := by
    intro M_conflict M_moved M_values h
    unfold s_M_steps_5 at h
    refine (hC5 _ _ _).2 ?_
    intro H locs ls hw hl
    refine lv_aload_n hx hb d_M_steps_5 rfl (lv_at hl 0 rfl) ?_
    refine va_get (D := D) (ci := 5) (v := .int M_moved) (C := R_M) (T := T_M) (N := 18) hx hb hts (fun w h => List.mem_cons_of_mem _ (iw_M w h)) hown hK.1 hw.1 0 rfl rfl 11 (by decide) (hg gm_578) (fun _ h9 => h9) rfl d_M_steps_6 ?_
    refine lv_if_eq (tgt := 129) hx hb d_M_steps_9 (by decide) (fun hc => ?_) (fun hc => ?_)
    · have h := h.1 hc
      exact hE (M_conflict, M_moved, M_values) _ _ _ _ h hw d_M_steps_129
    · have h := h.2 hc
      refine lv_aload_n hx hb d_M_steps_12 rfl (lv_at hl 0 rfl) ?_
      refine va_get (D := D) (ci := 5) (v := .int M_conflict) (C := R_M) (T := T_M) (N := 18) hx hb hts (fun w h => List.mem_cons_of_mem _ (iw_M w h)) hown hK.1 hw.1 0 rfl rfl 10 (by decide) (hg gm_577) (fun _ h9 => h9) rfl d_M_steps_13 ?_
      refine lv_if_ne (tgt := 129) hx hb d_M_steps_16 (by decide) (fun hc => ?_) (fun hc => ?_)
      · have h := h.2 hc
        exact hE (M_conflict, M_moved, M_values) _ _ _ _ h hw d_M_steps_129
      · have h := h.1 hc
        refine lv_aload_n hx hb d_M_steps_19 rfl (lv_at hl 0 rfl) ?_
        refine lv_iconst (v := 0) hx hb d_M_steps_20 (by decide) ?_
        refine m_put (ws' := [(k_M cA ad M_thrown M_gates M_lines M_conflict 0 M_tapeSize M_place M_found), (k_M_kinds cA ad M_kinds), (k_M_ones cA ad M_ones), (k_M_twos cA ad M_twos), (k_M_equals cA ad M_equals), (k_M_counts cA ad M_counts), (k_M_literals cA ad M_literals), (k_M_values cA ad M_values), (k_M_out cA ad M_out)]) (ci := 5) (v := .int 0) (ty := .boolean) (C := R_M) (T := T_M) (N := 18) hx hb hts (fun w h => List.mem_cons_of_mem _ (iw_M w h)) ty_M tyok_M nm_M hown hK.1 hw 0 rfl rfl 11 (by decide) (hg gm_578) (fun _ h9 => h9) rfl (by decide +kernel) rfl rfl (Nat.le_of_ble_eq_true rfl) rfl d_M_steps_21 (fun H locs hw => ?_)
        refine lv_iconst (v := 1) hx hb d_M_steps_24 (by decide) ?_
        refine lv_istore_n (lv' := [(2, .int 1), (0, .ref (ad 15)), (1, .int p1)]) hx hb d_M_steps_25 rfl hl (by decide) rfl (fun ls hl => ?_)
        exact (hC26 _ _ _ _).1 h _ _ _ hw (lv_sub hl [1, 2, 0] rfl)
  have hc26 : ∀ (x2 : Int32) (M_conflict : Int32) (M_moved : Int32) (M_values : (Nat → Int32)), s_M_steps_26 M_gates M_kinds M_ones M_twos M_equals M_counts M_literals M_out p1 C5 C26 C75 post x2 M_conflict M_moved M_values → C26 x2 M_conflict M_moved M_values := by
    intro x2 M_conflict M_moved M_values h
    unfold s_M_steps_26 at h
    refine (hC26 _ _ _ _).2 ?_
    intro H locs ls hw hl
    refine lv_iload_n hx hb d_M_steps_26 rfl (lv_at hl 2 rfl) ?_
    refine lv_aload_n hx hb d_M_steps_27 rfl (lv_at hl 0 rfl) ?_
    refine va_get (D := D) (ci := 5) (v := .int M_gates) (C := R_M) (T := T_M) (N := 18) hx hb hts (fun w h => List.mem_cons_of_mem _ (iw_M w h)) hown hK.1 hw.1 0 rfl rfl 4 (by decide) (hg gm_571) (fun _ h9 => h9) rfl d_M_steps_28 ?_
    refine lv_icmp_ge (tgt := 73) hx hb d_M_steps_31 (by decide) (fun hc => ?_) (fun hc => ?_)
    · have h := h.1 hc
      refine lv_iconst (v := 0) hx hb d_M_steps_73 (by decide) ?_
      refine lv_istore_n (lv' := [(2, .int 0), (0, .ref (ad 15)), (1, .int p1)]) hx hb d_M_steps_74 rfl hl (by decide) rfl (fun ls hl => ?_)
      exact (hC75 _ _ _ _).1 h _ _ _ hw (lv_sub hl [1, 2, 0] rfl)
    · have h := h.2 hc
      refine lv_aload_n hx hb d_M_steps_34 rfl (lv_at hl 0 rfl) ?_
      refine va_get (D := D) (ci := 5) (v := .ref (ad 16)) (C := R_M) (T := T_M) (N := 18) hx hb hts (fun w h => List.mem_cons_of_mem _ (iw_M w h)) hown hK.1 hw.1 0 rfl rfl 1 (by decide) (hg gm_568) (fun _ h9 => h9) rfl d_M_steps_35 ?_
      refine lv_iload_n hx hb d_M_steps_38 rfl (lv_at hl 2 rfl) ?_
      refine va_iald hx hb hK.1 hw.1 1 0 rfl rfl h.1 d_M_steps_39 ?_
      have h := h.2
      refine lv_iconst (v := 1) hx hb d_M_steps_40 (by decide) ?_
      refine lv_icmp_ne (tgt := 52) hx hb d_M_steps_41 (by decide) (fun hc => ?_) (fun hc => ?_)
      · have h := h.2 hc
        refine lv_aload_n hx hb d_M_steps_52 rfl (lv_at hl 0 rfl) ?_
        refine va_get (D := D) (ci := 5) (v := .ref (ad 16)) (C := R_M) (T := T_M) (N := 18) hx hb hts (fun w h => List.mem_cons_of_mem _ (iw_M w h)) hown hK.1 hw.1 0 rfl rfl 1 (by decide) (hg gm_568) (fun _ h9 => h9) rfl d_M_steps_53 ?_
        refine lv_iload_n hx hb d_M_steps_56 rfl (lv_at hl 2 rfl) ?_
        refine va_iald hx hb hK.1 hw.1 1 0 rfl rfl h.1 d_M_steps_57 ?_
        have h := h.2
        refine lv_iconst (v := 2) hx hb d_M_steps_58 (by decide) ?_
        refine lv_icmp_ne (tgt := 67) hx hb d_M_steps_59 (by decide) (fun hc => ?_) (fun hc => ?_)
        · have h := h.2 hc
          exact j67 _ _ _ _ _ _ _ h hw (lv_sub hl [0, 1, 2] rfl)
        · have h := h.1 hc
          refine lv_aload_n hx hb d_M_steps_62 rfl (lv_at hl 0 rfl) ?_
          refine lv_iload_n hx hb d_M_steps_63 rfl (lv_at hl 2 rfl) ?_
          refine m_callv (hr := va_runV (As := [.int x2]) (rest := []) ⟨hx, hb, hml, hown, hts⟩ (c_M_either l D cA ad _ M_thrown M_gates M_lines M_conflict M_moved M_tapeSize M_place M_found M_ones M_twos M_values x2 _ h) (cwV 1 hts (ginV gm_698 gm_700 gs_53 gm_6 gm_701) rfl rfl rfl (by decide +kernel) ⟨Nat.le_of_ble_eq_true rfl, Nat.le_of_ble_eq_true rfl⟩) (m_preV 5 0 rfl rfl hK hw [0, 2, 3, 7] rfl rfl) rfl rfl hl.1 rfl (lv_room (Nat.le_of_ble_eq_true rfl)) d_M_steps_64 ⟨Nat.zero_le _, Nat.zero_le _⟩) (w2 := (fun (u : Int32 × Int32 × (Nat → Int32)) => [(k_M cA ad M_thrown M_gates M_lines u.1 u.2.1 M_tapeSize M_place M_found), (k_M_kinds cA ad M_kinds), (k_M_ones cA ad M_ones), (k_M_twos cA ad M_twos), (k_M_equals cA ad M_equals), (k_M_counts cA ad M_counts), (k_M_literals cA ad M_literals), (k_M_values cA ad u.2.2), (k_M_out cA ad M_out)])) (wr := [(k_M_kinds cA ad M_kinds), (k_M_equals cA ad M_equals), (k_M_counts cA ad M_counts), (k_M_literals cA ad M_literals), (k_M_out cA ad M_out)]) hw hA [0, 2, 3, 7] [1, 4, 5, 6, 8] [5, 0, 6, 7, 1, 2, 3, 8, 4] rfl rfl (by decide) (by decide) (by decide) (fun _ => rfl) (fun u H locs hw h => ?_)
          obtain ⟨M_conflict_64, M_moved_64, M_values_64⟩ := u
          have hw : mW D A s.heap [(k_M cA ad M_thrown M_gates M_lines M_conflict_64 M_moved_64 M_tapeSize M_place M_found), (k_M_kinds cA ad M_kinds), (k_M_ones cA ad M_ones), (k_M_twos cA ad M_twos), (k_M_equals cA ad M_equals), (k_M_counts cA ad M_counts), (k_M_literals cA ad M_literals), (k_M_values cA ad M_values_64), (k_M_out cA ad M_out)] H locs := hw
          exact j67 _ _ _ _ _ _ _ h hw (lv_sub hl [0, 1, 2] rfl)
      · have h := h.1 hc
        refine lv_aload_n hx hb d_M_steps_44 rfl (lv_at hl 0 rfl) ?_
        refine lv_iload_n hx hb d_M_steps_45 rfl (lv_at hl 2 rfl) ?_
        refine m_callv (hr := va_runV (As := [.int x2]) (rest := []) ⟨hx, hb, hml, hown, hts⟩ (c_M_and l D cA ad _ M_thrown M_gates M_lines M_conflict M_moved M_tapeSize M_place M_found M_ones M_twos M_values x2 _ h) (cwV 1 hts (ginV gm_694 gm_696 gs_52 gm_6 gm_697) rfl rfl rfl (by decide +kernel) ⟨Nat.le_of_ble_eq_true rfl, Nat.le_of_ble_eq_true rfl⟩) (m_preV 5 0 rfl rfl hK hw [0, 2, 3, 7] rfl rfl) rfl rfl hl.1 rfl (lv_room (Nat.le_of_ble_eq_true rfl)) d_M_steps_46 ⟨Nat.zero_le _, Nat.zero_le _⟩) (w2 := (fun (u : Int32 × Int32 × (Nat → Int32)) => [(k_M cA ad M_thrown M_gates M_lines u.1 u.2.1 M_tapeSize M_place M_found), (k_M_kinds cA ad M_kinds), (k_M_ones cA ad M_ones), (k_M_twos cA ad M_twos), (k_M_equals cA ad M_equals), (k_M_counts cA ad M_counts), (k_M_literals cA ad M_literals), (k_M_values cA ad u.2.2), (k_M_out cA ad M_out)])) (wr := [(k_M_kinds cA ad M_kinds), (k_M_equals cA ad M_equals), (k_M_counts cA ad M_counts), (k_M_literals cA ad M_literals), (k_M_out cA ad M_out)]) hw hA [0, 2, 3, 7] [1, 4, 5, 6, 8] [5, 0, 6, 7, 1, 2, 3, 8, 4] rfl rfl (by decide) (by decide) (by decide) (fun _ => rfl) (fun u H locs hw h => ?_)
        obtain ⟨M_conflict_46, M_moved_46, M_values_46⟩ := u
        have hw : mW D A s.heap [(k_M cA ad M_thrown M_gates M_lines M_conflict_46 M_moved_46 M_tapeSize M_place M_found), (k_M_kinds cA ad M_kinds), (k_M_ones cA ad M_ones), (k_M_twos cA ad M_twos), (k_M_equals cA ad M_equals), (k_M_counts cA ad M_counts), (k_M_literals cA ad M_literals), (k_M_values cA ad M_values_46), (k_M_out cA ad M_out)] H locs := hw
        refine lv_goto (tgt := 67) hx hb d_M_steps_49 (by decide) ?_
        exact j67 _ _ _ _ _ _ _ h hw (lv_sub hl [0, 1, 2] rfl)
  have hc75 : ∀ (x2 : Int32) (M_conflict : Int32) (M_moved : Int32) (M_values : (Nat → Int32)), s_M_steps_75 M_gates M_kinds M_ones M_twos M_equals M_counts M_literals M_out p1 C5 C26 C75 post x2 M_conflict M_moved M_values → C75 x2 M_conflict M_moved M_values := by
    intro x2 M_conflict M_moved M_values h
    unfold s_M_steps_75 at h
    refine (hC75 _ _ _ _).2 ?_
    intro H locs ls hw hl
    refine lv_iload_n hx hb d_M_steps_75 rfl (lv_at hl 2 rfl) ?_
    refine lv_iload_n hx hb d_M_steps_76 rfl (lv_at hl 1 rfl) ?_
    refine lv_icmp_ge (tgt := 126) hx hb d_M_steps_77 (by decide) (fun hc => ?_) (fun hc => ?_)
    · have h := h.1 hc
      refine lv_goto (tgt := 5) hx hb d_M_steps_126 (by decide) ?_
      exact (hC5 _ _ _).1 h _ _ _ hw (lv_sub hl [0, 1] rfl)
    · have h := h.2 hc
      refine lv_aload_n hx hb d_M_steps_80 rfl (lv_at hl 0 rfl) ?_
      refine va_get (D := D) (ci := 5) (v := .ref (ad 25)) (C := R_M) (T := T_M) (N := 18) hx hb hts (fun w h => List.mem_cons_of_mem _ (iw_M w h)) hown hK.1 hw.1 0 rfl rfl 16 (by decide) (hg gm_583) (fun _ h9 => h9) rfl d_M_steps_81 ?_
      refine lv_iload_n hx hb d_M_steps_84 rfl (lv_at hl 2 rfl) ?_
      refine va_zald hx hb hK.1 hw.1 8 1 rfl rfl h.1 d_M_steps_85 ?_
      have h := h.2
      refine lv_if_ne (tgt := 106) hx hb d_M_steps_86 (by decide) (fun hc => ?_) (fun hc => ?_)
      · have h := h.2 hc
        exact j106 _ _ _ _ _ _ _ h hw (lv_sub hl [0, 1, 2] rfl)
      · have h := h.1 hc
        refine lv_aload_n hx hb d_M_steps_89 rfl (lv_at hl 0 rfl) ?_
        refine va_get (D := D) (ci := 5) (v := .ref (ad 19)) (C := R_M) (T := T_M) (N := 18) hx hb hts (fun w h => List.mem_cons_of_mem _ (iw_M w h)) hown hK.1 hw.1 0 rfl rfl 5 (by decide) (hg gm_572) (fun _ h9 => h9) rfl d_M_steps_90 ?_
        refine lv_iload_n hx hb d_M_steps_93 rfl (lv_at hl 2 rfl) ?_
        refine va_zald hx hb hK.1 hw.1 4 1 rfl rfl h.1 d_M_steps_94 ?_
        have h := h.2
        refine lv_if_eq (tgt := 106) hx hb d_M_steps_95 (by decide) (fun hc => ?_) (fun hc => ?_)
        · have h := h.1 hc
          exact j106 _ _ _ _ _ _ _ h hw (lv_sub hl [0, 1, 2] rfl)
        · have h := h.2 hc
          refine lv_aload_n hx hb d_M_steps_98 rfl (lv_at hl 0 rfl) ?_
          refine lv_iload_n hx hb d_M_steps_99 rfl (lv_at hl 2 rfl) ?_
          refine m_callv (hr := va_runV (As := [.int x2]) (rest := []) ⟨hx, hb, hml, hown, hts⟩ (c_M_equality l D cA ad _ M_thrown M_gates M_lines M_conflict M_moved M_tapeSize M_place M_found M_literals M_values x2 _ h) (cwV 1 hts (ginV gm_702 gm_704 gs_54 gm_6 gm_705) rfl rfl rfl (by decide +kernel) ⟨Nat.le_of_ble_eq_true rfl, Nat.le_of_ble_eq_true rfl⟩) (m_preV 5 0 rfl rfl hK hw [0, 6, 7] rfl rfl) rfl rfl hl.1 rfl (lv_room (Nat.le_of_ble_eq_true rfl)) d_M_steps_100 ⟨Nat.zero_le _, Nat.zero_le _⟩) (w2 := (fun (u : Int32 × Int32 × (Nat → Int32)) => [(k_M cA ad M_thrown M_gates M_lines u.1 u.2.1 M_tapeSize M_place M_found), (k_M_kinds cA ad M_kinds), (k_M_ones cA ad M_ones), (k_M_twos cA ad M_twos), (k_M_equals cA ad M_equals), (k_M_counts cA ad M_counts), (k_M_literals cA ad M_literals), (k_M_values cA ad u.2.2), (k_M_out cA ad M_out)])) (wr := [(k_M_kinds cA ad M_kinds), (k_M_ones cA ad M_ones), (k_M_twos cA ad M_twos), (k_M_equals cA ad M_equals), (k_M_counts cA ad M_counts), (k_M_out cA ad M_out)]) hw hA [0, 6, 7] [1, 2, 3, 4, 5, 8] [6, 0, 1, 2, 3, 4, 7, 8, 5] rfl rfl (by decide) (by decide) (by decide) (fun _ => rfl) (fun u H locs hw h => ?_)
          obtain ⟨M_conflict_100, M_moved_100, M_values_100⟩ := u
          have hw : mW D A s.heap [(k_M cA ad M_thrown M_gates M_lines M_conflict_100 M_moved_100 M_tapeSize M_place M_found), (k_M_kinds cA ad M_kinds), (k_M_ones cA ad M_ones), (k_M_twos cA ad M_twos), (k_M_equals cA ad M_equals), (k_M_counts cA ad M_counts), (k_M_literals cA ad M_literals), (k_M_values cA ad M_values_100), (k_M_out cA ad M_out)] H locs := hw
          refine lv_goto (tgt := 120) hx hb d_M_steps_103 (by decide) ?_
          exact j120 _ _ _ _ _ _ _ h hw (lv_sub hl [0, 1, 2] rfl)
  unfold wp_M_steps at h
  have h := h C5 C26 C75 hc5 hc26 hc75
  refine lv_aload_n hx hb d_M_steps_0 rfl (lv_at hl 0 rfl) ?_
  refine lv_iconst (v := 1) hx hb d_M_steps_1 (by decide) ?_
  refine m_put (ws' := [(k_M cA ad M_thrown M_gates M_lines M_conflict 1 M_tapeSize M_place M_found), (k_M_kinds cA ad M_kinds), (k_M_ones cA ad M_ones), (k_M_twos cA ad M_twos), (k_M_equals cA ad M_equals), (k_M_counts cA ad M_counts), (k_M_literals cA ad M_literals), (k_M_values cA ad M_values), (k_M_out cA ad M_out)]) (ci := 5) (v := .int 1) (ty := .boolean) (C := R_M) (T := T_M) (N := 18) hx hb hts (fun w h => List.mem_cons_of_mem _ (iw_M w h)) ty_M tyok_M nm_M hown hK.1 hw 0 rfl rfl 11 (by decide) (hg gm_578) (fun _ h9 => h9) rfl (by decide +kernel) rfl rfl (Nat.le_of_ble_eq_true rfl) rfl d_M_steps_2 (fun H locs hw => ?_)
  exact (hC5 _ _ _).1 h _ _ _ hw (lv_sub hl [0, 1] rfl)
def rm_M_opposes : Room := { frames := 4, cells := 0, slots := 0, locals := 92 }
set_option maxHeartbeats 4000000 in
set_option maxRecDepth 100000 in
theorem c_M_opposes (l : Launch) (D : va_G) (cA : Nat → ClassId) (ad : Nat → Nat) (sz : Nat) (M_thrown : Int32) (M_gates : Int32) (M_lines : Int32) (M_conflict : Int32) (M_moved : Int32) (M_tapeSize : Int32) (M_place : Int32) (M_found : Int32) (M_kinds : (Nat → Int32)) (M_ones : (Nat → Int32)) (M_twos : (Nat → Int32)) (M_equals : (Nat → Int32)) (M_counts : (Nat → Int32)) (M_literals : (Nat → Int32)) (M_values : (Nat → Int32)) (M_out : (Nat → Int32)) (p1 : Int32) (p2 : Int32) (p3 : Int32) (p4 : Int32) (p5 : Int32) (post : Int32 → Int32 → Int32 → (Nat → Int32) → Prop) (h : wp_M_opposes M_gates M_conflict M_moved M_kinds M_ones M_twos M_equals M_counts M_literals M_values M_out p1 p2 p3 p4 p5 post) : Met l y_M_opposes w_M_opposes rm_M_opposes (mPc D cA [.ref (ad 15), .int p1, .int p2, .int p3, .int p4, .int p5] [(k_M cA ad M_thrown M_gates M_lines M_conflict M_moved M_tapeSize M_place M_found), (k_M_kinds cA ad M_kinds), (k_M_ones cA ad M_ones), (k_M_twos cA ad M_twos), (k_M_equals cA ad M_equals), (k_M_counts cA ad M_counts), (k_M_literals cA ad M_literals), (k_M_values cA ad M_values), (k_M_out cA ad M_out)] sz) (va_Qi (fun (r : Int32) (u : Int32 × Int32 × (Nat → Int32)) => post r u.1 u.2.1 u.2.2) (mB D (va_A [(k_M cA ad M_thrown M_gates M_lines M_conflict M_moved M_tapeSize M_place M_found), (k_M_kinds cA ad M_kinds), (k_M_ones cA ad M_ones), (k_M_twos cA ad M_twos), (k_M_equals cA ad M_equals), (k_M_counts cA ad M_counts), (k_M_literals cA ad M_literals), (k_M_values cA ad M_values), (k_M_out cA ad M_out)] sz) (fun (u : Int32 × Int32 × (Nat → Int32)) => [(k_M cA ad M_thrown M_gates M_lines u.1 u.2.1 M_tapeSize M_place M_found), (k_M_kinds cA ad M_kinds), (k_M_ones cA ad M_ones), (k_M_twos cA ad M_twos), (k_M_equals cA ad M_equals), (k_M_counts cA ad M_counts), (k_M_literals cA ad M_literals), (k_M_values cA ad u.2.2), (k_M_out cA ad M_out)])) (va_A [(k_M cA ad M_thrown M_gates M_lines M_conflict M_moved M_tapeSize M_place M_found), (k_M_kinds cA ad M_kinds), (k_M_ones cA ad M_ones), (k_M_twos cA ad M_twos), (k_M_equals cA ad M_equals), (k_M_counts cA ad M_counts), (k_M_literals cA ad M_literals), (k_M_values cA ad M_values), (k_M_out cA ad M_out)] sz)) 0 0 (va_A [(k_M cA ad M_thrown M_gates M_lines M_conflict M_moved M_tapeSize M_place M_found), (k_M_kinds cA ad M_kinds), (k_M_ones cA ad M_ones), (k_M_twos cA ad M_twos), (k_M_equals cA ad M_equals), (k_M_counts cA ad M_counts), (k_M_literals cA ad M_literals), (k_M_values cA ad M_values), (k_M_out cA ad M_out)] sz) := by
  refine m_methZ (by decide) rfl (Nat.le_of_ble_eq_true rfl) ?_
  intro p e s m below meth c A Q ls hx hb hml hown hts hK hA hw hl hE
  have hl : lv_has ls 6 [(0, .ref (ad 15)), (1, .int p1), (2, .int p2), (3, .int p3), (4, .int p4), (5, .int p5)] := hl
  have hown : s.vm.findClass R_M = some m.cls := hown
  have hg : ∀ {w : Cond}, w ∈ gw → w.before _ s = true := fun h => hts _ (List.mem_cons_of_mem _ h)
  unfold wp_M_opposes at h
  refine lv_aload_n hx hb d_M_opposes_0 rfl (lv_at hl 0 rfl) ?_
  refine m_callv (hr := va_runV (As := []) (rest := []) ⟨hx, hb, hml, hown, hts⟩ (c_M_begin l D cA ad _ M_thrown M_gates M_lines M_conflict M_moved M_tapeSize M_place M_found M_values _ h) (cwV 0 hts (ginV gm_678 gm_680 gs_48 gm_6 gm_681) rfl rfl rfl (by decide +kernel) ⟨Nat.le_of_ble_eq_true rfl, Nat.le_of_ble_eq_true rfl⟩) (m_preV 5 0 rfl rfl hK hw [0, 7] rfl rfl) rfl rfl hl.1 rfl (lv_room (Nat.le_of_ble_eq_true rfl)) d_M_opposes_1 ⟨Nat.zero_le _, Nat.zero_le _⟩) (w2 := (fun (u : Int32 × (Nat → Int32)) => [(k_M cA ad M_thrown M_gates M_lines u.1 M_moved M_tapeSize M_place M_found), (k_M_kinds cA ad M_kinds), (k_M_ones cA ad M_ones), (k_M_twos cA ad M_twos), (k_M_equals cA ad M_equals), (k_M_counts cA ad M_counts), (k_M_literals cA ad M_literals), (k_M_values cA ad u.2), (k_M_out cA ad M_out)])) (wr := [(k_M_kinds cA ad M_kinds), (k_M_ones cA ad M_ones), (k_M_twos cA ad M_twos), (k_M_equals cA ad M_equals), (k_M_counts cA ad M_counts), (k_M_literals cA ad M_literals), (k_M_out cA ad M_out)]) hw hA [0, 7] [1, 2, 3, 4, 5, 6, 8] [7, 0, 1, 2, 3, 4, 5, 8, 6] rfl rfl (by decide) (by decide) (by decide) (fun _ => rfl) (fun u H locs hw h => ?_)
  obtain ⟨M_conflict_1, M_values_1⟩ := u
  have hw : mW D A s.heap [(k_M cA ad M_thrown M_gates M_lines M_conflict_1 M_moved M_tapeSize M_place M_found), (k_M_kinds cA ad M_kinds), (k_M_ones cA ad M_ones), (k_M_twos cA ad M_twos), (k_M_equals cA ad M_equals), (k_M_counts cA ad M_counts), (k_M_literals cA ad M_literals), (k_M_values cA ad M_values_1), (k_M_out cA ad M_out)] H locs := hw
  refine lv_aload_n hx hb d_M_opposes_4 rfl (lv_at hl 0 rfl) ?_
  refine lv_iload_n hx hb d_M_opposes_5 rfl (lv_at hl 1 rfl) ?_
  refine lv_iload_n hx hb d_M_opposes_6 rfl (lv_at hl 2 rfl) ?_
  refine m_callv (hr := va_runV (As := [.int p1, .int p2]) (rest := []) ⟨hx, hb, hml, hown, hts⟩ (c_M_tell l D cA ad _ M_thrown M_gates M_lines M_conflict_1 M_moved M_tapeSize M_place M_found M_values_1 p1 p2 _ h) (cwV 2 hts (ginV gm_682 gm_684 gs_49 gm_6 gm_685) rfl rfl rfl (by decide +kernel) ⟨Nat.le_of_ble_eq_true rfl, Nat.le_of_ble_eq_true rfl⟩) (m_preV 5 0 rfl rfl hK hw [0, 7] rfl rfl) rfl rfl hl.1 rfl (lv_room (Nat.le_of_ble_eq_true rfl)) d_M_opposes_7 ⟨Nat.zero_le _, Nat.zero_le _⟩) (w2 := (fun (u : Int32 × Int32 × (Nat → Int32)) => [(k_M cA ad M_thrown M_gates M_lines u.1 u.2.1 M_tapeSize M_place M_found), (k_M_kinds cA ad M_kinds), (k_M_ones cA ad M_ones), (k_M_twos cA ad M_twos), (k_M_equals cA ad M_equals), (k_M_counts cA ad M_counts), (k_M_literals cA ad M_literals), (k_M_values cA ad u.2.2), (k_M_out cA ad M_out)])) (wr := [(k_M_kinds cA ad M_kinds), (k_M_ones cA ad M_ones), (k_M_twos cA ad M_twos), (k_M_equals cA ad M_equals), (k_M_counts cA ad M_counts), (k_M_literals cA ad M_literals), (k_M_out cA ad M_out)]) hw hA [0, 7] [1, 2, 3, 4, 5, 6, 8] [7, 0, 1, 2, 3, 4, 5, 8, 6] rfl rfl (by decide) (by decide) (by decide) (fun _ => rfl) (fun u H locs hw h => ?_)
  obtain ⟨M_conflict_7, M_moved_7, M_values_7⟩ := u
  have hw : mW D A s.heap [(k_M cA ad M_thrown M_gates M_lines M_conflict_7 M_moved_7 M_tapeSize M_place M_found), (k_M_kinds cA ad M_kinds), (k_M_ones cA ad M_ones), (k_M_twos cA ad M_twos), (k_M_equals cA ad M_equals), (k_M_counts cA ad M_counts), (k_M_literals cA ad M_literals), (k_M_values cA ad M_values_7), (k_M_out cA ad M_out)] H locs := hw
  refine lv_aload_n hx hb d_M_opposes_10 rfl (lv_at hl 0 rfl) ?_
  refine lv_iload_n hx hb d_M_opposes_11 rfl (lv_at hl 3 rfl) ?_
  refine lv_iload hx hb d_M_opposes_12 (lv_at hl 4 rfl) ?_
  refine m_callv (hr := va_runV (As := [.int p3, .int p4]) (rest := []) ⟨hx, hb, hml, hown, hts⟩ (c_M_tell l D cA ad _ M_thrown M_gates M_lines M_conflict_7 M_moved_7 M_tapeSize M_place M_found M_values_7 p3 p4 _ h) (cwV 2 hts (ginV gm_682 gm_684 gs_49 gm_6 gm_685) rfl rfl rfl (by decide +kernel) ⟨Nat.le_of_ble_eq_true rfl, Nat.le_of_ble_eq_true rfl⟩) (m_preV 5 0 rfl rfl hK hw [0, 7] rfl rfl) rfl rfl hl.1 rfl (lv_room (Nat.le_of_ble_eq_true rfl)) d_M_opposes_14 ⟨Nat.zero_le _, Nat.zero_le _⟩) (w2 := (fun (u : Int32 × Int32 × (Nat → Int32)) => [(k_M cA ad M_thrown M_gates M_lines u.1 u.2.1 M_tapeSize M_place M_found), (k_M_kinds cA ad M_kinds), (k_M_ones cA ad M_ones), (k_M_twos cA ad M_twos), (k_M_equals cA ad M_equals), (k_M_counts cA ad M_counts), (k_M_literals cA ad M_literals), (k_M_values cA ad u.2.2), (k_M_out cA ad M_out)])) (wr := [(k_M_kinds cA ad M_kinds), (k_M_ones cA ad M_ones), (k_M_twos cA ad M_twos), (k_M_equals cA ad M_equals), (k_M_counts cA ad M_counts), (k_M_literals cA ad M_literals), (k_M_out cA ad M_out)]) hw hA [0, 7] [1, 2, 3, 4, 5, 6, 8] [7, 0, 1, 2, 3, 4, 5, 8, 6] rfl rfl (by decide) (by decide) (by decide) (fun _ => rfl) (fun u H locs hw h => ?_)
  obtain ⟨M_conflict_14, M_moved_14, M_values_14⟩ := u
  have hw : mW D A s.heap [(k_M cA ad M_thrown M_gates M_lines M_conflict_14 M_moved_14 M_tapeSize M_place M_found), (k_M_kinds cA ad M_kinds), (k_M_ones cA ad M_ones), (k_M_twos cA ad M_twos), (k_M_equals cA ad M_equals), (k_M_counts cA ad M_counts), (k_M_literals cA ad M_literals), (k_M_values cA ad M_values_14), (k_M_out cA ad M_out)] H locs := hw
  refine lv_aload_n hx hb d_M_opposes_17 rfl (lv_at hl 0 rfl) ?_
  refine lv_iload hx hb d_M_opposes_18 (lv_at hl 5 rfl) ?_
  refine m_callv (hr := va_runV (As := [.int p5]) (rest := []) ⟨hx, hb, hml, hown, hts⟩ (c_M_steps l D cA ad _ M_thrown M_gates M_lines M_conflict_14 M_moved_14 M_tapeSize M_place M_found M_kinds M_ones M_twos M_equals M_counts M_literals M_values_14 M_out p5 _ h) (cwV 1 hts (ginV gm_690 gm_692 gs_51 gm_6 gm_693) rfl rfl rfl (by decide +kernel) ⟨Nat.le_of_ble_eq_true rfl, Nat.le_of_ble_eq_true rfl⟩) (m_preV 5 0 rfl rfl hK hw [0, 1, 2, 3, 4, 5, 6, 7, 8] rfl rfl) rfl rfl hl.1 rfl (lv_room (Nat.le_of_ble_eq_true rfl)) d_M_opposes_20 ⟨Nat.zero_le _, Nat.zero_le _⟩) (w2 := (fun (u : Int32 × Int32 × (Nat → Int32)) => [(k_M cA ad M_thrown M_gates M_lines u.1 u.2.1 M_tapeSize M_place M_found), (k_M_kinds cA ad M_kinds), (k_M_ones cA ad M_ones), (k_M_twos cA ad M_twos), (k_M_equals cA ad M_equals), (k_M_counts cA ad M_counts), (k_M_literals cA ad M_literals), (k_M_values cA ad u.2.2), (k_M_out cA ad M_out)])) (wr := []) hw hA [0, 1, 2, 3, 4, 5, 6, 7, 8] [] [0, 1, 2, 3, 4, 5, 6, 7, 8] rfl rfl (by decide) (by decide) (by decide) (fun _ => rfl) (fun u H locs hw h => ?_)
  obtain ⟨M_conflict_20, M_moved_20, M_values_20⟩ := u
  have hw : mW D A s.heap [(k_M cA ad M_thrown M_gates M_lines M_conflict_20 M_moved_20 M_tapeSize M_place M_found), (k_M_kinds cA ad M_kinds), (k_M_ones cA ad M_ones), (k_M_twos cA ad M_twos), (k_M_equals cA ad M_equals), (k_M_counts cA ad M_counts), (k_M_literals cA ad M_literals), (k_M_values cA ad M_values_20), (k_M_out cA ad M_out)] H locs := hw
  refine lv_aload_n hx hb d_M_opposes_23 rfl (lv_at hl 0 rfl) ?_
  refine va_get (D := D) (ci := 5) (v := .int M_conflict_20) (C := R_M) (T := T_M) (N := 18) hx hb hts (fun w h => List.mem_cons_of_mem _ (iw_M w h)) hown hK.1 hw.1 0 rfl rfl 10 (by decide) (hg gm_577) (fun _ h9 => h9) rfl d_M_opposes_24 ?_
  exact hE M_conflict_20 (M_conflict_20, M_moved_20, M_values_20) _ _ _ _ h.2 (isB_nar h.1) hw d_M_opposes_27
def rm_M_follows : Room := { frames := 5, cells := 0, slots := 0, locals := 117 }
set_option maxHeartbeats 4000000 in
set_option maxRecDepth 100000 in
theorem c_M_follows (l : Launch) (D : va_G) (cA : Nat → ClassId) (ad : Nat → Nat) (sz : Nat) (M_thrown : Int32) (M_gates : Int32) (M_lines : Int32) (M_conflict : Int32) (M_moved : Int32) (M_tapeSize : Int32) (M_place : Int32) (M_found : Int32) (M_kinds : (Nat → Int32)) (M_ones : (Nat → Int32)) (M_twos : (Nat → Int32)) (M_equals : (Nat → Int32)) (M_counts : (Nat → Int32)) (M_literals : (Nat → Int32)) (M_values : (Nat → Int32)) (M_out : (Nat → Int32)) (p1 : Int32) (p2 : Int32) (post : Int32 → Int32 → Int32 → (Nat → Int32) → Prop) (h : wp_M_follows M_gates M_conflict M_moved M_kinds M_ones M_twos M_equals M_counts M_literals M_values M_out p1 p2 post) : Met l y_M_follows w_M_follows rm_M_follows (mPc D cA [.ref (ad 15), .int p1, .int p2] [(k_M cA ad M_thrown M_gates M_lines M_conflict M_moved M_tapeSize M_place M_found), (k_M_kinds cA ad M_kinds), (k_M_ones cA ad M_ones), (k_M_twos cA ad M_twos), (k_M_equals cA ad M_equals), (k_M_counts cA ad M_counts), (k_M_literals cA ad M_literals), (k_M_values cA ad M_values), (k_M_out cA ad M_out)] sz) (va_Qi (fun (r : Int32) (u : Int32 × Int32 × (Nat → Int32)) => post r u.1 u.2.1 u.2.2) (mB D (va_A [(k_M cA ad M_thrown M_gates M_lines M_conflict M_moved M_tapeSize M_place M_found), (k_M_kinds cA ad M_kinds), (k_M_ones cA ad M_ones), (k_M_twos cA ad M_twos), (k_M_equals cA ad M_equals), (k_M_counts cA ad M_counts), (k_M_literals cA ad M_literals), (k_M_values cA ad M_values), (k_M_out cA ad M_out)] sz) (fun (u : Int32 × Int32 × (Nat → Int32)) => [(k_M cA ad M_thrown M_gates M_lines u.1 u.2.1 M_tapeSize M_place M_found), (k_M_kinds cA ad M_kinds), (k_M_ones cA ad M_ones), (k_M_twos cA ad M_twos), (k_M_equals cA ad M_equals), (k_M_counts cA ad M_counts), (k_M_literals cA ad M_literals), (k_M_values cA ad u.2.2), (k_M_out cA ad M_out)])) (va_A [(k_M cA ad M_thrown M_gates M_lines M_conflict M_moved M_tapeSize M_place M_found), (k_M_kinds cA ad M_kinds), (k_M_ones cA ad M_ones), (k_M_twos cA ad M_twos), (k_M_equals cA ad M_equals), (k_M_counts cA ad M_counts), (k_M_literals cA ad M_literals), (k_M_values cA ad M_values), (k_M_out cA ad M_out)] sz)) 0 0 (va_A [(k_M cA ad M_thrown M_gates M_lines M_conflict M_moved M_tapeSize M_place M_found), (k_M_kinds cA ad M_kinds), (k_M_ones cA ad M_ones), (k_M_twos cA ad M_twos), (k_M_equals cA ad M_equals), (k_M_counts cA ad M_counts), (k_M_literals cA ad M_literals), (k_M_values cA ad M_values), (k_M_out cA ad M_out)] sz) := by
  refine m_methZ (by decide) rfl (Nat.le_of_ble_eq_true rfl) ?_
  intro p e s m below meth c A Q ls hx hb hml hown hts hK hA hw hl hE
  have hl : lv_has ls 5 [(0, .ref (ad 15)), (1, .int p1), (2, .int p2)] := hl
  have hown : s.vm.findClass R_M = some m.cls := hown
  have hg : ∀ {w : Cond}, w ∈ gw → w.before _ s = true := fun h => hts _ (List.mem_cons_of_mem _ h)
  obtain ⟨C75, hC75⟩ : ∃ C : Int32 → Int32 → Int32 → Int32 → (Nat → Int32) → Prop, ∀ (x3 : Int32) (x4 : Int32) (M_conflict : Int32) (M_moved : Int32) (M_values : (Nat → Int32)), C x3 x4 M_conflict M_moved M_values ↔ (∀ (H : Heap) (locs : List Loc) (ls : Array Slot), mW D A s.heap [(k_M cA ad M_thrown M_gates M_lines M_conflict M_moved M_tapeSize M_place M_found), (k_M_kinds cA ad M_kinds), (k_M_ones cA ad M_ones), (k_M_twos cA ad M_twos), (k_M_equals cA ad M_equals), (k_M_counts cA ad M_counts), (k_M_literals cA ad M_literals), (k_M_values cA ad M_values), (k_M_out cA ad M_out)] H locs → lv_has ls 5 [(0, .ref (ad 15)), (1, .int p1), (2, .int p2), (3, .int x3), (4, .int x4)] → W p l e rm_M_follows s m [.ref (ad 15), .int p1, .int p2].toArray below meth c H locs 0 0 Q (F0 m 75 ls [])) := ⟨_, fun _ _ _ _ _ => Iff.rfl⟩
  have hc75 : ∀ (x3 : Int32) (x4 : Int32) (M_conflict : Int32) (M_moved : Int32) (M_values : (Nat → Int32)), s_M_follows_75 M_gates M_kinds M_ones M_twos M_equals M_counts M_literals M_out p1 p2 C75 post x3 x4 M_conflict M_moved M_values → C75 x3 x4 M_conflict M_moved M_values := by
    intro x3 x4 M_conflict M_moved M_values h
    unfold s_M_follows_75 at h
    refine (hC75 _ _ _ _ _).2 ?_
    intro H locs ls hw hl
    refine lv_iload hx hb d_M_follows_75 (lv_at hl 4 rfl) ?_
    refine lv_aload_n hx hb d_M_follows_77 rfl (lv_at hl 0 rfl) ?_
    refine va_get (D := D) (ci := 5) (v := .ref (ad 20)) (C := R_M) (T := T_M) (N := 18) hx hb hts (fun w h => List.mem_cons_of_mem _ (iw_M w h)) hown hK.1 hw.1 0 rfl rfl 6 (by decide) (hg gm_573) (fun _ h9 => h9) rfl d_M_follows_78 ?_
    refine lv_iload_n hx hb d_M_follows_81 rfl (lv_at hl 1 rfl) ?_
    refine va_iald hx hb hK.1 hw.1 5 0 rfl rfl h.1 d_M_follows_82 ?_
    have h := h.2
    refine lv_icmp_ge (tgt := 106) hx hb d_M_follows_83 (by decide) (fun hc => ?_) (fun hc => ?_)
    · have h := h.1 hc
      refine lv_aload_n hx hb d_M_follows_106 rfl (lv_at hl 0 rfl) ?_
      refine lv_iload_n hx hb d_M_follows_107 rfl (lv_at hl 2 rfl) ?_
      refine m_callv (hr := va_runV (As := [.int p2]) (rest := []) ⟨hx, hb, hml, hown, hts⟩ (c_M_steps l D cA ad _ M_thrown M_gates M_lines M_conflict M_moved M_tapeSize M_place M_found M_kinds M_ones M_twos M_equals M_counts M_literals M_values M_out p2 _ h) (cwV 1 hts (ginV gm_690 gm_692 gs_51 gm_6 gm_693) rfl rfl rfl (by decide +kernel) ⟨Nat.le_of_ble_eq_true rfl, Nat.le_of_ble_eq_true rfl⟩) (m_preV 5 0 rfl rfl hK hw [0, 1, 2, 3, 4, 5, 6, 7, 8] rfl rfl) rfl rfl hl.1 rfl (lv_room (Nat.le_of_ble_eq_true rfl)) d_M_follows_108 ⟨Nat.zero_le _, Nat.zero_le _⟩) (w2 := (fun (u : Int32 × Int32 × (Nat → Int32)) => [(k_M cA ad M_thrown M_gates M_lines u.1 u.2.1 M_tapeSize M_place M_found), (k_M_kinds cA ad M_kinds), (k_M_ones cA ad M_ones), (k_M_twos cA ad M_twos), (k_M_equals cA ad M_equals), (k_M_counts cA ad M_counts), (k_M_literals cA ad M_literals), (k_M_values cA ad u.2.2), (k_M_out cA ad M_out)])) (wr := []) hw hA [0, 1, 2, 3, 4, 5, 6, 7, 8] [] [0, 1, 2, 3, 4, 5, 6, 7, 8] rfl rfl (by decide) (by decide) (by decide) (fun _ => rfl) (fun u H locs hw h => ?_)
      obtain ⟨M_conflict_108, M_moved_108, M_values_108⟩ := u
      have hw : mW D A s.heap [(k_M cA ad M_thrown M_gates M_lines M_conflict_108 M_moved_108 M_tapeSize M_place M_found), (k_M_kinds cA ad M_kinds), (k_M_ones cA ad M_ones), (k_M_twos cA ad M_twos), (k_M_equals cA ad M_equals), (k_M_counts cA ad M_counts), (k_M_literals cA ad M_literals), (k_M_values cA ad M_values_108), (k_M_out cA ad M_out)] H locs := hw
      refine lv_aload_n hx hb d_M_follows_111 rfl (lv_at hl 0 rfl) ?_
      refine va_get (D := D) (ci := 5) (v := .int M_conflict_108) (C := R_M) (T := T_M) (N := 18) hx hb hts (fun w h => List.mem_cons_of_mem _ (iw_M w h)) hown hK.1 hw.1 0 rfl rfl 10 (by decide) (hg gm_577) (fun _ h9 => h9) rfl d_M_follows_112 ?_
      exact hE M_conflict_108 (M_conflict_108, M_moved_108, M_values_108) _ _ _ _ h.2 (isB_nar h.1) hw d_M_follows_115
    · have h := h.2 hc
      refine lv_aload_n hx hb d_M_follows_86 rfl (lv_at hl 0 rfl) ?_
      refine lv_aload_n hx hb d_M_follows_87 rfl (lv_at hl 0 rfl) ?_
      refine va_get (D := D) (ci := 5) (v := .ref (ad 21)) (C := R_M) (T := T_M) (N := 18) hx hb hts (fun w h => List.mem_cons_of_mem _ (iw_M w h)) hown hK.1 hw.1 0 rfl rfl 7 (by decide) (hg gm_574) (fun _ h9 => h9) rfl d_M_follows_88 ?_
      refine lv_iload_n hx hb d_M_follows_91 rfl (lv_at hl 3 rfl) ?_
      refine lv_iload hx hb d_M_follows_92 (lv_at hl 4 rfl) ?_
      refine lv_iadd hx hb d_M_follows_94 ?_
      refine va_iald hx hb hK.1 hw.1 6 0 rfl rfl h.1 d_M_follows_95 ?_
      have h := h.2
      refine lv_iconst (v := 0) hx hb d_M_follows_96 (by decide) ?_
      refine m_callv (hr := va_runV (As := [.int (M_literals (x3 + x4).toNatClampNeg), .int 0]) (rest := []) ⟨hx, hb, hml, hown, hts⟩ (c_M_tell l D cA ad _ M_thrown M_gates M_lines M_conflict M_moved M_tapeSize M_place M_found M_values (M_literals (x3 + x4).toNatClampNeg) 0 _ h) (cwV 2 hts (ginV gm_682 gm_684 gs_49 gm_6 gm_685) rfl rfl rfl (by decide +kernel) ⟨Nat.le_of_ble_eq_true rfl, Nat.le_of_ble_eq_true rfl⟩) (m_preV 5 0 rfl rfl hK hw [0, 7] rfl rfl) rfl rfl hl.1 rfl (lv_room (Nat.le_of_ble_eq_true rfl)) d_M_follows_97 ⟨Nat.zero_le _, Nat.zero_le _⟩) (w2 := (fun (u : Int32 × Int32 × (Nat → Int32)) => [(k_M cA ad M_thrown M_gates M_lines u.1 u.2.1 M_tapeSize M_place M_found), (k_M_kinds cA ad M_kinds), (k_M_ones cA ad M_ones), (k_M_twos cA ad M_twos), (k_M_equals cA ad M_equals), (k_M_counts cA ad M_counts), (k_M_literals cA ad M_literals), (k_M_values cA ad u.2.2), (k_M_out cA ad M_out)])) (wr := [(k_M_kinds cA ad M_kinds), (k_M_ones cA ad M_ones), (k_M_twos cA ad M_twos), (k_M_equals cA ad M_equals), (k_M_counts cA ad M_counts), (k_M_literals cA ad M_literals), (k_M_out cA ad M_out)]) hw hA [0, 7] [1, 2, 3, 4, 5, 6, 8] [7, 0, 1, 2, 3, 4, 5, 8, 6] rfl rfl (by decide) (by decide) (by decide) (fun _ => rfl) (fun u H locs hw h => ?_)
      obtain ⟨M_conflict_97, M_moved_97, M_values_97⟩ := u
      have hw : mW D A s.heap [(k_M cA ad M_thrown M_gates M_lines M_conflict_97 M_moved_97 M_tapeSize M_place M_found), (k_M_kinds cA ad M_kinds), (k_M_ones cA ad M_ones), (k_M_twos cA ad M_twos), (k_M_equals cA ad M_equals), (k_M_counts cA ad M_counts), (k_M_literals cA ad M_literals), (k_M_values cA ad M_values_97), (k_M_out cA ad M_out)] H locs := hw
      refine lv_iinc (v := (x4 + 1)) (lv' := [(4, .int (x4 + 1)), (0, .ref (ad 15)), (1, .int p1), (2, .int p2), (3, .int x3)]) hx hb d_M_follows_100 hl (k := 4) rfl rfl (by decide) rfl (fun ls hl => ?_)
      refine lv_goto (tgt := 75) hx hb d_M_follows_103 (by decide) ?_
      exact (hC75 _ _ _ _ _).1 h _ _ _ hw (lv_sub hl [1, 2, 3, 4, 0] rfl)
  unfold wp_M_follows at h
  have h := h C75 hc75
  refine lv_bipush (v := 6) hx hb d_M_follows_0 (by decide) ?_
  refine lv_iload_n hx hb d_M_follows_2 rfl (lv_at hl 1 rfl) ?_
  refine lv_imul hx hb d_M_follows_3 ?_
  refine lv_istore_n (lv' := [(3, .int (6 * p1)), (0, .ref (ad 15)), (1, .int p1), (2, .int p2)]) hx hb d_M_follows_4 rfl hl (by decide) rfl (fun ls hl => ?_)
  refine lv_aload_n hx hb d_M_follows_5 rfl (lv_at hl 1 rfl) ?_
  refine va_get (D := D) (ci := 5) (v := .ref (ad 19)) (C := R_M) (T := T_M) (N := 18) hx hb hts (fun w h => List.mem_cons_of_mem _ (iw_M w h)) hown hK.1 hw.1 0 rfl rfl 5 (by decide) (hg gm_572) (fun _ h9 => h9) rfl d_M_follows_6 ?_
  refine lv_iload_n hx hb d_M_follows_9 rfl (lv_at hl 2 rfl) ?_
  refine va_zald hx hb hK.1 hw.1 4 1 rfl rfl h.1 d_M_follows_10 ?_
  have h := h.2
  refine lv_if_eq (tgt := 68) hx hb d_M_follows_11 (by decide) (fun hc => ?_) (fun hc => ?_)
  · have h := h.1 hc
    refine lv_aload_n hx hb d_M_follows_68 rfl (lv_at hl 1 rfl) ?_
    refine m_callv (hr := va_runV (As := []) (rest := []) ⟨hx, hb, hml, hown, hts⟩ (c_M_begin l D cA ad _ M_thrown M_gates M_lines M_conflict M_moved M_tapeSize M_place M_found M_values _ h) (cwV 0 hts (ginV gm_678 gm_680 gs_48 gm_6 gm_681) rfl rfl rfl (by decide +kernel) ⟨Nat.le_of_ble_eq_true rfl, Nat.le_of_ble_eq_true rfl⟩) (m_preV 5 0 rfl rfl hK hw [0, 7] rfl rfl) rfl rfl hl.1 rfl (lv_room (Nat.le_of_ble_eq_true rfl)) d_M_follows_69 ⟨Nat.zero_le _, Nat.zero_le _⟩) (w2 := (fun (u : Int32 × (Nat → Int32)) => [(k_M cA ad M_thrown M_gates M_lines u.1 M_moved M_tapeSize M_place M_found), (k_M_kinds cA ad M_kinds), (k_M_ones cA ad M_ones), (k_M_twos cA ad M_twos), (k_M_equals cA ad M_equals), (k_M_counts cA ad M_counts), (k_M_literals cA ad M_literals), (k_M_values cA ad u.2), (k_M_out cA ad M_out)])) (wr := [(k_M_kinds cA ad M_kinds), (k_M_ones cA ad M_ones), (k_M_twos cA ad M_twos), (k_M_equals cA ad M_equals), (k_M_counts cA ad M_counts), (k_M_literals cA ad M_literals), (k_M_out cA ad M_out)]) hw hA [0, 7] [1, 2, 3, 4, 5, 6, 8] [7, 0, 1, 2, 3, 4, 5, 8, 6] rfl rfl (by decide) (by decide) (by decide) (fun _ => rfl) (fun u H locs hw h => ?_)
    obtain ⟨M_conflict_69, M_values_69⟩ := u
    have hw : mW D A s.heap [(k_M cA ad M_thrown M_gates M_lines M_conflict_69 M_moved M_tapeSize M_place M_found), (k_M_kinds cA ad M_kinds), (k_M_ones cA ad M_ones), (k_M_twos cA ad M_twos), (k_M_equals cA ad M_equals), (k_M_counts cA ad M_counts), (k_M_literals cA ad M_literals), (k_M_values cA ad M_values_69), (k_M_out cA ad M_out)] H locs := hw
    refine lv_iconst (v := 0) hx hb d_M_follows_72 (by decide) ?_
    refine lv_istore (lv' := [(4, .int 0), (3, .int (6 * p1)), (0, .ref (ad 15)), (1, .int p1), (2, .int p2)]) hx hb d_M_follows_73 hl (by decide) rfl (fun ls hl => ?_)
    exact (hC75 _ _ _ _ _).1 h _ _ _ hw (lv_sub hl [2, 3, 4, 1, 0] rfl)
  · have h := h.2 hc
    refine lv_aload_n hx hb d_M_follows_14 rfl (lv_at hl 1 rfl) ?_
    refine lv_aload_n hx hb d_M_follows_15 rfl (lv_at hl 1 rfl) ?_
    refine va_get (D := D) (ci := 5) (v := .ref (ad 21)) (C := R_M) (T := T_M) (N := 18) hx hb hts (fun w h => List.mem_cons_of_mem _ (iw_M w h)) hown hK.1 hw.1 0 rfl rfl 7 (by decide) (hg gm_574) (fun _ h9 => h9) rfl d_M_follows_16 ?_
    refine lv_iload_n hx hb d_M_follows_19 rfl (lv_at hl 0 rfl) ?_
    refine va_iald hx hb hK.1 hw.1 6 0 rfl rfl h.1 d_M_follows_20 ?_
    have h := h.2
    refine lv_iconst (v := 1) hx hb d_M_follows_21 (by decide) ?_
    refine lv_aload_n hx hb d_M_follows_22 rfl (lv_at hl 1 rfl) ?_
    refine va_get (D := D) (ci := 5) (v := .ref (ad 21)) (C := R_M) (T := T_M) (N := 18) hx hb hts (fun w h => List.mem_cons_of_mem _ (iw_M w h)) hown hK.1 hw.1 0 rfl rfl 7 (by decide) (hg gm_574) (fun _ h9 => h9) rfl d_M_follows_23 ?_
    refine lv_iload_n hx hb d_M_follows_26 rfl (lv_at hl 0 rfl) ?_
    refine lv_iconst (v := 1) hx hb d_M_follows_27 (by decide) ?_
    refine lv_iadd hx hb d_M_follows_28 ?_
    refine va_iald hx hb hK.1 hw.1 6 0 rfl rfl h.1 d_M_follows_29 ?_
    have h := h.2
    refine lv_iconst (v := 0) hx hb d_M_follows_30 (by decide) ?_
    refine lv_iload_n hx hb d_M_follows_31 rfl (lv_at hl 3 rfl) ?_
    refine m_calli (hr := va_runV (As := [.int (M_literals (6 * p1).toNatClampNeg), .int 1, .int (M_literals ((6 * p1) + 1).toNatClampNeg), .int 0, .int p2]) (rest := []) ⟨hx, hb, hml, hown, hts⟩ (c_M_opposes l D cA ad _ M_thrown M_gates M_lines M_conflict M_moved M_tapeSize M_place M_found M_kinds M_ones M_twos M_equals M_counts M_literals M_values M_out (M_literals (6 * p1).toNatClampNeg) 1 (M_literals ((6 * p1) + 1).toNatClampNeg) 0 p2 _ h) (cwV 5 hts (ginV gm_674 gm_676 gs_47 gm_6 gm_677) rfl rfl rfl (by decide +kernel) ⟨Nat.le_of_ble_eq_true rfl, Nat.le_of_ble_eq_true rfl⟩) (m_preV 5 0 rfl rfl hK hw [0, 1, 2, 3, 4, 5, 6, 7, 8] rfl rfl) rfl rfl hl.1 rfl (lv_room (Nat.le_of_ble_eq_true rfl)) d_M_follows_32 ⟨Nat.zero_le _, Nat.zero_le _⟩) (w2 := (fun (u : Int32 × Int32 × (Nat → Int32)) => [(k_M cA ad M_thrown M_gates M_lines u.1 u.2.1 M_tapeSize M_place M_found), (k_M_kinds cA ad M_kinds), (k_M_ones cA ad M_ones), (k_M_twos cA ad M_twos), (k_M_equals cA ad M_equals), (k_M_counts cA ad M_counts), (k_M_literals cA ad M_literals), (k_M_values cA ad u.2.2), (k_M_out cA ad M_out)])) (wr := []) hw hA [0, 1, 2, 3, 4, 5, 6, 7, 8] [] [0, 1, 2, 3, 4, 5, 6, 7, 8] rfl rfl (by decide) (by decide) (by decide) (fun _ => rfl) (fun r32 u H locs hw h => ?_)
    obtain ⟨M_conflict_32, M_moved_32, M_values_32⟩ := u
    have hw : mW D A s.heap [(k_M cA ad M_thrown M_gates M_lines M_conflict_32 M_moved_32 M_tapeSize M_place M_found), (k_M_kinds cA ad M_kinds), (k_M_ones cA ad M_ones), (k_M_twos cA ad M_twos), (k_M_equals cA ad M_equals), (k_M_counts cA ad M_counts), (k_M_literals cA ad M_literals), (k_M_values cA ad M_values_32), (k_M_out cA ad M_out)] H locs := hw
    refine lv_if_eq (tgt := 66) hx hb d_M_follows_35 (by decide) (fun hc => ?_) (fun hc => ?_)
    · have h := h.1 hc
      refine lv_iconst (v := 0) hx hb d_M_follows_66 (by decide) ?_
      exact hE 0 (M_conflict_32, M_moved_32, M_values_32) _ _ _ _ h rfl hw d_M_follows_67
    · have h := h.2 hc
      refine lv_aload_n hx hb d_M_follows_38 rfl (lv_at hl 1 rfl) ?_
      refine lv_aload_n hx hb d_M_follows_39 rfl (lv_at hl 1 rfl) ?_
      refine va_get (D := D) (ci := 5) (v := .ref (ad 21)) (C := R_M) (T := T_M) (N := 18) hx hb hts (fun w h => List.mem_cons_of_mem _ (iw_M w h)) hown hK.1 hw.1 0 rfl rfl 7 (by decide) (hg gm_574) (fun _ h9 => h9) rfl d_M_follows_40 ?_
      refine lv_iload_n hx hb d_M_follows_43 rfl (lv_at hl 0 rfl) ?_
      refine va_iald hx hb hK.1 hw.1 6 0 rfl rfl h.1 d_M_follows_44 ?_
      have h := h.2
      refine lv_iconst (v := 0) hx hb d_M_follows_45 (by decide) ?_
      refine lv_aload_n hx hb d_M_follows_46 rfl (lv_at hl 1 rfl) ?_
      refine va_get (D := D) (ci := 5) (v := .ref (ad 21)) (C := R_M) (T := T_M) (N := 18) hx hb hts (fun w h => List.mem_cons_of_mem _ (iw_M w h)) hown hK.1 hw.1 0 rfl rfl 7 (by decide) (hg gm_574) (fun _ h9 => h9) rfl d_M_follows_47 ?_
      refine lv_iload_n hx hb d_M_follows_50 rfl (lv_at hl 0 rfl) ?_
      refine lv_iconst (v := 1) hx hb d_M_follows_51 (by decide) ?_
      refine lv_iadd hx hb d_M_follows_52 ?_
      refine va_iald hx hb hK.1 hw.1 6 0 rfl rfl h.1 d_M_follows_53 ?_
      have h := h.2
      refine lv_iconst (v := 1) hx hb d_M_follows_54 (by decide) ?_
      refine lv_iload_n hx hb d_M_follows_55 rfl (lv_at hl 3 rfl) ?_
      refine m_calli (hr := va_runV (As := [.int (M_literals (6 * p1).toNatClampNeg), .int 0, .int (M_literals ((6 * p1) + 1).toNatClampNeg), .int 1, .int p2]) (rest := []) ⟨hx, hb, hml, hown, hts⟩ (c_M_opposes l D cA ad _ M_thrown M_gates M_lines M_conflict_32 M_moved_32 M_tapeSize M_place M_found M_kinds M_ones M_twos M_equals M_counts M_literals M_values_32 M_out (M_literals (6 * p1).toNatClampNeg) 0 (M_literals ((6 * p1) + 1).toNatClampNeg) 1 p2 _ h) (cwV 5 hts (ginV gm_674 gm_676 gs_47 gm_6 gm_677) rfl rfl rfl (by decide +kernel) ⟨Nat.le_of_ble_eq_true rfl, Nat.le_of_ble_eq_true rfl⟩) (m_preV 5 0 rfl rfl hK hw [0, 1, 2, 3, 4, 5, 6, 7, 8] rfl rfl) rfl rfl hl.1 rfl (lv_room (Nat.le_of_ble_eq_true rfl)) d_M_follows_56 ⟨Nat.zero_le _, Nat.zero_le _⟩) (w2 := (fun (u : Int32 × Int32 × (Nat → Int32)) => [(k_M cA ad M_thrown M_gates M_lines u.1 u.2.1 M_tapeSize M_place M_found), (k_M_kinds cA ad M_kinds), (k_M_ones cA ad M_ones), (k_M_twos cA ad M_twos), (k_M_equals cA ad M_equals), (k_M_counts cA ad M_counts), (k_M_literals cA ad M_literals), (k_M_values cA ad u.2.2), (k_M_out cA ad M_out)])) (wr := []) hw hA [0, 1, 2, 3, 4, 5, 6, 7, 8] [] [0, 1, 2, 3, 4, 5, 6, 7, 8] rfl rfl (by decide) (by decide) (by decide) (fun _ => rfl) (fun r56 u H locs hw h => ?_)
      obtain ⟨M_conflict_56, M_moved_56, M_values_56⟩ := u
      have hw : mW D A s.heap [(k_M cA ad M_thrown M_gates M_lines M_conflict_56 M_moved_56 M_tapeSize M_place M_found), (k_M_kinds cA ad M_kinds), (k_M_ones cA ad M_ones), (k_M_twos cA ad M_twos), (k_M_equals cA ad M_equals), (k_M_counts cA ad M_counts), (k_M_literals cA ad M_literals), (k_M_values cA ad M_values_56), (k_M_out cA ad M_out)] H locs := hw
      refine lv_if_eq (tgt := 66) hx hb d_M_follows_59 (by decide) (fun hc => ?_) (fun hc => ?_)
      · have h := h.1 hc
        refine lv_iconst (v := 0) hx hb d_M_follows_66 (by decide) ?_
        exact hE 0 (M_conflict_56, M_moved_56, M_values_56) _ _ _ _ h rfl hw d_M_follows_67
      · have h := h.2 hc
        refine lv_iconst (v := 1) hx hb d_M_follows_62 (by decide) ?_
        refine lv_goto (tgt := 67) hx hb d_M_follows_63 (by decide) ?_
        exact hE 1 (M_conflict_56, M_moved_56, M_values_56) _ _ _ _ h rfl hw d_M_follows_67
def rm_M_bad : Room := { frames := 6, cells := 0, slots := 0, locals := 141 }
set_option maxHeartbeats 4000000 in
set_option maxRecDepth 100000 in
theorem c_M_bad (l : Launch) (D : va_G) (cA : Nat → ClassId) (ad : Nat → Nat) (sz : Nat) (M_thrown : Int32) (M_gates : Int32) (M_lines : Int32) (M_conflict : Int32) (M_moved : Int32) (M_tapeSize : Int32) (M_place : Int32) (M_found : Int32) (M_kinds : (Nat → Int32)) (M_ones : (Nat → Int32)) (M_twos : (Nat → Int32)) (M_equals : (Nat → Int32)) (M_counts : (Nat → Int32)) (M_literals : (Nat → Int32)) (M_values : (Nat → Int32)) (M_out : (Nat → Int32)) (p1 : Int32) (post : Int32 → Int32 → Int32 → (Nat → Int32) → Prop) (h : wp_M_bad M_gates M_lines M_conflict M_moved M_kinds M_ones M_twos M_equals M_counts M_literals M_values M_out p1 post) : Met l y_M_bad w_M_bad rm_M_bad (mPc D cA [.ref (ad 15), .int p1] [(k_M cA ad M_thrown M_gates M_lines M_conflict M_moved M_tapeSize M_place M_found), (k_M_kinds cA ad M_kinds), (k_M_ones cA ad M_ones), (k_M_twos cA ad M_twos), (k_M_equals cA ad M_equals), (k_M_counts cA ad M_counts), (k_M_literals cA ad M_literals), (k_M_values cA ad M_values), (k_M_out cA ad M_out)] sz) (va_Qi (fun (r : Int32) (u : Int32 × Int32 × (Nat → Int32)) => post r u.1 u.2.1 u.2.2) (mB D (va_A [(k_M cA ad M_thrown M_gates M_lines M_conflict M_moved M_tapeSize M_place M_found), (k_M_kinds cA ad M_kinds), (k_M_ones cA ad M_ones), (k_M_twos cA ad M_twos), (k_M_equals cA ad M_equals), (k_M_counts cA ad M_counts), (k_M_literals cA ad M_literals), (k_M_values cA ad M_values), (k_M_out cA ad M_out)] sz) (fun (u : Int32 × Int32 × (Nat → Int32)) => [(k_M cA ad M_thrown M_gates M_lines u.1 u.2.1 M_tapeSize M_place M_found), (k_M_kinds cA ad M_kinds), (k_M_ones cA ad M_ones), (k_M_twos cA ad M_twos), (k_M_equals cA ad M_equals), (k_M_counts cA ad M_counts), (k_M_literals cA ad M_literals), (k_M_values cA ad u.2.2), (k_M_out cA ad M_out)])) (va_A [(k_M cA ad M_thrown M_gates M_lines M_conflict M_moved M_tapeSize M_place M_found), (k_M_kinds cA ad M_kinds), (k_M_ones cA ad M_ones), (k_M_twos cA ad M_twos), (k_M_equals cA ad M_equals), (k_M_counts cA ad M_counts), (k_M_literals cA ad M_literals), (k_M_values cA ad M_values), (k_M_out cA ad M_out)] sz)) 0 0 (va_A [(k_M cA ad M_thrown M_gates M_lines M_conflict M_moved M_tapeSize M_place M_found), (k_M_kinds cA ad M_kinds), (k_M_ones cA ad M_ones), (k_M_twos cA ad M_twos), (k_M_equals cA ad M_equals), (k_M_counts cA ad M_counts), (k_M_literals cA ad M_literals), (k_M_values cA ad M_values), (k_M_out cA ad M_out)] sz) := by
  refine m_methI (by decide) rfl (Nat.le_of_ble_eq_true rfl) ?_
  intro p e s m below meth c A Q ls hx hb hml hown hts hK hA hw hl hE
  have hl : lv_has ls 3 [(0, .ref (ad 15)), (1, .int p1)] := hl
  have hown : s.vm.findClass R_M = some m.cls := hown
  have hg : ∀ {w : Cond}, w ∈ gw → w.before _ s = true := fun h => hts _ (List.mem_cons_of_mem _ h)
  obtain ⟨C2, hC2⟩ : ∃ C : Int32 → Int32 → Int32 → (Nat → Int32) → Prop, ∀ (x2 : Int32) (M_conflict : Int32) (M_moved : Int32) (M_values : (Nat → Int32)), C x2 M_conflict M_moved M_values ↔ (∀ (H : Heap) (locs : List Loc) (ls : Array Slot), mW D A s.heap [(k_M cA ad M_thrown M_gates M_lines M_conflict M_moved M_tapeSize M_place M_found), (k_M_kinds cA ad M_kinds), (k_M_ones cA ad M_ones), (k_M_twos cA ad M_twos), (k_M_equals cA ad M_equals), (k_M_counts cA ad M_counts), (k_M_literals cA ad M_literals), (k_M_values cA ad M_values), (k_M_out cA ad M_out)] H locs → lv_has ls 3 [(0, .ref (ad 15)), (1, .int p1), (2, .int x2)] → W p l e rm_M_bad s m [.ref (ad 15), .int p1].toArray below meth c H locs 0 0 Q (F0 m 2 ls [])) := ⟨_, fun _ _ _ _ => Iff.rfl⟩
  have j30 : ∀ (x2 : Int32) (M_conflict : Int32) (M_moved : Int32) (M_values : (Nat → Int32)) (H : Heap) (locs : List Loc) (ls : Array Slot), s_M_bad_30 M_gates M_lines M_kinds M_ones M_twos M_equals M_counts M_literals M_out p1 C2 post x2 M_conflict M_moved M_values → mW D A s.heap [(k_M cA ad M_thrown M_gates M_lines M_conflict M_moved M_tapeSize M_place M_found), (k_M_kinds cA ad M_kinds), (k_M_ones cA ad M_ones), (k_M_twos cA ad M_twos), (k_M_equals cA ad M_equals), (k_M_counts cA ad M_counts), (k_M_literals cA ad M_literals), (k_M_values cA ad M_values), (k_M_out cA ad M_out)] H locs → lv_has ls 3 [(0, .ref (ad 15)), (1, .int p1), (2, .int x2)] → W p l e rm_M_bad s m [.ref (ad 15), .int p1].toArray below meth c H locs 0 0 Q (F0 m 30 ls []) := by
    intro x2 M_conflict M_moved M_values H locs ls h hw hl
    unfold s_M_bad_30 at h
    refine lv_iinc (v := (x2 + 1)) (lv' := [(2, .int (x2 + 1)), (0, .ref (ad 15)), (1, .int p1)]) hx hb d_M_bad_30 hl (k := 2) rfl rfl (by decide) rfl (fun ls hl => ?_)
    refine lv_goto (tgt := 2) hx hb d_M_bad_33 (by decide) ?_
    exact (hC2 _ _ _ _).1 h _ _ _ hw (lv_sub hl [1, 2, 0] rfl)
  have hc2 : ∀ (x2 : Int32) (M_conflict : Int32) (M_moved : Int32) (M_values : (Nat → Int32)), s_M_bad_2 M_gates M_lines M_kinds M_ones M_twos M_equals M_counts M_literals M_out p1 C2 post x2 M_conflict M_moved M_values → C2 x2 M_conflict M_moved M_values := by
    intro x2 M_conflict M_moved M_values h
    unfold s_M_bad_2 at h
    refine (hC2 _ _ _ _).2 ?_
    intro H locs ls hw hl
    refine lv_iload_n hx hb d_M_bad_2 rfl (lv_at hl 2 rfl) ?_
    refine lv_aload_n hx hb d_M_bad_3 rfl (lv_at hl 0 rfl) ?_
    refine va_get (D := D) (ci := 5) (v := .int M_lines) (C := R_M) (T := T_M) (N := 18) hx hb hts (fun w h => List.mem_cons_of_mem _ (iw_M w h)) hown hK.1 hw.1 0 rfl rfl 8 (by decide) (hg gm_575) (fun _ h9 => h9) rfl d_M_bad_4 ?_
    refine lv_icmp_ge (tgt := 36) hx hb d_M_bad_7 (by decide) (fun hc => ?_) (fun hc => ?_)
    · have h := h.1 hc
      refine lv_aload_n hx hb d_M_bad_36 rfl (lv_at hl 0 rfl) ?_
      refine m_callv (hr := va_runV (As := []) (rest := []) ⟨hx, hb, hml, hown, hts⟩ (c_M_begin l D cA ad _ M_thrown M_gates M_lines M_conflict M_moved M_tapeSize M_place M_found M_values _ h) (cwV 0 hts (ginV gm_678 gm_680 gs_48 gm_6 gm_681) rfl rfl rfl (by decide +kernel) ⟨Nat.le_of_ble_eq_true rfl, Nat.le_of_ble_eq_true rfl⟩) (m_preV 5 0 rfl rfl hK hw [0, 7] rfl rfl) rfl rfl hl.1 rfl (lv_room (Nat.le_of_ble_eq_true rfl)) d_M_bad_37 ⟨Nat.zero_le _, Nat.zero_le _⟩) (w2 := (fun (u : Int32 × (Nat → Int32)) => [(k_M cA ad M_thrown M_gates M_lines u.1 M_moved M_tapeSize M_place M_found), (k_M_kinds cA ad M_kinds), (k_M_ones cA ad M_ones), (k_M_twos cA ad M_twos), (k_M_equals cA ad M_equals), (k_M_counts cA ad M_counts), (k_M_literals cA ad M_literals), (k_M_values cA ad u.2), (k_M_out cA ad M_out)])) (wr := [(k_M_kinds cA ad M_kinds), (k_M_ones cA ad M_ones), (k_M_twos cA ad M_twos), (k_M_equals cA ad M_equals), (k_M_counts cA ad M_counts), (k_M_literals cA ad M_literals), (k_M_out cA ad M_out)]) hw hA [0, 7] [1, 2, 3, 4, 5, 6, 8] [7, 0, 1, 2, 3, 4, 5, 8, 6] rfl rfl (by decide) (by decide) (by decide) (fun _ => rfl) (fun u H locs hw h => ?_)
      obtain ⟨M_conflict_37, M_values_37⟩ := u
      have hw : mW D A s.heap [(k_M cA ad M_thrown M_gates M_lines M_conflict_37 M_moved M_tapeSize M_place M_found), (k_M_kinds cA ad M_kinds), (k_M_ones cA ad M_ones), (k_M_twos cA ad M_twos), (k_M_equals cA ad M_equals), (k_M_counts cA ad M_counts), (k_M_literals cA ad M_literals), (k_M_values cA ad M_values_37), (k_M_out cA ad M_out)] H locs := hw
      refine lv_aload_n hx hb d_M_bad_40 rfl (lv_at hl 0 rfl) ?_
      refine lv_iload_n hx hb d_M_bad_41 rfl (lv_at hl 1 rfl) ?_
      refine lv_iconst (v := 0) hx hb d_M_bad_42 (by decide) ?_
      refine m_callv (hr := va_runV (As := [.int p1, .int 0]) (rest := []) ⟨hx, hb, hml, hown, hts⟩ (c_M_tell l D cA ad _ M_thrown M_gates M_lines M_conflict_37 M_moved M_tapeSize M_place M_found M_values_37 p1 0 _ h) (cwV 2 hts (ginV gm_682 gm_684 gs_49 gm_6 gm_685) rfl rfl rfl (by decide +kernel) ⟨Nat.le_of_ble_eq_true rfl, Nat.le_of_ble_eq_true rfl⟩) (m_preV 5 0 rfl rfl hK hw [0, 7] rfl rfl) rfl rfl hl.1 rfl (lv_room (Nat.le_of_ble_eq_true rfl)) d_M_bad_43 ⟨Nat.zero_le _, Nat.zero_le _⟩) (w2 := (fun (u : Int32 × Int32 × (Nat → Int32)) => [(k_M cA ad M_thrown M_gates M_lines u.1 u.2.1 M_tapeSize M_place M_found), (k_M_kinds cA ad M_kinds), (k_M_ones cA ad M_ones), (k_M_twos cA ad M_twos), (k_M_equals cA ad M_equals), (k_M_counts cA ad M_counts), (k_M_literals cA ad M_literals), (k_M_values cA ad u.2.2), (k_M_out cA ad M_out)])) (wr := [(k_M_kinds cA ad M_kinds), (k_M_ones cA ad M_ones), (k_M_twos cA ad M_twos), (k_M_equals cA ad M_equals), (k_M_counts cA ad M_counts), (k_M_literals cA ad M_literals), (k_M_out cA ad M_out)]) hw hA [0, 7] [1, 2, 3, 4, 5, 6, 8] [7, 0, 1, 2, 3, 4, 5, 8, 6] rfl rfl (by decide) (by decide) (by decide) (fun _ => rfl) (fun u H locs hw h => ?_)
      obtain ⟨M_conflict_43, M_moved_43, M_values_43⟩ := u
      have hw : mW D A s.heap [(k_M cA ad M_thrown M_gates M_lines M_conflict_43 M_moved_43 M_tapeSize M_place M_found), (k_M_kinds cA ad M_kinds), (k_M_ones cA ad M_ones), (k_M_twos cA ad M_twos), (k_M_equals cA ad M_equals), (k_M_counts cA ad M_counts), (k_M_literals cA ad M_literals), (k_M_values cA ad M_values_43), (k_M_out cA ad M_out)] H locs := hw
      refine lv_aload_n hx hb d_M_bad_46 rfl (lv_at hl 0 rfl) ?_
      refine lv_aload_n hx hb d_M_bad_47 rfl (lv_at hl 0 rfl) ?_
      refine va_get (D := D) (ci := 5) (v := .int M_lines) (C := R_M) (T := T_M) (N := 18) hx hb hts (fun w h => List.mem_cons_of_mem _ (iw_M w h)) hown hK.1 hw.1 0 rfl rfl 8 (by decide) (hg gm_575) (fun _ h9 => h9) rfl d_M_bad_48 ?_
      refine m_callv (hr := va_runV (As := [.int M_lines]) (rest := []) ⟨hx, hb, hml, hown, hts⟩ (c_M_steps l D cA ad _ M_thrown M_gates M_lines M_conflict_43 M_moved_43 M_tapeSize M_place M_found M_kinds M_ones M_twos M_equals M_counts M_literals M_values_43 M_out M_lines _ h) (cwV 1 hts (ginV gm_690 gm_692 gs_51 gm_6 gm_693) rfl rfl rfl (by decide +kernel) ⟨Nat.le_of_ble_eq_true rfl, Nat.le_of_ble_eq_true rfl⟩) (m_preV 5 0 rfl rfl hK hw [0, 1, 2, 3, 4, 5, 6, 7, 8] rfl rfl) rfl rfl hl.1 rfl (lv_room (Nat.le_of_ble_eq_true rfl)) d_M_bad_51 ⟨Nat.zero_le _, Nat.zero_le _⟩) (w2 := (fun (u : Int32 × Int32 × (Nat → Int32)) => [(k_M cA ad M_thrown M_gates M_lines u.1 u.2.1 M_tapeSize M_place M_found), (k_M_kinds cA ad M_kinds), (k_M_ones cA ad M_ones), (k_M_twos cA ad M_twos), (k_M_equals cA ad M_equals), (k_M_counts cA ad M_counts), (k_M_literals cA ad M_literals), (k_M_values cA ad u.2.2), (k_M_out cA ad M_out)])) (wr := []) hw hA [0, 1, 2, 3, 4, 5, 6, 7, 8] [] [0, 1, 2, 3, 4, 5, 6, 7, 8] rfl rfl (by decide) (by decide) (by decide) (fun _ => rfl) (fun u H locs hw h => ?_)
      obtain ⟨M_conflict_51, M_moved_51, M_values_51⟩ := u
      have hw : mW D A s.heap [(k_M cA ad M_thrown M_gates M_lines M_conflict_51 M_moved_51 M_tapeSize M_place M_found), (k_M_kinds cA ad M_kinds), (k_M_ones cA ad M_ones), (k_M_twos cA ad M_twos), (k_M_equals cA ad M_equals), (k_M_counts cA ad M_counts), (k_M_literals cA ad M_literals), (k_M_values cA ad M_values_51), (k_M_out cA ad M_out)] H locs := hw
      refine lv_aload_n hx hb d_M_bad_54 rfl (lv_at hl 0 rfl) ?_
      refine va_get (D := D) (ci := 5) (v := .int M_conflict_51) (C := R_M) (T := T_M) (N := 18) hx hb hts (fun w h => List.mem_cons_of_mem _ (iw_M w h)) hown hK.1 hw.1 0 rfl rfl 10 (by decide) (hg gm_577) (fun _ h9 => h9) rfl d_M_bad_55 ?_
      refine lv_if_eq (tgt := 65) hx hb d_M_bad_58 (by decide) (fun hc => ?_) (fun hc => ?_)
      · have h := h.1 hc
        refine lv_aload_n hx hb d_M_bad_65 rfl (lv_at hl 0 rfl) ?_
        refine va_get (D := D) (ci := 5) (v := .int M_lines) (C := R_M) (T := T_M) (N := 18) hx hb hts (fun w h => List.mem_cons_of_mem _ (iw_M w h)) hown hK.1 hw.1 0 rfl rfl 8 (by decide) (hg gm_575) (fun _ h9 => h9) rfl d_M_bad_66 ?_
        exact hE M_lines (M_conflict_51, M_moved_51, M_values_51) _ _ _ _ h hw d_M_bad_69
      · have h := h.2 hc
        refine lv_iconst (v := (-1)) hx hb d_M_bad_61 (by decide) ?_
        refine lv_goto (tgt := 69) hx hb d_M_bad_62 (by decide) ?_
        exact hE (-1) (M_conflict_51, M_moved_51, M_values_51) _ _ _ _ h hw d_M_bad_69
    · have h := h.2 hc
      refine lv_aload_n hx hb d_M_bad_10 rfl (lv_at hl 0 rfl) ?_
      refine va_get (D := D) (ci := 5) (v := .ref (ad 25)) (C := R_M) (T := T_M) (N := 18) hx hb hts (fun w h => List.mem_cons_of_mem _ (iw_M w h)) hown hK.1 hw.1 0 rfl rfl 16 (by decide) (hg gm_583) (fun _ h9 => h9) rfl d_M_bad_11 ?_
      refine lv_iload_n hx hb d_M_bad_14 rfl (lv_at hl 2 rfl) ?_
      refine va_zald hx hb hK.1 hw.1 8 1 rfl rfl h.1 d_M_bad_15 ?_
      have h := h.2
      refine lv_if_ne (tgt := 30) hx hb d_M_bad_16 (by decide) (fun hc => ?_) (fun hc => ?_)
      · have h := h.2 hc
        exact j30 _ _ _ _ _ _ _ h hw (lv_sub hl [0, 1, 2] rfl)
      · have h := h.1 hc
        refine lv_aload_n hx hb d_M_bad_19 rfl (lv_at hl 0 rfl) ?_
        refine lv_iload_n hx hb d_M_bad_20 rfl (lv_at hl 2 rfl) ?_
        refine lv_iload_n hx hb d_M_bad_21 rfl (lv_at hl 2 rfl) ?_
        refine m_calli (hr := va_runV (As := [.int x2, .int x2]) (rest := []) ⟨hx, hb, hml, hown, hts⟩ (c_M_follows l D cA ad _ M_thrown M_gates M_lines M_conflict M_moved M_tapeSize M_place M_found M_kinds M_ones M_twos M_equals M_counts M_literals M_values M_out x2 x2 _ h) (cwV 2 hts (ginV gm_670 gm_672 gs_46 gm_6 gm_673) rfl rfl rfl (by decide +kernel) ⟨Nat.le_of_ble_eq_true rfl, Nat.le_of_ble_eq_true rfl⟩) (m_preV 5 0 rfl rfl hK hw [0, 1, 2, 3, 4, 5, 6, 7, 8] rfl rfl) rfl rfl hl.1 rfl (lv_room (Nat.le_of_ble_eq_true rfl)) d_M_bad_22 ⟨Nat.zero_le _, Nat.zero_le _⟩) (w2 := (fun (u : Int32 × Int32 × (Nat → Int32)) => [(k_M cA ad M_thrown M_gates M_lines u.1 u.2.1 M_tapeSize M_place M_found), (k_M_kinds cA ad M_kinds), (k_M_ones cA ad M_ones), (k_M_twos cA ad M_twos), (k_M_equals cA ad M_equals), (k_M_counts cA ad M_counts), (k_M_literals cA ad M_literals), (k_M_values cA ad u.2.2), (k_M_out cA ad M_out)])) (wr := []) hw hA [0, 1, 2, 3, 4, 5, 6, 7, 8] [] [0, 1, 2, 3, 4, 5, 6, 7, 8] rfl rfl (by decide) (by decide) (by decide) (fun _ => rfl) (fun r22 u H locs hw h => ?_)
        obtain ⟨M_conflict_22, M_moved_22, M_values_22⟩ := u
        have hw : mW D A s.heap [(k_M cA ad M_thrown M_gates M_lines M_conflict_22 M_moved_22 M_tapeSize M_place M_found), (k_M_kinds cA ad M_kinds), (k_M_ones cA ad M_ones), (k_M_twos cA ad M_twos), (k_M_equals cA ad M_equals), (k_M_counts cA ad M_counts), (k_M_literals cA ad M_literals), (k_M_values cA ad M_values_22), (k_M_out cA ad M_out)] H locs := hw
        refine lv_if_ne (tgt := 30) hx hb d_M_bad_25 (by decide) (fun hc => ?_) (fun hc => ?_)
        · have h := h.2 hc
          exact j30 _ _ _ _ _ _ _ h hw (lv_sub hl [0, 1, 2] rfl)
        · have h := h.1 hc
          refine lv_iload_n hx hb d_M_bad_28 rfl (lv_at hl 2 rfl) ?_
          exact hE x2 (M_conflict_22, M_moved_22, M_values_22) _ _ _ _ h hw d_M_bad_29
  unfold wp_M_bad at h
  have h := h C2 hc2
  refine lv_iconst (v := 0) hx hb d_M_bad_0 (by decide) ?_
  refine lv_istore_n (lv' := [(2, .int 0), (0, .ref (ad 15)), (1, .int p1)]) hx hb d_M_bad_1 rfl hl (by decide) rfl (fun ls hl => ?_)
  exact (hC2 _ _ _ _).1 h _ _ _ hw (lv_sub hl [1, 2, 0] rfl)
def rm_M_allThere : Room := { frames := 0, cells := 0, slots := 0, locals := 0 }
set_option maxHeartbeats 4000000 in
set_option maxRecDepth 100000 in
theorem c_M_allThere (l : Launch) (D : va_G) (cA : Nat → ClassId) (ad : Nat → Nat) (sz : Nat) (M_thrown : Int32) (M_gates : Int32) (M_lines : Int32) (M_conflict : Int32) (M_moved : Int32) (M_tapeSize : Int32) (M_place : Int32) (M_found : Int32) (M_out : (Nat → Int32)) (post : (Nat → Int32) → Prop) (h : wp_M_allThere M_out post) : Met l y_M_allThere w_M_allThere rm_M_allThere (mPc D cA [.ref (ad 15)] [(k_M cA ad M_thrown M_gates M_lines M_conflict M_moved M_tapeSize M_place M_found), (k_M_out cA ad M_out)] sz) (va_Qv (fun (u : (Nat → Int32)) => post u) (mB D (va_A [(k_M cA ad M_thrown M_gates M_lines M_conflict M_moved M_tapeSize M_place M_found), (k_M_out cA ad M_out)] sz) (fun (u : (Nat → Int32)) => [(k_M cA ad M_thrown M_gates M_lines M_conflict M_moved M_tapeSize M_place M_found), (k_M_out cA ad u)])) (va_A [(k_M cA ad M_thrown M_gates M_lines M_conflict M_moved M_tapeSize M_place M_found), (k_M_out cA ad M_out)] sz)) 0 0 (va_A [(k_M cA ad M_thrown M_gates M_lines M_conflict M_moved M_tapeSize M_place M_found), (k_M_out cA ad M_out)] sz) := by
  refine m_methV (by decide) rfl (Nat.le_of_ble_eq_true rfl) ?_
  intro p e s m below meth c A Q ls hx hb hml hown hts hK hA hw hl hE
  have hl : lv_has ls 2 [(0, .ref (ad 15))] := hl
  have hown : s.vm.findClass R_M = some m.cls := hown
  have hg : ∀ {w : Cond}, w ∈ gw → w.before _ s = true := fun h => hts _ (List.mem_cons_of_mem _ h)
  obtain ⟨C2, hC2⟩ : ∃ C : Int32 → (Nat → Int32) → Prop, ∀ (x1 : Int32) (M_out : (Nat → Int32)), C x1 M_out ↔ (∀ (H : Heap) (locs : List Loc) (ls : Array Slot), mW D A s.heap [(k_M cA ad M_thrown M_gates M_lines M_conflict M_moved M_tapeSize M_place M_found), (k_M_out cA ad M_out)] H locs → lv_has ls 2 [(0, .ref (ad 15)), (1, .int x1)] → W p l e rm_M_allThere s m [.ref (ad 15)].toArray below meth c H locs 0 0 Q (F0 m 2 ls [])) := ⟨_, fun _ _ => Iff.rfl⟩
  have hc2 : ∀ (x1 : Int32) (M_out : (Nat → Int32)), s_M_allThere_2 C2 post x1 M_out → C2 x1 M_out := by
    intro x1 M_out h
    unfold s_M_allThere_2 at h
    refine (hC2 _ _).2 ?_
    intro H locs ls hw hl
    refine lv_iload_n hx hb d_M_allThere_2 rfl (lv_at hl 1 rfl) ?_
    refine lv_bipush (v := 24) hx hb d_M_allThere_3 (by decide) ?_
    refine lv_icmp_ge (tgt := 21) hx hb d_M_allThere_5 (by decide) (fun hc => ?_) (fun hc => ?_)
    · have h := h.1 hc
      exact hE (M_out) _ _ _ _ h hw d_M_allThere_21
    · have h := h.2 hc
      refine lv_aload_n hx hb d_M_allThere_8 rfl (lv_at hl 0 rfl) ?_
      refine va_get (D := D) (ci := 5) (v := .ref (ad 25)) (C := R_M) (T := T_M) (N := 18) hx hb hts (fun w h => List.mem_cons_of_mem _ (iw_M w h)) hown hK.1 hw.1 0 rfl rfl 16 (by decide) (hg gm_583) (fun _ h9 => h9) rfl d_M_allThere_9 ?_
      refine lv_iload_n hx hb d_M_allThere_12 rfl (lv_at hl 1 rfl) ?_
      refine lv_iconst (v := 0) hx hb d_M_allThere_13 (by decide) ?_
      refine m_zast (ws' := [(k_M cA ad M_thrown M_gates M_lines M_conflict M_moved M_tapeSize M_place M_found), (k_M_out cA ad (upd M_out x1.toNatClampNeg (vp_nar .boolean 0)))]) hx hb hK.1 hw 1 1 rfl rfl h.1 rfl d_M_allThere_14 (fun H locs hw => ?_)
      have h := h.2
      refine lv_iinc (v := (x1 + 1)) (lv' := [(1, .int (x1 + 1)), (0, .ref (ad 15))]) hx hb d_M_allThere_15 hl (k := 1) rfl rfl (by decide) rfl (fun ls hl => ?_)
      refine lv_goto (tgt := 2) hx hb d_M_allThere_18 (by decide) ?_
      exact (hC2 _ _).1 h _ _ _ hw (lv_sub hl [1, 0] rfl)
  unfold wp_M_allThere at h
  have h := h C2 hc2
  refine lv_iconst (v := 0) hx hb d_M_allThere_0 (by decide) ?_
  refine lv_istore_n (lv' := [(1, .int 0), (0, .ref (ad 15))]) hx hb d_M_allThere_1 rfl hl (by decide) rfl (fun ls hl => ?_)
  exact (hC2 _ _).1 h _ _ _ hw (lv_sub hl [1, 0] rfl)
def rm_M_check : Room := { frames := 7, cells := 0, slots := 0, locals := 163 }
set_option maxHeartbeats 4000000 in
set_option maxRecDepth 100000 in
theorem c_M_check (l : Launch) (D : va_G) (cA : Nat → ClassId) (ad : Nat → Nat) (sz : Nat) (M_thrown : Int32) (M_gates : Int32) (M_lines : Int32) (M_conflict : Int32) (M_moved : Int32) (M_tapeSize : Int32) (M_place : Int32) (M_found : Int32) (M_kinds : (Nat → Int32)) (M_ones : (Nat → Int32)) (M_twos : (Nat → Int32)) (M_equals : (Nat → Int32)) (M_counts : (Nat → Int32)) (M_literals : (Nat → Int32)) (M_values : (Nat → Int32)) (M_out : (Nat → Int32)) (p1 : Int32) (post : Int32 → Int32 → Int32 → Int32 → (Nat → Int32) → (Nat → Int32) → Prop) (h : wp_M_check M_thrown M_gates M_lines M_conflict M_moved M_kinds M_ones M_twos M_equals M_counts M_literals M_values M_out p1 post) : Met l y_M_check w_M_check rm_M_check (mPc D cA [.ref (ad 15), .int p1] [(k_M cA ad M_thrown M_gates M_lines M_conflict M_moved M_tapeSize M_place M_found), (k_M_kinds cA ad M_kinds), (k_M_ones cA ad M_ones), (k_M_twos cA ad M_twos), (k_M_equals cA ad M_equals), (k_M_counts cA ad M_counts), (k_M_literals cA ad M_literals), (k_M_values cA ad M_values), (k_M_out cA ad M_out)] sz) (va_Qi (fun (r : Int32) (u : Int32 × Int32 × Int32 × (Nat → Int32) × (Nat → Int32)) => post r u.1 u.2.1 u.2.2.1 u.2.2.2.1 u.2.2.2.2) (mB D (va_A [(k_M cA ad M_thrown M_gates M_lines M_conflict M_moved M_tapeSize M_place M_found), (k_M_kinds cA ad M_kinds), (k_M_ones cA ad M_ones), (k_M_twos cA ad M_twos), (k_M_equals cA ad M_equals), (k_M_counts cA ad M_counts), (k_M_literals cA ad M_literals), (k_M_values cA ad M_values), (k_M_out cA ad M_out)] sz) (fun (u : Int32 × Int32 × Int32 × (Nat → Int32) × (Nat → Int32)) => [(k_M cA ad u.1 M_gates M_lines u.2.1 u.2.2.1 M_tapeSize M_place M_found), (k_M_kinds cA ad M_kinds), (k_M_ones cA ad M_ones), (k_M_twos cA ad M_twos), (k_M_equals cA ad M_equals), (k_M_counts cA ad M_counts), (k_M_literals cA ad M_literals), (k_M_values cA ad u.2.2.2.1), (k_M_out cA ad u.2.2.2.2)])) (va_A [(k_M cA ad M_thrown M_gates M_lines M_conflict M_moved M_tapeSize M_place M_found), (k_M_kinds cA ad M_kinds), (k_M_ones cA ad M_ones), (k_M_twos cA ad M_twos), (k_M_equals cA ad M_equals), (k_M_counts cA ad M_counts), (k_M_literals cA ad M_literals), (k_M_values cA ad M_values), (k_M_out cA ad M_out)] sz)) 0 0 (va_A [(k_M cA ad M_thrown M_gates M_lines M_conflict M_moved M_tapeSize M_place M_found), (k_M_kinds cA ad M_kinds), (k_M_ones cA ad M_ones), (k_M_twos cA ad M_twos), (k_M_equals cA ad M_equals), (k_M_counts cA ad M_counts), (k_M_literals cA ad M_literals), (k_M_values cA ad M_values), (k_M_out cA ad M_out)] sz) := by
  refine m_methI (by decide) rfl (Nat.le_of_ble_eq_true rfl) ?_
  intro p e s m below meth c A Q ls hx hb hml hown hts hK hA hw hl hE
  have hl : lv_has ls 2 [(0, .ref (ad 15)), (1, .int p1)] := hl
  have hown : s.vm.findClass R_M = some m.cls := hown
  have hg : ∀ {w : Cond}, w ∈ gw → w.before _ s = true := fun h => hts _ (List.mem_cons_of_mem _ h)
  have j14 : ∀ (s0 : Int32) (M_thrown : Int32) (M_conflict : Int32) (M_moved : Int32) (M_values : (Nat → Int32)) (M_out : (Nat → Int32)) (H : Heap) (locs : List Loc) (ls : Array Slot), s_M_check_14 M_gates M_lines M_kinds M_ones M_twos M_equals M_counts M_literals p1 post s0 M_thrown M_conflict M_moved M_values M_out → mW D A s.heap [(k_M cA ad M_thrown M_gates M_lines M_conflict M_moved M_tapeSize M_place M_found), (k_M_kinds cA ad M_kinds), (k_M_ones cA ad M_ones), (k_M_twos cA ad M_twos), (k_M_equals cA ad M_equals), (k_M_counts cA ad M_counts), (k_M_literals cA ad M_literals), (k_M_values cA ad M_values), (k_M_out cA ad M_out)] H locs → lv_has ls 2 [(0, .ref (ad 15)), (1, .int p1)] → W p l e rm_M_check s m [.ref (ad 15), .int p1].toArray below meth c H locs 0 0 Q (F0 m 14 ls [.int s0, .ref (ad 15)]) := by
    intro s0 M_thrown M_conflict M_moved M_values M_out H locs ls h hw hl
    unfold s_M_check_14 at h
    refine m_put (ws' := [(k_M cA ad s0 M_gates M_lines M_conflict M_moved M_tapeSize M_place M_found), (k_M_kinds cA ad M_kinds), (k_M_ones cA ad M_ones), (k_M_twos cA ad M_twos), (k_M_equals cA ad M_equals), (k_M_counts cA ad M_counts), (k_M_literals cA ad M_literals), (k_M_values cA ad M_values), (k_M_out cA ad M_out)]) (ci := 5) (v := .int s0) (ty := .int) (C := R_M) (T := T_M) (N := 18) hx hb hts (fun w h => List.mem_cons_of_mem _ (iw_M w h)) ty_M tyok_M nm_M hown hK.1 hw 0 rfl rfl 0 (by decide) (hg gm_567) (fun _ h9 => h9) rfl (by decide +kernel) rfl rfl (Nat.le_of_ble_eq_true rfl) rfl d_M_check_14 (fun H locs hw => ?_)
    refine lv_aload_n hx hb d_M_check_17 rfl (lv_at hl 0 rfl) ?_
    refine va_get (D := D) (ci := 5) (v := .int s0) (C := R_M) (T := T_M) (N := 18) hx hb hts (fun w h => List.mem_cons_of_mem _ (iw_M w h)) hown hK.1 hw.1 0 rfl rfl 0 (by decide) (hg gm_567) (fun _ h9 => h9) rfl d_M_check_18 ?_
    refine lv_if_le (tgt := 26) hx hb d_M_check_21 (by decide) (fun hc => ?_) (fun hc => ?_)
    · have h := h.1 hc
      refine lv_aload_n hx hb d_M_check_26 rfl (lv_at hl 0 rfl) ?_
      refine m_callv (hr := va_runV (As := []) (rest := []) ⟨hx, hb, hml, hown, hts⟩ (c_M_allThere l D cA ad _ s0 M_gates M_lines M_conflict M_moved M_tapeSize M_place M_found M_out _ h) (cwV 0 hts (ginV gm_662 gm_664 gs_44 gm_6 gm_665) rfl rfl rfl (by decide +kernel) ⟨Nat.le_of_ble_eq_true rfl, Nat.le_of_ble_eq_true rfl⟩) (m_preV 5 0 rfl rfl hK hw [0, 8] rfl rfl) rfl rfl hl.1 rfl (lv_room (Nat.le_of_ble_eq_true rfl)) d_M_check_27 ⟨Nat.zero_le _, Nat.zero_le _⟩) (w2 := (fun (u : (Nat → Int32)) => [(k_M cA ad s0 M_gates M_lines M_conflict M_moved M_tapeSize M_place M_found), (k_M_kinds cA ad M_kinds), (k_M_ones cA ad M_ones), (k_M_twos cA ad M_twos), (k_M_equals cA ad M_equals), (k_M_counts cA ad M_counts), (k_M_literals cA ad M_literals), (k_M_values cA ad M_values), (k_M_out cA ad u)])) (wr := [(k_M_kinds cA ad M_kinds), (k_M_ones cA ad M_ones), (k_M_twos cA ad M_twos), (k_M_equals cA ad M_equals), (k_M_counts cA ad M_counts), (k_M_literals cA ad M_literals), (k_M_values cA ad M_values)]) hw hA [0, 8] [1, 2, 3, 4, 5, 6, 7] [7, 0, 1, 2, 3, 4, 5, 6, 8] rfl rfl (by decide) (by decide) (by decide) (fun _ => rfl) (fun u H locs hw h => ?_)
      obtain ⟨M_out_27, rfl⟩ : ∃ z, z = u := ⟨_, rfl⟩
      have hw : mW D A s.heap [(k_M cA ad s0 M_gates M_lines M_conflict M_moved M_tapeSize M_place M_found), (k_M_kinds cA ad M_kinds), (k_M_ones cA ad M_ones), (k_M_twos cA ad M_twos), (k_M_equals cA ad M_equals), (k_M_counts cA ad M_counts), (k_M_literals cA ad M_literals), (k_M_values cA ad M_values), (k_M_out cA ad M_out_27)] H locs := hw
      refine lv_iconst (v := 1) hx hb d_M_check_30 (by decide) ?_
      refine lv_aload_n hx hb d_M_check_31 rfl (lv_at hl 0 rfl) ?_
      refine lv_iload_n hx hb d_M_check_32 rfl (lv_at hl 1 rfl) ?_
      refine m_calli (hr := va_runV (As := [.int p1]) (rest := [.int 1]) ⟨hx, hb, hml, hown, hts⟩ (c_M_bad l D cA ad _ s0 M_gates M_lines M_conflict M_moved M_tapeSize M_place M_found M_kinds M_ones M_twos M_equals M_counts M_literals M_values M_out_27 p1 _ h) (cwV 1 hts (ginV gm_666 gm_668 gs_45 gm_6 gm_669) rfl rfl rfl (by decide +kernel) ⟨Nat.le_of_ble_eq_true rfl, Nat.le_of_ble_eq_true rfl⟩) (m_preV 5 0 rfl rfl hK hw [0, 1, 2, 3, 4, 5, 6, 7, 8] rfl rfl) rfl rfl hl.1 rfl (lv_room (Nat.le_of_ble_eq_true rfl)) d_M_check_33 ⟨Nat.zero_le _, Nat.zero_le _⟩) (w2 := (fun (u : Int32 × Int32 × (Nat → Int32)) => [(k_M cA ad s0 M_gates M_lines u.1 u.2.1 M_tapeSize M_place M_found), (k_M_kinds cA ad M_kinds), (k_M_ones cA ad M_ones), (k_M_twos cA ad M_twos), (k_M_equals cA ad M_equals), (k_M_counts cA ad M_counts), (k_M_literals cA ad M_literals), (k_M_values cA ad u.2.2), (k_M_out cA ad M_out_27)])) (wr := []) hw hA [0, 1, 2, 3, 4, 5, 6, 7, 8] [] [0, 1, 2, 3, 4, 5, 6, 7, 8] rfl rfl (by decide) (by decide) (by decide) (fun _ => rfl) (fun r33 u H locs hw h => ?_)
      obtain ⟨M_conflict_33, M_moved_33, M_values_33⟩ := u
      have hw : mW D A s.heap [(k_M cA ad s0 M_gates M_lines M_conflict_33 M_moved_33 M_tapeSize M_place M_found), (k_M_kinds cA ad M_kinds), (k_M_ones cA ad M_ones), (k_M_twos cA ad M_twos), (k_M_equals cA ad M_equals), (k_M_counts cA ad M_counts), (k_M_literals cA ad M_literals), (k_M_values cA ad M_values_33), (k_M_out cA ad M_out_27)] H locs := hw
      refine lv_iadd hx hb d_M_check_36 ?_
      exact hE (1 + r33) (s0, M_conflict_33, M_moved_33, M_values_33, M_out_27) _ _ _ _ h hw d_M_check_37
    · have h := h.2 hc
      refine lv_iconst (v := 0) hx hb d_M_check_24 (by decide) ?_
      exact hE 0 (s0, M_conflict, M_moved, M_values, M_out) _ _ _ _ h hw d_M_check_25
  unfold wp_M_check at h
  refine lv_aload_n hx hb d_M_check_0 rfl (lv_at hl 0 rfl) ?_
  refine lv_aload_n hx hb d_M_check_1 rfl (lv_at hl 0 rfl) ?_
  refine lv_iload_n hx hb d_M_check_2 rfl (lv_at hl 1 rfl) ?_
  refine m_calli (hr := va_runV (As := [.int p1]) (rest := [.ref (ad 15)]) ⟨hx, hb, hml, hown, hts⟩ (c_M_isLiteral l D cA ad _ M_thrown M_gates M_lines M_conflict M_moved M_tapeSize M_place M_found p1 _ h) (cwV 1 hts (ginV gm_630 gm_632 gs_40 gm_6 gm_633) rfl rfl rfl (by decide +kernel) ⟨Nat.le_of_ble_eq_true rfl, Nat.le_of_ble_eq_true rfl⟩) (m_preV 5 0 rfl rfl hK hw [0] rfl rfl) rfl rfl hl.1 rfl (lv_room (Nat.le_of_ble_eq_true rfl)) d_M_check_3 ⟨Nat.zero_le _, Nat.zero_le _⟩) (w2 := (fun (_ : Unit) => [(k_M cA ad M_thrown M_gates M_lines M_conflict M_moved M_tapeSize M_place M_found), (k_M_kinds cA ad M_kinds), (k_M_ones cA ad M_ones), (k_M_twos cA ad M_twos), (k_M_equals cA ad M_equals), (k_M_counts cA ad M_counts), (k_M_literals cA ad M_literals), (k_M_values cA ad M_values), (k_M_out cA ad M_out)])) (wr := [(k_M_kinds cA ad M_kinds), (k_M_ones cA ad M_ones), (k_M_twos cA ad M_twos), (k_M_equals cA ad M_equals), (k_M_counts cA ad M_counts), (k_M_literals cA ad M_literals), (k_M_values cA ad M_values), (k_M_out cA ad M_out)]) hw hA [0] [1, 2, 3, 4, 5, 6, 7, 8] [8, 0, 1, 2, 3, 4, 5, 6, 7] rfl rfl (by decide) (by decide) (by decide) (fun _ => rfl) (fun r3 u H locs hw h => ?_)
  refine lv_if_eq (tgt := 13) hx hb d_M_check_6 (by decide) (fun hc => ?_) (fun hc => ?_)
  · have h := h.1 hc
    refine lv_iconst (v := 1) hx hb d_M_check_13 (by decide) ?_
    exact j14 _ _ _ _ _ _ _ _ _ h hw (lv_sub hl [0, 1] rfl)
  · have h := h.2 hc
    refine lv_iconst (v := 0) hx hb d_M_check_9 (by decide) ?_
    refine lv_goto (tgt := 14) hx hb d_M_check_10 (by decide) ?_
    exact j14 _ _ _ _ _ _ _ _ _ h hw (lv_sub hl [0, 1] rfl)
def rm_M_good : Room := { frames := 6, cells := 0, slots := 0, locals := 141 }
set_option maxHeartbeats 4000000 in
set_option maxRecDepth 100000 in
theorem c_M_good (l : Launch) (D : va_G) (cA : Nat → ClassId) (ad : Nat → Nat) (sz : Nat) (M_thrown : Int32) (M_gates : Int32) (M_lines : Int32) (M_conflict : Int32) (M_moved : Int32) (M_tapeSize : Int32) (M_place : Int32) (M_found : Int32) (M_kinds : (Nat → Int32)) (M_ones : (Nat → Int32)) (M_twos : (Nat → Int32)) (M_equals : (Nat → Int32)) (M_counts : (Nat → Int32)) (M_literals : (Nat → Int32)) (M_values : (Nat → Int32)) (M_out : (Nat → Int32)) (p1 : Int32) (post : Int32 → Int32 → Int32 → Int32 → (Nat → Int32) → (Nat → Int32) → Prop) (h : wp_M_good M_thrown M_gates M_lines M_conflict M_moved M_kinds M_ones M_twos M_equals M_counts M_literals M_values M_out p1 post) : Met l y_M_good w_M_good rm_M_good (mPc D cA [.ref (ad 15), .int p1] [(k_M cA ad M_thrown M_gates M_lines M_conflict M_moved M_tapeSize M_place M_found), (k_M_kinds cA ad M_kinds), (k_M_ones cA ad M_ones), (k_M_twos cA ad M_twos), (k_M_equals cA ad M_equals), (k_M_counts cA ad M_counts), (k_M_literals cA ad M_literals), (k_M_values cA ad M_values), (k_M_out cA ad M_out)] sz) (va_Qi (fun (r : Int32) (u : Int32 × Int32 × Int32 × (Nat → Int32) × (Nat → Int32)) => post r u.1 u.2.1 u.2.2.1 u.2.2.2.1 u.2.2.2.2) (mB D (va_A [(k_M cA ad M_thrown M_gates M_lines M_conflict M_moved M_tapeSize M_place M_found), (k_M_kinds cA ad M_kinds), (k_M_ones cA ad M_ones), (k_M_twos cA ad M_twos), (k_M_equals cA ad M_equals), (k_M_counts cA ad M_counts), (k_M_literals cA ad M_literals), (k_M_values cA ad M_values), (k_M_out cA ad M_out)] sz) (fun (u : Int32 × Int32 × Int32 × (Nat → Int32) × (Nat → Int32)) => [(k_M cA ad u.1 M_gates M_lines u.2.1 u.2.2.1 M_tapeSize M_place M_found), (k_M_kinds cA ad M_kinds), (k_M_ones cA ad M_ones), (k_M_twos cA ad M_twos), (k_M_equals cA ad M_equals), (k_M_counts cA ad M_counts), (k_M_literals cA ad M_literals), (k_M_values cA ad u.2.2.2.1), (k_M_out cA ad u.2.2.2.2)])) (va_A [(k_M cA ad M_thrown M_gates M_lines M_conflict M_moved M_tapeSize M_place M_found), (k_M_kinds cA ad M_kinds), (k_M_ones cA ad M_ones), (k_M_twos cA ad M_twos), (k_M_equals cA ad M_equals), (k_M_counts cA ad M_counts), (k_M_literals cA ad M_literals), (k_M_values cA ad M_values), (k_M_out cA ad M_out)] sz)) 0 0 (va_A [(k_M cA ad M_thrown M_gates M_lines M_conflict M_moved M_tapeSize M_place M_found), (k_M_kinds cA ad M_kinds), (k_M_ones cA ad M_ones), (k_M_twos cA ad M_twos), (k_M_equals cA ad M_equals), (k_M_counts cA ad M_counts), (k_M_literals cA ad M_literals), (k_M_values cA ad M_values), (k_M_out cA ad M_out)] sz) := by
  refine m_methZ (by decide) rfl (Nat.le_of_ble_eq_true rfl) ?_
  intro p e s m below meth c A Q ls hx hb hml hown hts hK hA hw hl hE
  have hl : lv_has ls 2 [(0, .ref (ad 15)), (1, .int p1)] := hl
  have hown : s.vm.findClass R_M = some m.cls := hown
  have hg : ∀ {w : Cond}, w ∈ gw → w.before _ s = true := fun h => hts _ (List.mem_cons_of_mem _ h)
  have j14 : ∀ (s0 : Int32) (M_thrown : Int32) (M_conflict : Int32) (M_moved : Int32) (M_values : (Nat → Int32)) (M_out : (Nat → Int32)) (H : Heap) (locs : List Loc) (ls : Array Slot), s_M_good_14 M_gates M_lines M_kinds M_ones M_twos M_equals M_counts M_literals p1 post s0 M_thrown M_conflict M_moved M_values M_out → mW D A s.heap [(k_M cA ad M_thrown M_gates M_lines M_conflict M_moved M_tapeSize M_place M_found), (k_M_kinds cA ad M_kinds), (k_M_ones cA ad M_ones), (k_M_twos cA ad M_twos), (k_M_equals cA ad M_equals), (k_M_counts cA ad M_counts), (k_M_literals cA ad M_literals), (k_M_values cA ad M_values), (k_M_out cA ad M_out)] H locs → lv_has ls 2 [(0, .ref (ad 15)), (1, .int p1)] → W p l e rm_M_good s m [.ref (ad 15), .int p1].toArray below meth c H locs 0 0 Q (F0 m 14 ls [.int s0, .ref (ad 15)]) := by
    intro s0 M_thrown M_conflict M_moved M_values M_out H locs ls h hw hl
    unfold s_M_good_14 at h
    refine m_put (ws' := [(k_M cA ad s0 M_gates M_lines M_conflict M_moved M_tapeSize M_place M_found), (k_M_kinds cA ad M_kinds), (k_M_ones cA ad M_ones), (k_M_twos cA ad M_twos), (k_M_equals cA ad M_equals), (k_M_counts cA ad M_counts), (k_M_literals cA ad M_literals), (k_M_values cA ad M_values), (k_M_out cA ad M_out)]) (ci := 5) (v := .int s0) (ty := .int) (C := R_M) (T := T_M) (N := 18) hx hb hts (fun w h => List.mem_cons_of_mem _ (iw_M w h)) ty_M tyok_M nm_M hown hK.1 hw 0 rfl rfl 0 (by decide) (hg gm_567) (fun _ h9 => h9) rfl (by decide +kernel) rfl rfl (Nat.le_of_ble_eq_true rfl) rfl d_M_good_14 (fun H locs hw => ?_)
    refine lv_aload_n hx hb d_M_good_17 rfl (lv_at hl 0 rfl) ?_
    refine va_get (D := D) (ci := 5) (v := .int s0) (C := R_M) (T := T_M) (N := 18) hx hb hts (fun w h => List.mem_cons_of_mem _ (iw_M w h)) hown hK.1 hw.1 0 rfl rfl 0 (by decide) (hg gm_567) (fun _ h9 => h9) rfl d_M_good_18 ?_
    refine lv_if_le (tgt := 26) hx hb d_M_good_21 (by decide) (fun hc => ?_) (fun hc => ?_)
    · have h := h.1 hc
      refine lv_aload_n hx hb d_M_good_26 rfl (lv_at hl 0 rfl) ?_
      refine m_callv (hr := va_runV (As := []) (rest := []) ⟨hx, hb, hml, hown, hts⟩ (c_M_allThere l D cA ad _ s0 M_gates M_lines M_conflict M_moved M_tapeSize M_place M_found M_out _ h) (cwV 0 hts (ginV gm_662 gm_664 gs_44 gm_6 gm_665) rfl rfl rfl (by decide +kernel) ⟨Nat.le_of_ble_eq_true rfl, Nat.le_of_ble_eq_true rfl⟩) (m_preV 5 0 rfl rfl hK hw [0, 8] rfl rfl) rfl rfl hl.1 rfl (lv_room (Nat.le_of_ble_eq_true rfl)) d_M_good_27 ⟨Nat.zero_le _, Nat.zero_le _⟩) (w2 := (fun (u : (Nat → Int32)) => [(k_M cA ad s0 M_gates M_lines M_conflict M_moved M_tapeSize M_place M_found), (k_M_kinds cA ad M_kinds), (k_M_ones cA ad M_ones), (k_M_twos cA ad M_twos), (k_M_equals cA ad M_equals), (k_M_counts cA ad M_counts), (k_M_literals cA ad M_literals), (k_M_values cA ad M_values), (k_M_out cA ad u)])) (wr := [(k_M_kinds cA ad M_kinds), (k_M_ones cA ad M_ones), (k_M_twos cA ad M_twos), (k_M_equals cA ad M_equals), (k_M_counts cA ad M_counts), (k_M_literals cA ad M_literals), (k_M_values cA ad M_values)]) hw hA [0, 8] [1, 2, 3, 4, 5, 6, 7] [7, 0, 1, 2, 3, 4, 5, 6, 8] rfl rfl (by decide) (by decide) (by decide) (fun _ => rfl) (fun u H locs hw h => ?_)
      obtain ⟨M_out_27, rfl⟩ : ∃ z, z = u := ⟨_, rfl⟩
      have hw : mW D A s.heap [(k_M cA ad s0 M_gates M_lines M_conflict M_moved M_tapeSize M_place M_found), (k_M_kinds cA ad M_kinds), (k_M_ones cA ad M_ones), (k_M_twos cA ad M_twos), (k_M_equals cA ad M_equals), (k_M_counts cA ad M_counts), (k_M_literals cA ad M_literals), (k_M_values cA ad M_values), (k_M_out cA ad M_out_27)] H locs := hw
      refine lv_aload_n hx hb d_M_good_30 rfl (lv_at hl 0 rfl) ?_
      refine lv_iload_n hx hb d_M_good_31 rfl (lv_at hl 1 rfl) ?_
      refine lv_iload_n hx hb d_M_good_32 rfl (lv_at hl 1 rfl) ?_
      refine m_calli (hr := va_runV (As := [.int p1, .int p1]) (rest := []) ⟨hx, hb, hml, hown, hts⟩ (c_M_follows l D cA ad _ s0 M_gates M_lines M_conflict M_moved M_tapeSize M_place M_found M_kinds M_ones M_twos M_equals M_counts M_literals M_values M_out_27 p1 p1 _ h) (cwV 2 hts (ginV gm_670 gm_672 gs_46 gm_6 gm_673) rfl rfl rfl (by decide +kernel) ⟨Nat.le_of_ble_eq_true rfl, Nat.le_of_ble_eq_true rfl⟩) (m_preV 5 0 rfl rfl hK hw [0, 1, 2, 3, 4, 5, 6, 7, 8] rfl rfl) rfl rfl hl.1 rfl (lv_room (Nat.le_of_ble_eq_true rfl)) d_M_good_33 ⟨Nat.zero_le _, Nat.zero_le _⟩) (w2 := (fun (u : Int32 × Int32 × (Nat → Int32)) => [(k_M cA ad s0 M_gates M_lines u.1 u.2.1 M_tapeSize M_place M_found), (k_M_kinds cA ad M_kinds), (k_M_ones cA ad M_ones), (k_M_twos cA ad M_twos), (k_M_equals cA ad M_equals), (k_M_counts cA ad M_counts), (k_M_literals cA ad M_literals), (k_M_values cA ad u.2.2), (k_M_out cA ad M_out_27)])) (wr := []) hw hA [0, 1, 2, 3, 4, 5, 6, 7, 8] [] [0, 1, 2, 3, 4, 5, 6, 7, 8] rfl rfl (by decide) (by decide) (by decide) (fun _ => rfl) (fun r33 u H locs hw h => ?_)
      obtain ⟨M_conflict_33, M_moved_33, M_values_33⟩ := u
      have hw : mW D A s.heap [(k_M cA ad s0 M_gates M_lines M_conflict_33 M_moved_33 M_tapeSize M_place M_found), (k_M_kinds cA ad M_kinds), (k_M_ones cA ad M_ones), (k_M_twos cA ad M_twos), (k_M_equals cA ad M_equals), (k_M_counts cA ad M_counts), (k_M_literals cA ad M_literals), (k_M_values cA ad M_values_33), (k_M_out cA ad M_out_27)] H locs := hw
      exact hE r33 (s0, M_conflict_33, M_moved_33, M_values_33, M_out_27) _ _ _ _ h.2 (isB_nar h.1) hw d_M_good_36
    · have h := h.2 hc
      refine lv_iconst (v := 0) hx hb d_M_good_24 (by decide) ?_
      exact hE 0 (s0, M_conflict, M_moved, M_values, M_out) _ _ _ _ h rfl hw d_M_good_25
  unfold wp_M_good at h
  refine lv_aload_n hx hb d_M_good_0 rfl (lv_at hl 0 rfl) ?_
  refine lv_aload_n hx hb d_M_good_1 rfl (lv_at hl 0 rfl) ?_
  refine lv_iload_n hx hb d_M_good_2 rfl (lv_at hl 1 rfl) ?_
  refine m_calli (hr := va_runV (As := [.int p1]) (rest := [.ref (ad 15)]) ⟨hx, hb, hml, hown, hts⟩ (c_M_isLine l D cA ad _ M_thrown M_gates M_lines M_conflict M_moved M_tapeSize M_place M_found p1 _ h) (cwV 1 hts (ginV gm_642 gm_644 gs_41 gm_6 gm_645) rfl rfl rfl (by decide +kernel) ⟨Nat.le_of_ble_eq_true rfl, Nat.le_of_ble_eq_true rfl⟩) (m_preV 5 0 rfl rfl hK hw [0] rfl rfl) rfl rfl hl.1 rfl (lv_room (Nat.le_of_ble_eq_true rfl)) d_M_good_3 ⟨Nat.zero_le _, Nat.zero_le _⟩) (w2 := (fun (_ : Unit) => [(k_M cA ad M_thrown M_gates M_lines M_conflict M_moved M_tapeSize M_place M_found), (k_M_kinds cA ad M_kinds), (k_M_ones cA ad M_ones), (k_M_twos cA ad M_twos), (k_M_equals cA ad M_equals), (k_M_counts cA ad M_counts), (k_M_literals cA ad M_literals), (k_M_values cA ad M_values), (k_M_out cA ad M_out)])) (wr := [(k_M_kinds cA ad M_kinds), (k_M_ones cA ad M_ones), (k_M_twos cA ad M_twos), (k_M_equals cA ad M_equals), (k_M_counts cA ad M_counts), (k_M_literals cA ad M_literals), (k_M_values cA ad M_values), (k_M_out cA ad M_out)]) hw hA [0] [1, 2, 3, 4, 5, 6, 7, 8] [8, 0, 1, 2, 3, 4, 5, 6, 7] rfl rfl (by decide) (by decide) (by decide) (fun _ => rfl) (fun r3 u H locs hw h => ?_)
  refine lv_if_eq (tgt := 13) hx hb d_M_good_6 (by decide) (fun hc => ?_) (fun hc => ?_)
  · have h := h.1 hc
    refine lv_iconst (v := 1) hx hb d_M_good_13 (by decide) ?_
    exact j14 _ _ _ _ _ _ _ _ _ h hw (lv_sub hl [0, 1] rfl)
  · have h := h.2 hc
    refine lv_iconst (v := 0) hx hb d_M_good_9 (by decide) ?_
    refine lv_goto (tgt := 14) hx hb d_M_good_10 (by decide) ?_
    exact j14 _ _ _ _ _ _ _ _ _ h hw (lv_sub hl [0, 1] rfl)
def rm_M_implied : Room := { frames := 4, cells := 0, slots := 0, locals := 92 }
set_option maxHeartbeats 4000000 in
set_option maxRecDepth 100000 in
theorem c_M_implied (l : Launch) (D : va_G) (cA : Nat → ClassId) (ad : Nat → Nat) (sz : Nat) (M_thrown : Int32) (M_gates : Int32) (M_lines : Int32) (M_conflict : Int32) (M_moved : Int32) (M_tapeSize : Int32) (M_place : Int32) (M_found : Int32) (M_kinds : (Nat → Int32)) (M_ones : (Nat → Int32)) (M_twos : (Nat → Int32)) (M_equals : (Nat → Int32)) (M_counts : (Nat → Int32)) (M_literals : (Nat → Int32)) (M_values : (Nat → Int32)) (M_out : (Nat → Int32)) (p1 : Int32) (p2 : Int32) (p3 : Int32) (p4 : Int32) (post : Int32 → Int32 → Int32 → Int32 → (Nat → Int32) → (Nat → Int32) → Prop) (h : wp_M_implied M_thrown M_gates M_lines M_conflict M_moved M_kinds M_ones M_twos M_equals M_counts M_literals M_values M_out p1 p2 p3 p4 post) : Met l y_M_implied w_M_implied rm_M_implied (mPc D cA [.ref (ad 15), .int p1, .int p2, .int p3, .int p4] [(k_M cA ad M_thrown M_gates M_lines M_conflict M_moved M_tapeSize M_place M_found), (k_M_kinds cA ad M_kinds), (k_M_ones cA ad M_ones), (k_M_twos cA ad M_twos), (k_M_equals cA ad M_equals), (k_M_counts cA ad M_counts), (k_M_literals cA ad M_literals), (k_M_values cA ad M_values), (k_M_out cA ad M_out)] sz) (va_Qi (fun (r : Int32) (u : Int32 × Int32 × Int32 × (Nat → Int32) × (Nat → Int32)) => post r u.1 u.2.1 u.2.2.1 u.2.2.2.1 u.2.2.2.2) (mB D (va_A [(k_M cA ad M_thrown M_gates M_lines M_conflict M_moved M_tapeSize M_place M_found), (k_M_kinds cA ad M_kinds), (k_M_ones cA ad M_ones), (k_M_twos cA ad M_twos), (k_M_equals cA ad M_equals), (k_M_counts cA ad M_counts), (k_M_literals cA ad M_literals), (k_M_values cA ad M_values), (k_M_out cA ad M_out)] sz) (fun (u : Int32 × Int32 × Int32 × (Nat → Int32) × (Nat → Int32)) => [(k_M cA ad u.1 M_gates M_lines u.2.1 u.2.2.1 M_tapeSize M_place M_found), (k_M_kinds cA ad M_kinds), (k_M_ones cA ad M_ones), (k_M_twos cA ad M_twos), (k_M_equals cA ad M_equals), (k_M_counts cA ad M_counts), (k_M_literals cA ad M_literals), (k_M_values cA ad u.2.2.2.1), (k_M_out cA ad u.2.2.2.2)])) (va_A [(k_M cA ad M_thrown M_gates M_lines M_conflict M_moved M_tapeSize M_place M_found), (k_M_kinds cA ad M_kinds), (k_M_ones cA ad M_ones), (k_M_twos cA ad M_twos), (k_M_equals cA ad M_equals), (k_M_counts cA ad M_counts), (k_M_literals cA ad M_literals), (k_M_values cA ad M_values), (k_M_out cA ad M_out)] sz)) 0 0 (va_A [(k_M cA ad M_thrown M_gates M_lines M_conflict M_moved M_tapeSize M_place M_found), (k_M_kinds cA ad M_kinds), (k_M_ones cA ad M_ones), (k_M_twos cA ad M_twos), (k_M_equals cA ad M_equals), (k_M_counts cA ad M_counts), (k_M_literals cA ad M_literals), (k_M_values cA ad M_values), (k_M_out cA ad M_out)] sz) := by
  refine m_methI (by decide) rfl (Nat.le_of_ble_eq_true rfl) ?_
  intro p e s m below meth c A Q ls hx hb hml hown hts hK hA hw hl hE
  have hl : lv_has ls 8 [(0, .ref (ad 15)), (1, .int p1), (2, .int p2), (3, .int p3), (4, .int p4)] := hl
  have hown : s.vm.findClass R_M = some m.cls := hown
  have hg : ∀ {w : Cond}, w ∈ gw → w.before _ s = true := fun h => hts _ (List.mem_cons_of_mem _ h)
  obtain ⟨C94, hC94⟩ : ∃ C : Int32 → Int32 → Int32 → Int32 → (Nat → Int32) → (Nat → Int32) → Prop, ∀ (x6 : Int32) (M_thrown : Int32) (M_conflict : Int32) (M_moved : Int32) (M_values : (Nat → Int32)) (M_out : (Nat → Int32)), C x6 M_thrown M_conflict M_moved M_values M_out ↔ (∀ (H : Heap) (locs : List Loc) (ls : Array Slot), mW D A s.heap [(k_M cA ad M_thrown M_gates M_lines M_conflict M_moved M_tapeSize M_place M_found), (k_M_kinds cA ad M_kinds), (k_M_ones cA ad M_ones), (k_M_twos cA ad M_twos), (k_M_equals cA ad M_equals), (k_M_counts cA ad M_counts), (k_M_literals cA ad M_literals), (k_M_values cA ad M_values), (k_M_out cA ad M_out)] H locs → lv_has ls 8 [(0, .ref (ad 15)), (1, .int p1), (2, .int p2), (3, .int p3), (4, .int p4), (6, .int x6)] → W p l e rm_M_implied s m [.ref (ad 15), .int p1, .int p2, .int p3, .int p4].toArray below meth c H locs 0 0 Q (F0 m 94 ls [])) := ⟨_, fun _ _ _ _ _ _ => Iff.rfl⟩
  have j135 : ∀ (x6 : Int32) (M_thrown : Int32) (M_conflict : Int32) (M_moved : Int32) (M_values : (Nat → Int32)) (M_out : (Nat → Int32)) (H : Heap) (locs : List Loc) (ls : Array Slot), s_M_implied_135 M_gates M_lines M_kinds M_ones M_twos M_equals M_counts M_literals p1 p2 p3 p4 C94 post x6 M_thrown M_conflict M_moved M_values M_out → mW D A s.heap [(k_M cA ad M_thrown M_gates M_lines M_conflict M_moved M_tapeSize M_place M_found), (k_M_kinds cA ad M_kinds), (k_M_ones cA ad M_ones), (k_M_twos cA ad M_twos), (k_M_equals cA ad M_equals), (k_M_counts cA ad M_counts), (k_M_literals cA ad M_literals), (k_M_values cA ad M_values), (k_M_out cA ad M_out)] H locs → lv_has ls 8 [(0, .ref (ad 15)), (1, .int p1), (2, .int p2), (3, .int p3), (4, .int p4), (6, .int x6)] → W p l e rm_M_implied s m [.ref (ad 15), .int p1, .int p2, .int p3, .int p4].toArray below meth c H locs 0 0 Q (F0 m 135 ls []) := by
    intro x6 M_thrown M_conflict M_moved M_values M_out H locs ls h hw hl
    unfold s_M_implied_135 at h
    refine lv_iinc (v := (x6 + 1)) (lv' := [(6, .int (x6 + 1)), (0, .ref (ad 15)), (1, .int p1), (2, .int p2), (3, .int p3), (4, .int p4)]) hx hb d_M_implied_135 hl (k := 5) rfl rfl (by decide) rfl (fun ls hl => ?_)
    refine lv_goto (tgt := 94) hx hb d_M_implied_138 (by decide) ?_
    exact (hC94 _ _ _ _ _ _).1 h _ _ _ hw (lv_sub hl [1, 2, 3, 4, 5, 0] rfl)
  have j120 : ∀ (s0 : Int32) (x6 : Int32) (M_thrown : Int32) (M_conflict : Int32) (M_moved : Int32) (M_values : (Nat → Int32)) (M_out : (Nat → Int32)) (H : Heap) (locs : List Loc) (ls : Array Slot), s_M_implied_120 M_gates M_lines M_kinds M_ones M_twos M_equals M_counts M_literals p1 p2 p3 p4 C94 post s0 x6 M_thrown M_conflict M_moved M_values M_out → mW D A s.heap [(k_M cA ad M_thrown M_gates M_lines M_conflict M_moved M_tapeSize M_place M_found), (k_M_kinds cA ad M_kinds), (k_M_ones cA ad M_ones), (k_M_twos cA ad M_twos), (k_M_equals cA ad M_equals), (k_M_counts cA ad M_counts), (k_M_literals cA ad M_literals), (k_M_values cA ad M_values), (k_M_out cA ad M_out)] H locs → lv_has ls 8 [(0, .ref (ad 15)), (1, .int p1), (2, .int p2), (3, .int p3), (4, .int p4), (6, .int x6)] → W p l e rm_M_implied s m [.ref (ad 15), .int p1, .int p2, .int p3, .int p4].toArray below meth c H locs 0 0 Q (F0 m 120 ls [.int s0]) := by
    intro s0 x6 M_thrown M_conflict M_moved M_values M_out H locs ls h hw hl
    unfold s_M_implied_120 at h
    refine lv_istore (lv' := [(7, .int s0), (0, .ref (ad 15)), (1, .int p1), (2, .int p2), (3, .int p3), (4, .int p4), (6, .int x6)]) hx hb d_M_implied_120 hl (by decide) rfl (fun ls hl => ?_)
    refine lv_iload hx hb d_M_implied_122 (lv_at hl 0 rfl) ?_
    refine lv_iconst (v := (-1)) hx hb d_M_implied_124 (by decide) ?_
    refine lv_icmp_eq (tgt := 135) hx hb d_M_implied_125 (by decide) (fun hc => ?_) (fun hc => ?_)
    · have h := h.1 hc
      exact j135 _ _ _ _ _ _ _ _ _ h hw (lv_sub hl [1, 2, 3, 4, 5, 6] rfl)
    · have h := h.2 hc
      refine lv_aload_n hx hb d_M_implied_128 rfl (lv_at hl 1 rfl) ?_
      refine lv_iload hx hb d_M_implied_129 (lv_at hl 0 rfl) ?_
      refine lv_iconst (v := 1) hx hb d_M_implied_131 (by decide) ?_
      refine m_callv (hr := va_runV (As := [.int s0, .int 1]) (rest := []) ⟨hx, hb, hml, hown, hts⟩ (c_M_tell l D cA ad _ M_thrown M_gates M_lines M_conflict M_moved M_tapeSize M_place M_found M_values s0 1 _ h) (cwV 2 hts (ginV gm_682 gm_684 gs_49 gm_6 gm_685) rfl rfl rfl (by decide +kernel) ⟨Nat.le_of_ble_eq_true rfl, Nat.le_of_ble_eq_true rfl⟩) (m_preV 5 0 rfl rfl hK hw [0, 7] rfl rfl) rfl rfl hl.1 rfl (lv_room (Nat.le_of_ble_eq_true rfl)) d_M_implied_132 ⟨Nat.zero_le _, Nat.zero_le _⟩) (w2 := (fun (u : Int32 × Int32 × (Nat → Int32)) => [(k_M cA ad M_thrown M_gates M_lines u.1 u.2.1 M_tapeSize M_place M_found), (k_M_kinds cA ad M_kinds), (k_M_ones cA ad M_ones), (k_M_twos cA ad M_twos), (k_M_equals cA ad M_equals), (k_M_counts cA ad M_counts), (k_M_literals cA ad M_literals), (k_M_values cA ad u.2.2), (k_M_out cA ad M_out)])) (wr := [(k_M_kinds cA ad M_kinds), (k_M_ones cA ad M_ones), (k_M_twos cA ad M_twos), (k_M_equals cA ad M_equals), (k_M_counts cA ad M_counts), (k_M_literals cA ad M_literals), (k_M_out cA ad M_out)]) hw hA [0, 7] [1, 2, 3, 4, 5, 6, 8] [7, 0, 1, 2, 3, 4, 5, 8, 6] rfl rfl (by decide) (by decide) (by decide) (fun _ => rfl) (fun u H locs hw h => ?_)
      obtain ⟨M_conflict_132, M_moved_132, M_values_132⟩ := u
      have hw : mW D A s.heap [(k_M cA ad M_thrown M_gates M_lines M_conflict_132 M_moved_132 M_tapeSize M_place M_found), (k_M_kinds cA ad M_kinds), (k_M_ones cA ad M_ones), (k_M_twos cA ad M_twos), (k_M_equals cA ad M_equals), (k_M_counts cA ad M_counts), (k_M_literals cA ad M_literals), (k_M_values cA ad M_values_132), (k_M_out cA ad M_out)] H locs := hw
      exact j135 _ _ _ _ _ _ _ _ _ h hw (lv_sub hl [1, 2, 3, 4, 5, 6] rfl)
  have j71 : ∀ (s0 : Int32) (M_thrown : Int32) (M_conflict : Int32) (M_moved : Int32) (M_values : (Nat → Int32)) (M_out : (Nat → Int32)) (H : Heap) (locs : List Loc) (ls : Array Slot), s_M_implied_71 M_gates M_lines M_kinds M_ones M_twos M_equals M_counts M_literals p1 p2 p3 p4 C94 post s0 M_thrown M_conflict M_moved M_values M_out → mW D A s.heap [(k_M cA ad M_thrown M_gates M_lines M_conflict M_moved M_tapeSize M_place M_found), (k_M_kinds cA ad M_kinds), (k_M_ones cA ad M_ones), (k_M_twos cA ad M_twos), (k_M_equals cA ad M_equals), (k_M_counts cA ad M_counts), (k_M_literals cA ad M_literals), (k_M_values cA ad M_values), (k_M_out cA ad M_out)] H locs → lv_has ls 8 [(0, .ref (ad 15)), (1, .int p1), (2, .int p2), (3, .int p3), (4, .int p4)] → W p l e rm_M_implied s m [.ref (ad 15), .int p1, .int p2, .int p3, .int p4].toArray below meth c H locs 0 0 Q (F0 m 71 ls [.int s0, .ref (ad 15)]) := by
    intro s0 M_thrown M_conflict M_moved M_values M_out H locs ls h hw hl
    unfold s_M_implied_71 at h
    refine m_put (ws' := [(k_M cA ad s0 M_gates M_lines M_conflict M_moved M_tapeSize M_place M_found), (k_M_kinds cA ad M_kinds), (k_M_ones cA ad M_ones), (k_M_twos cA ad M_twos), (k_M_equals cA ad M_equals), (k_M_counts cA ad M_counts), (k_M_literals cA ad M_literals), (k_M_values cA ad M_values), (k_M_out cA ad M_out)]) (ci := 5) (v := .int s0) (ty := .int) (C := R_M) (T := T_M) (N := 18) hx hb hts (fun w h => List.mem_cons_of_mem _ (iw_M w h)) ty_M tyok_M nm_M hown hK.1 hw 0 rfl rfl 0 (by decide) (hg gm_567) (fun _ h9 => h9) rfl (by decide +kernel) rfl rfl (Nat.le_of_ble_eq_true rfl) rfl d_M_implied_71 (fun H locs hw => ?_)
    refine lv_aload_n hx hb d_M_implied_74 rfl (lv_at hl 0 rfl) ?_
    refine va_get (D := D) (ci := 5) (v := .int s0) (C := R_M) (T := T_M) (N := 18) hx hb hts (fun w h => List.mem_cons_of_mem _ (iw_M w h)) hown hK.1 hw.1 0 rfl rfl 0 (by decide) (hg gm_567) (fun _ h9 => h9) rfl d_M_implied_75 ?_
    refine lv_if_le (tgt := 83) hx hb d_M_implied_78 (by decide) (fun hc => ?_) (fun hc => ?_)
    · have h := h.1 hc
      refine lv_aload_n hx hb d_M_implied_83 rfl (lv_at hl 0 rfl) ?_
      refine m_callv (hr := va_runV (As := []) (rest := []) ⟨hx, hb, hml, hown, hts⟩ (c_M_allThere l D cA ad _ s0 M_gates M_lines M_conflict M_moved M_tapeSize M_place M_found M_out _ h) (cwV 0 hts (ginV gm_662 gm_664 gs_44 gm_6 gm_665) rfl rfl rfl (by decide +kernel) ⟨Nat.le_of_ble_eq_true rfl, Nat.le_of_ble_eq_true rfl⟩) (m_preV 5 0 rfl rfl hK hw [0, 8] rfl rfl) rfl rfl hl.1 rfl (lv_room (Nat.le_of_ble_eq_true rfl)) d_M_implied_84 ⟨Nat.zero_le _, Nat.zero_le _⟩) (w2 := (fun (u : (Nat → Int32)) => [(k_M cA ad s0 M_gates M_lines M_conflict M_moved M_tapeSize M_place M_found), (k_M_kinds cA ad M_kinds), (k_M_ones cA ad M_ones), (k_M_twos cA ad M_twos), (k_M_equals cA ad M_equals), (k_M_counts cA ad M_counts), (k_M_literals cA ad M_literals), (k_M_values cA ad M_values), (k_M_out cA ad u)])) (wr := [(k_M_kinds cA ad M_kinds), (k_M_ones cA ad M_ones), (k_M_twos cA ad M_twos), (k_M_equals cA ad M_equals), (k_M_counts cA ad M_counts), (k_M_literals cA ad M_literals), (k_M_values cA ad M_values)]) hw hA [0, 8] [1, 2, 3, 4, 5, 6, 7] [7, 0, 1, 2, 3, 4, 5, 6, 8] rfl rfl (by decide) (by decide) (by decide) (fun _ => rfl) (fun u H locs hw h => ?_)
      obtain ⟨M_out_84, rfl⟩ : ∃ z, z = u := ⟨_, rfl⟩
      have hw : mW D A s.heap [(k_M cA ad s0 M_gates M_lines M_conflict M_moved M_tapeSize M_place M_found), (k_M_kinds cA ad M_kinds), (k_M_ones cA ad M_ones), (k_M_twos cA ad M_twos), (k_M_equals cA ad M_equals), (k_M_counts cA ad M_counts), (k_M_literals cA ad M_literals), (k_M_values cA ad M_values), (k_M_out cA ad M_out_84)] H locs := hw
      refine lv_aload_n hx hb d_M_implied_87 rfl (lv_at hl 0 rfl) ?_
      refine m_callv (hr := va_runV (As := []) (rest := []) ⟨hx, hb, hml, hown, hts⟩ (c_M_begin l D cA ad _ s0 M_gates M_lines M_conflict M_moved M_tapeSize M_place M_found M_values _ h) (cwV 0 hts (ginV gm_678 gm_680 gs_48 gm_6 gm_681) rfl rfl rfl (by decide +kernel) ⟨Nat.le_of_ble_eq_true rfl, Nat.le_of_ble_eq_true rfl⟩) (m_preV 5 0 rfl rfl hK hw [0, 7] rfl rfl) rfl rfl hl.1 rfl (lv_room (Nat.le_of_ble_eq_true rfl)) d_M_implied_88 ⟨Nat.zero_le _, Nat.zero_le _⟩) (w2 := (fun (u : Int32 × (Nat → Int32)) => [(k_M cA ad s0 M_gates M_lines u.1 M_moved M_tapeSize M_place M_found), (k_M_kinds cA ad M_kinds), (k_M_ones cA ad M_ones), (k_M_twos cA ad M_twos), (k_M_equals cA ad M_equals), (k_M_counts cA ad M_counts), (k_M_literals cA ad M_literals), (k_M_values cA ad u.2), (k_M_out cA ad M_out_84)])) (wr := [(k_M_kinds cA ad M_kinds), (k_M_ones cA ad M_ones), (k_M_twos cA ad M_twos), (k_M_equals cA ad M_equals), (k_M_counts cA ad M_counts), (k_M_literals cA ad M_literals), (k_M_out cA ad M_out_84)]) hw hA [0, 7] [1, 2, 3, 4, 5, 6, 8] [7, 0, 1, 2, 3, 4, 5, 8, 6] rfl rfl (by decide) (by decide) (by decide) (fun _ => rfl) (fun u H locs hw h => ?_)
      obtain ⟨M_conflict_88, M_values_88⟩ := u
      have hw : mW D A s.heap [(k_M cA ad s0 M_gates M_lines M_conflict_88 M_moved M_tapeSize M_place M_found), (k_M_kinds cA ad M_kinds), (k_M_ones cA ad M_ones), (k_M_twos cA ad M_twos), (k_M_equals cA ad M_equals), (k_M_counts cA ad M_counts), (k_M_literals cA ad M_literals), (k_M_values cA ad M_values_88), (k_M_out cA ad M_out_84)] H locs := hw
      refine lv_iconst (v := 0) hx hb d_M_implied_91 (by decide) ?_
      refine lv_istore (lv' := [(6, .int 0), (0, .ref (ad 15)), (1, .int p1), (2, .int p2), (3, .int p3), (4, .int p4)]) hx hb d_M_implied_92 hl (by decide) rfl (fun ls hl => ?_)
      exact (hC94 _ _ _ _ _ _).1 h _ _ _ hw (lv_sub hl [1, 2, 3, 4, 5, 0] rfl)
    · have h := h.2 hc
      refine lv_iconst (v := 0) hx hb d_M_implied_81 (by decide) ?_
      exact hE 0 (s0, M_conflict, M_moved, M_values, M_out) _ _ _ _ h hw d_M_implied_82
  have j70 : ∀ (M_thrown : Int32) (M_conflict : Int32) (M_moved : Int32) (M_values : (Nat → Int32)) (M_out : (Nat → Int32)) (H : Heap) (locs : List Loc) (ls : Array Slot), s_M_implied_70 M_gates M_lines M_kinds M_ones M_twos M_equals M_counts M_literals p1 p2 p3 p4 C94 post M_thrown M_conflict M_moved M_values M_out → mW D A s.heap [(k_M cA ad M_thrown M_gates M_lines M_conflict M_moved M_tapeSize M_place M_found), (k_M_kinds cA ad M_kinds), (k_M_ones cA ad M_ones), (k_M_twos cA ad M_twos), (k_M_equals cA ad M_equals), (k_M_counts cA ad M_counts), (k_M_literals cA ad M_literals), (k_M_values cA ad M_values), (k_M_out cA ad M_out)] H locs → lv_has ls 8 [(0, .ref (ad 15)), (1, .int p1), (2, .int p2), (3, .int p3), (4, .int p4)] → W p l e rm_M_implied s m [.ref (ad 15), .int p1, .int p2, .int p3, .int p4].toArray below meth c H locs 0 0 Q (F0 m 70 ls [.ref (ad 15)]) := by
    intro M_thrown M_conflict M_moved M_values M_out H locs ls h hw hl
    unfold s_M_implied_70 at h
    refine lv_iconst (v := 1) hx hb d_M_implied_70 (by decide) ?_
    exact j71 _ _ _ _ _ _ _ _ _ h hw (lv_sub hl [0, 1, 2, 3, 4] rfl)
  have j44 : ∀ (s0 : Int32) (M_thrown : Int32) (M_conflict : Int32) (M_moved : Int32) (M_values : (Nat → Int32)) (M_out : (Nat → Int32)) (H : Heap) (locs : List Loc) (ls : Array Slot), s_M_implied_44 M_gates M_lines M_kinds M_ones M_twos M_equals M_counts M_literals p1 p2 p3 p4 C94 post s0 M_thrown M_conflict M_moved M_values M_out → mW D A s.heap [(k_M cA ad M_thrown M_gates M_lines M_conflict M_moved M_tapeSize M_place M_found), (k_M_kinds cA ad M_kinds), (k_M_ones cA ad M_ones), (k_M_twos cA ad M_twos), (k_M_equals cA ad M_equals), (k_M_counts cA ad M_counts), (k_M_literals cA ad M_literals), (k_M_values cA ad M_values), (k_M_out cA ad M_out)] H locs → lv_has ls 8 [(0, .ref (ad 15)), (1, .int p1), (2, .int p2), (3, .int p3), (4, .int p4)] → W p l e rm_M_implied s m [.ref (ad 15), .int p1, .int p2, .int p3, .int p4].toArray below meth c H locs 0 0 Q (F0 m 44 ls [.int s0]) := by
    intro s0 M_thrown M_conflict M_moved M_values M_out H locs ls h hw hl
    unfold s_M_implied_44 at h
    refine lv_istore (lv' := [(5, .int s0), (0, .ref (ad 15)), (1, .int p1), (2, .int p2), (3, .int p3), (4, .int p4)]) hx hb d_M_implied_44 hl (by decide) rfl (fun ls hl => ?_)
    refine lv_aload_n hx hb d_M_implied_46 rfl (lv_at hl 1 rfl) ?_
    refine lv_iload hx hb d_M_implied_47 (lv_at hl 0 rfl) ?_
    refine lv_if_eq (tgt := 70) hx hb d_M_implied_49 (by decide) (fun hc => ?_) (fun hc => ?_)
    · have h := h.1 hc
      exact j70 _ _ _ _ _ _ _ _ h hw (lv_sub hl [1, 2, 3, 4, 5] rfl)
    · have h := h.2 hc
      refine lv_iload hx hb d_M_implied_52 (lv_at hl 5 rfl) ?_
      refine lv_if_lt (tgt := 70) hx hb d_M_implied_54 (by decide) (fun hc => ?_) (fun hc => ?_)
      · have h := h.1 hc
        exact j70 _ _ _ _ _ _ _ _ h hw (lv_sub hl [1, 2, 3, 4, 5] rfl)
      · have h := h.2 hc
        refine lv_iload hx hb d_M_implied_57 (lv_at hl 5 rfl) ?_
        refine lv_aload_n hx hb d_M_implied_59 rfl (lv_at hl 1 rfl) ?_
        refine va_get (D := D) (ci := 5) (v := .int M_gates) (C := R_M) (T := T_M) (N := 18) hx hb hts (fun w h => List.mem_cons_of_mem _ (iw_M w h)) hown hK.1 hw.1 0 rfl rfl 4 (by decide) (hg gm_571) (fun _ h9 => h9) rfl d_M_implied_60 ?_
        refine lv_icmp_ge (tgt := 70) hx hb d_M_implied_63 (by decide) (fun hc => ?_) (fun hc => ?_)
        · have h := h.1 hc
          exact j70 _ _ _ _ _ _ _ _ h hw (lv_sub hl [1, 2, 3, 4, 5] rfl)
        · have h := h.2 hc
          refine lv_iconst (v := 0) hx hb d_M_implied_66 (by decide) ?_
          refine lv_goto (tgt := 71) hx hb d_M_implied_67 (by decide) ?_
          exact j71 _ _ _ _ _ _ _ _ _ h hw (lv_sub hl [1, 2, 3, 4, 5] rfl)
  have j43 : ∀ (M_thrown : Int32) (M_conflict : Int32) (M_moved : Int32) (M_values : (Nat → Int32)) (M_out : (Nat → Int32)) (H : Heap) (locs : List Loc) (ls : Array Slot), s_M_implied_43 M_gates M_lines M_kinds M_ones M_twos M_equals M_counts M_literals p1 p2 p3 p4 C94 post M_thrown M_conflict M_moved M_values M_out → mW D A s.heap [(k_M cA ad M_thrown M_gates M_lines M_conflict M_moved M_tapeSize M_place M_found), (k_M_kinds cA ad M_kinds), (k_M_ones cA ad M_ones), (k_M_twos cA ad M_twos), (k_M_equals cA ad M_equals), (k_M_counts cA ad M_counts), (k_M_literals cA ad M_literals), (k_M_values cA ad M_values), (k_M_out cA ad M_out)] H locs → lv_has ls 8 [(0, .ref (ad 15)), (1, .int p1), (2, .int p2), (3, .int p3), (4, .int p4)] → W p l e rm_M_implied s m [.ref (ad 15), .int p1, .int p2, .int p3, .int p4].toArray below meth c H locs 0 0 Q (F0 m 43 ls []) := by
    intro M_thrown M_conflict M_moved M_values M_out H locs ls h hw hl
    unfold s_M_implied_43 at h
    refine lv_iconst (v := 0) hx hb d_M_implied_43 (by decide) ?_
    exact j44 _ _ _ _ _ _ _ _ _ h hw (lv_sub hl [0, 1, 2, 3, 4] rfl)
  have j39 : ∀ (M_thrown : Int32) (M_conflict : Int32) (M_moved : Int32) (M_values : (Nat → Int32)) (M_out : (Nat → Int32)) (H : Heap) (locs : List Loc) (ls : Array Slot), s_M_implied_39 M_gates M_lines M_kinds M_ones M_twos M_equals M_counts M_literals p1 p2 p3 p4 C94 post M_thrown M_conflict M_moved M_values M_out → mW D A s.heap [(k_M cA ad M_thrown M_gates M_lines M_conflict M_moved M_tapeSize M_place M_found), (k_M_kinds cA ad M_kinds), (k_M_ones cA ad M_ones), (k_M_twos cA ad M_twos), (k_M_equals cA ad M_equals), (k_M_counts cA ad M_counts), (k_M_literals cA ad M_literals), (k_M_values cA ad M_values), (k_M_out cA ad M_out)] H locs → lv_has ls 8 [(0, .ref (ad 15)), (1, .int p1), (2, .int p2), (3, .int p3), (4, .int p4)] → W p l e rm_M_implied s m [.ref (ad 15), .int p1, .int p2, .int p3, .int p4].toArray below meth c H locs 0 0 Q (F0 m 39 ls []) := by
    intro M_thrown M_conflict M_moved M_values M_out H locs ls h hw hl
    unfold s_M_implied_39 at h
    refine lv_iconst (v := 1) hx hb d_M_implied_39 (by decide) ?_
    refine lv_goto (tgt := 44) hx hb d_M_implied_40 (by decide) ?_
    exact j44 _ _ _ _ _ _ _ _ _ h hw (lv_sub hl [0, 1, 2, 3, 4] rfl)
  have j26 : ∀ (M_thrown : Int32) (M_conflict : Int32) (M_moved : Int32) (M_values : (Nat → Int32)) (M_out : (Nat → Int32)) (H : Heap) (locs : List Loc) (ls : Array Slot), s_M_implied_26 M_gates M_lines M_kinds M_ones M_twos M_equals M_counts M_literals p1 p2 p3 p4 C94 post M_thrown M_conflict M_moved M_values M_out → mW D A s.heap [(k_M cA ad M_thrown M_gates M_lines M_conflict M_moved M_tapeSize M_place M_found), (k_M_kinds cA ad M_kinds), (k_M_ones cA ad M_ones), (k_M_twos cA ad M_twos), (k_M_equals cA ad M_equals), (k_M_counts cA ad M_counts), (k_M_literals cA ad M_literals), (k_M_values cA ad M_values), (k_M_out cA ad M_out)] H locs → lv_has ls 8 [(0, .ref (ad 15)), (1, .int p1), (2, .int p2), (3, .int p3), (4, .int p4)] → W p l e rm_M_implied s m [.ref (ad 15), .int p1, .int p2, .int p3, .int p4].toArray below meth c H locs 0 0 Q (F0 m 26 ls []) := by
    intro M_thrown M_conflict M_moved M_values M_out H locs ls h hw hl
    unfold s_M_implied_26 at h
    refine lv_iload_n hx hb d_M_implied_26 rfl (lv_at hl 3 rfl) ?_
    refine lv_iconst (v := (-1)) hx hb d_M_implied_27 (by decide) ?_
    refine lv_icmp_eq (tgt := 39) hx hb d_M_implied_28 (by decide) (fun hc => ?_) (fun hc => ?_)
    · have h := h.1 hc
      exact j39 _ _ _ _ _ _ _ _ h hw (lv_sub hl [0, 1, 2, 3, 4] rfl)
    · have h := h.2 hc
      refine lv_aload_n hx hb d_M_implied_31 rfl (lv_at hl 0 rfl) ?_
      refine lv_iload_n hx hb d_M_implied_32 rfl (lv_at hl 3 rfl) ?_
      refine m_calli (hr := va_runV (As := [.int p3]) (rest := []) ⟨hx, hb, hml, hown, hts⟩ (c_M_isLiteral l D cA ad _ M_thrown M_gates M_lines M_conflict M_moved M_tapeSize M_place M_found p3 _ h) (cwV 1 hts (ginV gm_630 gm_632 gs_40 gm_6 gm_633) rfl rfl rfl (by decide +kernel) ⟨Nat.le_of_ble_eq_true rfl, Nat.le_of_ble_eq_true rfl⟩) (m_preV 5 0 rfl rfl hK hw [0] rfl rfl) rfl rfl hl.1 rfl (lv_room (Nat.le_of_ble_eq_true rfl)) d_M_implied_33 ⟨Nat.zero_le _, Nat.zero_le _⟩) (w2 := (fun (_ : Unit) => [(k_M cA ad M_thrown M_gates M_lines M_conflict M_moved M_tapeSize M_place M_found), (k_M_kinds cA ad M_kinds), (k_M_ones cA ad M_ones), (k_M_twos cA ad M_twos), (k_M_equals cA ad M_equals), (k_M_counts cA ad M_counts), (k_M_literals cA ad M_literals), (k_M_values cA ad M_values), (k_M_out cA ad M_out)])) (wr := [(k_M_kinds cA ad M_kinds), (k_M_ones cA ad M_ones), (k_M_twos cA ad M_twos), (k_M_equals cA ad M_equals), (k_M_counts cA ad M_counts), (k_M_literals cA ad M_literals), (k_M_values cA ad M_values), (k_M_out cA ad M_out)]) hw hA [0] [1, 2, 3, 4, 5, 6, 7, 8] [8, 0, 1, 2, 3, 4, 5, 6, 7] rfl rfl (by decide) (by decide) (by decide) (fun _ => rfl) (fun r33 u H locs hw h => ?_)
      refine lv_if_eq (tgt := 43) hx hb d_M_implied_36 (by decide) (fun hc => ?_) (fun hc => ?_)
      · have h := h.1 hc
        exact j43 _ _ _ _ _ _ _ _ h hw (lv_sub hl [0, 1, 2, 3, 4] rfl)
      · have h := h.2 hc
        exact j39 _ _ _ _ _ _ _ _ h hw (lv_sub hl [0, 1, 2, 3, 4] rfl)
  have j13 : ∀ (M_thrown : Int32) (M_conflict : Int32) (M_moved : Int32) (M_values : (Nat → Int32)) (M_out : (Nat → Int32)) (H : Heap) (locs : List Loc) (ls : Array Slot), s_M_implied_13 M_gates M_lines M_kinds M_ones M_twos M_equals M_counts M_literals p1 p2 p3 p4 C94 post M_thrown M_conflict M_moved M_values M_out → mW D A s.heap [(k_M cA ad M_thrown M_gates M_lines M_conflict M_moved M_tapeSize M_place M_found), (k_M_kinds cA ad M_kinds), (k_M_ones cA ad M_ones), (k_M_twos cA ad M_twos), (k_M_equals cA ad M_equals), (k_M_counts cA ad M_counts), (k_M_literals cA ad M_literals), (k_M_values cA ad M_values), (k_M_out cA ad M_out)] H locs → lv_has ls 8 [(0, .ref (ad 15)), (1, .int p1), (2, .int p2), (3, .int p3), (4, .int p4)] → W p l e rm_M_implied s m [.ref (ad 15), .int p1, .int p2, .int p3, .int p4].toArray below meth c H locs 0 0 Q (F0 m 13 ls []) := by
    intro M_thrown M_conflict M_moved M_values M_out H locs ls h hw hl
    unfold s_M_implied_13 at h
    refine lv_iload_n hx hb d_M_implied_13 rfl (lv_at hl 2 rfl) ?_
    refine lv_iconst (v := (-1)) hx hb d_M_implied_14 (by decide) ?_
    refine lv_icmp_eq (tgt := 26) hx hb d_M_implied_15 (by decide) (fun hc => ?_) (fun hc => ?_)
    · have h := h.1 hc
      exact j26 _ _ _ _ _ _ _ _ h hw (lv_sub hl [0, 1, 2, 3, 4] rfl)
    · have h := h.2 hc
      refine lv_aload_n hx hb d_M_implied_18 rfl (lv_at hl 0 rfl) ?_
      refine lv_iload_n hx hb d_M_implied_19 rfl (lv_at hl 2 rfl) ?_
      refine m_calli (hr := va_runV (As := [.int p2]) (rest := []) ⟨hx, hb, hml, hown, hts⟩ (c_M_isLiteral l D cA ad _ M_thrown M_gates M_lines M_conflict M_moved M_tapeSize M_place M_found p2 _ h) (cwV 1 hts (ginV gm_630 gm_632 gs_40 gm_6 gm_633) rfl rfl rfl (by decide +kernel) ⟨Nat.le_of_ble_eq_true rfl, Nat.le_of_ble_eq_true rfl⟩) (m_preV 5 0 rfl rfl hK hw [0] rfl rfl) rfl rfl hl.1 rfl (lv_room (Nat.le_of_ble_eq_true rfl)) d_M_implied_20 ⟨Nat.zero_le _, Nat.zero_le _⟩) (w2 := (fun (_ : Unit) => [(k_M cA ad M_thrown M_gates M_lines M_conflict M_moved M_tapeSize M_place M_found), (k_M_kinds cA ad M_kinds), (k_M_ones cA ad M_ones), (k_M_twos cA ad M_twos), (k_M_equals cA ad M_equals), (k_M_counts cA ad M_counts), (k_M_literals cA ad M_literals), (k_M_values cA ad M_values), (k_M_out cA ad M_out)])) (wr := [(k_M_kinds cA ad M_kinds), (k_M_ones cA ad M_ones), (k_M_twos cA ad M_twos), (k_M_equals cA ad M_equals), (k_M_counts cA ad M_counts), (k_M_literals cA ad M_literals), (k_M_values cA ad M_values), (k_M_out cA ad M_out)]) hw hA [0] [1, 2, 3, 4, 5, 6, 7, 8] [8, 0, 1, 2, 3, 4, 5, 6, 7] rfl rfl (by decide) (by decide) (by decide) (fun _ => rfl) (fun r20 u H locs hw h => ?_)
      refine lv_if_eq (tgt := 43) hx hb d_M_implied_23 (by decide) (fun hc => ?_) (fun hc => ?_)
      · have h := h.1 hc
        exact j43 _ _ _ _ _ _ _ _ h hw (lv_sub hl [0, 1, 2, 3, 4] rfl)
      · have h := h.2 hc
        exact j26 _ _ _ _ _ _ _ _ h hw (lv_sub hl [0, 1, 2, 3, 4] rfl)
  have hc94 : ∀ (x6 : Int32) (M_thrown : Int32) (M_conflict : Int32) (M_moved : Int32) (M_values : (Nat → Int32)) (M_out : (Nat → Int32)), s_M_implied_94 M_gates M_lines M_kinds M_ones M_twos M_equals M_counts M_literals p1 p2 p3 p4 C94 post x6 M_thrown M_conflict M_moved M_values M_out → C94 x6 M_thrown M_conflict M_moved M_values M_out := by
    intro x6 M_thrown M_conflict M_moved M_values M_out h
    unfold s_M_implied_94 at h
    refine (hC94 _ _ _ _ _ _).2 ?_
    intro H locs ls hw hl
    refine lv_iload hx hb d_M_implied_94 (lv_at hl 5 rfl) ?_
    refine lv_iconst (v := 3) hx hb d_M_implied_96 (by decide) ?_
    refine lv_icmp_ge (tgt := 141) hx hb d_M_implied_97 (by decide) (fun hc => ?_) (fun hc => ?_)
    · have h := h.1 hc
      refine lv_aload_n hx hb d_M_implied_141 rfl (lv_at hl 0 rfl) ?_
      refine lv_aload_n hx hb d_M_implied_142 rfl (lv_at hl 0 rfl) ?_
      refine va_get (D := D) (ci := 5) (v := .int M_lines) (C := R_M) (T := T_M) (N := 18) hx hb hts (fun w h => List.mem_cons_of_mem _ (iw_M w h)) hown hK.1 hw.1 0 rfl rfl 8 (by decide) (hg gm_575) (fun _ h9 => h9) rfl d_M_implied_143 ?_
      refine m_callv (hr := va_runV (As := [.int M_lines]) (rest := []) ⟨hx, hb, hml, hown, hts⟩ (c_M_steps l D cA ad _ M_thrown M_gates M_lines M_conflict M_moved M_tapeSize M_place M_found M_kinds M_ones M_twos M_equals M_counts M_literals M_values M_out M_lines _ h) (cwV 1 hts (ginV gm_690 gm_692 gs_51 gm_6 gm_693) rfl rfl rfl (by decide +kernel) ⟨Nat.le_of_ble_eq_true rfl, Nat.le_of_ble_eq_true rfl⟩) (m_preV 5 0 rfl rfl hK hw [0, 1, 2, 3, 4, 5, 6, 7, 8] rfl rfl) rfl rfl hl.1 rfl (lv_room (Nat.le_of_ble_eq_true rfl)) d_M_implied_146 ⟨Nat.zero_le _, Nat.zero_le _⟩) (w2 := (fun (u : Int32 × Int32 × (Nat → Int32)) => [(k_M cA ad M_thrown M_gates M_lines u.1 u.2.1 M_tapeSize M_place M_found), (k_M_kinds cA ad M_kinds), (k_M_ones cA ad M_ones), (k_M_twos cA ad M_twos), (k_M_equals cA ad M_equals), (k_M_counts cA ad M_counts), (k_M_literals cA ad M_literals), (k_M_values cA ad u.2.2), (k_M_out cA ad M_out)])) (wr := []) hw hA [0, 1, 2, 3, 4, 5, 6, 7, 8] [] [0, 1, 2, 3, 4, 5, 6, 7, 8] rfl rfl (by decide) (by decide) (by decide) (fun _ => rfl) (fun u H locs hw h => ?_)
      obtain ⟨M_conflict_146, M_moved_146, M_values_146⟩ := u
      have hw : mW D A s.heap [(k_M cA ad M_thrown M_gates M_lines M_conflict_146 M_moved_146 M_tapeSize M_place M_found), (k_M_kinds cA ad M_kinds), (k_M_ones cA ad M_ones), (k_M_twos cA ad M_twos), (k_M_equals cA ad M_equals), (k_M_counts cA ad M_counts), (k_M_literals cA ad M_literals), (k_M_values cA ad M_values_146), (k_M_out cA ad M_out)] H locs := hw
      refine lv_aload_n hx hb d_M_implied_149 rfl (lv_at hl 0 rfl) ?_
      refine va_get (D := D) (ci := 5) (v := .int M_conflict_146) (C := R_M) (T := T_M) (N := 18) hx hb hts (fun w h => List.mem_cons_of_mem _ (iw_M w h)) hown hK.1 hw.1 0 rfl rfl 10 (by decide) (hg gm_577) (fun _ h9 => h9) rfl d_M_implied_150 ?_
      refine lv_if_eq (tgt := 160) hx hb d_M_implied_153 (by decide) (fun hc => ?_) (fun hc => ?_)
      · have h := h.1 hc
        refine lv_aload_n hx hb d_M_implied_160 rfl (lv_at hl 0 rfl) ?_
        refine va_get (D := D) (ci := 5) (v := .ref (ad 22)) (C := R_M) (T := T_M) (N := 18) hx hb hts (fun w h => List.mem_cons_of_mem _ (iw_M w h)) hown hK.1 hw.1 0 rfl rfl 9 (by decide) (hg gm_576) (fun _ h9 => h9) rfl d_M_implied_161 ?_
        refine lv_iload hx hb d_M_implied_164 (lv_at hl 4 rfl) ?_
        refine va_iald hx hb hK.1 hw.1 7 0 rfl rfl h.1 d_M_implied_166 ?_
        have h := h.2
        exact hE (M_values_146 p4.toNatClampNeg) (M_thrown, M_conflict_146, M_moved_146, M_values_146, M_out) _ _ _ _ h hw d_M_implied_167
      · have h := h.2 hc
        refine lv_iconst (v := 3) hx hb d_M_implied_156 (by decide) ?_
        refine lv_goto (tgt := 167) hx hb d_M_implied_157 (by decide) ?_
        exact hE 3 (M_thrown, M_conflict_146, M_moved_146, M_values_146, M_out) _ _ _ _ h hw d_M_implied_167
    · have h := h.2 hc
      refine lv_iload hx hb d_M_implied_100 (lv_at hl 5 rfl) ?_
      refine lv_if_ne (tgt := 109) hx hb d_M_implied_102 (by decide) (fun hc => ?_) (fun hc => ?_)
      · have h := h.2 hc
        refine lv_iload hx hb d_M_implied_109 (lv_at hl 5 rfl) ?_
        refine lv_iconst (v := 1) hx hb d_M_implied_111 (by decide) ?_
        refine lv_icmp_ne (tgt := 119) hx hb d_M_implied_112 (by decide) (fun hc => ?_) (fun hc => ?_)
        · have h := h.2 hc
          refine lv_iload_n hx hb d_M_implied_119 rfl (lv_at hl 3 rfl) ?_
          exact j120 _ _ _ _ _ _ _ _ _ _ h hw (lv_sub hl [0, 1, 2, 3, 4, 5] rfl)
        · have h := h.1 hc
          refine lv_iload_n hx hb d_M_implied_115 rfl (lv_at hl 2 rfl) ?_
          refine lv_goto (tgt := 120) hx hb d_M_implied_116 (by decide) ?_
          exact j120 _ _ _ _ _ _ _ _ _ _ h hw (lv_sub hl [0, 1, 2, 3, 4, 5] rfl)
      · have h := h.1 hc
        refine lv_iload_n hx hb d_M_implied_105 rfl (lv_at hl 1 rfl) ?_
        refine lv_goto (tgt := 120) hx hb d_M_implied_106 (by decide) ?_
        exact j120 _ _ _ _ _ _ _ _ _ _ h hw (lv_sub hl [0, 1, 2, 3, 4, 5] rfl)
  unfold wp_M_implied at h
  have h := h C94 hc94
  refine lv_iload_n hx hb d_M_implied_0 rfl (lv_at hl 1 rfl) ?_
  refine lv_iconst (v := (-1)) hx hb d_M_implied_1 (by decide) ?_
  refine lv_icmp_eq (tgt := 13) hx hb d_M_implied_2 (by decide) (fun hc => ?_) (fun hc => ?_)
  · have h := h.1 hc
    exact j13 _ _ _ _ _ _ _ _ h hw (lv_sub hl [0, 1, 2, 3, 4] rfl)
  · have h := h.2 hc
    refine lv_aload_n hx hb d_M_implied_5 rfl (lv_at hl 0 rfl) ?_
    refine lv_iload_n hx hb d_M_implied_6 rfl (lv_at hl 1 rfl) ?_
    refine m_calli (hr := va_runV (As := [.int p1]) (rest := []) ⟨hx, hb, hml, hown, hts⟩ (c_M_isLiteral l D cA ad _ M_thrown M_gates M_lines M_conflict M_moved M_tapeSize M_place M_found p1 _ h) (cwV 1 hts (ginV gm_630 gm_632 gs_40 gm_6 gm_633) rfl rfl rfl (by decide +kernel) ⟨Nat.le_of_ble_eq_true rfl, Nat.le_of_ble_eq_true rfl⟩) (m_preV 5 0 rfl rfl hK hw [0] rfl rfl) rfl rfl hl.1 rfl (lv_room (Nat.le_of_ble_eq_true rfl)) d_M_implied_7 ⟨Nat.zero_le _, Nat.zero_le _⟩) (w2 := (fun (_ : Unit) => [(k_M cA ad M_thrown M_gates M_lines M_conflict M_moved M_tapeSize M_place M_found), (k_M_kinds cA ad M_kinds), (k_M_ones cA ad M_ones), (k_M_twos cA ad M_twos), (k_M_equals cA ad M_equals), (k_M_counts cA ad M_counts), (k_M_literals cA ad M_literals), (k_M_values cA ad M_values), (k_M_out cA ad M_out)])) (wr := [(k_M_kinds cA ad M_kinds), (k_M_ones cA ad M_ones), (k_M_twos cA ad M_twos), (k_M_equals cA ad M_equals), (k_M_counts cA ad M_counts), (k_M_literals cA ad M_literals), (k_M_values cA ad M_values), (k_M_out cA ad M_out)]) hw hA [0] [1, 2, 3, 4, 5, 6, 7, 8] [8, 0, 1, 2, 3, 4, 5, 6, 7] rfl rfl (by decide) (by decide) (by decide) (fun _ => rfl) (fun r7 u H locs hw h => ?_)
    refine lv_if_eq (tgt := 43) hx hb d_M_implied_10 (by decide) (fun hc => ?_) (fun hc => ?_)
    · have h := h.1 hc
      exact j43 _ _ _ _ _ _ _ _ h hw (lv_sub hl [0, 1, 2, 3, 4] rfl)
    · have h := h.2 hc
      exact j13 _ _ _ _ _ _ _ _ h hw (lv_sub hl [0, 1, 2, 3, 4] rfl)
def rm_M_shorten : Room := { frames := 7, cells := 0, slots := 0, locals := 163 }
set_option maxHeartbeats 4000000 in
set_option maxRecDepth 100000 in
theorem c_M_shorten (l : Launch) (D : va_G) (cA : Nat → ClassId) (ad : Nat → Nat) (sz : Nat) (M_thrown : Int32) (M_gates : Int32) (M_lines : Int32) (M_conflict : Int32) (M_moved : Int32) (M_tapeSize : Int32) (M_place : Int32) (M_found : Int32) (M_kinds : (Nat → Int32)) (M_ones : (Nat → Int32)) (M_twos : (Nat → Int32)) (M_equals : (Nat → Int32)) (M_counts : (Nat → Int32)) (M_literals : (Nat → Int32)) (M_values : (Nat → Int32)) (M_out : (Nat → Int32)) (p1 : Int32) (post : Int32 → Int32 → Int32 → Int32 → Int32 → (Nat → Int32) → (Nat → Int32) → (Nat → Int32) → (Nat → Int32) → (Nat → Int32) → Prop) (h : wp_M_shorten M_thrown M_gates M_lines M_conflict M_moved M_kinds M_ones M_twos M_equals M_counts M_literals M_values M_out p1 post) : Met l y_M_shorten w_M_shorten rm_M_shorten (mPc D cA [.ref (ad 15), .int p1] [(k_M cA ad M_thrown M_gates M_lines M_conflict M_moved M_tapeSize M_place M_found), (k_M_kinds cA ad M_kinds), (k_M_ones cA ad M_ones), (k_M_twos cA ad M_twos), (k_M_equals cA ad M_equals), (k_M_counts cA ad M_counts), (k_M_literals cA ad M_literals), (k_M_values cA ad M_values), (k_M_out cA ad M_out)] sz) (va_Qi (fun (r : Int32) (u : Int32 × Int32 × Int32 × Int32 × (Nat → Int32) × (Nat → Int32) × (Nat → Int32) × (Nat → Int32) × (Nat → Int32)) => post r u.1 u.2.1 u.2.2.1 u.2.2.2.1 u.2.2.2.2.1 u.2.2.2.2.2.1 u.2.2.2.2.2.2.1 u.2.2.2.2.2.2.2.1 u.2.2.2.2.2.2.2.2) (mB D (va_A [(k_M cA ad M_thrown M_gates M_lines M_conflict M_moved M_tapeSize M_place M_found), (k_M_kinds cA ad M_kinds), (k_M_ones cA ad M_ones), (k_M_twos cA ad M_twos), (k_M_equals cA ad M_equals), (k_M_counts cA ad M_counts), (k_M_literals cA ad M_literals), (k_M_values cA ad M_values), (k_M_out cA ad M_out)] sz) (fun (u : Int32 × Int32 × Int32 × Int32 × (Nat → Int32) × (Nat → Int32) × (Nat → Int32) × (Nat → Int32) × (Nat → Int32)) => [(k_M cA ad u.1 M_gates u.2.1 u.2.2.1 u.2.2.2.1 M_tapeSize M_place M_found), (k_M_kinds cA ad M_kinds), (k_M_ones cA ad M_ones), (k_M_twos cA ad M_twos), (k_M_equals cA ad u.2.2.2.2.1), (k_M_counts cA ad u.2.2.2.2.2.1), (k_M_literals cA ad u.2.2.2.2.2.2.1), (k_M_values cA ad u.2.2.2.2.2.2.2.1), (k_M_out cA ad u.2.2.2.2.2.2.2.2)])) (va_A [(k_M cA ad M_thrown M_gates M_lines M_conflict M_moved M_tapeSize M_place M_found), (k_M_kinds cA ad M_kinds), (k_M_ones cA ad M_ones), (k_M_twos cA ad M_twos), (k_M_equals cA ad M_equals), (k_M_counts cA ad M_counts), (k_M_literals cA ad M_literals), (k_M_values cA ad M_values), (k_M_out cA ad M_out)] sz)) 0 0 (va_A [(k_M cA ad M_thrown M_gates M_lines M_conflict M_moved M_tapeSize M_place M_found), (k_M_kinds cA ad M_kinds), (k_M_ones cA ad M_ones), (k_M_twos cA ad M_twos), (k_M_equals cA ad M_equals), (k_M_counts cA ad M_counts), (k_M_literals cA ad M_literals), (k_M_values cA ad M_values), (k_M_out cA ad M_out)] sz) := by
  refine m_methI (by decide) rfl (Nat.le_of_ble_eq_true rfl) ?_
  intro p e s m below meth c A Q ls hx hb hml hown hts hK hA hw hl hE
  have hl : lv_has ls 5 [(0, .ref (ad 15)), (1, .int p1)] := hl
  have hown : s.vm.findClass R_M = some m.cls := hown
  have hg : ∀ {w : Cond}, w ∈ gw → w.before _ s = true := fun h => hts _ (List.mem_cons_of_mem _ h)
  obtain ⟨C48, hC48⟩ : ∃ C : Int32 → Int32 → Int32 → Int32 → Int32 → (Nat → Int32) → (Nat → Int32) → (Nat → Int32) → (Nat → Int32) → (Nat → Int32) → Prop, ∀ (x2 : Int32) (M_thrown : Int32) (M_lines : Int32) (M_conflict : Int32) (M_moved : Int32) (M_equals : (Nat → Int32)) (M_counts : (Nat → Int32)) (M_literals : (Nat → Int32)) (M_values : (Nat → Int32)) (M_out : (Nat → Int32)), C x2 M_thrown M_lines M_conflict M_moved M_equals M_counts M_literals M_values M_out ↔ (∀ (H : Heap) (locs : List Loc) (ls : Array Slot), mW D A s.heap [(k_M cA ad M_thrown M_gates M_lines M_conflict M_moved M_tapeSize M_place M_found), (k_M_kinds cA ad M_kinds), (k_M_ones cA ad M_ones), (k_M_twos cA ad M_twos), (k_M_equals cA ad M_equals), (k_M_counts cA ad M_counts), (k_M_literals cA ad M_literals), (k_M_values cA ad M_values), (k_M_out cA ad M_out)] H locs → lv_has ls 5 [(0, .ref (ad 15)), (1, .int p1), (2, .int x2)] → W p l e rm_M_shorten s m [.ref (ad 15), .int p1].toArray below meth c H locs 0 0 Q (F0 m 48 ls [])) := ⟨_, fun _ _ _ _ _ _ _ _ _ _ => Iff.rfl⟩
  obtain ⟨C89, hC89⟩ : ∃ C : Int32 → Int32 → Int32 → Int32 → Int32 → Int32 → (Nat → Int32) → (Nat → Int32) → (Nat → Int32) → (Nat → Int32) → (Nat → Int32) → Prop, ∀ (x2 : Int32) (x3 : Int32) (M_thrown : Int32) (M_lines : Int32) (M_conflict : Int32) (M_moved : Int32) (M_equals : (Nat → Int32)) (M_counts : (Nat → Int32)) (M_literals : (Nat → Int32)) (M_values : (Nat → Int32)) (M_out : (Nat → Int32)), C x2 x3 M_thrown M_lines M_conflict M_moved M_equals M_counts M_literals M_values M_out ↔ (∀ (H : Heap) (locs : List Loc) (ls : Array Slot), mW D A s.heap [(k_M cA ad M_thrown M_gates M_lines M_conflict M_moved M_tapeSize M_place M_found), (k_M_kinds cA ad M_kinds), (k_M_ones cA ad M_ones), (k_M_twos cA ad M_twos), (k_M_equals cA ad M_equals), (k_M_counts cA ad M_counts), (k_M_literals cA ad M_literals), (k_M_values cA ad M_values), (k_M_out cA ad M_out)] H locs → lv_has ls 5 [(0, .ref (ad 15)), (2, .int x2), (3, .int x3)] → W p l e rm_M_shorten s m [.ref (ad 15), .int p1].toArray below meth c H locs 0 0 Q (F0 m 89 ls [])) := ⟨_, fun _ _ _ _ _ _ _ _ _ _ _ => Iff.rfl⟩
  obtain ⟨C133, hC133⟩ : ∃ C : Int32 → Int32 → Int32 → Int32 → Int32 → Int32 → Int32 → (Nat → Int32) → (Nat → Int32) → (Nat → Int32) → (Nat → Int32) → (Nat → Int32) → Prop, ∀ (x2 : Int32) (x3 : Int32) (x4 : Int32) (M_thrown : Int32) (M_lines : Int32) (M_conflict : Int32) (M_moved : Int32) (M_equals : (Nat → Int32)) (M_counts : (Nat → Int32)) (M_literals : (Nat → Int32)) (M_values : (Nat → Int32)) (M_out : (Nat → Int32)), C x2 x3 x4 M_thrown M_lines M_conflict M_moved M_equals M_counts M_literals M_values M_out ↔ (∀ (H : Heap) (locs : List Loc) (ls : Array Slot), mW D A s.heap [(k_M cA ad M_thrown M_gates M_lines M_conflict M_moved M_tapeSize M_place M_found), (k_M_kinds cA ad M_kinds), (k_M_ones cA ad M_ones), (k_M_twos cA ad M_twos), (k_M_equals cA ad M_equals), (k_M_counts cA ad M_counts), (k_M_literals cA ad M_literals), (k_M_values cA ad M_values), (k_M_out cA ad M_out)] H locs → lv_has ls 5 [(0, .ref (ad 15)), (2, .int x2), (3, .int x3), (4, .int x4)] → W p l e rm_M_shorten s m [.ref (ad 15), .int p1].toArray below meth c H locs 0 0 Q (F0 m 133 ls [])) := ⟨_, fun _ _ _ _ _ _ _ _ _ _ _ _ => Iff.rfl⟩
  have j173 : ∀ (x2 : Int32) (x3 : Int32) (M_thrown : Int32) (M_lines : Int32) (M_conflict : Int32) (M_moved : Int32) (M_equals : (Nat → Int32)) (M_counts : (Nat → Int32)) (M_literals : (Nat → Int32)) (M_values : (Nat → Int32)) (M_out : (Nat → Int32)) (H : Heap) (locs : List Loc) (ls : Array Slot), s_M_shorten_173 M_gates M_kinds M_ones M_twos p1 C48 C89 C133 post x2 x3 M_thrown M_lines M_conflict M_moved M_equals M_counts M_literals M_values M_out → mW D A s.heap [(k_M cA ad M_thrown M_gates M_lines M_conflict M_moved M_tapeSize M_place M_found), (k_M_kinds cA ad M_kinds), (k_M_ones cA ad M_ones), (k_M_twos cA ad M_twos), (k_M_equals cA ad M_equals), (k_M_counts cA ad M_counts), (k_M_literals cA ad M_literals), (k_M_values cA ad M_values), (k_M_out cA ad M_out)] H locs → lv_has ls 5 [(0, .ref (ad 15)), (2, .int x2), (3, .int x3)] → W p l e rm_M_shorten s m [.ref (ad 15), .int p1].toArray below meth c H locs 0 0 Q (F0 m 173 ls []) := by
    intro x2 x3 M_thrown M_lines M_conflict M_moved M_equals M_counts M_literals M_values M_out H locs ls h hw hl
    unfold s_M_shorten_173 at h
    refine lv_iinc (v := (x3 + 1)) (lv' := [(3, .int (x3 + 1)), (0, .ref (ad 15)), (2, .int x2)]) hx hb d_M_shorten_173 hl (k := 2) rfl rfl (by decide) rfl (fun ls hl => ?_)
    refine lv_goto (tgt := 89) hx hb d_M_shorten_176 (by decide) ?_
    exact (hC89 _ _ _ _ _ _ _ _ _ _ _).1 h _ _ _ hw (lv_sub hl [1, 2, 0] rfl)
  have j78 : ∀ (s0 : Int32) (s1 : Int32) (x2 : Int32) (M_thrown : Int32) (M_lines : Int32) (M_conflict : Int32) (M_moved : Int32) (M_equals : (Nat → Int32)) (M_counts : (Nat → Int32)) (M_literals : (Nat → Int32)) (M_values : (Nat → Int32)) (M_out : (Nat → Int32)) (H : Heap) (locs : List Loc) (ls : Array Slot), s_M_shorten_78 M_gates M_kinds M_ones M_twos p1 C48 C89 C133 post s0 s1 x2 M_thrown M_lines M_conflict M_moved M_equals M_counts M_literals M_values M_out → mW D A s.heap [(k_M cA ad M_thrown M_gates M_lines M_conflict M_moved M_tapeSize M_place M_found), (k_M_kinds cA ad M_kinds), (k_M_ones cA ad M_ones), (k_M_twos cA ad M_twos), (k_M_equals cA ad M_equals), (k_M_counts cA ad M_counts), (k_M_literals cA ad M_literals), (k_M_values cA ad M_values), (k_M_out cA ad M_out)] H locs → lv_has ls 5 [(0, .ref (ad 15)), (1, .int p1), (2, .int x2)] → W p l e rm_M_shorten s m [.ref (ad 15), .int p1].toArray below meth c H locs 0 0 Q (F0 m 78 ls [.int s0, .int s1, .ref (ad 25)]) := by
    intro s0 s1 x2 M_thrown M_lines M_conflict M_moved M_equals M_counts M_literals M_values M_out H locs ls h hw hl
    unfold s_M_shorten_78 at h
    refine m_zast (ws' := [(k_M cA ad M_thrown M_gates M_lines M_conflict M_moved M_tapeSize M_place M_found), (k_M_kinds cA ad M_kinds), (k_M_ones cA ad M_ones), (k_M_twos cA ad M_twos), (k_M_equals cA ad M_equals), (k_M_counts cA ad M_counts), (k_M_literals cA ad M_literals), (k_M_values cA ad M_values), (k_M_out cA ad (upd M_out s1.toNatClampNeg (vp_nar .boolean s0)))]) hx hb hK.1 hw 8 1 rfl rfl h.1 rfl d_M_shorten_78 (fun H locs hw => ?_)
    have h := h.2
    refine lv_iinc (v := (x2 + (-1))) (lv' := [(2, .int (x2 + (-1))), (0, .ref (ad 15)), (1, .int p1)]) hx hb d_M_shorten_79 hl (k := 2) rfl rfl (by decide) rfl (fun ls hl => ?_)
    refine lv_goto (tgt := 48) hx hb d_M_shorten_82 (by decide) ?_
    exact (hC48 _ _ _ _ _ _ _ _ _ _).1 h _ _ _ hw (lv_sub hl [1, 2, 0] rfl)
  have j14 : ∀ (s0 : Int32) (M_thrown : Int32) (M_lines : Int32) (M_conflict : Int32) (M_moved : Int32) (M_equals : (Nat → Int32)) (M_counts : (Nat → Int32)) (M_literals : (Nat → Int32)) (M_values : (Nat → Int32)) (M_out : (Nat → Int32)) (H : Heap) (locs : List Loc) (ls : Array Slot), s_M_shorten_14 M_gates M_kinds M_ones M_twos p1 C48 C89 C133 post s0 M_thrown M_lines M_conflict M_moved M_equals M_counts M_literals M_values M_out → mW D A s.heap [(k_M cA ad M_thrown M_gates M_lines M_conflict M_moved M_tapeSize M_place M_found), (k_M_kinds cA ad M_kinds), (k_M_ones cA ad M_ones), (k_M_twos cA ad M_twos), (k_M_equals cA ad M_equals), (k_M_counts cA ad M_counts), (k_M_literals cA ad M_literals), (k_M_values cA ad M_values), (k_M_out cA ad M_out)] H locs → lv_has ls 5 [(0, .ref (ad 15)), (1, .int p1)] → W p l e rm_M_shorten s m [.ref (ad 15), .int p1].toArray below meth c H locs 0 0 Q (F0 m 14 ls [.int s0, .ref (ad 15)]) := by
    intro s0 M_thrown M_lines M_conflict M_moved M_equals M_counts M_literals M_values M_out H locs ls h hw hl
    unfold s_M_shorten_14 at h
    refine m_put (ws' := [(k_M cA ad s0 M_gates M_lines M_conflict M_moved M_tapeSize M_place M_found), (k_M_kinds cA ad M_kinds), (k_M_ones cA ad M_ones), (k_M_twos cA ad M_twos), (k_M_equals cA ad M_equals), (k_M_counts cA ad M_counts), (k_M_literals cA ad M_literals), (k_M_values cA ad M_values), (k_M_out cA ad M_out)]) (ci := 5) (v := .int s0) (ty := .int) (C := R_M) (T := T_M) (N := 18) hx hb hts (fun w h => List.mem_cons_of_mem _ (iw_M w h)) ty_M tyok_M nm_M hown hK.1 hw 0 rfl rfl 0 (by decide) (hg gm_567) (fun _ h9 => h9) rfl (by decide +kernel) rfl rfl (Nat.le_of_ble_eq_true rfl) rfl d_M_shorten_14 (fun H locs hw => ?_)
    refine lv_aload_n hx hb d_M_shorten_17 rfl (lv_at hl 0 rfl) ?_
    refine va_get (D := D) (ci := 5) (v := .int s0) (C := R_M) (T := T_M) (N := 18) hx hb hts (fun w h => List.mem_cons_of_mem _ (iw_M w h)) hown hK.1 hw.1 0 rfl rfl 0 (by decide) (hg gm_567) (fun _ h9 => h9) rfl d_M_shorten_18 ?_
    refine lv_if_le (tgt := 26) hx hb d_M_shorten_21 (by decide) (fun hc => ?_) (fun hc => ?_)
    · have h := h.1 hc
      refine lv_aload_n hx hb d_M_shorten_26 rfl (lv_at hl 0 rfl) ?_
      refine m_callv (hr := va_runV (As := []) (rest := []) ⟨hx, hb, hml, hown, hts⟩ (c_M_allThere l D cA ad _ s0 M_gates M_lines M_conflict M_moved M_tapeSize M_place M_found M_out _ h) (cwV 0 hts (ginV gm_662 gm_664 gs_44 gm_6 gm_665) rfl rfl rfl (by decide +kernel) ⟨Nat.le_of_ble_eq_true rfl, Nat.le_of_ble_eq_true rfl⟩) (m_preV 5 0 rfl rfl hK hw [0, 8] rfl rfl) rfl rfl hl.1 rfl (lv_room (Nat.le_of_ble_eq_true rfl)) d_M_shorten_27 ⟨Nat.zero_le _, Nat.zero_le _⟩) (w2 := (fun (u : (Nat → Int32)) => [(k_M cA ad s0 M_gates M_lines M_conflict M_moved M_tapeSize M_place M_found), (k_M_kinds cA ad M_kinds), (k_M_ones cA ad M_ones), (k_M_twos cA ad M_twos), (k_M_equals cA ad M_equals), (k_M_counts cA ad M_counts), (k_M_literals cA ad M_literals), (k_M_values cA ad M_values), (k_M_out cA ad u)])) (wr := [(k_M_kinds cA ad M_kinds), (k_M_ones cA ad M_ones), (k_M_twos cA ad M_twos), (k_M_equals cA ad M_equals), (k_M_counts cA ad M_counts), (k_M_literals cA ad M_literals), (k_M_values cA ad M_values)]) hw hA [0, 8] [1, 2, 3, 4, 5, 6, 7] [7, 0, 1, 2, 3, 4, 5, 6, 8] rfl rfl (by decide) (by decide) (by decide) (fun _ => rfl) (fun u H locs hw h => ?_)
      obtain ⟨M_out_27, rfl⟩ : ∃ z, z = u := ⟨_, rfl⟩
      have hw : mW D A s.heap [(k_M cA ad s0 M_gates M_lines M_conflict M_moved M_tapeSize M_place M_found), (k_M_kinds cA ad M_kinds), (k_M_ones cA ad M_ones), (k_M_twos cA ad M_twos), (k_M_equals cA ad M_equals), (k_M_counts cA ad M_counts), (k_M_literals cA ad M_literals), (k_M_values cA ad M_values), (k_M_out cA ad M_out_27)] H locs := hw
      refine lv_aload_n hx hb d_M_shorten_30 rfl (lv_at hl 0 rfl) ?_
      refine lv_iload_n hx hb d_M_shorten_31 rfl (lv_at hl 1 rfl) ?_
      refine m_calli (hr := va_runV (As := [.int p1]) (rest := []) ⟨hx, hb, hml, hown, hts⟩ (c_M_bad l D cA ad _ s0 M_gates M_lines M_conflict M_moved M_tapeSize M_place M_found M_kinds M_ones M_twos M_equals M_counts M_literals M_values M_out_27 p1 _ h) (cwV 1 hts (ginV gm_666 gm_668 gs_45 gm_6 gm_669) rfl rfl rfl (by decide +kernel) ⟨Nat.le_of_ble_eq_true rfl, Nat.le_of_ble_eq_true rfl⟩) (m_preV 5 0 rfl rfl hK hw [0, 1, 2, 3, 4, 5, 6, 7, 8] rfl rfl) rfl rfl hl.1 rfl (lv_room (Nat.le_of_ble_eq_true rfl)) d_M_shorten_32 ⟨Nat.zero_le _, Nat.zero_le _⟩) (w2 := (fun (u : Int32 × Int32 × (Nat → Int32)) => [(k_M cA ad s0 M_gates M_lines u.1 u.2.1 M_tapeSize M_place M_found), (k_M_kinds cA ad M_kinds), (k_M_ones cA ad M_ones), (k_M_twos cA ad M_twos), (k_M_equals cA ad M_equals), (k_M_counts cA ad M_counts), (k_M_literals cA ad M_literals), (k_M_values cA ad u.2.2), (k_M_out cA ad M_out_27)])) (wr := []) hw hA [0, 1, 2, 3, 4, 5, 6, 7, 8] [] [0, 1, 2, 3, 4, 5, 6, 7, 8] rfl rfl (by decide) (by decide) (by decide) (fun _ => rfl) (fun r32 u H locs hw h => ?_)
      obtain ⟨M_conflict_32, M_moved_32, M_values_32⟩ := u
      have hw : mW D A s.heap [(k_M cA ad s0 M_gates M_lines M_conflict_32 M_moved_32 M_tapeSize M_place M_found), (k_M_kinds cA ad M_kinds), (k_M_ones cA ad M_ones), (k_M_twos cA ad M_twos), (k_M_equals cA ad M_equals), (k_M_counts cA ad M_counts), (k_M_literals cA ad M_literals), (k_M_values cA ad M_values_32), (k_M_out cA ad M_out_27)] H locs := hw
      refine lv_iconst (v := (-1)) hx hb d_M_shorten_35 (by decide) ?_
      refine lv_icmp_eq (tgt := 41) hx hb d_M_shorten_36 (by decide) (fun hc => ?_) (fun hc => ?_)
      · have h := h.1 hc
        refine lv_aload_n hx hb d_M_shorten_41 rfl (lv_at hl 0 rfl) ?_
        refine va_get (D := D) (ci := 5) (v := .int M_lines) (C := R_M) (T := T_M) (N := 18) hx hb hts (fun w h => List.mem_cons_of_mem _ (iw_M w h)) hown hK.1 hw.1 0 rfl rfl 8 (by decide) (hg gm_575) (fun _ h9 => h9) rfl d_M_shorten_42 ?_
        refine lv_iconst (v := 1) hx hb d_M_shorten_45 (by decide) ?_
        refine lv_isub hx hb d_M_shorten_46 ?_
        refine lv_istore_n (lv' := [(2, .int (M_lines - 1)), (0, .ref (ad 15)), (1, .int p1)]) hx hb d_M_shorten_47 rfl hl (by decide) rfl (fun ls hl => ?_)
        exact (hC48 _ _ _ _ _ _ _ _ _ _).1 h _ _ _ hw (lv_sub hl [1, 2, 0] rfl)
      · have h := h.2 hc
        refine lv_iconst (v := (-1)) hx hb d_M_shorten_39 (by decide) ?_
        exact hE (-1) (s0, M_lines, M_conflict_32, M_moved_32, M_equals, M_counts, M_literals, M_values_32, M_out_27) _ _ _ _ h hw d_M_shorten_40
    · have h := h.2 hc
      refine lv_iconst (v := 0) hx hb d_M_shorten_24 (by decide) ?_
      exact hE 0 (s0, M_lines, M_conflict, M_moved, M_equals, M_counts, M_literals, M_values, M_out) _ _ _ _ h hw d_M_shorten_25
  have hc48 : ∀ (x2 : Int32) (M_thrown : Int32) (M_lines : Int32) (M_conflict : Int32) (M_moved : Int32) (M_equals : (Nat → Int32)) (M_counts : (Nat → Int32)) (M_literals : (Nat → Int32)) (M_values : (Nat → Int32)) (M_out : (Nat → Int32)), s_M_shorten_48 M_gates M_kinds M_ones M_twos p1 C48 C89 C133 post x2 M_thrown M_lines M_conflict M_moved M_equals M_counts M_literals M_values M_out → C48 x2 M_thrown M_lines M_conflict M_moved M_equals M_counts M_literals M_values M_out := by
    intro x2 M_thrown M_lines M_conflict M_moved M_equals M_counts M_literals M_values M_out h
    unfold s_M_shorten_48 at h
    refine (hC48 _ _ _ _ _ _ _ _ _ _).2 ?_
    intro H locs ls hw hl
    refine lv_iload_n hx hb d_M_shorten_48 rfl (lv_at hl 2 rfl) ?_
    refine lv_if_lt (tgt := 85) hx hb d_M_shorten_49 (by decide) (fun hc => ?_) (fun hc => ?_)
    · have h := h.1 hc
      refine lv_iconst (v := 0) hx hb d_M_shorten_85 (by decide) ?_
      refine lv_istore_n (lv' := [(2, .int 0), (0, .ref (ad 15)), (1, .int p1)]) hx hb d_M_shorten_86 rfl hl (by decide) rfl (fun ls hl => ?_)
      refine lv_iconst (v := 0) hx hb d_M_shorten_87 (by decide) ?_
      refine lv_istore_n (lv' := [(3, .int 0), (2, .int 0), (0, .ref (ad 15)), (1, .int p1)]) hx hb d_M_shorten_88 rfl hl (by decide) rfl (fun ls hl => ?_)
      exact (hC89 _ _ _ _ _ _ _ _ _ _ _).1 h _ _ _ hw (lv_sub hl [2, 1, 0] rfl)
    · have h := h.2 hc
      refine lv_aload_n hx hb d_M_shorten_52 rfl (lv_at hl 0 rfl) ?_
      refine va_get (D := D) (ci := 5) (v := .ref (ad 25)) (C := R_M) (T := T_M) (N := 18) hx hb hts (fun w h => List.mem_cons_of_mem _ (iw_M w h)) hown hK.1 hw.1 0 rfl rfl 16 (by decide) (hg gm_583) (fun _ h9 => h9) rfl d_M_shorten_53 ?_
      refine lv_iload_n hx hb d_M_shorten_56 rfl (lv_at hl 2 rfl) ?_
      refine lv_iconst (v := 1) hx hb d_M_shorten_57 (by decide) ?_
      refine m_zast (ws' := [(k_M cA ad M_thrown M_gates M_lines M_conflict M_moved M_tapeSize M_place M_found), (k_M_kinds cA ad M_kinds), (k_M_ones cA ad M_ones), (k_M_twos cA ad M_twos), (k_M_equals cA ad M_equals), (k_M_counts cA ad M_counts), (k_M_literals cA ad M_literals), (k_M_values cA ad M_values), (k_M_out cA ad (upd M_out x2.toNatClampNeg (vp_nar .boolean 1)))]) hx hb hK.1 hw 8 1 rfl rfl h.1 rfl d_M_shorten_58 (fun H locs hw => ?_)
      have h := h.2
      refine lv_aload_n hx hb d_M_shorten_59 rfl (lv_at hl 0 rfl) ?_
      refine va_get (D := D) (ci := 5) (v := .ref (ad 25)) (C := R_M) (T := T_M) (N := 18) hx hb hts (fun w h => List.mem_cons_of_mem _ (iw_M w h)) hown hK.1 hw.1 0 rfl rfl 16 (by decide) (hg gm_583) (fun _ h9 => h9) rfl d_M_shorten_60 ?_
      refine lv_iload_n hx hb d_M_shorten_63 rfl (lv_at hl 2 rfl) ?_
      refine lv_aload_n hx hb d_M_shorten_64 rfl (lv_at hl 0 rfl) ?_
      refine lv_iload_n hx hb d_M_shorten_65 rfl (lv_at hl 1 rfl) ?_
      refine m_calli (hr := va_runV (As := [.int p1]) (rest := [.int x2, .ref (ad 25)]) ⟨hx, hb, hml, hown, hts⟩ (c_M_bad l D cA ad _ M_thrown M_gates M_lines M_conflict M_moved M_tapeSize M_place M_found M_kinds M_ones M_twos M_equals M_counts M_literals M_values (upd M_out x2.toNatClampNeg (vp_nar .boolean 1)) p1 _ h) (cwV 1 hts (ginV gm_666 gm_668 gs_45 gm_6 gm_669) rfl rfl rfl (by decide +kernel) ⟨Nat.le_of_ble_eq_true rfl, Nat.le_of_ble_eq_true rfl⟩) (m_preV 5 0 rfl rfl hK hw [0, 1, 2, 3, 4, 5, 6, 7, 8] rfl rfl) rfl rfl hl.1 rfl (lv_room (Nat.le_of_ble_eq_true rfl)) d_M_shorten_66 ⟨Nat.zero_le _, Nat.zero_le _⟩) (w2 := (fun (u : Int32 × Int32 × (Nat → Int32)) => [(k_M cA ad M_thrown M_gates M_lines u.1 u.2.1 M_tapeSize M_place M_found), (k_M_kinds cA ad M_kinds), (k_M_ones cA ad M_ones), (k_M_twos cA ad M_twos), (k_M_equals cA ad M_equals), (k_M_counts cA ad M_counts), (k_M_literals cA ad M_literals), (k_M_values cA ad u.2.2), (k_M_out cA ad (upd M_out x2.toNatClampNeg (vp_nar .boolean 1)))])) (wr := []) hw hA [0, 1, 2, 3, 4, 5, 6, 7, 8] [] [0, 1, 2, 3, 4, 5, 6, 7, 8] rfl rfl (by decide) (by decide) (by decide) (fun _ => rfl) (fun r66 u H locs hw h => ?_)
      obtain ⟨M_conflict_66, M_moved_66, M_values_66⟩ := u
      have hw : mW D A s.heap [(k_M cA ad M_thrown M_gates M_lines M_conflict_66 M_moved_66 M_tapeSize M_place M_found), (k_M_kinds cA ad M_kinds), (k_M_ones cA ad M_ones), (k_M_twos cA ad M_twos), (k_M_equals cA ad M_equals), (k_M_counts cA ad M_counts), (k_M_literals cA ad M_literals), (k_M_values cA ad M_values_66), (k_M_out cA ad (upd M_out x2.toNatClampNeg (vp_nar .boolean 1)))] H locs := hw
      refine lv_iconst (v := (-1)) hx hb d_M_shorten_69 (by decide) ?_
      refine lv_icmp_ne (tgt := 77) hx hb d_M_shorten_70 (by decide) (fun hc => ?_) (fun hc => ?_)
      · have h := h.2 hc
        refine lv_iconst (v := 0) hx hb d_M_shorten_77 (by decide) ?_
        exact j78 _ _ _ _ _ _ _ _ _ _ _ _ _ _ _ h hw (lv_sub hl [0, 1, 2] rfl)
      · have h := h.1 hc
        refine lv_iconst (v := 1) hx hb d_M_shorten_73 (by decide) ?_
        refine lv_goto (tgt := 78) hx hb d_M_shorten_74 (by decide) ?_
        exact j78 _ _ _ _ _ _ _ _ _ _ _ _ _ _ _ h hw (lv_sub hl [0, 1, 2] rfl)
  have hc89 : ∀ (x2 : Int32) (x3 : Int32) (M_thrown : Int32) (M_lines : Int32) (M_conflict : Int32) (M_moved : Int32) (M_equals : (Nat → Int32)) (M_counts : (Nat → Int32)) (M_literals : (Nat → Int32)) (M_values : (Nat → Int32)) (M_out : (Nat → Int32)), s_M_shorten_89 M_gates M_kinds M_ones M_twos p1 C48 C89 C133 post x2 x3 M_thrown M_lines M_conflict M_moved M_equals M_counts M_literals M_values M_out → C89 x2 x3 M_thrown M_lines M_conflict M_moved M_equals M_counts M_literals M_values M_out := by
    intro x2 x3 M_thrown M_lines M_conflict M_moved M_equals M_counts M_literals M_values M_out h
    unfold s_M_shorten_89 at h
    refine (hC89 _ _ _ _ _ _ _ _ _ _ _).2 ?_
    intro H locs ls hw hl
    refine lv_iload_n hx hb d_M_shorten_89 rfl (lv_at hl 2 rfl) ?_
    refine lv_aload_n hx hb d_M_shorten_90 rfl (lv_at hl 0 rfl) ?_
    refine va_get (D := D) (ci := 5) (v := .int M_lines) (C := R_M) (T := T_M) (N := 18) hx hb hts (fun w h => List.mem_cons_of_mem _ (iw_M w h)) hown hK.1 hw.1 0 rfl rfl 8 (by decide) (hg gm_575) (fun _ h9 => h9) rfl d_M_shorten_91 ?_
    refine lv_icmp_ge (tgt := 179) hx hb d_M_shorten_94 (by decide) (fun hc => ?_) (fun hc => ?_)
    · have h := h.1 hc
      refine lv_aload_n hx hb d_M_shorten_179 rfl (lv_at hl 0 rfl) ?_
      refine lv_iload_n hx hb d_M_shorten_180 rfl (lv_at hl 1 rfl) ?_
      refine m_put (ws' := [(k_M cA ad M_thrown M_gates x2 M_conflict M_moved M_tapeSize M_place M_found), (k_M_kinds cA ad M_kinds), (k_M_ones cA ad M_ones), (k_M_twos cA ad M_twos), (k_M_equals cA ad M_equals), (k_M_counts cA ad M_counts), (k_M_literals cA ad M_literals), (k_M_values cA ad M_values), (k_M_out cA ad M_out)]) (ci := 5) (v := .int x2) (ty := .int) (C := R_M) (T := T_M) (N := 18) hx hb hts (fun w h => List.mem_cons_of_mem _ (iw_M w h)) ty_M tyok_M nm_M hown hK.1 hw 0 rfl rfl 8 (by decide) (hg gm_575) (fun _ h9 => h9) rfl (by decide +kernel) rfl rfl (Nat.le_of_ble_eq_true rfl) rfl d_M_shorten_181 (fun H locs hw => ?_)
      refine lv_iload_n hx hb d_M_shorten_184 rfl (lv_at hl 1 rfl) ?_
      exact hE x2 (M_thrown, x2, M_conflict, M_moved, M_equals, M_counts, M_literals, M_values, M_out) _ _ _ _ h hw d_M_shorten_185
    · have h := h.2 hc
      refine lv_aload_n hx hb d_M_shorten_97 rfl (lv_at hl 0 rfl) ?_
      refine va_get (D := D) (ci := 5) (v := .ref (ad 25)) (C := R_M) (T := T_M) (N := 18) hx hb hts (fun w h => List.mem_cons_of_mem _ (iw_M w h)) hown hK.1 hw.1 0 rfl rfl 16 (by decide) (hg gm_583) (fun _ h9 => h9) rfl d_M_shorten_98 ?_
      refine lv_iload_n hx hb d_M_shorten_101 rfl (lv_at hl 2 rfl) ?_
      refine va_zald hx hb hK.1 hw.1 8 1 rfl rfl h.1 d_M_shorten_102 ?_
      have h := h.2
      refine lv_if_ne (tgt := 173) hx hb d_M_shorten_103 (by decide) (fun hc => ?_) (fun hc => ?_)
      · have h := h.2 hc
        exact j173 _ _ _ _ _ _ _ _ _ _ _ _ _ _ h hw (lv_sub hl [0, 1, 2] rfl)
      · have h := h.1 hc
        refine lv_aload_n hx hb d_M_shorten_106 rfl (lv_at hl 0 rfl) ?_
        refine va_get (D := D) (ci := 5) (v := .ref (ad 19)) (C := R_M) (T := T_M) (N := 18) hx hb hts (fun w h => List.mem_cons_of_mem _ (iw_M w h)) hown hK.1 hw.1 0 rfl rfl 5 (by decide) (hg gm_572) (fun _ h9 => h9) rfl d_M_shorten_107 ?_
        refine lv_iload_n hx hb d_M_shorten_110 rfl (lv_at hl 1 rfl) ?_
        refine lv_aload_n hx hb d_M_shorten_111 rfl (lv_at hl 0 rfl) ?_
        refine va_get (D := D) (ci := 5) (v := .ref (ad 19)) (C := R_M) (T := T_M) (N := 18) hx hb hts (fun w h => List.mem_cons_of_mem _ (iw_M w h)) hown hK.1 hw.1 0 rfl rfl 5 (by decide) (hg gm_572) (fun _ h9 => h9) rfl d_M_shorten_112 ?_
        refine lv_iload_n hx hb d_M_shorten_115 rfl (lv_at hl 2 rfl) ?_
        refine va_zald hx hb hK.1 hw.1 4 1 rfl rfl h.1 d_M_shorten_116 ?_
        have h := h.2
        refine m_zast (ws' := [(k_M cA ad M_thrown M_gates M_lines M_conflict M_moved M_tapeSize M_place M_found), (k_M_kinds cA ad M_kinds), (k_M_ones cA ad M_ones), (k_M_twos cA ad M_twos), (k_M_equals cA ad (upd M_equals x2.toNatClampNeg (vp_nar .boolean (M_equals x3.toNatClampNeg)))), (k_M_counts cA ad M_counts), (k_M_literals cA ad M_literals), (k_M_values cA ad M_values), (k_M_out cA ad M_out)]) hx hb hK.1 hw 4 1 rfl rfl h.1 rfl d_M_shorten_117 (fun H locs hw => ?_)
        have h := h.2
        refine lv_aload_n hx hb d_M_shorten_118 rfl (lv_at hl 0 rfl) ?_
        refine va_get (D := D) (ci := 5) (v := .ref (ad 20)) (C := R_M) (T := T_M) (N := 18) hx hb hts (fun w h => List.mem_cons_of_mem _ (iw_M w h)) hown hK.1 hw.1 0 rfl rfl 6 (by decide) (hg gm_573) (fun _ h9 => h9) rfl d_M_shorten_119 ?_
        refine lv_iload_n hx hb d_M_shorten_122 rfl (lv_at hl 1 rfl) ?_
        refine lv_aload_n hx hb d_M_shorten_123 rfl (lv_at hl 0 rfl) ?_
        refine va_get (D := D) (ci := 5) (v := .ref (ad 20)) (C := R_M) (T := T_M) (N := 18) hx hb hts (fun w h => List.mem_cons_of_mem _ (iw_M w h)) hown hK.1 hw.1 0 rfl rfl 6 (by decide) (hg gm_573) (fun _ h9 => h9) rfl d_M_shorten_124 ?_
        refine lv_iload_n hx hb d_M_shorten_127 rfl (lv_at hl 2 rfl) ?_
        refine va_iald hx hb hK.1 hw.1 5 0 rfl rfl h.1 d_M_shorten_128 ?_
        have h := h.2
        refine m_iast (ws' := [(k_M cA ad M_thrown M_gates M_lines M_conflict M_moved M_tapeSize M_place M_found), (k_M_kinds cA ad M_kinds), (k_M_ones cA ad M_ones), (k_M_twos cA ad M_twos), (k_M_equals cA ad (upd M_equals x2.toNatClampNeg (vp_nar .boolean (M_equals x3.toNatClampNeg)))), (k_M_counts cA ad (upd M_counts x2.toNatClampNeg (M_counts x3.toNatClampNeg))), (k_M_literals cA ad M_literals), (k_M_values cA ad M_values), (k_M_out cA ad M_out)]) hx hb hK.1 hw 5 0 rfl rfl h.1 rfl d_M_shorten_129 (fun H locs hw => ?_)
        have h := h.2
        refine lv_iconst (v := 0) hx hb d_M_shorten_130 (by decide) ?_
        refine lv_istore (lv' := [(4, .int 0), (0, .ref (ad 15)), (2, .int x2), (3, .int x3)]) hx hb d_M_shorten_131 hl (by decide) rfl (fun ls hl => ?_)
        exact (hC133 _ _ _ _ _ _ _ _ _ _ _ _).1 h _ _ _ hw (lv_sub hl [1, 2, 3, 0] rfl)
  have hc133 : ∀ (x2 : Int32) (x3 : Int32) (x4 : Int32) (M_thrown : Int32) (M_lines : Int32) (M_conflict : Int32) (M_moved : Int32) (M_equals : (Nat → Int32)) (M_counts : (Nat → Int32)) (M_literals : (Nat → Int32)) (M_values : (Nat → Int32)) (M_out : (Nat → Int32)), s_M_shorten_133 M_gates M_kinds M_ones M_twos p1 C48 C89 C133 post x2 x3 x4 M_thrown M_lines M_conflict M_moved M_equals M_counts M_literals M_values M_out → C133 x2 x3 x4 M_thrown M_lines M_conflict M_moved M_equals M_counts M_literals M_values M_out := by
    intro x2 x3 x4 M_thrown M_lines M_conflict M_moved M_equals M_counts M_literals M_values M_out h
    unfold s_M_shorten_133 at h
    refine (hC133 _ _ _ _ _ _ _ _ _ _ _ _).2 ?_
    intro H locs ls hw hl
    refine lv_iload hx hb d_M_shorten_133 (lv_at hl 3 rfl) ?_
    refine lv_bipush (v := 6) hx hb d_M_shorten_135 (by decide) ?_
    refine lv_icmp_ge (tgt := 170) hx hb d_M_shorten_137 (by decide) (fun hc => ?_) (fun hc => ?_)
    · have h := h.1 hc
      refine lv_iinc (v := (x2 + 1)) (lv' := [(2, .int (x2 + 1)), (0, .ref (ad 15)), (3, .int x3), (4, .int x4)]) hx hb d_M_shorten_170 hl (k := 1) rfl rfl (by decide) rfl (fun ls hl => ?_)
      exact j173 _ _ _ _ _ _ _ _ _ _ _ _ _ _ h hw (lv_sub hl [1, 0, 2] rfl)
    · have h := h.2 hc
      refine lv_aload_n hx hb d_M_shorten_140 rfl (lv_at hl 0 rfl) ?_
      refine va_get (D := D) (ci := 5) (v := .ref (ad 21)) (C := R_M) (T := T_M) (N := 18) hx hb hts (fun w h => List.mem_cons_of_mem _ (iw_M w h)) hown hK.1 hw.1 0 rfl rfl 7 (by decide) (hg gm_574) (fun _ h9 => h9) rfl d_M_shorten_141 ?_
      refine lv_bipush (v := 6) hx hb d_M_shorten_144 (by decide) ?_
      refine lv_iload_n hx hb d_M_shorten_146 rfl (lv_at hl 1 rfl) ?_
      refine lv_imul hx hb d_M_shorten_147 ?_
      refine lv_iload hx hb d_M_shorten_148 (lv_at hl 3 rfl) ?_
      refine lv_iadd hx hb d_M_shorten_150 ?_
      refine lv_aload_n hx hb d_M_shorten_151 rfl (lv_at hl 0 rfl) ?_
      refine va_get (D := D) (ci := 5) (v := .ref (ad 21)) (C := R_M) (T := T_M) (N := 18) hx hb hts (fun w h => List.mem_cons_of_mem _ (iw_M w h)) hown hK.1 hw.1 0 rfl rfl 7 (by decide) (hg gm_574) (fun _ h9 => h9) rfl d_M_shorten_152 ?_
      refine lv_bipush (v := 6) hx hb d_M_shorten_155 (by decide) ?_
      refine lv_iload_n hx hb d_M_shorten_157 rfl (lv_at hl 2 rfl) ?_
      refine lv_imul hx hb d_M_shorten_158 ?_
      refine lv_iload hx hb d_M_shorten_159 (lv_at hl 3 rfl) ?_
      refine lv_iadd hx hb d_M_shorten_161 ?_
      refine va_iald hx hb hK.1 hw.1 6 0 rfl rfl h.1 d_M_shorten_162 ?_
      have h := h.2
      refine m_iast (ws' := [(k_M cA ad M_thrown M_gates M_lines M_conflict M_moved M_tapeSize M_place M_found), (k_M_kinds cA ad M_kinds), (k_M_ones cA ad M_ones), (k_M_twos cA ad M_twos), (k_M_equals cA ad M_equals), (k_M_counts cA ad M_counts), (k_M_literals cA ad (upd M_literals ((6 * x2) + x4).toNatClampNeg (M_literals ((6 * x3) + x4).toNatClampNeg))), (k_M_values cA ad M_values), (k_M_out cA ad M_out)]) hx hb hK.1 hw 6 0 rfl rfl h.1 rfl d_M_shorten_163 (fun H locs hw => ?_)
      have h := h.2
      refine lv_iinc (v := (x4 + 1)) (lv' := [(4, .int (x4 + 1)), (0, .ref (ad 15)), (2, .int x2), (3, .int x3)]) hx hb d_M_shorten_164 hl (k := 3) rfl rfl (by decide) rfl (fun ls hl => ?_)
      refine lv_goto (tgt := 133) hx hb d_M_shorten_167 (by decide) ?_
      exact (hC133 _ _ _ _ _ _ _ _ _ _ _ _).1 h _ _ _ hw (lv_sub hl [1, 2, 3, 0] rfl)
  unfold wp_M_shorten at h
  have h := h C48 C89 C133 hc48 hc89 hc133
  refine lv_aload_n hx hb d_M_shorten_0 rfl (lv_at hl 0 rfl) ?_
  refine lv_aload_n hx hb d_M_shorten_1 rfl (lv_at hl 0 rfl) ?_
  refine lv_iload_n hx hb d_M_shorten_2 rfl (lv_at hl 1 rfl) ?_
  refine m_calli (hr := va_runV (As := [.int p1]) (rest := [.ref (ad 15)]) ⟨hx, hb, hml, hown, hts⟩ (c_M_isLiteral l D cA ad _ M_thrown M_gates M_lines M_conflict M_moved M_tapeSize M_place M_found p1 _ h) (cwV 1 hts (ginV gm_630 gm_632 gs_40 gm_6 gm_633) rfl rfl rfl (by decide +kernel) ⟨Nat.le_of_ble_eq_true rfl, Nat.le_of_ble_eq_true rfl⟩) (m_preV 5 0 rfl rfl hK hw [0] rfl rfl) rfl rfl hl.1 rfl (lv_room (Nat.le_of_ble_eq_true rfl)) d_M_shorten_3 ⟨Nat.zero_le _, Nat.zero_le _⟩) (w2 := (fun (_ : Unit) => [(k_M cA ad M_thrown M_gates M_lines M_conflict M_moved M_tapeSize M_place M_found), (k_M_kinds cA ad M_kinds), (k_M_ones cA ad M_ones), (k_M_twos cA ad M_twos), (k_M_equals cA ad M_equals), (k_M_counts cA ad M_counts), (k_M_literals cA ad M_literals), (k_M_values cA ad M_values), (k_M_out cA ad M_out)])) (wr := [(k_M_kinds cA ad M_kinds), (k_M_ones cA ad M_ones), (k_M_twos cA ad M_twos), (k_M_equals cA ad M_equals), (k_M_counts cA ad M_counts), (k_M_literals cA ad M_literals), (k_M_values cA ad M_values), (k_M_out cA ad M_out)]) hw hA [0] [1, 2, 3, 4, 5, 6, 7, 8] [8, 0, 1, 2, 3, 4, 5, 6, 7] rfl rfl (by decide) (by decide) (by decide) (fun _ => rfl) (fun r3 u H locs hw h => ?_)
  refine lv_if_eq (tgt := 13) hx hb d_M_shorten_6 (by decide) (fun hc => ?_) (fun hc => ?_)
  · have h := h.1 hc
    refine lv_iconst (v := 1) hx hb d_M_shorten_13 (by decide) ?_
    exact j14 _ _ _ _ _ _ _ _ _ _ _ _ _ h hw (lv_sub hl [0, 1] rfl)
  · have h := h.2 hc
    refine lv_iconst (v := 0) hx hb d_M_shorten_9 (by decide) ?_
    refine lv_goto (tgt := 14) hx hb d_M_shorten_10 (by decide) ?_
    exact j14 _ _ _ _ _ _ _ _ _ _ _ _ _ h hw (lv_sub hl [0, 1] rfl)
def rm_M_lineAt : Room := { frames := 1, cells := 0, slots := 0, locals := 21 }
set_option maxHeartbeats 4000000 in
set_option maxRecDepth 100000 in
theorem c_M_lineAt (l : Launch) (D : va_G) (cA : Nat → ClassId) (ad : Nat → Nat) (sz : Nat) (M_thrown : Int32) (M_gates : Int32) (M_lines : Int32) (M_conflict : Int32) (M_moved : Int32) (M_tapeSize : Int32) (M_place : Int32) (M_found : Int32) (M_equals : (Nat → Int32)) (M_counts : (Nat → Int32)) (M_literals : (Nat → Int32)) (p1 : Int32) (p2 : Int32) (post : Int32 → Int32 → Prop) (h : wp_M_lineAt M_thrown M_lines M_equals M_counts M_literals p1 p2 post) : Met l y_M_lineAt w_M_lineAt rm_M_lineAt (mPc D cA [.ref (ad 15), .int p1, .int p2] [(k_M cA ad M_thrown M_gates M_lines M_conflict M_moved M_tapeSize M_place M_found), (k_M_equals cA ad M_equals), (k_M_counts cA ad M_counts), (k_M_literals cA ad M_literals)] sz) (va_Qi (fun (r : Int32) (u : Int32) => post r u) (mB D (va_A [(k_M cA ad M_thrown M_gates M_lines M_conflict M_moved M_tapeSize M_place M_found), (k_M_equals cA ad M_equals), (k_M_counts cA ad M_counts), (k_M_literals cA ad M_literals)] sz) (fun (u : Int32) => [(k_M cA ad u M_gates M_lines M_conflict M_moved M_tapeSize M_place M_found), (k_M_equals cA ad M_equals), (k_M_counts cA ad M_counts), (k_M_literals cA ad M_literals)])) (va_A [(k_M cA ad M_thrown M_gates M_lines M_conflict M_moved M_tapeSize M_place M_found), (k_M_equals cA ad M_equals), (k_M_counts cA ad M_counts), (k_M_literals cA ad M_literals)] sz)) 0 0 (va_A [(k_M cA ad M_thrown M_gates M_lines M_conflict M_moved M_tapeSize M_place M_found), (k_M_equals cA ad M_equals), (k_M_counts cA ad M_counts), (k_M_literals cA ad M_literals)] sz) := by
  refine m_methI (by decide) rfl (Nat.le_of_ble_eq_true rfl) ?_
  intro p e s m below meth c A Q ls hx hb hml hown hts hK hA hw hl hE
  have hl : lv_has ls 3 [(0, .ref (ad 15)), (1, .int p1), (2, .int p2)] := hl
  have hown : s.vm.findClass R_M = some m.cls := hown
  have hg : ∀ {w : Cond}, w ∈ gw → w.before _ s = true := fun h => hts _ (List.mem_cons_of_mem _ h)
  have j30 : ∀ (s0 : Int32) (M_thrown : Int32) (H : Heap) (locs : List Loc) (ls : Array Slot), s_M_lineAt_30 M_lines M_equals M_counts M_literals p1 p2 post s0 M_thrown → mW D A s.heap [(k_M cA ad M_thrown M_gates M_lines M_conflict M_moved M_tapeSize M_place M_found), (k_M_equals cA ad M_equals), (k_M_counts cA ad M_counts), (k_M_literals cA ad M_literals)] H locs → lv_has ls 3 [(0, .ref (ad 15)), (1, .int p1), (2, .int p2)] → W p l e rm_M_lineAt s m [.ref (ad 15), .int p1, .int p2].toArray below meth c H locs 0 0 Q (F0 m 30 ls [.int s0, .ref (ad 15)]) := by
    intro s0 M_thrown H locs ls h hw hl
    unfold s_M_lineAt_30 at h
    refine m_put (ws' := [(k_M cA ad s0 M_gates M_lines M_conflict M_moved M_tapeSize M_place M_found), (k_M_equals cA ad M_equals), (k_M_counts cA ad M_counts), (k_M_literals cA ad M_literals)]) (ci := 5) (v := .int s0) (ty := .int) (C := R_M) (T := T_M) (N := 18) hx hb hts (fun w h => List.mem_cons_of_mem _ (iw_M w h)) ty_M tyok_M nm_M hown hK.1 hw 0 rfl rfl 0 (by decide) (hg gm_567) (fun _ h9 => h9) rfl (by decide +kernel) rfl rfl (Nat.le_of_ble_eq_true rfl) rfl d_M_lineAt_30 (fun H locs hw => ?_)
    refine lv_aload_n hx hb d_M_lineAt_33 rfl (lv_at hl 0 rfl) ?_
    refine va_get (D := D) (ci := 5) (v := .int s0) (C := R_M) (T := T_M) (N := 18) hx hb hts (fun w h => List.mem_cons_of_mem _ (iw_M w h)) hown hK.1 hw.1 0 rfl rfl 0 (by decide) (hg gm_567) (fun _ h9 => h9) rfl d_M_lineAt_34 ?_
    refine lv_if_le (tgt := 42) hx hb d_M_lineAt_37 (by decide) (fun hc => ?_) (fun hc => ?_)
    · have h := h.1 hc
      refine lv_iload_n hx hb d_M_lineAt_42 rfl (lv_at hl 2 rfl) ?_
      refine lv_if_ne (tgt := 63) hx hb d_M_lineAt_43 (by decide) (fun hc => ?_) (fun hc => ?_)
      · have h := h.2 hc
        refine lv_iload_n hx hb d_M_lineAt_63 rfl (lv_at hl 2 rfl) ?_
        refine lv_iconst (v := 1) hx hb d_M_lineAt_64 (by decide) ?_
        refine lv_icmp_ne (tgt := 77) hx hb d_M_lineAt_65 (by decide) (fun hc => ?_) (fun hc => ?_)
        · have h := h.2 hc
          refine lv_aload_n hx hb d_M_lineAt_77 rfl (lv_at hl 0 rfl) ?_
          refine va_get (D := D) (ci := 5) (v := .ref (ad 21)) (C := R_M) (T := T_M) (N := 18) hx hb hts (fun w h => List.mem_cons_of_mem _ (iw_M w h)) hown hK.1 hw.1 0 rfl rfl 7 (by decide) (hg gm_574) (fun _ h9 => h9) rfl d_M_lineAt_78 ?_
          refine lv_bipush (v := 6) hx hb d_M_lineAt_81 (by decide) ?_
          refine lv_iload_n hx hb d_M_lineAt_83 rfl (lv_at hl 1 rfl) ?_
          refine lv_imul hx hb d_M_lineAt_84 ?_
          refine lv_iload_n hx hb d_M_lineAt_85 rfl (lv_at hl 2 rfl) ?_
          refine lv_iadd hx hb d_M_lineAt_86 ?_
          refine lv_iconst (v := 2) hx hb d_M_lineAt_87 (by decide) ?_
          refine lv_isub hx hb d_M_lineAt_88 ?_
          refine va_iald hx hb hK.1 hw.1 3 0 rfl rfl h.1 d_M_lineAt_89 ?_
          have h := h.2
          exact hE (M_literals (((6 * p1) + p2) - 2).toNatClampNeg) (s0) _ _ _ _ h hw d_M_lineAt_90
        · have h := h.1 hc
          refine lv_aload_n hx hb d_M_lineAt_68 rfl (lv_at hl 0 rfl) ?_
          refine va_get (D := D) (ci := 5) (v := .ref (ad 20)) (C := R_M) (T := T_M) (N := 18) hx hb hts (fun w h => List.mem_cons_of_mem _ (iw_M w h)) hown hK.1 hw.1 0 rfl rfl 6 (by decide) (hg gm_573) (fun _ h9 => h9) rfl d_M_lineAt_69 ?_
          refine lv_iload_n hx hb d_M_lineAt_72 rfl (lv_at hl 1 rfl) ?_
          refine va_iald hx hb hK.1 hw.1 2 0 rfl rfl h.1 d_M_lineAt_73 ?_
          have h := h.2
          refine lv_goto (tgt := 90) hx hb d_M_lineAt_74 (by decide) ?_
          exact hE (M_counts p1.toNatClampNeg) (s0) _ _ _ _ h hw d_M_lineAt_90
      · have h := h.1 hc
        refine lv_aload_n hx hb d_M_lineAt_46 rfl (lv_at hl 0 rfl) ?_
        refine va_get (D := D) (ci := 5) (v := .ref (ad 19)) (C := R_M) (T := T_M) (N := 18) hx hb hts (fun w h => List.mem_cons_of_mem _ (iw_M w h)) hown hK.1 hw.1 0 rfl rfl 5 (by decide) (hg gm_572) (fun _ h9 => h9) rfl d_M_lineAt_47 ?_
        refine lv_iload_n hx hb d_M_lineAt_50 rfl (lv_at hl 1 rfl) ?_
        refine va_zald hx hb hK.1 hw.1 1 1 rfl rfl h.1 d_M_lineAt_51 ?_
        have h := h.2
        refine lv_if_eq (tgt := 59) hx hb d_M_lineAt_52 (by decide) (fun hc => ?_) (fun hc => ?_)
        · have h := h.1 hc
          refine lv_iconst (v := 0) hx hb d_M_lineAt_59 (by decide) ?_
          refine lv_goto (tgt := 90) hx hb d_M_lineAt_60 (by decide) ?_
          exact hE 0 (s0) _ _ _ _ h hw d_M_lineAt_90
        · have h := h.2 hc
          refine lv_iconst (v := 1) hx hb d_M_lineAt_55 (by decide) ?_
          refine lv_goto (tgt := 90) hx hb d_M_lineAt_56 (by decide) ?_
          exact hE 1 (s0) _ _ _ _ h hw d_M_lineAt_90
    · have h := h.2 hc
      refine lv_iconst (v := 0) hx hb d_M_lineAt_40 (by decide) ?_
      exact hE 0 (s0) _ _ _ _ h hw d_M_lineAt_41
  have j29 : ∀ (M_thrown : Int32) (H : Heap) (locs : List Loc) (ls : Array Slot), s_M_lineAt_29 M_lines M_equals M_counts M_literals p1 p2 post M_thrown → mW D A s.heap [(k_M cA ad M_thrown M_gates M_lines M_conflict M_moved M_tapeSize M_place M_found), (k_M_equals cA ad M_equals), (k_M_counts cA ad M_counts), (k_M_literals cA ad M_literals)] H locs → lv_has ls 3 [(0, .ref (ad 15)), (1, .int p1), (2, .int p2)] → W p l e rm_M_lineAt s m [.ref (ad 15), .int p1, .int p2].toArray below meth c H locs 0 0 Q (F0 m 29 ls [.ref (ad 15)]) := by
    intro M_thrown H locs ls h hw hl
    unfold s_M_lineAt_29 at h
    refine lv_iconst (v := 1) hx hb d_M_lineAt_29 (by decide) ?_
    exact j30 _ _ _ _ _ h hw (lv_sub hl [0, 1, 2] rfl)
  unfold wp_M_lineAt at h
  refine lv_aload_n hx hb d_M_lineAt_0 rfl (lv_at hl 0 rfl) ?_
  refine lv_aload_n hx hb d_M_lineAt_1 rfl (lv_at hl 0 rfl) ?_
  refine lv_iload_n hx hb d_M_lineAt_2 rfl (lv_at hl 1 rfl) ?_
  refine m_calli (hr := va_runV (As := [.int p1]) (rest := [.ref (ad 15)]) ⟨hx, hb, hml, hown, hts⟩ (c_M_isLine l D cA ad _ M_thrown M_gates M_lines M_conflict M_moved M_tapeSize M_place M_found p1 _ h) (cwV 1 hts (ginV gm_642 gm_644 gs_41 gm_6 gm_645) rfl rfl rfl (by decide +kernel) ⟨Nat.le_of_ble_eq_true rfl, Nat.le_of_ble_eq_true rfl⟩) (m_preV 5 0 rfl rfl hK hw [0] rfl rfl) rfl rfl hl.1 rfl (lv_room (Nat.le_of_ble_eq_true rfl)) d_M_lineAt_3 ⟨Nat.zero_le _, Nat.zero_le _⟩) (w2 := (fun (_ : Unit) => [(k_M cA ad M_thrown M_gates M_lines M_conflict M_moved M_tapeSize M_place M_found), (k_M_equals cA ad M_equals), (k_M_counts cA ad M_counts), (k_M_literals cA ad M_literals)])) (wr := [(k_M_equals cA ad M_equals), (k_M_counts cA ad M_counts), (k_M_literals cA ad M_literals)]) hw hA [0] [1, 2, 3] [3, 0, 1, 2] rfl rfl (by decide) (by decide) (by decide) (fun _ => rfl) (fun r3 u H locs hw h => ?_)
  refine lv_if_eq (tgt := 29) hx hb d_M_lineAt_6 (by decide) (fun hc => ?_) (fun hc => ?_)
  · have h := h.1 hc
    exact j29 _ _ _ _ h hw (lv_sub hl [0, 1, 2] rfl)
  · have h := h.2 hc
    refine lv_iload_n hx hb d_M_lineAt_9 rfl (lv_at hl 2 rfl) ?_
    refine lv_if_lt (tgt := 29) hx hb d_M_lineAt_10 (by decide) (fun hc => ?_) (fun hc => ?_)
    · have h := h.1 hc
      exact j29 _ _ _ _ h hw (lv_sub hl [0, 1, 2] rfl)
    · have h := h.2 hc
      refine lv_iload_n hx hb d_M_lineAt_13 rfl (lv_at hl 2 rfl) ?_
      refine lv_aload_n hx hb d_M_lineAt_14 rfl (lv_at hl 0 rfl) ?_
      refine va_get (D := D) (ci := 5) (v := .ref (ad 20)) (C := R_M) (T := T_M) (N := 18) hx hb hts (fun w h => List.mem_cons_of_mem _ (iw_M w h)) hown hK.1 hw.1 0 rfl rfl 6 (by decide) (hg gm_573) (fun _ h9 => h9) rfl d_M_lineAt_15 ?_
      refine lv_iload_n hx hb d_M_lineAt_18 rfl (lv_at hl 1 rfl) ?_
      refine va_iald hx hb hK.1 hw.1 2 0 rfl rfl h.1 d_M_lineAt_19 ?_
      have h := h.2
      refine lv_iconst (v := 2) hx hb d_M_lineAt_20 (by decide) ?_
      refine lv_iadd hx hb d_M_lineAt_21 ?_
      refine lv_icmp_ge (tgt := 29) hx hb d_M_lineAt_22 (by decide) (fun hc => ?_) (fun hc => ?_)
      · have h := h.1 hc
        exact j29 _ _ _ _ h hw (lv_sub hl [0, 1, 2] rfl)
      · have h := h.2 hc
        refine lv_iconst (v := 0) hx hb d_M_lineAt_25 (by decide) ?_
        refine lv_goto (tgt := 30) hx hb d_M_lineAt_26 (by decide) ?_
        exact j30 _ _ _ _ _ h hw (lv_sub hl [0, 1, 2] rfl)
def rm_M_holds : Room := { frames := 1, cells := 0, slots := 0, locals := 22 }
set_option maxHeartbeats 4000000 in
set_option maxRecDepth 100000 in
theorem c_M_holds (l : Launch) (D : va_G) (cA : Nat → ClassId) (ad : Nat → Nat) (sz : Nat) (M_thrown : Int32) (M_gates : Int32) (M_lines : Int32) (M_conflict : Int32) (M_moved : Int32) (M_tapeSize : Int32) (M_place : Int32) (M_found : Int32) (M_kinds : (Nat → Int32)) (M_ones : (Nat → Int32)) (M_twos : (Nat → Int32)) (M_values : (Nat → Int32)) (p1 : Int32) (p2 : Int64) (post : Int32 → Int32 → (Nat → Int32) → Prop) (h : wp_M_holds M_thrown M_gates M_kinds M_ones M_twos M_values p1 p2 post) : Met l y_M_holds w_M_holds rm_M_holds (mPc D cA [.ref (ad 15), .int p1, .long p2] [(k_M cA ad M_thrown M_gates M_lines M_conflict M_moved M_tapeSize M_place M_found), (k_M_kinds cA ad M_kinds), (k_M_ones cA ad M_ones), (k_M_twos cA ad M_twos), (k_M_values cA ad M_values)] sz) (va_Qi (fun (r : Int32) (u : Int32 × (Nat → Int32)) => post r u.1 u.2) (mB D (va_A [(k_M cA ad M_thrown M_gates M_lines M_conflict M_moved M_tapeSize M_place M_found), (k_M_kinds cA ad M_kinds), (k_M_ones cA ad M_ones), (k_M_twos cA ad M_twos), (k_M_values cA ad M_values)] sz) (fun (u : Int32 × (Nat → Int32)) => [(k_M cA ad u.1 M_gates M_lines M_conflict M_moved M_tapeSize M_place M_found), (k_M_kinds cA ad M_kinds), (k_M_ones cA ad M_ones), (k_M_twos cA ad M_twos), (k_M_values cA ad u.2)])) (va_A [(k_M cA ad M_thrown M_gates M_lines M_conflict M_moved M_tapeSize M_place M_found), (k_M_kinds cA ad M_kinds), (k_M_ones cA ad M_ones), (k_M_twos cA ad M_twos), (k_M_values cA ad M_values)] sz)) 0 0 (va_A [(k_M cA ad M_thrown M_gates M_lines M_conflict M_moved M_tapeSize M_place M_found), (k_M_kinds cA ad M_kinds), (k_M_ones cA ad M_ones), (k_M_twos cA ad M_twos), (k_M_values cA ad M_values)] sz) := by
  refine m_methZ (by decide) rfl (Nat.le_of_ble_eq_true rfl) ?_
  intro p e s m below meth c A Q ls hx hb hml hown hts hK hA hw hl hE
  have hl : lv_has ls 6 [(0, .ref (ad 15)), (1, .int p1), (2, .long p2)] := hl
  have hown : s.vm.findClass R_M = some m.cls := hown
  have hg : ∀ {w : Cond}, w ∈ gw → w.before _ s = true := fun h => hts _ (List.mem_cons_of_mem _ h)
  obtain ⟨C39, hC39⟩ : ∃ C : Int32 → Int32 → Int32 → (Nat → Int32) → Prop, ∀ (x4 : Int32) (x5 : Int32) (M_thrown : Int32) (M_values : (Nat → Int32)), C x4 x5 M_thrown M_values ↔ (∀ (H : Heap) (locs : List Loc) (ls : Array Slot), mW D A s.heap [(k_M cA ad M_thrown M_gates M_lines M_conflict M_moved M_tapeSize M_place M_found), (k_M_kinds cA ad M_kinds), (k_M_ones cA ad M_ones), (k_M_twos cA ad M_twos), (k_M_values cA ad M_values)] H locs → lv_has ls 6 [(0, .ref (ad 15)), (1, .int p1), (2, .long p2), (4, .int x4), (5, .int x5)] → W p l e rm_M_holds s m [.ref (ad 15), .int p1, .long p2].toArray below meth c H locs 0 0 Q (F0 m 39 ls [])) := ⟨_, fun _ _ _ _ => Iff.rfl⟩
  have j145 : ∀ (x4 : Int32) (x5 : Int32) (M_thrown : Int32) (M_values : (Nat → Int32)) (H : Heap) (locs : List Loc) (ls : Array Slot), s_M_holds_145 M_gates M_kinds M_ones M_twos p1 p2 C39 post x4 x5 M_thrown M_values → mW D A s.heap [(k_M cA ad M_thrown M_gates M_lines M_conflict M_moved M_tapeSize M_place M_found), (k_M_kinds cA ad M_kinds), (k_M_ones cA ad M_ones), (k_M_twos cA ad M_twos), (k_M_values cA ad M_values)] H locs → lv_has ls 6 [(0, .ref (ad 15)), (1, .int p1), (2, .long p2), (4, .int x4), (5, .int x5)] → W p l e rm_M_holds s m [.ref (ad 15), .int p1, .long p2].toArray below meth c H locs 0 0 Q (F0 m 145 ls []) := by
    intro x4 x5 M_thrown M_values H locs ls h hw hl
    unfold s_M_holds_145 at h
    refine lv_iinc (v := (x5 + 1)) (lv' := [(5, .int (x5 + 1)), (0, .ref (ad 15)), (1, .int p1), (2, .long p2), (4, .int x4)]) hx hb d_M_holds_145 hl (k := 4) rfl rfl (by decide) rfl (fun ls hl => ?_)
    refine lv_goto (tgt := 39) hx hb d_M_holds_148 (by decide) ?_
    exact (hC39 _ _ _ _).1 h _ _ _ hw (lv_sub hl [1, 2, 3, 4, 0] rfl)
  have j144 : ∀ (s0 : Int32) (s1 : Int32) (x4 : Int32) (x5 : Int32) (M_thrown : Int32) (M_values : (Nat → Int32)) (H : Heap) (locs : List Loc) (ls : Array Slot), s_M_holds_144 M_gates M_kinds M_ones M_twos p1 p2 C39 post s0 s1 x4 x5 M_thrown M_values → mW D A s.heap [(k_M cA ad M_thrown M_gates M_lines M_conflict M_moved M_tapeSize M_place M_found), (k_M_kinds cA ad M_kinds), (k_M_ones cA ad M_ones), (k_M_twos cA ad M_twos), (k_M_values cA ad M_values)] H locs → lv_has ls 6 [(0, .ref (ad 15)), (1, .int p1), (2, .long p2), (4, .int x4), (5, .int x5)] → W p l e rm_M_holds s m [.ref (ad 15), .int p1, .long p2].toArray below meth c H locs 0 0 Q (F0 m 144 ls [.int s0, .int s1, .ref (ad 22)]) := by
    intro s0 s1 x4 x5 M_thrown M_values H locs ls h hw hl
    unfold s_M_holds_144 at h
    refine m_iast (ws' := [(k_M cA ad M_thrown M_gates M_lines M_conflict M_moved M_tapeSize M_place M_found), (k_M_kinds cA ad M_kinds), (k_M_ones cA ad M_ones), (k_M_twos cA ad M_twos), (k_M_values cA ad (upd M_values s1.toNatClampNeg s0))]) hx hb hK.1 hw 4 0 rfl rfl h.1 rfl d_M_holds_144 (fun H locs hw => ?_)
    have h := h.2
    exact j145 _ _ _ _ _ _ _ h hw (lv_sub hl [0, 1, 2, 3, 4] rfl)
  have j14 : ∀ (s0 : Int32) (M_thrown : Int32) (M_values : (Nat → Int32)) (H : Heap) (locs : List Loc) (ls : Array Slot), s_M_holds_14 M_gates M_kinds M_ones M_twos p1 p2 C39 post s0 M_thrown M_values → mW D A s.heap [(k_M cA ad M_thrown M_gates M_lines M_conflict M_moved M_tapeSize M_place M_found), (k_M_kinds cA ad M_kinds), (k_M_ones cA ad M_ones), (k_M_twos cA ad M_twos), (k_M_values cA ad M_values)] H locs → lv_has ls 6 [(0, .ref (ad 15)), (1, .int p1), (2, .long p2)] → W p l e rm_M_holds s m [.ref (ad 15), .int p1, .long p2].toArray below meth c H locs 0 0 Q (F0 m 14 ls [.int s0, .ref (ad 15)]) := by
    intro s0 M_thrown M_values H locs ls h hw hl
    unfold s_M_holds_14 at h
    refine m_put (ws' := [(k_M cA ad s0 M_gates M_lines M_conflict M_moved M_tapeSize M_place M_found), (k_M_kinds cA ad M_kinds), (k_M_ones cA ad M_ones), (k_M_twos cA ad M_twos), (k_M_values cA ad M_values)]) (ci := 5) (v := .int s0) (ty := .int) (C := R_M) (T := T_M) (N := 18) hx hb hts (fun w h => List.mem_cons_of_mem _ (iw_M w h)) ty_M tyok_M nm_M hown hK.1 hw 0 rfl rfl 0 (by decide) (hg gm_567) (fun _ h9 => h9) rfl (by decide +kernel) rfl rfl (Nat.le_of_ble_eq_true rfl) rfl d_M_holds_14 (fun H locs hw => ?_)
    refine lv_aload_n hx hb d_M_holds_17 rfl (lv_at hl 0 rfl) ?_
    refine va_get (D := D) (ci := 5) (v := .int s0) (C := R_M) (T := T_M) (N := 18) hx hb hts (fun w h => List.mem_cons_of_mem _ (iw_M w h)) hown hK.1 hw.1 0 rfl rfl 0 (by decide) (hg gm_567) (fun _ h9 => h9) rfl d_M_holds_18 ?_
    refine lv_if_le (tgt := 26) hx hb d_M_holds_21 (by decide) (fun hc => ?_) (fun hc => ?_)
    · have h := h.1 hc
      refine lv_iconst (v := 0) hx hb d_M_holds_26 (by decide) ?_
      refine lv_istore (lv' := [(4, .int 0), (0, .ref (ad 15)), (1, .int p1), (2, .long p2)]) hx hb d_M_holds_27 hl (by decide) rfl (fun ls hl => ?_)
      refine lv_aload_n hx hb d_M_holds_29 rfl (lv_at hl 1 rfl) ?_
      refine va_get (D := D) (ci := 5) (v := .ref (ad 22)) (C := R_M) (T := T_M) (N := 18) hx hb hts (fun w h => List.mem_cons_of_mem _ (iw_M w h)) hown hK.1 hw.1 0 rfl rfl 9 (by decide) (hg gm_576) (fun _ h9 => h9) rfl d_M_holds_30 ?_
      refine lv_iconst (v := 0) hx hb d_M_holds_33 (by decide) ?_
      refine lv_iconst (v := 0) hx hb d_M_holds_34 (by decide) ?_
      refine m_iast (ws' := [(k_M cA ad s0 M_gates M_lines M_conflict M_moved M_tapeSize M_place M_found), (k_M_kinds cA ad M_kinds), (k_M_ones cA ad M_ones), (k_M_twos cA ad M_twos), (k_M_values cA ad (upd M_values (0 : Int32).toNatClampNeg 0))]) hx hb hK.1 hw 4 0 rfl rfl h.1 rfl d_M_holds_35 (fun H locs hw => ?_)
      have h := h.2
      refine lv_iconst (v := 1) hx hb d_M_holds_36 (by decide) ?_
      refine lv_istore (lv' := [(5, .int 1), (4, .int 0), (0, .ref (ad 15)), (1, .int p1), (2, .long p2)]) hx hb d_M_holds_37 hl (by decide) rfl (fun ls hl => ?_)
      exact (hC39 _ _ _ _).1 h _ _ _ hw (lv_sub hl [2, 3, 4, 1, 0] rfl)
    · have h := h.2 hc
      refine lv_iconst (v := 0) hx hb d_M_holds_24 (by decide) ?_
      exact hE 0 (s0, M_values) _ _ _ _ h rfl hw d_M_holds_25
  have hc39 : ∀ (x4 : Int32) (x5 : Int32) (M_thrown : Int32) (M_values : (Nat → Int32)), s_M_holds_39 M_gates M_kinds M_ones M_twos p1 p2 C39 post x4 x5 M_thrown M_values → C39 x4 x5 M_thrown M_values := by
    intro x4 x5 M_thrown M_values h
    unfold s_M_holds_39 at h
    refine (hC39 _ _ _ _).2 ?_
    intro H locs ls hw hl
    refine lv_iload hx hb d_M_holds_39 (lv_at hl 4 rfl) ?_
    refine lv_aload_n hx hb d_M_holds_41 rfl (lv_at hl 0 rfl) ?_
    refine va_get (D := D) (ci := 5) (v := .int M_gates) (C := R_M) (T := T_M) (N := 18) hx hb hts (fun w h => List.mem_cons_of_mem _ (iw_M w h)) hown hK.1 hw.1 0 rfl rfl 4 (by decide) (hg gm_571) (fun _ h9 => h9) rfl d_M_holds_42 ?_
    refine lv_icmp_ge (tgt := 151) hx hb d_M_holds_45 (by decide) (fun hc => ?_) (fun hc => ?_)
    · have h := h.1 hc
      refine lv_aload_n hx hb d_M_holds_151 rfl (lv_at hl 0 rfl) ?_
      refine lv_iload_n hx hb d_M_holds_152 rfl (lv_at hl 1 rfl) ?_
      refine m_calli (hr := va_runV (As := [.int p1]) (rest := []) ⟨hx, hb, hml, hown, hts⟩ (c_M_value l D cA ad _ M_thrown M_gates M_lines M_conflict M_moved M_tapeSize M_place M_found M_values p1 _ h) (cwV 1 hts (ginV gm_686 gm_688 gs_50 gm_6 gm_689) rfl rfl rfl (by decide +kernel) ⟨Nat.le_of_ble_eq_true rfl, Nat.le_of_ble_eq_true rfl⟩) (m_preV 5 0 rfl rfl hK hw [0, 4] rfl rfl) rfl rfl hl.1 rfl (lv_room (Nat.le_of_ble_eq_true rfl)) d_M_holds_153 ⟨Nat.zero_le _, Nat.zero_le _⟩) (w2 := (fun (_ : Unit) => [(k_M cA ad M_thrown M_gates M_lines M_conflict M_moved M_tapeSize M_place M_found), (k_M_kinds cA ad M_kinds), (k_M_ones cA ad M_ones), (k_M_twos cA ad M_twos), (k_M_values cA ad M_values)])) (wr := [(k_M_kinds cA ad M_kinds), (k_M_ones cA ad M_ones), (k_M_twos cA ad M_twos)]) hw hA [0, 4] [1, 2, 3] [3, 0, 1, 2, 4] rfl rfl (by decide) (by decide) (by decide) (fun _ => rfl) (fun r153 u H locs hw h => ?_)
      refine lv_iconst (v := 1) hx hb d_M_holds_156 (by decide) ?_
      refine lv_icmp_ne (tgt := 164) hx hb d_M_holds_157 (by decide) (fun hc => ?_) (fun hc => ?_)
      · have h := h.2 hc
        refine lv_iconst (v := 0) hx hb d_M_holds_164 (by decide) ?_
        exact hE 0 (M_thrown, M_values) _ _ _ _ h rfl hw d_M_holds_165
      · have h := h.1 hc
        refine lv_iconst (v := 1) hx hb d_M_holds_160 (by decide) ?_
        refine lv_goto (tgt := 165) hx hb d_M_holds_161 (by decide) ?_
        exact hE 1 (M_thrown, M_values) _ _ _ _ h rfl hw d_M_holds_165
    · have h := h.2 hc
      refine lv_aload_n hx hb d_M_holds_48 rfl (lv_at hl 0 rfl) ?_
      refine va_get (D := D) (ci := 5) (v := .ref (ad 16)) (C := R_M) (T := T_M) (N := 18) hx hb hts (fun w h => List.mem_cons_of_mem _ (iw_M w h)) hown hK.1 hw.1 0 rfl rfl 1 (by decide) (hg gm_568) (fun _ h9 => h9) rfl d_M_holds_49 ?_
      refine lv_iload hx hb d_M_holds_52 (lv_at hl 4 rfl) ?_
      refine va_iald hx hb hK.1 hw.1 1 0 rfl rfl h.1 d_M_holds_54 ?_
      have h := h.2
      refine lv_if_ne (tgt := 78) hx hb d_M_holds_55 (by decide) (fun hc => ?_) (fun hc => ?_)
      · have h := h.2 hc
        refine lv_aload_n hx hb d_M_holds_78 rfl (lv_at hl 0 rfl) ?_
        refine va_get (D := D) (ci := 5) (v := .ref (ad 22)) (C := R_M) (T := T_M) (N := 18) hx hb hts (fun w h => List.mem_cons_of_mem _ (iw_M w h)) hown hK.1 hw.1 0 rfl rfl 9 (by decide) (hg gm_576) (fun _ h9 => h9) rfl d_M_holds_79 ?_
        refine lv_iload hx hb d_M_holds_82 (lv_at hl 4 rfl) ?_
        refine lv_aload_n hx hb d_M_holds_84 rfl (lv_at hl 0 rfl) ?_
        refine va_get (D := D) (ci := 5) (v := .ref (ad 16)) (C := R_M) (T := T_M) (N := 18) hx hb hts (fun w h => List.mem_cons_of_mem _ (iw_M w h)) hown hK.1 hw.1 0 rfl rfl 1 (by decide) (hg gm_568) (fun _ h9 => h9) rfl d_M_holds_85 ?_
        refine lv_iload hx hb d_M_holds_88 (lv_at hl 4 rfl) ?_
        refine va_iald hx hb hK.1 hw.1 1 0 rfl rfl h.1 d_M_holds_90 ?_
        have h := h.2
        refine lv_iconst (v := 1) hx hb d_M_holds_91 (by decide) ?_
        refine lv_icmp_ne (tgt := 121) hx hb d_M_holds_92 (by decide) (fun hc => ?_) (fun hc => ?_)
        · have h := h.2 hc
          refine lv_aload_n hx hb d_M_holds_121 rfl (lv_at hl 0 rfl) ?_
          refine lv_aload_n hx hb d_M_holds_122 rfl (lv_at hl 0 rfl) ?_
          refine va_get (D := D) (ci := 5) (v := .ref (ad 17)) (C := R_M) (T := T_M) (N := 18) hx hb hts (fun w h => List.mem_cons_of_mem _ (iw_M w h)) hown hK.1 hw.1 0 rfl rfl 2 (by decide) (hg gm_569) (fun _ h9 => h9) rfl d_M_holds_123 ?_
          refine lv_iload hx hb d_M_holds_126 (lv_at hl 4 rfl) ?_
          refine va_iald hx hb hK.1 hw.1 2 0 rfl rfl h.1 d_M_holds_128 ?_
          have h := h.2
          refine m_calli (hr := va_runV (As := [.int (M_ones x5.toNatClampNeg)]) (rest := [.int x5, .ref (ad 22)]) ⟨hx, hb, hml, hown, hts⟩ (c_M_value l D cA ad _ M_thrown M_gates M_lines M_conflict M_moved M_tapeSize M_place M_found M_values (M_ones x5.toNatClampNeg) _ h) (cwV 1 hts (ginV gm_686 gm_688 gs_50 gm_6 gm_689) rfl rfl rfl (by decide +kernel) ⟨Nat.le_of_ble_eq_true rfl, Nat.le_of_ble_eq_true rfl⟩) (m_preV 5 0 rfl rfl hK hw [0, 4] rfl rfl) rfl rfl hl.1 rfl (lv_room (Nat.le_of_ble_eq_true rfl)) d_M_holds_129 ⟨Nat.zero_le _, Nat.zero_le _⟩) (w2 := (fun (_ : Unit) => [(k_M cA ad M_thrown M_gates M_lines M_conflict M_moved M_tapeSize M_place M_found), (k_M_kinds cA ad M_kinds), (k_M_ones cA ad M_ones), (k_M_twos cA ad M_twos), (k_M_values cA ad M_values)])) (wr := [(k_M_kinds cA ad M_kinds), (k_M_ones cA ad M_ones), (k_M_twos cA ad M_twos)]) hw hA [0, 4] [1, 2, 3] [3, 0, 1, 2, 4] rfl rfl (by decide) (by decide) (by decide) (fun _ => rfl) (fun r129 u H locs hw h => ?_)
          refine lv_aload_n hx hb d_M_holds_132 rfl (lv_at hl 0 rfl) ?_
          refine lv_aload_n hx hb d_M_holds_133 rfl (lv_at hl 0 rfl) ?_
          refine va_get (D := D) (ci := 5) (v := .ref (ad 18)) (C := R_M) (T := T_M) (N := 18) hx hb hts (fun w h => List.mem_cons_of_mem _ (iw_M w h)) hown hK.1 hw.1 0 rfl rfl 3 (by decide) (hg gm_570) (fun _ h9 => h9) rfl d_M_holds_134 ?_
          refine lv_iload hx hb d_M_holds_137 (lv_at hl 4 rfl) ?_
          refine va_iald hx hb hK.1 hw.1 3 0 rfl rfl h.1 d_M_holds_139 ?_
          have h := h.2
          refine m_calli (hr := va_runV (As := [.int (M_twos x5.toNatClampNeg)]) (rest := [.int r129, .int x5, .ref (ad 22)]) ⟨hx, hb, hml, hown, hts⟩ (c_M_value l D cA ad _ M_thrown M_gates M_lines M_conflict M_moved M_tapeSize M_place M_found M_values (M_twos x5.toNatClampNeg) _ h) (cwV 1 hts (ginV gm_686 gm_688 gs_50 gm_6 gm_689) rfl rfl rfl (by decide +kernel) ⟨Nat.le_of_ble_eq_true rfl, Nat.le_of_ble_eq_true rfl⟩) (m_preV 5 0 rfl rfl hK hw [0, 4] rfl rfl) rfl rfl hl.1 rfl (lv_room (Nat.le_of_ble_eq_true rfl)) d_M_holds_140 ⟨Nat.zero_le _, Nat.zero_le _⟩) (w2 := (fun (_ : Unit) => [(k_M cA ad M_thrown M_gates M_lines M_conflict M_moved M_tapeSize M_place M_found), (k_M_kinds cA ad M_kinds), (k_M_ones cA ad M_ones), (k_M_twos cA ad M_twos), (k_M_values cA ad M_values)])) (wr := [(k_M_kinds cA ad M_kinds), (k_M_ones cA ad M_ones), (k_M_twos cA ad M_twos)]) hw hA [0, 4] [1, 2, 3] [3, 0, 1, 2, 4] rfl rfl (by decide) (by decide) (by decide) (fun _ => rfl) (fun r140 u H locs hw h => ?_)
          refine lv_ixor hx hb d_M_holds_143 ?_
          exact j144 _ _ _ _ _ _ _ _ _ h hw (lv_sub hl [0, 1, 2, 3, 4] rfl)
        · have h := h.1 hc
          refine lv_aload_n hx hb d_M_holds_95 rfl (lv_at hl 0 rfl) ?_
          refine lv_aload_n hx hb d_M_holds_96 rfl (lv_at hl 0 rfl) ?_
          refine va_get (D := D) (ci := 5) (v := .ref (ad 17)) (C := R_M) (T := T_M) (N := 18) hx hb hts (fun w h => List.mem_cons_of_mem _ (iw_M w h)) hown hK.1 hw.1 0 rfl rfl 2 (by decide) (hg gm_569) (fun _ h9 => h9) rfl d_M_holds_97 ?_
          refine lv_iload hx hb d_M_holds_100 (lv_at hl 4 rfl) ?_
          refine va_iald hx hb hK.1 hw.1 2 0 rfl rfl h.1 d_M_holds_102 ?_
          have h := h.2
          refine m_calli (hr := va_runV (As := [.int (M_ones x5.toNatClampNeg)]) (rest := [.int x5, .ref (ad 22)]) ⟨hx, hb, hml, hown, hts⟩ (c_M_value l D cA ad _ M_thrown M_gates M_lines M_conflict M_moved M_tapeSize M_place M_found M_values (M_ones x5.toNatClampNeg) _ h) (cwV 1 hts (ginV gm_686 gm_688 gs_50 gm_6 gm_689) rfl rfl rfl (by decide +kernel) ⟨Nat.le_of_ble_eq_true rfl, Nat.le_of_ble_eq_true rfl⟩) (m_preV 5 0 rfl rfl hK hw [0, 4] rfl rfl) rfl rfl hl.1 rfl (lv_room (Nat.le_of_ble_eq_true rfl)) d_M_holds_103 ⟨Nat.zero_le _, Nat.zero_le _⟩) (w2 := (fun (_ : Unit) => [(k_M cA ad M_thrown M_gates M_lines M_conflict M_moved M_tapeSize M_place M_found), (k_M_kinds cA ad M_kinds), (k_M_ones cA ad M_ones), (k_M_twos cA ad M_twos), (k_M_values cA ad M_values)])) (wr := [(k_M_kinds cA ad M_kinds), (k_M_ones cA ad M_ones), (k_M_twos cA ad M_twos)]) hw hA [0, 4] [1, 2, 3] [3, 0, 1, 2, 4] rfl rfl (by decide) (by decide) (by decide) (fun _ => rfl) (fun r103 u H locs hw h => ?_)
          refine lv_aload_n hx hb d_M_holds_106 rfl (lv_at hl 0 rfl) ?_
          refine lv_aload_n hx hb d_M_holds_107 rfl (lv_at hl 0 rfl) ?_
          refine va_get (D := D) (ci := 5) (v := .ref (ad 18)) (C := R_M) (T := T_M) (N := 18) hx hb hts (fun w h => List.mem_cons_of_mem _ (iw_M w h)) hown hK.1 hw.1 0 rfl rfl 3 (by decide) (hg gm_570) (fun _ h9 => h9) rfl d_M_holds_108 ?_
          refine lv_iload hx hb d_M_holds_111 (lv_at hl 4 rfl) ?_
          refine va_iald hx hb hK.1 hw.1 3 0 rfl rfl h.1 d_M_holds_113 ?_
          have h := h.2
          refine m_calli (hr := va_runV (As := [.int (M_twos x5.toNatClampNeg)]) (rest := [.int r103, .int x5, .ref (ad 22)]) ⟨hx, hb, hml, hown, hts⟩ (c_M_value l D cA ad _ M_thrown M_gates M_lines M_conflict M_moved M_tapeSize M_place M_found M_values (M_twos x5.toNatClampNeg) _ h) (cwV 1 hts (ginV gm_686 gm_688 gs_50 gm_6 gm_689) rfl rfl rfl (by decide +kernel) ⟨Nat.le_of_ble_eq_true rfl, Nat.le_of_ble_eq_true rfl⟩) (m_preV 5 0 rfl rfl hK hw [0, 4] rfl rfl) rfl rfl hl.1 rfl (lv_room (Nat.le_of_ble_eq_true rfl)) d_M_holds_114 ⟨Nat.zero_le _, Nat.zero_le _⟩) (w2 := (fun (_ : Unit) => [(k_M cA ad M_thrown M_gates M_lines M_conflict M_moved M_tapeSize M_place M_found), (k_M_kinds cA ad M_kinds), (k_M_ones cA ad M_ones), (k_M_twos cA ad M_twos), (k_M_values cA ad M_values)])) (wr := [(k_M_kinds cA ad M_kinds), (k_M_ones cA ad M_ones), (k_M_twos cA ad M_twos)]) hw hA [0, 4] [1, 2, 3] [3, 0, 1, 2, 4] rfl rfl (by decide) (by decide) (by decide) (fun _ => rfl) (fun r114 u H locs hw h => ?_)
          refine lv_iand hx hb d_M_holds_117 ?_
          refine lv_goto (tgt := 144) hx hb d_M_holds_118 (by decide) ?_
          exact j144 _ _ _ _ _ _ _ _ _ h hw (lv_sub hl [0, 1, 2, 3, 4] rfl)
      · have h := h.1 hc
        refine lv_aload_n hx hb d_M_holds_58 rfl (lv_at hl 0 rfl) ?_
        refine va_get (D := D) (ci := 5) (v := .ref (ad 22)) (C := R_M) (T := T_M) (N := 18) hx hb hts (fun w h => List.mem_cons_of_mem _ (iw_M w h)) hown hK.1 hw.1 0 rfl rfl 9 (by decide) (hg gm_576) (fun _ h9 => h9) rfl d_M_holds_59 ?_
        refine lv_iload hx hb d_M_holds_62 (lv_at hl 4 rfl) ?_
        refine lv_lload_n hx hb d_M_holds_64 rfl (lv_at hl 2 rfl) ?_
        refine lv_iload hx hb d_M_holds_65 (lv_at hl 3 rfl) ?_
        refine lv_lushr hx hb d_M_holds_67 rfl ?_
        refine lv_lconst (v := 1) hx hb d_M_holds_68 rfl ?_
        refine lv_land hx hb d_M_holds_69 ?_
        refine lv_l2i hx hb d_M_holds_70 rfl ?_
        refine m_iast (ws' := [(k_M cA ad M_thrown M_gates M_lines M_conflict M_moved M_tapeSize M_place M_found), (k_M_kinds cA ad M_kinds), (k_M_ones cA ad M_ones), (k_M_twos cA ad M_twos), (k_M_values cA ad (upd M_values x5.toNatClampNeg (((p2.toUInt64 >>> ((x4 : Int32).toInt64.toUInt64 &&& Int64.toUInt64 63)).toInt64) &&& 1).toInt32))]) hx hb hK.1 hw 4 0 rfl rfl h.1 rfl d_M_holds_71 (fun H locs hw => ?_)
        have h := h.2
        refine lv_iinc (v := (x4 + 1)) (lv' := [(4, .int (x4 + 1)), (0, .ref (ad 15)), (1, .int p1), (2, .long p2), (5, .int x5)]) hx hb d_M_holds_72 hl (k := 3) rfl rfl (by decide) rfl (fun ls hl => ?_)
        refine lv_goto (tgt := 145) hx hb d_M_holds_75 (by decide) ?_
        exact j145 _ _ _ _ _ _ _ h hw (lv_sub hl [1, 2, 3, 0, 4] rfl)
  unfold wp_M_holds at h
  have h := h C39 hc39
  refine lv_aload_n hx hb d_M_holds_0 rfl (lv_at hl 0 rfl) ?_
  refine lv_aload_n hx hb d_M_holds_1 rfl (lv_at hl 0 rfl) ?_
  refine lv_iload_n hx hb d_M_holds_2 rfl (lv_at hl 1 rfl) ?_
  refine m_calli (hr := va_runV (As := [.int p1]) (rest := [.ref (ad 15)]) ⟨hx, hb, hml, hown, hts⟩ (c_M_isLiteral l D cA ad _ M_thrown M_gates M_lines M_conflict M_moved M_tapeSize M_place M_found p1 _ h) (cwV 1 hts (ginV gm_630 gm_632 gs_40 gm_6 gm_633) rfl rfl rfl (by decide +kernel) ⟨Nat.le_of_ble_eq_true rfl, Nat.le_of_ble_eq_true rfl⟩) (m_preV 5 0 rfl rfl hK hw [0] rfl rfl) rfl rfl hl.1 rfl (lv_room (Nat.le_of_ble_eq_true rfl)) d_M_holds_3 ⟨Nat.zero_le _, Nat.zero_le _⟩) (w2 := (fun (_ : Unit) => [(k_M cA ad M_thrown M_gates M_lines M_conflict M_moved M_tapeSize M_place M_found), (k_M_kinds cA ad M_kinds), (k_M_ones cA ad M_ones), (k_M_twos cA ad M_twos), (k_M_values cA ad M_values)])) (wr := [(k_M_kinds cA ad M_kinds), (k_M_ones cA ad M_ones), (k_M_twos cA ad M_twos), (k_M_values cA ad M_values)]) hw hA [0] [1, 2, 3, 4] [4, 0, 1, 2, 3] rfl rfl (by decide) (by decide) (by decide) (fun _ => rfl) (fun r3 u H locs hw h => ?_)
  refine lv_if_eq (tgt := 13) hx hb d_M_holds_6 (by decide) (fun hc => ?_) (fun hc => ?_)
  · have h := h.1 hc
    refine lv_iconst (v := 1) hx hb d_M_holds_13 (by decide) ?_
    exact j14 _ _ _ _ _ _ h hw (lv_sub hl [0, 1, 2] rfl)
  · have h := h.2 hc
    refine lv_iconst (v := 0) hx hb d_M_holds_9 (by decide) ?_
    refine lv_goto (tgt := 14) hx hb d_M_holds_10 (by decide) ?_
    exact j14 _ _ _ _ _ _ h hw (lv_sub hl [0, 1, 2] rfl)
def rm_M_inputs : Room := { frames := 0, cells := 0, slots := 0, locals := 0 }
set_option maxHeartbeats 4000000 in
set_option maxRecDepth 100000 in
theorem c_M_inputs (l : Launch) (D : va_G) (cA : Nat → ClassId) (ad : Nat → Nat) (sz : Nat) (M_thrown : Int32) (M_gates : Int32) (M_lines : Int32) (M_conflict : Int32) (M_moved : Int32) (M_tapeSize : Int32) (M_place : Int32) (M_found : Int32) (M_kinds : (Nat → Int32)) (post : Int32 → Prop) (h : wp_M_inputs M_gates M_kinds post) : Met l y_M_inputs w_M_inputs rm_M_inputs (mPc D cA [.ref (ad 15)] [(k_M cA ad M_thrown M_gates M_lines M_conflict M_moved M_tapeSize M_place M_found), (k_M_kinds cA ad M_kinds)] sz) (va_Qi (fun (r : Int32) (_ : Unit) => post r) (mB D (va_A [(k_M cA ad M_thrown M_gates M_lines M_conflict M_moved M_tapeSize M_place M_found), (k_M_kinds cA ad M_kinds)] sz) (fun (_ : Unit) => [(k_M cA ad M_thrown M_gates M_lines M_conflict M_moved M_tapeSize M_place M_found), (k_M_kinds cA ad M_kinds)])) (va_A [(k_M cA ad M_thrown M_gates M_lines M_conflict M_moved M_tapeSize M_place M_found), (k_M_kinds cA ad M_kinds)] sz)) 0 0 (va_A [(k_M cA ad M_thrown M_gates M_lines M_conflict M_moved M_tapeSize M_place M_found), (k_M_kinds cA ad M_kinds)] sz) := by
  refine m_methI (by decide) rfl (Nat.le_of_ble_eq_true rfl) ?_
  intro p e s m below meth c A Q ls hx hb hml hown hts hK hA hw hl hE
  have hl : lv_has ls 3 [(0, .ref (ad 15))] := hl
  have hown : s.vm.findClass R_M = some m.cls := hown
  have hg : ∀ {w : Cond}, w ∈ gw → w.before _ s = true := fun h => hts _ (List.mem_cons_of_mem _ h)
  obtain ⟨C4, hC4⟩ : ∃ C : Int32 → Int32 → Prop, ∀ (x1 : Int32) (x2 : Int32), C x1 x2 ↔ (∀ (H : Heap) (locs : List Loc) (ls : Array Slot), mW D A s.heap [(k_M cA ad M_thrown M_gates M_lines M_conflict M_moved M_tapeSize M_place M_found), (k_M_kinds cA ad M_kinds)] H locs → lv_has ls 3 [(0, .ref (ad 15)), (1, .int x1), (2, .int x2)] → W p l e rm_M_inputs s m [.ref (ad 15)].toArray below meth c H locs 0 0 Q (F0 m 4 ls [])) := ⟨_, fun _ _ => Iff.rfl⟩
  have j28 : ∀ (s0 : Int32) (x2 : Int32) (H : Heap) (locs : List Loc) (ls : Array Slot), s_M_inputs_28 M_gates M_kinds C4 post s0 x2 → mW D A s.heap [(k_M cA ad M_thrown M_gates M_lines M_conflict M_moved M_tapeSize M_place M_found), (k_M_kinds cA ad M_kinds)] H locs → lv_has ls 3 [(0, .ref (ad 15)), (2, .int x2)] → W p l e rm_M_inputs s m [.ref (ad 15)].toArray below meth c H locs 0 0 Q (F0 m 28 ls [.int s0]) := by
    intro s0 x2 H locs ls h hw hl
    unfold s_M_inputs_28 at h
    refine lv_istore_n (lv' := [(1, .int s0), (0, .ref (ad 15)), (2, .int x2)]) hx hb d_M_inputs_28 rfl hl (by decide) rfl (fun ls hl => ?_)
    refine lv_iinc (v := (x2 + 1)) (lv' := [(2, .int (x2 + 1)), (1, .int s0), (0, .ref (ad 15))]) hx hb d_M_inputs_29 hl (k := 2) rfl rfl (by decide) rfl (fun ls hl => ?_)
    refine lv_goto (tgt := 4) hx hb d_M_inputs_32 (by decide) ?_
    exact (hC4 _ _).1 h _ _ _ hw (lv_sub hl [2, 1, 0] rfl)
  have hc4 : ∀ (x1 : Int32) (x2 : Int32), s_M_inputs_4 M_gates M_kinds C4 post x1 x2 → C4 x1 x2 := by
    intro x1 x2 h
    unfold s_M_inputs_4 at h
    refine (hC4 _ _).2 ?_
    intro H locs ls hw hl
    refine lv_iload_n hx hb d_M_inputs_4 rfl (lv_at hl 2 rfl) ?_
    refine lv_aload_n hx hb d_M_inputs_5 rfl (lv_at hl 0 rfl) ?_
    refine va_get (D := D) (ci := 5) (v := .int M_gates) (C := R_M) (T := T_M) (N := 18) hx hb hts (fun w h => List.mem_cons_of_mem _ (iw_M w h)) hown hK.1 hw.1 0 rfl rfl 4 (by decide) (hg gm_571) (fun _ h9 => h9) rfl d_M_inputs_6 ?_
    refine lv_icmp_ge (tgt := 35) hx hb d_M_inputs_9 (by decide) (fun hc => ?_) (fun hc => ?_)
    · have h := h.1 hc
      refine lv_iload_n hx hb d_M_inputs_35 rfl (lv_at hl 1 rfl) ?_
      exact hE x1 () _ _ _ _ h hw d_M_inputs_36
    · have h := h.2 hc
      refine lv_aload_n hx hb d_M_inputs_12 rfl (lv_at hl 0 rfl) ?_
      refine va_get (D := D) (ci := 5) (v := .ref (ad 16)) (C := R_M) (T := T_M) (N := 18) hx hb hts (fun w h => List.mem_cons_of_mem _ (iw_M w h)) hown hK.1 hw.1 0 rfl rfl 1 (by decide) (hg gm_568) (fun _ h9 => h9) rfl d_M_inputs_13 ?_
      refine lv_iload_n hx hb d_M_inputs_16 rfl (lv_at hl 2 rfl) ?_
      refine va_iald hx hb hK.1 hw.1 1 0 rfl rfl h.1 d_M_inputs_17 ?_
      have h := h.2
      refine lv_if_ne (tgt := 27) hx hb d_M_inputs_18 (by decide) (fun hc => ?_) (fun hc => ?_)
      · have h := h.2 hc
        refine lv_iload_n hx hb d_M_inputs_27 rfl (lv_at hl 1 rfl) ?_
        exact j28 _ _ _ _ _ h hw (lv_sub hl [0, 2] rfl)
      · have h := h.1 hc
        refine lv_iload_n hx hb d_M_inputs_21 rfl (lv_at hl 1 rfl) ?_
        refine lv_iconst (v := 1) hx hb d_M_inputs_22 (by decide) ?_
        refine lv_iadd hx hb d_M_inputs_23 ?_
        refine lv_goto (tgt := 28) hx hb d_M_inputs_24 (by decide) ?_
        exact j28 _ _ _ _ _ h hw (lv_sub hl [0, 2] rfl)
  unfold wp_M_inputs at h
  have h := h C4 hc4
  refine lv_iconst (v := 0) hx hb d_M_inputs_0 (by decide) ?_
  refine lv_istore_n (lv' := [(1, .int 0), (0, .ref (ad 15))]) hx hb d_M_inputs_1 rfl hl (by decide) rfl (fun ls hl => ?_)
  refine lv_iconst (v := 1) hx hb d_M_inputs_2 (by decide) ?_
  refine lv_istore_n (lv' := [(2, .int 1), (1, .int 0), (0, .ref (ad 15))]) hx hb d_M_inputs_3 rfl hl (by decide) rfl (fun ls hl => ?_)
  exact (hC4 _ _).1 h _ _ _ hw (lv_sub hl [2, 1, 0] rfl)
def rm_M_byteAt : Room := { frames := 0, cells := 0, slots := 0, locals := 0 }
set_option maxHeartbeats 4000000 in
set_option maxRecDepth 100000 in
theorem c_M_byteAt (l : Launch) (D : va_G) (cA : Nat → ClassId) (ad : Nat → Nat) (sz : Nat) (M_thrown : Int32) (M_gates : Int32) (M_lines : Int32) (M_conflict : Int32) (M_moved : Int32) (M_tapeSize : Int32) (M_place : Int32) (M_found : Int32) (M_equals : (Nat → Int32)) (M_counts : (Nat → Int32)) (M_literals : (Nat → Int32)) (p1 : Int32) (post : Int32 → Int32 → Prop) (h : wp_M_byteAt M_lines M_found M_equals M_counts M_literals p1 post) : Met l y_M_byteAt w_M_byteAt rm_M_byteAt (mPc D cA [.ref (ad 15), .int p1] [(k_M cA ad M_thrown M_gates M_lines M_conflict M_moved M_tapeSize M_place M_found), (k_M_equals cA ad M_equals), (k_M_counts cA ad M_counts), (k_M_literals cA ad M_literals)] sz) (va_Qi (fun (r : Int32) (u : Int32) => post r u) (mB D (va_A [(k_M cA ad M_thrown M_gates M_lines M_conflict M_moved M_tapeSize M_place M_found), (k_M_equals cA ad M_equals), (k_M_counts cA ad M_counts), (k_M_literals cA ad M_literals)] sz) (fun (u : Int32) => [(k_M cA ad M_thrown M_gates M_lines M_conflict M_moved M_tapeSize M_place u), (k_M_equals cA ad M_equals), (k_M_counts cA ad M_counts), (k_M_literals cA ad M_literals)])) (va_A [(k_M cA ad M_thrown M_gates M_lines M_conflict M_moved M_tapeSize M_place M_found), (k_M_equals cA ad M_equals), (k_M_counts cA ad M_counts), (k_M_literals cA ad M_literals)] sz)) 0 0 (va_A [(k_M cA ad M_thrown M_gates M_lines M_conflict M_moved M_tapeSize M_place M_found), (k_M_equals cA ad M_equals), (k_M_counts cA ad M_counts), (k_M_literals cA ad M_literals)] sz) := by
  refine m_methI (by decide) rfl (Nat.le_of_ble_eq_true rfl) ?_
  intro p e s m below meth c A Q ls hx hb hml hown hts hK hA hw hl hE
  have hl : lv_has ls 9 [(0, .ref (ad 15)), (1, .int p1)] := hl
  have hown : s.vm.findClass R_M = some m.cls := hown
  have hg : ∀ {w : Cond}, w ∈ gw → w.before _ s = true := fun h => hts _ (List.mem_cons_of_mem _ h)
  obtain ⟨C4, hC4⟩ : ∃ C : Int32 → Int32 → Int32 → Prop, ∀ (x2 : Int32) (x3 : Int32) (M_found : Int32), C x2 x3 M_found ↔ (∀ (H : Heap) (locs : List Loc) (ls : Array Slot), mW D A s.heap [(k_M cA ad M_thrown M_gates M_lines M_conflict M_moved M_tapeSize M_place M_found), (k_M_equals cA ad M_equals), (k_M_counts cA ad M_counts), (k_M_literals cA ad M_literals)] H locs → lv_has ls 9 [(0, .ref (ad 15)), (1, .int p1), (2, .int x2), (3, .int x3)] → W p l e rm_M_byteAt s m [.ref (ad 15), .int p1].toArray below meth c H locs 0 0 Q (F0 m 4 ls [])) := ⟨_, fun _ _ _ => Iff.rfl⟩
  obtain ⟨C40, hC40⟩ : ∃ C : Int32 → Int32 → Int32 → Int32 → Prop, ∀ (x2 : Int32) (x3 : Int32) (x4 : Int32) (M_found : Int32), C x2 x3 x4 M_found ↔ (∀ (H : Heap) (locs : List Loc) (ls : Array Slot), mW D A s.heap [(k_M cA ad M_thrown M_gates M_lines M_conflict M_moved M_tapeSize M_place M_found), (k_M_equals cA ad M_equals), (k_M_counts cA ad M_counts), (k_M_literals cA ad M_literals)] H locs → lv_has ls 9 [(0, .ref (ad 15)), (1, .int p1), (2, .int x2), (3, .int x3), (4, .int x4)] → W p l e rm_M_byteAt s m [.ref (ad 15), .int p1].toArray below meth c H locs 0 0 Q (F0 m 40 ls [])) := ⟨_, fun _ _ _ _ => Iff.rfl⟩
  have j166 : ∀ (x2 : Int32) (x3 : Int32) (x4 : Int32) (x7 : Int32) (M_found : Int32) (H : Heap) (locs : List Loc) (ls : Array Slot), s_M_byteAt_166 M_lines M_equals M_counts M_literals p1 C4 C40 post x2 x3 x4 x7 M_found → mW D A s.heap [(k_M cA ad M_thrown M_gates M_lines M_conflict M_moved M_tapeSize M_place M_found), (k_M_equals cA ad M_equals), (k_M_counts cA ad M_counts), (k_M_literals cA ad M_literals)] H locs → lv_has ls 9 [(0, .ref (ad 15)), (1, .int p1), (2, .int x2), (3, .int x3), (4, .int x4), (7, .int x7)] → W p l e rm_M_byteAt s m [.ref (ad 15), .int p1].toArray below meth c H locs 0 0 Q (F0 m 166 ls []) := by
    intro x2 x3 x4 x7 M_found H locs ls h hw hl
    unfold s_M_byteAt_166 at h
    refine lv_iload_n hx hb d_M_byteAt_166 rfl (lv_at hl 2 rfl) ?_
    refine lv_iconst (v := 2) hx hb d_M_byteAt_167 (by decide) ?_
    refine lv_iadd hx hb d_M_byteAt_168 ?_
    refine lv_iload hx hb d_M_byteAt_169 (lv_at hl 5 rfl) ?_
    refine lv_iadd hx hb d_M_byteAt_171 ?_
    refine lv_istore_n (lv' := [(2, .int ((x2 + 2) + x7)), (0, .ref (ad 15)), (1, .int p1), (3, .int x3), (4, .int x4), (7, .int x7)]) hx hb d_M_byteAt_172 rfl hl (by decide) rfl (fun ls hl => ?_)
    refine lv_iinc (v := (x4 + 1)) (lv' := [(4, .int (x4 + 1)), (2, .int ((x2 + 2) + x7)), (0, .ref (ad 15)), (1, .int p1), (3, .int x3), (7, .int x7)]) hx hb d_M_byteAt_173 hl (k := 4) rfl rfl (by decide) rfl (fun ls hl => ?_)
    refine lv_goto (tgt := 40) hx hb d_M_byteAt_176 (by decide) ?_
    exact (hC40 _ _ _ _).1 h _ _ _ hw (lv_sub hl [2, 3, 1, 4, 0] rfl)
  have j159 : ∀ (s0 : Int32) (x6 : Int32) (M_found : Int32) (H : Heap) (locs : List Loc) (ls : Array Slot), s_M_byteAt_159 M_lines M_equals M_counts M_literals p1 C4 C40 post s0 x6 M_found → mW D A s.heap [(k_M cA ad M_thrown M_gates M_lines M_conflict M_moved M_tapeSize M_place M_found), (k_M_equals cA ad M_equals), (k_M_counts cA ad M_counts), (k_M_literals cA ad M_literals)] H locs → lv_has ls 9 [(6, .int x6)] → W p l e rm_M_byteAt s m [.ref (ad 15), .int p1].toArray below meth c H locs 0 0 Q (F0 m 159 ls [.int s0]) := by
    intro s0 x6 M_found H locs ls h hw hl
    unfold s_M_byteAt_159 at h
    refine lv_iload hx hb d_M_byteAt_159 (lv_at hl 0 rfl) ?_
    refine lv_bipush (v := 10) hx hb d_M_byteAt_161 (by decide) ?_
    refine lv_irem hx hb d_M_byteAt_163 (by decide) ?_
    refine lv_iadd hx hb d_M_byteAt_164 ?_
    exact hE (s0 + (x6 - x6 / 10 * 10)) (M_found) _ _ _ _ h hw d_M_byteAt_165
  have j83 : ∀ (s0 : Int32) (x2 : Int32) (x3 : Int32) (x4 : Int32) (x5 : Int32) (x6 : Int32) (M_found : Int32) (H : Heap) (locs : List Loc) (ls : Array Slot), s_M_byteAt_83 M_lines M_equals M_counts M_literals p1 C4 C40 post s0 x2 x3 x4 x5 x6 M_found → mW D A s.heap [(k_M cA ad M_thrown M_gates M_lines M_conflict M_moved M_tapeSize M_place M_found), (k_M_equals cA ad M_equals), (k_M_counts cA ad M_counts), (k_M_literals cA ad M_literals)] H locs → lv_has ls 9 [(0, .ref (ad 15)), (1, .int p1), (2, .int x2), (3, .int x3), (4, .int x4), (5, .int x5), (6, .int x6)] → W p l e rm_M_byteAt s m [.ref (ad 15), .int p1].toArray below meth c H locs 0 0 Q (F0 m 83 ls [.int s0]) := by
    intro s0 x2 x3 x4 x5 x6 M_found H locs ls h hw hl
    unfold s_M_byteAt_83 at h
    refine lv_istore (lv' := [(7, .int s0), (0, .ref (ad 15)), (1, .int p1), (2, .int x2), (3, .int x3), (4, .int x4), (5, .int x5), (6, .int x6)]) hx hb d_M_byteAt_83 hl (by decide) rfl (fun ls hl => ?_)
    refine lv_iload_n hx hb d_M_byteAt_85 rfl (lv_at hl 2 rfl) ?_
    refine lv_iload_n hx hb d_M_byteAt_86 rfl (lv_at hl 3 rfl) ?_
    refine lv_isub hx hb d_M_byteAt_87 ?_
    refine lv_istore (lv' := [(8, .int (p1 - x2)), (7, .int s0), (0, .ref (ad 15)), (1, .int p1), (2, .int x2), (3, .int x3), (4, .int x4), (5, .int x5), (6, .int x6)]) hx hb d_M_byteAt_88 hl (by decide) rfl (fun ls hl => ?_)
    refine lv_iload hx hb d_M_byteAt_90 (lv_at hl 0 rfl) ?_
    refine lv_if_lt (tgt := 166) hx hb d_M_byteAt_92 (by decide) (fun hc => ?_) (fun hc => ?_)
    · have h := h.1 hc
      exact j166 _ _ _ _ _ _ _ _ h hw (lv_sub hl [2, 3, 4, 5, 6, 1] rfl)
    · have h := h.2 hc
      refine lv_iload hx hb d_M_byteAt_95 (lv_at hl 0 rfl) ?_
      refine lv_iconst (v := 2) hx hb d_M_byteAt_97 (by decide) ?_
      refine lv_iload hx hb d_M_byteAt_98 (lv_at hl 1 rfl) ?_
      refine lv_iadd hx hb d_M_byteAt_100 ?_
      refine lv_icmp_ge (tgt := 166) hx hb d_M_byteAt_101 (by decide) (fun hc => ?_) (fun hc => ?_)
      · have h := h.1 hc
        exact j166 _ _ _ _ _ _ _ _ h hw (lv_sub hl [2, 3, 4, 5, 6, 1] rfl)
      · have h := h.2 hc
        refine lv_iload hx hb d_M_byteAt_104 (lv_at hl 0 rfl) ?_
        refine lv_if_ne (tgt := 114) hx hb d_M_byteAt_106 (by decide) (fun hc => ?_) (fun hc => ?_)
        · have h := h.2 hc
          refine lv_iload hx hb d_M_byteAt_114 (lv_at hl 0 rfl) ?_
          refine lv_iconst (v := 1) hx hb d_M_byteAt_116 (by decide) ?_
          refine lv_icmp_ne (tgt := 137) hx hb d_M_byteAt_117 (by decide) (fun hc => ?_) (fun hc => ?_)
          · have h := h.2 hc
            refine lv_bipush (v := 48) hx hb d_M_byteAt_137 (by decide) ?_
            refine lv_iload hx hb d_M_byteAt_139 (lv_at hl 1 rfl) ?_
            refine lv_iconst (v := 2) hx hb d_M_byteAt_141 (by decide) ?_
            refine lv_icmp_ne (tgt := 159) hx hb d_M_byteAt_142 (by decide) (fun hc => ?_) (fun hc => ?_)
            · have h := h.2 hc
              exact j159 _ _ _ _ _ _ h hw (lv_sub hl [8] rfl)
            · have h := h.1 hc
              refine lv_iload hx hb d_M_byteAt_145 (lv_at hl 0 rfl) ?_
              refine lv_iconst (v := 2) hx hb d_M_byteAt_147 (by decide) ?_
              refine lv_icmp_ne (tgt := 159) hx hb d_M_byteAt_148 (by decide) (fun hc => ?_) (fun hc => ?_)
              · have h := h.2 hc
                exact j159 _ _ _ _ _ _ h hw (lv_sub hl [8] rfl)
              · have h := h.1 hc
                refine lv_iload hx hb d_M_byteAt_151 (lv_at hl 8 rfl) ?_
                refine lv_bipush (v := 10) hx hb d_M_byteAt_153 (by decide) ?_
                refine lv_idiv hx hb d_M_byteAt_155 (by decide) ?_
                refine lv_goto (tgt := 164) hx hb d_M_byteAt_156 (by decide) ?_
                refine lv_iadd hx hb d_M_byteAt_164 ?_
                exact hE (48 + (x6 / 10)) (M_found) _ _ _ _ h hw d_M_byteAt_165
          · have h := h.1 hc
            refine lv_iload hx hb d_M_byteAt_120 (lv_at hl 7 rfl) ?_
            refine lv_iconst (v := 2) hx hb d_M_byteAt_122 (by decide) ?_
            refine lv_irem hx hb d_M_byteAt_123 (by decide) ?_
            refine lv_if_ne (tgt := 132) hx hb d_M_byteAt_124 (by decide) (fun hc => ?_) (fun hc => ?_)
            · have h := h.2 hc
              refine lv_bipush (v := 45) hx hb d_M_byteAt_132 (by decide) ?_
              refine lv_goto (tgt := 165) hx hb d_M_byteAt_134 (by decide) ?_
              exact hE 45 (M_found) _ _ _ _ h hw d_M_byteAt_165
            · have h := h.1 hc
              refine lv_bipush (v := 43) hx hb d_M_byteAt_127 (by decide) ?_
              refine lv_goto (tgt := 165) hx hb d_M_byteAt_129 (by decide) ?_
              exact hE 43 (M_found) _ _ _ _ h hw d_M_byteAt_165
        · have h := h.1 hc
          refine lv_bipush (v := 32) hx hb d_M_byteAt_109 (by decide) ?_
          refine lv_goto (tgt := 165) hx hb d_M_byteAt_111 (by decide) ?_
          exact hE 32 (M_found) _ _ _ _ h hw d_M_byteAt_165
  have hc4 : ∀ (x2 : Int32) (x3 : Int32) (M_found : Int32), s_M_byteAt_4 M_lines M_equals M_counts M_literals p1 C4 C40 post x2 x3 M_found → C4 x2 x3 M_found := by
    intro x2 x3 M_found h
    unfold s_M_byteAt_4 at h
    refine (hC4 _ _ _).2 ?_
    intro H locs ls hw hl
    refine lv_iload_n hx hb d_M_byteAt_4 rfl (lv_at hl 3 rfl) ?_
    refine lv_aload_n hx hb d_M_byteAt_5 rfl (lv_at hl 0 rfl) ?_
    refine va_get (D := D) (ci := 5) (v := .int M_lines) (C := R_M) (T := T_M) (N := 18) hx hb hts (fun w h => List.mem_cons_of_mem _ (iw_M w h)) hown hK.1 hw.1 0 rfl rfl 8 (by decide) (hg gm_575) (fun _ h9 => h9) rfl d_M_byteAt_6 ?_
    refine lv_icmp_ge (tgt := 196) hx hb d_M_byteAt_9 (by decide) (fun hc => ?_) (fun hc => ?_)
    · have h := h.1 hc
      refine lv_aload_n hx hb d_M_byteAt_196 rfl (lv_at hl 0 rfl) ?_
      refine lv_iload_n hx hb d_M_byteAt_197 rfl (lv_at hl 2 rfl) ?_
      refine m_put (ws' := [(k_M cA ad M_thrown M_gates M_lines M_conflict M_moved M_tapeSize M_place x2), (k_M_equals cA ad M_equals), (k_M_counts cA ad M_counts), (k_M_literals cA ad M_literals)]) (ci := 5) (v := .int x2) (ty := .int) (C := R_M) (T := T_M) (N := 18) hx hb hts (fun w h => List.mem_cons_of_mem _ (iw_M w h)) ty_M tyok_M nm_M hown hK.1 hw 0 rfl rfl 17 (by decide) (hg gm_584) (fun _ h9 => h9) rfl (by decide +kernel) rfl rfl (Nat.le_of_ble_eq_true rfl) rfl d_M_byteAt_198 (fun H locs hw => ?_)
      refine lv_iconst (v := (-1)) hx hb d_M_byteAt_201 (by decide) ?_
      exact hE (-1) (x2) _ _ _ _ h hw d_M_byteAt_202
    · have h := h.2 hc
      refine lv_iload_n hx hb d_M_byteAt_12 rfl (lv_at hl 1 rfl) ?_
      refine lv_iload_n hx hb d_M_byteAt_13 rfl (lv_at hl 2 rfl) ?_
      refine lv_icmp_ne (tgt := 34) hx hb d_M_byteAt_14 (by decide) (fun hc => ?_) (fun hc => ?_)
      · have h := h.2 hc
        refine lv_iinc (v := (x2 + 1)) (lv' := [(2, .int (x2 + 1)), (0, .ref (ad 15)), (1, .int p1), (3, .int x3)]) hx hb d_M_byteAt_34 hl (k := 2) rfl rfl (by decide) rfl (fun ls hl => ?_)
        refine lv_iconst (v := 0) hx hb d_M_byteAt_37 (by decide) ?_
        refine lv_istore (lv' := [(4, .int 0), (2, .int (x2 + 1)), (0, .ref (ad 15)), (1, .int p1), (3, .int x3)]) hx hb d_M_byteAt_38 hl (by decide) rfl (fun ls hl => ?_)
        exact (hC40 _ _ _ _).1 h _ _ _ hw (lv_sub hl [2, 3, 1, 4, 0] rfl)
      · have h := h.1 hc
        refine lv_aload_n hx hb d_M_byteAt_17 rfl (lv_at hl 0 rfl) ?_
        refine va_get (D := D) (ci := 5) (v := .ref (ad 19)) (C := R_M) (T := T_M) (N := 18) hx hb hts (fun w h => List.mem_cons_of_mem _ (iw_M w h)) hown hK.1 hw.1 0 rfl rfl 5 (by decide) (hg gm_572) (fun _ h9 => h9) rfl d_M_byteAt_18 ?_
        refine lv_iload_n hx hb d_M_byteAt_21 rfl (lv_at hl 3 rfl) ?_
        refine va_zald hx hb hK.1 hw.1 1 1 rfl rfl h.1 d_M_byteAt_22 ?_
        have h := h.2
        refine lv_if_eq (tgt := 31) hx hb d_M_byteAt_23 (by decide) (fun hc => ?_) (fun hc => ?_)
        · have h := h.1 hc
          refine lv_bipush (v := 99) hx hb d_M_byteAt_31 (by decide) ?_
          exact hE 99 (M_found) _ _ _ _ h hw d_M_byteAt_33
        · have h := h.2 hc
          refine lv_bipush (v := 61) hx hb d_M_byteAt_26 (by decide) ?_
          refine lv_goto (tgt := 33) hx hb d_M_byteAt_28 (by decide) ?_
          exact hE 61 (M_found) _ _ _ _ h hw d_M_byteAt_33
  have hc40 : ∀ (x2 : Int32) (x3 : Int32) (x4 : Int32) (M_found : Int32), s_M_byteAt_40 M_lines M_equals M_counts M_literals p1 C4 C40 post x2 x3 x4 M_found → C40 x2 x3 x4 M_found := by
    intro x2 x3 x4 M_found h
    unfold s_M_byteAt_40 at h
    refine (hC40 _ _ _ _).2 ?_
    intro H locs ls hw hl
    refine lv_iload hx hb d_M_byteAt_40 (lv_at hl 4 rfl) ?_
    refine lv_aload_n hx hb d_M_byteAt_42 rfl (lv_at hl 0 rfl) ?_
    refine va_get (D := D) (ci := 5) (v := .ref (ad 20)) (C := R_M) (T := T_M) (N := 18) hx hb hts (fun w h => List.mem_cons_of_mem _ (iw_M w h)) hown hK.1 hw.1 0 rfl rfl 6 (by decide) (hg gm_573) (fun _ h9 => h9) rfl d_M_byteAt_43 ?_
    refine lv_iload_n hx hb d_M_byteAt_46 rfl (lv_at hl 3 rfl) ?_
    refine va_iald hx hb hK.1 hw.1 2 0 rfl rfl h.1 d_M_byteAt_47 ?_
    have h := h.2
    refine lv_icmp_ge (tgt := 179) hx hb d_M_byteAt_48 (by decide) (fun hc => ?_) (fun hc => ?_)
    · have h := h.1 hc
      refine lv_iload_n hx hb d_M_byteAt_179 rfl (lv_at hl 1 rfl) ?_
      refine lv_iload_n hx hb d_M_byteAt_180 rfl (lv_at hl 2 rfl) ?_
      refine lv_icmp_ne (tgt := 187) hx hb d_M_byteAt_181 (by decide) (fun hc => ?_) (fun hc => ?_)
      · have h := h.2 hc
        refine lv_iinc (v := (x2 + 1)) (lv' := [(2, .int (x2 + 1)), (0, .ref (ad 15)), (1, .int p1), (3, .int x3), (4, .int x4)]) hx hb d_M_byteAt_187 hl (k := 2) rfl rfl (by decide) rfl (fun ls hl => ?_)
        refine lv_iinc (v := (x3 + 1)) (lv' := [(3, .int (x3 + 1)), (2, .int (x2 + 1)), (0, .ref (ad 15)), (1, .int p1), (4, .int x4)]) hx hb d_M_byteAt_190 hl (k := 3) rfl rfl (by decide) rfl (fun ls hl => ?_)
        refine lv_goto (tgt := 4) hx hb d_M_byteAt_193 (by decide) ?_
        exact (hC4 _ _ _).1 h _ _ _ hw (lv_sub hl [2, 3, 1, 0] rfl)
      · have h := h.1 hc
        refine lv_bipush (v := 10) hx hb d_M_byteAt_184 (by decide) ?_
        exact hE 10 (M_found) _ _ _ _ h hw d_M_byteAt_186
    · have h := h.2 hc
      refine lv_aload_n hx hb d_M_byteAt_51 rfl (lv_at hl 0 rfl) ?_
      refine va_get (D := D) (ci := 5) (v := .ref (ad 21)) (C := R_M) (T := T_M) (N := 18) hx hb hts (fun w h => List.mem_cons_of_mem _ (iw_M w h)) hown hK.1 hw.1 0 rfl rfl 7 (by decide) (hg gm_574) (fun _ h9 => h9) rfl d_M_byteAt_52 ?_
      refine lv_bipush (v := 6) hx hb d_M_byteAt_55 (by decide) ?_
      refine lv_iload_n hx hb d_M_byteAt_57 rfl (lv_at hl 3 rfl) ?_
      refine lv_imul hx hb d_M_byteAt_58 ?_
      refine lv_iload hx hb d_M_byteAt_59 (lv_at hl 4 rfl) ?_
      refine lv_iadd hx hb d_M_byteAt_61 ?_
      refine va_iald hx hb hK.1 hw.1 3 0 rfl rfl h.1 d_M_byteAt_62 ?_
      have h := h.2
      refine lv_istore (lv' := [(5, .int (M_literals ((6 * x3) + x4).toNatClampNeg)), (0, .ref (ad 15)), (1, .int p1), (2, .int x2), (3, .int x3), (4, .int x4)]) hx hb d_M_byteAt_63 hl (by decide) rfl (fun ls hl => ?_)
      refine lv_iload hx hb d_M_byteAt_65 (lv_at hl 0 rfl) ?_
      refine lv_iconst (v := 2) hx hb d_M_byteAt_67 (by decide) ?_
      refine lv_idiv hx hb d_M_byteAt_68 (by decide) ?_
      refine lv_istore (lv' := [(6, .int ((M_literals ((6 * x3) + x4).toNatClampNeg) / 2)), (5, .int (M_literals ((6 * x3) + x4).toNatClampNeg)), (0, .ref (ad 15)), (1, .int p1), (2, .int x2), (3, .int x3), (4, .int x4)]) hx hb d_M_byteAt_69 hl (by decide) rfl (fun ls hl => ?_)
      refine lv_iload hx hb d_M_byteAt_71 (lv_at hl 0 rfl) ?_
      refine lv_bipush (v := 9) hx hb d_M_byteAt_73 (by decide) ?_
      refine lv_icmp_le (tgt := 82) hx hb d_M_byteAt_75 (by decide) (fun hc => ?_) (fun hc => ?_)
      · have h := h.1 hc
        refine lv_iconst (v := 1) hx hb d_M_byteAt_82 (by decide) ?_
        exact j83 _ _ _ _ _ _ _ _ _ _ h hw (lv_sub hl [2, 3, 4, 5, 6, 1, 0] rfl)
      · have h := h.2 hc
        refine lv_iconst (v := 2) hx hb d_M_byteAt_78 (by decide) ?_
        refine lv_goto (tgt := 83) hx hb d_M_byteAt_79 (by decide) ?_
        exact j83 _ _ _ _ _ _ _ _ _ _ h hw (lv_sub hl [2, 3, 4, 5, 6, 1, 0] rfl)
  unfold wp_M_byteAt at h
  have h := h C4 C40 hc4 hc40
  refine lv_iconst (v := 0) hx hb d_M_byteAt_0 (by decide) ?_
  refine lv_istore_n (lv' := [(2, .int 0), (0, .ref (ad 15)), (1, .int p1)]) hx hb d_M_byteAt_1 rfl hl (by decide) rfl (fun ls hl => ?_)
  refine lv_iconst (v := 0) hx hb d_M_byteAt_2 (by decide) ?_
  refine lv_istore_n (lv' := [(3, .int 0), (2, .int 0), (0, .ref (ad 15)), (1, .int p1)]) hx hb d_M_byteAt_3 rfl hl (by decide) rfl (fun ls hl => ?_)
  exact (hC4 _ _ _).1 h _ _ _ hw (lv_sub hl [2, 3, 1, 0] rfl)
def rm_M_text : Room := { frames := 1, cells := 0, slots := 0, locals := 28 }
set_option maxHeartbeats 4000000 in
set_option maxRecDepth 100000 in
theorem c_M_text (l : Launch) (D : va_G) (cA : Nat → ClassId) (ad : Nat → Nat) (sz : Nat) (M_thrown : Int32) (M_gates : Int32) (M_lines : Int32) (M_conflict : Int32) (M_moved : Int32) (M_tapeSize : Int32) (M_place : Int32) (M_found : Int32) (M_equals : (Nat → Int32)) (M_counts : (Nat → Int32)) (M_literals : (Nat → Int32)) (p1 : Int32) (post : Int32 → Int32 → Int32 → Prop) (h : wp_M_text M_thrown M_lines M_found M_equals M_counts M_literals p1 post) : Met l y_M_text w_M_text rm_M_text (mPc D cA [.ref (ad 15), .int p1] [(k_M cA ad M_thrown M_gates M_lines M_conflict M_moved M_tapeSize M_place M_found), (k_M_equals cA ad M_equals), (k_M_counts cA ad M_counts), (k_M_literals cA ad M_literals)] sz) (va_Qi (fun (r : Int32) (u : Int32 × Int32) => post r u.1 u.2) (mB D (va_A [(k_M cA ad M_thrown M_gates M_lines M_conflict M_moved M_tapeSize M_place M_found), (k_M_equals cA ad M_equals), (k_M_counts cA ad M_counts), (k_M_literals cA ad M_literals)] sz) (fun (u : Int32 × Int32) => [(k_M cA ad u.1 M_gates M_lines M_conflict M_moved M_tapeSize M_place u.2), (k_M_equals cA ad M_equals), (k_M_counts cA ad M_counts), (k_M_literals cA ad M_literals)])) (va_A [(k_M cA ad M_thrown M_gates M_lines M_conflict M_moved M_tapeSize M_place M_found), (k_M_equals cA ad M_equals), (k_M_counts cA ad M_counts), (k_M_literals cA ad M_literals)] sz)) 0 0 (va_A [(k_M cA ad M_thrown M_gates M_lines M_conflict M_moved M_tapeSize M_place M_found), (k_M_equals cA ad M_equals), (k_M_counts cA ad M_counts), (k_M_literals cA ad M_literals)] sz) := by
  refine m_methI (by decide) rfl (Nat.le_of_ble_eq_true rfl) ?_
  intro p e s m below meth c A Q ls hx hb hml hown hts hK hA hw hl hE
  have hl : lv_has ls 3 [(0, .ref (ad 15)), (1, .int p1)] := hl
  have hown : s.vm.findClass R_M = some m.cls := hown
  have hg : ∀ {w : Cond}, w ∈ gw → w.before _ s = true := fun h => hts _ (List.mem_cons_of_mem _ h)
  have j24 : ∀ (s0 : Int32) (x2 : Int32) (M_thrown : Int32) (M_found : Int32) (H : Heap) (locs : List Loc) (ls : Array Slot), s_M_text_24 M_lines M_equals M_counts M_literals p1 post s0 x2 M_thrown M_found → mW D A s.heap [(k_M cA ad M_thrown M_gates M_lines M_conflict M_moved M_tapeSize M_place M_found), (k_M_equals cA ad M_equals), (k_M_counts cA ad M_counts), (k_M_literals cA ad M_literals)] H locs → lv_has ls 3 [(2, .int x2)] → W p l e rm_M_text s m [.ref (ad 15), .int p1].toArray below meth c H locs 0 0 Q (F0 m 24 ls [.int s0, .ref (ad 15)]) := by
    intro s0 x2 M_thrown M_found H locs ls h hw hl
    unfold s_M_text_24 at h
    refine m_put (ws' := [(k_M cA ad s0 M_gates M_lines M_conflict M_moved M_tapeSize M_place M_found), (k_M_equals cA ad M_equals), (k_M_counts cA ad M_counts), (k_M_literals cA ad M_literals)]) (ci := 5) (v := .int s0) (ty := .int) (C := R_M) (T := T_M) (N := 18) hx hb hts (fun w h => List.mem_cons_of_mem _ (iw_M w h)) ty_M tyok_M nm_M hown hK.1 hw 0 rfl rfl 0 (by decide) (hg gm_567) (fun _ h9 => h9) rfl (by decide +kernel) rfl rfl (Nat.le_of_ble_eq_true rfl) rfl d_M_text_24 (fun H locs hw => ?_)
    refine lv_iload_n hx hb d_M_text_27 rfl (lv_at hl 0 rfl) ?_
    refine lv_if_ge (tgt := 35) hx hb d_M_text_28 (by decide) (fun hc => ?_) (fun hc => ?_)
    · have h := h.1 hc
      refine lv_iload_n hx hb d_M_text_35 rfl (lv_at hl 0 rfl) ?_
      exact hE x2 (s0, M_found) _ _ _ _ h hw d_M_text_36
    · have h := h.2 hc
      refine lv_iconst (v := 0) hx hb d_M_text_31 (by decide) ?_
      refine lv_goto (tgt := 36) hx hb d_M_text_32 (by decide) ?_
      exact hE 0 (s0, M_found) _ _ _ _ h hw d_M_text_36
  have j13 : ∀ (s0 : Int32) (M_thrown : Int32) (M_found : Int32) (H : Heap) (locs : List Loc) (ls : Array Slot), s_M_text_13 M_lines M_equals M_counts M_literals p1 post s0 M_thrown M_found → mW D A s.heap [(k_M cA ad M_thrown M_gates M_lines M_conflict M_moved M_tapeSize M_place M_found), (k_M_equals cA ad M_equals), (k_M_counts cA ad M_counts), (k_M_literals cA ad M_literals)] H locs → lv_has ls 3 [(0, .ref (ad 15))] → W p l e rm_M_text s m [.ref (ad 15), .int p1].toArray below meth c H locs 0 0 Q (F0 m 13 ls [.int s0]) := by
    intro s0 M_thrown M_found H locs ls h hw hl
    unfold s_M_text_13 at h
    refine lv_istore_n (lv' := [(2, .int s0), (0, .ref (ad 15))]) hx hb d_M_text_13 rfl hl (by decide) rfl (fun ls hl => ?_)
    refine lv_aload_n hx hb d_M_text_14 rfl (lv_at hl 1 rfl) ?_
    refine lv_iload_n hx hb d_M_text_15 rfl (lv_at hl 0 rfl) ?_
    refine lv_if_ge (tgt := 23) hx hb d_M_text_16 (by decide) (fun hc => ?_) (fun hc => ?_)
    · have h := h.1 hc
      refine lv_iconst (v := 0) hx hb d_M_text_23 (by decide) ?_
      exact j24 _ _ _ _ _ _ _ h hw (lv_sub hl [0] rfl)
    · have h := h.2 hc
      refine lv_iconst (v := 1) hx hb d_M_text_19 (by decide) ?_
      refine lv_goto (tgt := 24) hx hb d_M_text_20 (by decide) ?_
      exact j24 _ _ _ _ _ _ _ h hw (lv_sub hl [0] rfl)
  unfold wp_M_text at h
  refine lv_iload_n hx hb d_M_text_0 rfl (lv_at hl 1 rfl) ?_
  refine lv_if_ge (tgt := 8) hx hb d_M_text_1 (by decide) (fun hc => ?_) (fun hc => ?_)
  · have h := h.1 hc
    refine lv_aload_n hx hb d_M_text_8 rfl (lv_at hl 0 rfl) ?_
    refine lv_iload_n hx hb d_M_text_9 rfl (lv_at hl 1 rfl) ?_
    refine m_calli (hr := va_runV (As := [.int p1]) (rest := []) ⟨hx, hb, hml, hown, hts⟩ (c_M_byteAt l D cA ad _ M_thrown M_gates M_lines M_conflict M_moved M_tapeSize M_place M_found M_equals M_counts M_literals p1 _ h) (cwV 1 hts (ginV gm_734 gm_736 gs_56 gm_6 gm_737) rfl rfl rfl (by decide +kernel) ⟨Nat.le_of_ble_eq_true rfl, Nat.le_of_ble_eq_true rfl⟩) (m_preV 5 0 rfl rfl hK hw [0, 1, 2, 3] rfl rfl) rfl rfl hl.1 rfl (lv_room (Nat.le_of_ble_eq_true rfl)) d_M_text_10 ⟨Nat.zero_le _, Nat.zero_le _⟩) (w2 := (fun (u : Int32) => [(k_M cA ad M_thrown M_gates M_lines M_conflict M_moved M_tapeSize M_place u), (k_M_equals cA ad M_equals), (k_M_counts cA ad M_counts), (k_M_literals cA ad M_literals)])) (wr := []) hw hA [0, 1, 2, 3] [] [0, 1, 2, 3] rfl rfl (by decide) (by decide) (by decide) (fun _ => rfl) (fun r10 u H locs hw h => ?_)
    obtain ⟨M_found_10, rfl⟩ : ∃ z, z = u := ⟨_, rfl⟩
    have hw : mW D A s.heap [(k_M cA ad M_thrown M_gates M_lines M_conflict M_moved M_tapeSize M_place M_found_10), (k_M_equals cA ad M_equals), (k_M_counts cA ad M_counts), (k_M_literals cA ad M_literals)] H locs := hw
    exact j13 _ _ _ _ _ _ h hw (lv_sub hl [0] rfl)
  · have h := h.2 hc
    refine lv_iconst (v := (-1)) hx hb d_M_text_4 (by decide) ?_
    refine lv_goto (tgt := 13) hx hb d_M_text_5 (by decide) ?_
    exact j13 _ _ _ _ _ _ h hw (lv_sub hl [0] rfl)
def rm_M_count : Room := { frames := 1, cells := 0, slots := 0, locals := 28 }
set_option maxHeartbeats 4000000 in
set_option maxRecDepth 100000 in
theorem c_M_count (l : Launch) (D : va_G) (cA : Nat → ClassId) (ad : Nat → Nat) (sz : Nat) (M_thrown : Int32) (M_gates : Int32) (M_lines : Int32) (M_conflict : Int32) (M_moved : Int32) (M_tapeSize : Int32) (M_place : Int32) (M_found : Int32) (M_kinds : (Nat → Int32)) (M_equals : (Nat → Int32)) (M_counts : (Nat → Int32)) (M_literals : (Nat → Int32)) (p1 : Int32) (post : Int32 → Int32 → Int32 → Prop) (h : wp_M_count M_thrown M_gates M_lines M_tapeSize M_found M_kinds M_equals M_counts M_literals p1 post) : Met l y_M_count w_M_count rm_M_count (mPc D cA [.ref (ad 15), .int p1] [(k_M cA ad M_thrown M_gates M_lines M_conflict M_moved M_tapeSize M_place M_found), (k_M_kinds cA ad M_kinds), (k_M_equals cA ad M_equals), (k_M_counts cA ad M_counts), (k_M_literals cA ad M_literals)] sz) (va_Qi (fun (r : Int32) (u : Int32 × Int32) => post r u.1 u.2) (mB D (va_A [(k_M cA ad M_thrown M_gates M_lines M_conflict M_moved M_tapeSize M_place M_found), (k_M_kinds cA ad M_kinds), (k_M_equals cA ad M_equals), (k_M_counts cA ad M_counts), (k_M_literals cA ad M_literals)] sz) (fun (u : Int32 × Int32) => [(k_M cA ad u.1 M_gates M_lines M_conflict M_moved M_tapeSize M_place u.2), (k_M_kinds cA ad M_kinds), (k_M_equals cA ad M_equals), (k_M_counts cA ad M_counts), (k_M_literals cA ad M_literals)])) (va_A [(k_M cA ad M_thrown M_gates M_lines M_conflict M_moved M_tapeSize M_place M_found), (k_M_kinds cA ad M_kinds), (k_M_equals cA ad M_equals), (k_M_counts cA ad M_counts), (k_M_literals cA ad M_literals)] sz)) 0 0 (va_A [(k_M cA ad M_thrown M_gates M_lines M_conflict M_moved M_tapeSize M_place M_found), (k_M_kinds cA ad M_kinds), (k_M_equals cA ad M_equals), (k_M_counts cA ad M_counts), (k_M_literals cA ad M_literals)] sz) := by
  refine m_methI (by decide) rfl (Nat.le_of_ble_eq_true rfl) ?_
  intro p e s m below meth c A Q ls hx hb hml hown hts hK hA hw hl hE
  have hl : lv_has ls 2 [(0, .ref (ad 15)), (1, .int p1)] := hl
  have hown : s.vm.findClass R_M = some m.cls := hown
  have hg : ∀ {w : Cond}, w ∈ gw → w.before _ s = true := fun h => hts _ (List.mem_cons_of_mem _ h)
  have j15 : ∀ (s0 : Int32) (M_thrown : Int32) (M_found : Int32) (H : Heap) (locs : List Loc) (ls : Array Slot), s_M_count_15 M_gates M_lines M_tapeSize M_kinds M_equals M_counts M_literals p1 post s0 M_thrown M_found → mW D A s.heap [(k_M cA ad M_thrown M_gates M_lines M_conflict M_moved M_tapeSize M_place M_found), (k_M_kinds cA ad M_kinds), (k_M_equals cA ad M_equals), (k_M_counts cA ad M_counts), (k_M_literals cA ad M_literals)] H locs → lv_has ls 2 [(0, .ref (ad 15)), (1, .int p1)] → W p l e rm_M_count s m [.ref (ad 15), .int p1].toArray below meth c H locs 0 0 Q (F0 m 15 ls [.int s0, .ref (ad 15)]) := by
    intro s0 M_thrown M_found H locs ls h hw hl
    unfold s_M_count_15 at h
    refine m_put (ws' := [(k_M cA ad s0 M_gates M_lines M_conflict M_moved M_tapeSize M_place M_found), (k_M_kinds cA ad M_kinds), (k_M_equals cA ad M_equals), (k_M_counts cA ad M_counts), (k_M_literals cA ad M_literals)]) (ci := 5) (v := .int s0) (ty := .int) (C := R_M) (T := T_M) (N := 18) hx hb hts (fun w h => List.mem_cons_of_mem _ (iw_M w h)) ty_M tyok_M nm_M hown hK.1 hw 0 rfl rfl 0 (by decide) (hg gm_567) (fun _ h9 => h9) rfl (by decide +kernel) rfl rfl (Nat.le_of_ble_eq_true rfl) rfl d_M_count_15 (fun H locs hw => ?_)
    refine lv_aload_n hx hb d_M_count_18 rfl (lv_at hl 0 rfl) ?_
    refine va_get (D := D) (ci := 5) (v := .int s0) (C := R_M) (T := T_M) (N := 18) hx hb hts (fun w h => List.mem_cons_of_mem _ (iw_M w h)) hown hK.1 hw.1 0 rfl rfl 0 (by decide) (hg gm_567) (fun _ h9 => h9) rfl d_M_count_19 ?_
    refine lv_if_le (tgt := 27) hx hb d_M_count_22 (by decide) (fun hc => ?_) (fun hc => ?_)
    · have h := h.1 hc
      refine lv_iload_n hx hb d_M_count_27 rfl (lv_at hl 1 rfl) ?_
      refine lv_iconst (v := 4) hx hb d_M_count_28 (by decide) ?_
      refine lv_icmp_ne (tgt := 44) hx hb d_M_count_29 (by decide) (fun hc => ?_) (fun hc => ?_)
      · have h := h.2 hc
        refine lv_iload_n hx hb d_M_count_44 rfl (lv_at hl 1 rfl) ?_
        refine lv_if_ne (tgt := 55) hx hb d_M_count_45 (by decide) (fun hc => ?_) (fun hc => ?_)
        · have h := h.2 hc
          refine lv_iload_n hx hb d_M_count_55 rfl (lv_at hl 1 rfl) ?_
          refine lv_iconst (v := 1) hx hb d_M_count_56 (by decide) ?_
          refine lv_icmp_ne (tgt := 67) hx hb d_M_count_57 (by decide) (fun hc => ?_) (fun hc => ?_)
          · have h := h.2 hc
            refine lv_iload_n hx hb d_M_count_67 rfl (lv_at hl 1 rfl) ?_
            refine lv_iconst (v := 2) hx hb d_M_count_68 (by decide) ?_
            refine lv_icmp_ne (tgt := 79) hx hb d_M_count_69 (by decide) (fun hc => ?_) (fun hc => ?_)
            · have h := h.2 hc
              refine lv_aload_n hx hb d_M_count_79 rfl (lv_at hl 0 rfl) ?_
              refine va_get (D := D) (ci := 5) (v := .int M_tapeSize) (C := R_M) (T := T_M) (N := 18) hx hb hts (fun w h => List.mem_cons_of_mem _ (iw_M w h)) hown hK.1 hw.1 0 rfl rfl 13 (by decide) (hg gm_580) (fun _ h9 => h9) rfl d_M_count_80 ?_
              exact hE M_tapeSize (s0, M_found) _ _ _ _ h hw d_M_count_83
            · have h := h.1 hc
              refine lv_aload_n hx hb d_M_count_72 rfl (lv_at hl 0 rfl) ?_
              refine va_get (D := D) (ci := 5) (v := .int M_lines) (C := R_M) (T := T_M) (N := 18) hx hb hts (fun w h => List.mem_cons_of_mem _ (iw_M w h)) hown hK.1 hw.1 0 rfl rfl 8 (by decide) (hg gm_575) (fun _ h9 => h9) rfl d_M_count_73 ?_
              refine lv_goto (tgt := 83) hx hb d_M_count_76 (by decide) ?_
              exact hE M_lines (s0, M_found) _ _ _ _ h hw d_M_count_83
          · have h := h.1 hc
            refine lv_aload_n hx hb d_M_count_60 rfl (lv_at hl 0 rfl) ?_
            refine m_calli (hr := va_runV (As := []) (rest := []) ⟨hx, hb, hml, hown, hts⟩ (c_M_inputs l D cA ad _ s0 M_gates M_lines M_conflict M_moved M_tapeSize M_place M_found M_kinds _ h) (cwV 0 hts (ginV gm_743 gm_745 gs_57 gm_6 gm_746) rfl rfl rfl (by decide +kernel) ⟨Nat.le_of_ble_eq_true rfl, Nat.le_of_ble_eq_true rfl⟩) (m_preV 5 0 rfl rfl hK hw [0, 1] rfl rfl) rfl rfl hl.1 rfl (lv_room (Nat.le_of_ble_eq_true rfl)) d_M_count_61 ⟨Nat.zero_le _, Nat.zero_le _⟩) (w2 := (fun (_ : Unit) => [(k_M cA ad s0 M_gates M_lines M_conflict M_moved M_tapeSize M_place M_found), (k_M_kinds cA ad M_kinds), (k_M_equals cA ad M_equals), (k_M_counts cA ad M_counts), (k_M_literals cA ad M_literals)])) (wr := [(k_M_equals cA ad M_equals), (k_M_counts cA ad M_counts), (k_M_literals cA ad M_literals)]) hw hA [0, 1] [2, 3, 4] [3, 4, 0, 1, 2] rfl rfl (by decide) (by decide) (by decide) (fun _ => rfl) (fun r61 u H locs hw h => ?_)
            refine lv_goto (tgt := 83) hx hb d_M_count_64 (by decide) ?_
            exact hE r61 (s0, M_found) _ _ _ _ h hw d_M_count_83
        · have h := h.1 hc
          refine lv_aload_n hx hb d_M_count_48 rfl (lv_at hl 0 rfl) ?_
          refine va_get (D := D) (ci := 5) (v := .int M_gates) (C := R_M) (T := T_M) (N := 18) hx hb hts (fun w h => List.mem_cons_of_mem _ (iw_M w h)) hown hK.1 hw.1 0 rfl rfl 4 (by decide) (hg gm_571) (fun _ h9 => h9) rfl d_M_count_49 ?_
          refine lv_goto (tgt := 83) hx hb d_M_count_52 (by decide) ?_
          exact hE M_gates (s0, M_found) _ _ _ _ h hw d_M_count_83
      · have h := h.1 hc
        refine lv_aload_n hx hb d_M_count_32 rfl (lv_at hl 0 rfl) ?_
        refine lv_ldc (v := 1000000) hx hb hown (hg gm_742) d_M_count_33 ?_
        refine m_calli (hr := va_runV (As := [.int 1000000]) (rest := []) ⟨hx, hb, hml, hown, hts⟩ (c_M_byteAt l D cA ad _ s0 M_gates M_lines M_conflict M_moved M_tapeSize M_place M_found M_equals M_counts M_literals 1000000 _ h) (cwV 1 hts (ginV gm_734 gm_736 gs_56 gm_6 gm_737) rfl rfl rfl (by decide +kernel) ⟨Nat.le_of_ble_eq_true rfl, Nat.le_of_ble_eq_true rfl⟩) (m_preV 5 0 rfl rfl hK hw [0, 2, 3, 4] rfl rfl) rfl rfl hl.1 rfl (lv_room (Nat.le_of_ble_eq_true rfl)) d_M_count_35 ⟨Nat.zero_le _, Nat.zero_le _⟩) (w2 := (fun (u : Int32) => [(k_M cA ad s0 M_gates M_lines M_conflict M_moved M_tapeSize M_place u), (k_M_kinds cA ad M_kinds), (k_M_equals cA ad M_equals), (k_M_counts cA ad M_counts), (k_M_literals cA ad M_literals)])) (wr := [(k_M_kinds cA ad M_kinds)]) hw hA [0, 2, 3, 4] [1] [1, 0, 2, 3, 4] rfl rfl (by decide) (by decide) (by decide) (fun _ => rfl) (fun r35 u H locs hw h => ?_)
        obtain ⟨M_found_35, rfl⟩ : ∃ z, z = u := ⟨_, rfl⟩
        have hw : mW D A s.heap [(k_M cA ad s0 M_gates M_lines M_conflict M_moved M_tapeSize M_place M_found_35), (k_M_kinds cA ad M_kinds), (k_M_equals cA ad M_equals), (k_M_counts cA ad M_counts), (k_M_literals cA ad M_literals)] H locs := hw
        refine lv_pop hx hb d_M_count_38 rfl ?_
        refine lv_aload_n hx hb d_M_count_39 rfl (lv_at hl 0 rfl) ?_
        refine va_get (D := D) (ci := 5) (v := .int M_found_35) (C := R_M) (T := T_M) (N := 18) hx hb hts (fun w h => List.mem_cons_of_mem _ (iw_M w h)) hown hK.1 hw.1 0 rfl rfl 17 (by decide) (hg gm_584) (fun _ h9 => h9) rfl d_M_count_40 ?_
        exact hE M_found_35 (s0, M_found_35) _ _ _ _ h hw d_M_count_43
    · have h := h.2 hc
      refine lv_iconst (v := 0) hx hb d_M_count_25 (by decide) ?_
      exact hE 0 (s0, M_found) _ _ _ _ h hw d_M_count_26
  have j14 : ∀ (M_thrown : Int32) (M_found : Int32) (H : Heap) (locs : List Loc) (ls : Array Slot), s_M_count_14 M_gates M_lines M_tapeSize M_kinds M_equals M_counts M_literals p1 post M_thrown M_found → mW D A s.heap [(k_M cA ad M_thrown M_gates M_lines M_conflict M_moved M_tapeSize M_place M_found), (k_M_kinds cA ad M_kinds), (k_M_equals cA ad M_equals), (k_M_counts cA ad M_counts), (k_M_literals cA ad M_literals)] H locs → lv_has ls 2 [(0, .ref (ad 15)), (1, .int p1)] → W p l e rm_M_count s m [.ref (ad 15), .int p1].toArray below meth c H locs 0 0 Q (F0 m 14 ls [.ref (ad 15)]) := by
    intro M_thrown M_found H locs ls h hw hl
    unfold s_M_count_14 at h
    refine lv_iconst (v := 1) hx hb d_M_count_14 (by decide) ?_
    exact j15 _ _ _ _ _ _ h hw (lv_sub hl [0, 1] rfl)
  unfold wp_M_count at h
  refine lv_aload_n hx hb d_M_count_0 rfl (lv_at hl 0 rfl) ?_
  refine lv_iload_n hx hb d_M_count_1 rfl (lv_at hl 1 rfl) ?_
  refine lv_if_lt (tgt := 14) hx hb d_M_count_2 (by decide) (fun hc => ?_) (fun hc => ?_)
  · have h := h.1 hc
    exact j14 _ _ _ _ _ h hw (lv_sub hl [0, 1] rfl)
  · have h := h.2 hc
    refine lv_iload_n hx hb d_M_count_5 rfl (lv_at hl 1 rfl) ?_
    refine lv_iconst (v := 4) hx hb d_M_count_6 (by decide) ?_
    refine lv_icmp_gt (tgt := 14) hx hb d_M_count_7 (by decide) (fun hc => ?_) (fun hc => ?_)
    · have h := h.1 hc
      exact j14 _ _ _ _ _ h hw (lv_sub hl [0, 1] rfl)
    · have h := h.2 hc
      refine lv_iconst (v := 0) hx hb d_M_count_10 (by decide) ?_
      refine lv_goto (tgt := 15) hx hb d_M_count_11 (by decide) ?_
      exact j15 _ _ _ _ _ _ h hw (lv_sub hl [0, 1] rfl)
def rm_M_clear : Room := { frames := 0, cells := 0, slots := 0, locals := 0 }
set_option maxHeartbeats 4000000 in
set_option maxRecDepth 100000 in
theorem c_M_clear (l : Launch) (D : va_G) (cA : Nat → ClassId) (ad : Nat → Nat) (sz : Nat) (M_thrown : Int32) (M_gates : Int32) (M_lines : Int32) (M_conflict : Int32) (M_moved : Int32) (M_tapeSize : Int32) (M_place : Int32) (M_found : Int32) (post : Int32 → Int32 → Prop) (h : wp_M_clear M_thrown M_lines post) : Met l y_M_clear w_M_clear rm_M_clear (mPc D cA [.ref (ad 15)] [(k_M cA ad M_thrown M_gates M_lines M_conflict M_moved M_tapeSize M_place M_found)] sz) (va_Qv (fun (u : Int32 × Int32) => post u.1 u.2) (mB D (va_A [(k_M cA ad M_thrown M_gates M_lines M_conflict M_moved M_tapeSize M_place M_found)] sz) (fun (u : Int32 × Int32) => [(k_M cA ad u.1 M_gates u.2 M_conflict M_moved M_tapeSize M_place M_found)])) (va_A [(k_M cA ad M_thrown M_gates M_lines M_conflict M_moved M_tapeSize M_place M_found)] sz)) 0 0 (va_A [(k_M cA ad M_thrown M_gates M_lines M_conflict M_moved M_tapeSize M_place M_found)] sz) := by
  refine m_methV (by decide) rfl (Nat.le_of_ble_eq_true rfl) ?_
  intro p e s m below meth c A Q ls hx hb hml hown hts hK hA hw hl hE
  have hl : lv_has ls 1 [(0, .ref (ad 15))] := hl
  have hown : s.vm.findClass R_M = some m.cls := hown
  have hg : ∀ {w : Cond}, w ∈ gw → w.before _ s = true := fun h => hts _ (List.mem_cons_of_mem _ h)
  unfold wp_M_clear at h
  refine lv_aload_n hx hb d_M_clear_0 rfl (lv_at hl 0 rfl) ?_
  refine lv_iconst (v := 0) hx hb d_M_clear_1 (by decide) ?_
  refine m_put (ws' := [(k_M cA ad 0 M_gates M_lines M_conflict M_moved M_tapeSize M_place M_found)]) (ci := 5) (v := .int 0) (ty := .int) (C := R_M) (T := T_M) (N := 18) hx hb hts (fun w h => List.mem_cons_of_mem _ (iw_M w h)) ty_M tyok_M nm_M hown hK.1 hw 0 rfl rfl 0 (by decide) (hg gm_567) (fun _ h9 => h9) rfl (by decide +kernel) rfl rfl (Nat.le_of_ble_eq_true rfl) rfl d_M_clear_2 (fun H locs hw => ?_)
  refine lv_aload_n hx hb d_M_clear_5 rfl (lv_at hl 0 rfl) ?_
  refine lv_iconst (v := 0) hx hb d_M_clear_6 (by decide) ?_
  refine m_put (ws' := [(k_M cA ad 0 M_gates 0 M_conflict M_moved M_tapeSize M_place M_found)]) (ci := 5) (v := .int 0) (ty := .int) (C := R_M) (T := T_M) (N := 18) hx hb hts (fun w h => List.mem_cons_of_mem _ (iw_M w h)) ty_M tyok_M nm_M hown hK.1 hw 0 rfl rfl 8 (by decide) (hg gm_575) (fun _ h9 => h9) rfl (by decide +kernel) rfl rfl (Nat.le_of_ble_eq_true rfl) rfl d_M_clear_7 (fun H locs hw => ?_)
  exact hE (0, 0) _ _ _ _ h hw d_M_clear_10
def rm_M_unit : Room := { frames := 0, cells := 0, slots := 0, locals := 0 }
set_option maxHeartbeats 4000000 in
set_option maxRecDepth 100000 in
theorem c_M_unit (l : Launch) (D : va_G) (cA : Nat → ClassId) (ad : Nat → Nat) (sz : Nat) (M_thrown : Int32) (M_gates : Int32) (M_lines : Int32) (M_conflict : Int32) (M_moved : Int32) (M_tapeSize : Int32) (M_place : Int32) (M_found : Int32) (M_tape : (Nat → Int32)) (p1 : Int32) (post : Int32 → Int32 → Int32 → (Nat → Int32) → Prop) (h : wp_M_unit M_thrown M_tapeSize M_tape p1 post) : Met l y_M_unit w_M_unit rm_M_unit (mPc D cA [.ref (ad 15), .int p1] [(k_M cA ad M_thrown M_gates M_lines M_conflict M_moved M_tapeSize M_place M_found), (k_M_tape cA ad M_tape)] sz) (va_Qi (fun (r : Int32) (u : Int32 × Int32 × (Nat → Int32)) => post r u.1 u.2.1 u.2.2) (mB D (va_A [(k_M cA ad M_thrown M_gates M_lines M_conflict M_moved M_tapeSize M_place M_found), (k_M_tape cA ad M_tape)] sz) (fun (u : Int32 × Int32 × (Nat → Int32)) => [(k_M cA ad u.1 M_gates M_lines M_conflict M_moved u.2.1 M_place M_found), (k_M_tape cA ad u.2.2)])) (va_A [(k_M cA ad M_thrown M_gates M_lines M_conflict M_moved M_tapeSize M_place M_found), (k_M_tape cA ad M_tape)] sz)) 0 0 (va_A [(k_M cA ad M_thrown M_gates M_lines M_conflict M_moved M_tapeSize M_place M_found), (k_M_tape cA ad M_tape)] sz) := by
  refine m_methZ (by decide) rfl (Nat.le_of_ble_eq_true rfl) ?_
  intro p e s m below meth c A Q ls hx hb hml hown hts hK hA hw hl hE
  have hl : lv_has ls 3 [(0, .ref (ad 15)), (1, .int p1)] := hl
  have hown : s.vm.findClass R_M = some m.cls := hown
  have hg : ∀ {w : Cond}, w ∈ gw → w.before _ s = true := fun h => hts _ (List.mem_cons_of_mem _ h)
  have j20 : ∀ (s0 : Int32) (M_thrown : Int32) (M_tapeSize : Int32) (M_tape : (Nat → Int32)) (H : Heap) (locs : List Loc) (ls : Array Slot), s_M_unit_20 p1 post s0 M_thrown M_tapeSize M_tape → mW D A s.heap [(k_M cA ad M_thrown M_gates M_lines M_conflict M_moved M_tapeSize M_place M_found), (k_M_tape cA ad M_tape)] H locs → lv_has ls 3 [(0, .ref (ad 15)), (1, .int p1)] → W p l e rm_M_unit s m [.ref (ad 15), .int p1].toArray below meth c H locs 0 0 Q (F0 m 20 ls [.int s0]) := by
    intro s0 M_thrown M_tapeSize M_tape H locs ls h hw hl
    unfold s_M_unit_20 at h
    refine lv_istore_n (lv' := [(2, .int s0), (0, .ref (ad 15)), (1, .int p1)]) hx hb d_M_unit_20 rfl hl (by decide) rfl (fun ls hl => ?_)
    refine lv_iload_n hx hb d_M_unit_21 rfl (lv_at hl 0 rfl) ?_
    refine lv_if_eq (tgt := 49) hx hb d_M_unit_22 (by decide) (fun hc => ?_) (fun hc => ?_)
    · have h := h.1 hc
      refine lv_iload_n hx hb d_M_unit_49 rfl (lv_at hl 0 rfl) ?_
      exact hE s0 (M_thrown, M_tapeSize, M_tape) _ _ _ _ h.2 (isB_nar h.1) hw d_M_unit_50
    · have h := h.2 hc
      refine lv_aload_n hx hb d_M_unit_25 rfl (lv_at hl 1 rfl) ?_
      refine va_get (D := D) (ci := 5) (v := .ref (ad 23)) (C := R_M) (T := T_M) (N := 18) hx hb hts (fun w h => List.mem_cons_of_mem _ (iw_M w h)) hown hK.1 hw.1 0 rfl rfl 12 (by decide) (hg gm_579) (fun _ h9 => h9) rfl d_M_unit_26 ?_
      refine lv_aload_n hx hb d_M_unit_29 rfl (lv_at hl 1 rfl) ?_
      refine va_get (D := D) (ci := 5) (v := .int M_tapeSize) (C := R_M) (T := T_M) (N := 18) hx hb hts (fun w h => List.mem_cons_of_mem _ (iw_M w h)) hown hK.1 hw.1 0 rfl rfl 13 (by decide) (hg gm_580) (fun _ h9 => h9) rfl d_M_unit_30 ?_
      refine lv_iload_n hx hb d_M_unit_33 rfl (lv_at hl 2 rfl) ?_
      refine lv_sipush (v := 255) hx hb d_M_unit_34 (by decide) ?_
      refine lv_iand hx hb d_M_unit_37 ?_
      refine m_iast (ws' := [(k_M cA ad M_thrown M_gates M_lines M_conflict M_moved M_tapeSize M_place M_found), (k_M_tape cA ad (upd M_tape M_tapeSize.toNatClampNeg (p1 &&& 255)))]) hx hb hK.1 hw 1 0 rfl rfl h.1 rfl d_M_unit_38 (fun H locs hw => ?_)
      have h := h.2
      refine lv_aload_n hx hb d_M_unit_39 rfl (lv_at hl 1 rfl) ?_
      refine lv_dup hx hb d_M_unit_40 rfl ?_
      refine va_get (D := D) (ci := 5) (v := .int M_tapeSize) (C := R_M) (T := T_M) (N := 18) hx hb hts (fun w h => List.mem_cons_of_mem _ (iw_M w h)) hown hK.1 hw.1 0 rfl rfl 13 (by decide) (hg gm_580) (fun _ h9 => h9) rfl d_M_unit_41 ?_
      refine lv_iconst (v := 1) hx hb d_M_unit_44 (by decide) ?_
      refine lv_iadd hx hb d_M_unit_45 ?_
      refine m_put (ws' := [(k_M cA ad M_thrown M_gates M_lines M_conflict M_moved (M_tapeSize + 1) M_place M_found), (k_M_tape cA ad (upd M_tape M_tapeSize.toNatClampNeg (p1 &&& 255)))]) (ci := 5) (v := .int (M_tapeSize + 1)) (ty := .int) (C := R_M) (T := T_M) (N := 18) hx hb hts (fun w h => List.mem_cons_of_mem _ (iw_M w h)) ty_M tyok_M nm_M hown hK.1 hw 0 rfl rfl 13 (by decide) (hg gm_580) (fun _ h9 => h9) rfl (by decide +kernel) rfl rfl (Nat.le_of_ble_eq_true rfl) rfl d_M_unit_46 (fun H locs hw => ?_)
      refine lv_iload_n hx hb d_M_unit_49 rfl (lv_at hl 0 rfl) ?_
      exact hE s0 (M_thrown, (M_tapeSize + 1), (upd M_tape M_tapeSize.toNatClampNeg (p1 &&& 255))) _ _ _ _ h.2 (isB_nar h.1) hw d_M_unit_50
  unfold wp_M_unit at h
  refine lv_aload_n hx hb d_M_unit_0 rfl (lv_at hl 0 rfl) ?_
  refine lv_iconst (v := 0) hx hb d_M_unit_1 (by decide) ?_
  refine m_put (ws' := [(k_M cA ad 0 M_gates M_lines M_conflict M_moved M_tapeSize M_place M_found), (k_M_tape cA ad M_tape)]) (ci := 5) (v := .int 0) (ty := .int) (C := R_M) (T := T_M) (N := 18) hx hb hts (fun w h => List.mem_cons_of_mem _ (iw_M w h)) ty_M tyok_M nm_M hown hK.1 hw 0 rfl rfl 0 (by decide) (hg gm_567) (fun _ h9 => h9) rfl (by decide +kernel) rfl rfl (Nat.le_of_ble_eq_true rfl) rfl d_M_unit_2 (fun H locs hw => ?_)
  refine lv_aload_n hx hb d_M_unit_5 rfl (lv_at hl 0 rfl) ?_
  refine va_get (D := D) (ci := 5) (v := .int M_tapeSize) (C := R_M) (T := T_M) (N := 18) hx hb hts (fun w h => List.mem_cons_of_mem _ (iw_M w h)) hown hK.1 hw.1 0 rfl rfl 13 (by decide) (hg gm_580) (fun _ h9 => h9) rfl d_M_unit_6 ?_
  refine lv_sipush (v := 1000) hx hb d_M_unit_9 (by decide) ?_
  refine lv_icmp_ge (tgt := 19) hx hb d_M_unit_12 (by decide) (fun hc => ?_) (fun hc => ?_)
  · have h := h.1 hc
    refine lv_iconst (v := 0) hx hb d_M_unit_19 (by decide) ?_
    exact j20 _ _ _ _ _ _ _ h hw (lv_sub hl [0, 1] rfl)
  · have h := h.2 hc
    refine lv_iconst (v := 1) hx hb d_M_unit_15 (by decide) ?_
    refine lv_goto (tgt := 20) hx hb d_M_unit_16 (by decide) ?_
    exact j20 _ _ _ _ _ _ _ h hw (lv_sub hl [0, 1] rfl)
def rm_M_next : Room := { frames := 0, cells := 0, slots := 0, locals := 0 }
set_option maxHeartbeats 4000000 in
set_option maxRecDepth 100000 in
theorem c_M_next (l : Launch) (D : va_G) (cA : Nat → ClassId) (ad : Nat → Nat) (sz : Nat) (M_thrown : Int32) (M_gates : Int32) (M_lines : Int32) (M_conflict : Int32) (M_moved : Int32) (M_tapeSize : Int32) (M_place : Int32) (M_found : Int32) (M_tape : (Nat → Int32)) (post : Int32 → Int32 → Prop) (h : wp_M_next M_tapeSize M_place M_tape post) : Met l y_M_next w_M_next rm_M_next (mPc D cA [.ref (ad 15)] [(k_M cA ad M_thrown M_gates M_lines M_conflict M_moved M_tapeSize M_place M_found), (k_M_tape cA ad M_tape)] sz) (va_Qi (fun (r : Int32) (u : Int32) => post r u) (mB D (va_A [(k_M cA ad M_thrown M_gates M_lines M_conflict M_moved M_tapeSize M_place M_found), (k_M_tape cA ad M_tape)] sz) (fun (u : Int32) => [(k_M cA ad M_thrown M_gates M_lines M_conflict M_moved M_tapeSize u M_found), (k_M_tape cA ad M_tape)])) (va_A [(k_M cA ad M_thrown M_gates M_lines M_conflict M_moved M_tapeSize M_place M_found), (k_M_tape cA ad M_tape)] sz)) 0 0 (va_A [(k_M cA ad M_thrown M_gates M_lines M_conflict M_moved M_tapeSize M_place M_found), (k_M_tape cA ad M_tape)] sz) := by
  refine m_methI (by decide) rfl (Nat.le_of_ble_eq_true rfl) ?_
  intro p e s m below meth c A Q ls hx hb hml hown hts hK hA hw hl hE
  have hl : lv_has ls 1 [(0, .ref (ad 15))] := hl
  have hown : s.vm.findClass R_M = some m.cls := hown
  have hg : ∀ {w : Cond}, w ∈ gw → w.before _ s = true := fun h => hts _ (List.mem_cons_of_mem _ h)
  obtain ⟨C0, hC0⟩ : ∃ C : Int32 → Prop, ∀ (M_place : Int32), C M_place ↔ (∀ (H : Heap) (locs : List Loc) (ls : Array Slot), mW D A s.heap [(k_M cA ad M_thrown M_gates M_lines M_conflict M_moved M_tapeSize M_place M_found), (k_M_tape cA ad M_tape)] H locs → lv_has ls 1 [(0, .ref (ad 15))] → W p l e rm_M_next s m [.ref (ad 15)].toArray below meth c H locs 0 0 Q (F0 m 0 ls [])) := ⟨_, fun _ => Iff.rfl⟩
  have j66 : ∀ (M_place : Int32) (H : Heap) (locs : List Loc) (ls : Array Slot), s_M_next_66 M_tapeSize M_tape C0 post M_place → mW D A s.heap [(k_M cA ad M_thrown M_gates M_lines M_conflict M_moved M_tapeSize M_place M_found), (k_M_tape cA ad M_tape)] H locs → lv_has ls 1 [(0, .ref (ad 15))] → W p l e rm_M_next s m [.ref (ad 15)].toArray below meth c H locs 0 0 Q (F0 m 66 ls []) := by
    intro M_place H locs ls h hw hl
    unfold s_M_next_66 at h
    refine lv_aload_n hx hb d_M_next_66 rfl (lv_at hl 0 rfl) ?_
    refine va_get (D := D) (ci := 5) (v := .int M_place) (C := R_M) (T := T_M) (N := 18) hx hb hts (fun w h => List.mem_cons_of_mem _ (iw_M w h)) hown hK.1 hw.1 0 rfl rfl 14 (by decide) (hg gm_581) (fun _ h9 => h9) rfl d_M_next_67 ?_
    refine lv_aload_n hx hb d_M_next_70 rfl (lv_at hl 0 rfl) ?_
    refine va_get (D := D) (ci := 5) (v := .int M_tapeSize) (C := R_M) (T := T_M) (N := 18) hx hb hts (fun w h => List.mem_cons_of_mem _ (iw_M w h)) hown hK.1 hw.1 0 rfl rfl 13 (by decide) (hg gm_580) (fun _ h9 => h9) rfl d_M_next_71 ?_
    refine lv_icmp_ge (tgt := 89) hx hb d_M_next_74 (by decide) (fun hc => ?_) (fun hc => ?_)
    · have h := h.1 hc
      refine lv_iconst (v := (-1)) hx hb d_M_next_89 (by decide) ?_
      exact hE (-1) (M_place) _ _ _ _ h hw d_M_next_90
    · have h := h.2 hc
      refine lv_aload_n hx hb d_M_next_77 rfl (lv_at hl 0 rfl) ?_
      refine va_get (D := D) (ci := 5) (v := .ref (ad 23)) (C := R_M) (T := T_M) (N := 18) hx hb hts (fun w h => List.mem_cons_of_mem _ (iw_M w h)) hown hK.1 hw.1 0 rfl rfl 12 (by decide) (hg gm_579) (fun _ h9 => h9) rfl d_M_next_78 ?_
      refine lv_aload_n hx hb d_M_next_81 rfl (lv_at hl 0 rfl) ?_
      refine va_get (D := D) (ci := 5) (v := .int M_place) (C := R_M) (T := T_M) (N := 18) hx hb hts (fun w h => List.mem_cons_of_mem _ (iw_M w h)) hown hK.1 hw.1 0 rfl rfl 14 (by decide) (hg gm_581) (fun _ h9 => h9) rfl d_M_next_82 ?_
      refine va_iald hx hb hK.1 hw.1 1 0 rfl rfl h.1 d_M_next_85 ?_
      have h := h.2
      refine lv_goto (tgt := 90) hx hb d_M_next_86 (by decide) ?_
      exact hE (M_tape M_place.toNatClampNeg) (M_place) _ _ _ _ h hw d_M_next_90
  have j53 : ∀ (M_place : Int32) (H : Heap) (locs : List Loc) (ls : Array Slot), s_M_next_53 M_tapeSize M_tape C0 post M_place → mW D A s.heap [(k_M cA ad M_thrown M_gates M_lines M_conflict M_moved M_tapeSize M_place M_found), (k_M_tape cA ad M_tape)] H locs → lv_has ls 1 [(0, .ref (ad 15))] → W p l e rm_M_next s m [.ref (ad 15)].toArray below meth c H locs 0 0 Q (F0 m 53 ls []) := by
    intro M_place H locs ls h hw hl
    unfold s_M_next_53 at h
    refine lv_aload_n hx hb d_M_next_53 rfl (lv_at hl 0 rfl) ?_
    refine lv_dup hx hb d_M_next_54 rfl ?_
    refine va_get (D := D) (ci := 5) (v := .int M_place) (C := R_M) (T := T_M) (N := 18) hx hb hts (fun w h => List.mem_cons_of_mem _ (iw_M w h)) hown hK.1 hw.1 0 rfl rfl 14 (by decide) (hg gm_581) (fun _ h9 => h9) rfl d_M_next_55 ?_
    refine lv_iconst (v := 1) hx hb d_M_next_58 (by decide) ?_
    refine lv_iadd hx hb d_M_next_59 ?_
    refine m_put (ws' := [(k_M cA ad M_thrown M_gates M_lines M_conflict M_moved M_tapeSize (M_place + 1) M_found), (k_M_tape cA ad M_tape)]) (ci := 5) (v := .int (M_place + 1)) (ty := .int) (C := R_M) (T := T_M) (N := 18) hx hb hts (fun w h => List.mem_cons_of_mem _ (iw_M w h)) ty_M tyok_M nm_M hown hK.1 hw 0 rfl rfl 14 (by decide) (hg gm_581) (fun _ h9 => h9) rfl (by decide +kernel) rfl rfl (Nat.le_of_ble_eq_true rfl) rfl d_M_next_60 (fun H locs hw => ?_)
    refine lv_goto (tgt := 0) hx hb d_M_next_63 (by decide) ?_
    exact (hC0 _).1 h _ _ _ hw (lv_sub hl [0] rfl)
  have hc0 : ∀ (M_place : Int32), s_M_next_0 M_tapeSize M_tape C0 post M_place → C0 M_place := by
    intro M_place h
    unfold s_M_next_0 at h
    refine (hC0 _).2 ?_
    intro H locs ls hw hl
    refine lv_aload_n hx hb d_M_next_0 rfl (lv_at hl 0 rfl) ?_
    refine va_get (D := D) (ci := 5) (v := .int M_place) (C := R_M) (T := T_M) (N := 18) hx hb hts (fun w h => List.mem_cons_of_mem _ (iw_M w h)) hown hK.1 hw.1 0 rfl rfl 14 (by decide) (hg gm_581) (fun _ h9 => h9) rfl d_M_next_1 ?_
    refine lv_aload_n hx hb d_M_next_4 rfl (lv_at hl 0 rfl) ?_
    refine va_get (D := D) (ci := 5) (v := .int M_tapeSize) (C := R_M) (T := T_M) (N := 18) hx hb hts (fun w h => List.mem_cons_of_mem _ (iw_M w h)) hown hK.1 hw.1 0 rfl rfl 13 (by decide) (hg gm_580) (fun _ h9 => h9) rfl d_M_next_5 ?_
    refine lv_icmp_ge (tgt := 66) hx hb d_M_next_8 (by decide) (fun hc => ?_) (fun hc => ?_)
    · have h := h.1 hc
      exact j66 _ _ _ _ h hw (lv_sub hl [0] rfl)
    · have h := h.2 hc
      refine lv_aload_n hx hb d_M_next_11 rfl (lv_at hl 0 rfl) ?_
      refine va_get (D := D) (ci := 5) (v := .ref (ad 23)) (C := R_M) (T := T_M) (N := 18) hx hb hts (fun w h => List.mem_cons_of_mem _ (iw_M w h)) hown hK.1 hw.1 0 rfl rfl 12 (by decide) (hg gm_579) (fun _ h9 => h9) rfl d_M_next_12 ?_
      refine lv_aload_n hx hb d_M_next_15 rfl (lv_at hl 0 rfl) ?_
      refine va_get (D := D) (ci := 5) (v := .int M_place) (C := R_M) (T := T_M) (N := 18) hx hb hts (fun w h => List.mem_cons_of_mem _ (iw_M w h)) hown hK.1 hw.1 0 rfl rfl 14 (by decide) (hg gm_581) (fun _ h9 => h9) rfl d_M_next_16 ?_
      refine va_iald hx hb hK.1 hw.1 1 0 rfl rfl h.1 d_M_next_19 ?_
      have h := h.2
      refine lv_bipush (v := 32) hx hb d_M_next_20 (by decide) ?_
      refine lv_icmp_eq (tgt := 53) hx hb d_M_next_22 (by decide) (fun hc => ?_) (fun hc => ?_)
      · have h := h.1 hc
        exact j53 _ _ _ _ h hw (lv_sub hl [0] rfl)
      · have h := h.2 hc
        refine lv_aload_n hx hb d_M_next_25 rfl (lv_at hl 0 rfl) ?_
        refine va_get (D := D) (ci := 5) (v := .ref (ad 23)) (C := R_M) (T := T_M) (N := 18) hx hb hts (fun w h => List.mem_cons_of_mem _ (iw_M w h)) hown hK.1 hw.1 0 rfl rfl 12 (by decide) (hg gm_579) (fun _ h9 => h9) rfl d_M_next_26 ?_
        refine lv_aload_n hx hb d_M_next_29 rfl (lv_at hl 0 rfl) ?_
        refine va_get (D := D) (ci := 5) (v := .int M_place) (C := R_M) (T := T_M) (N := 18) hx hb hts (fun w h => List.mem_cons_of_mem _ (iw_M w h)) hown hK.1 hw.1 0 rfl rfl 14 (by decide) (hg gm_581) (fun _ h9 => h9) rfl d_M_next_30 ?_
        refine va_iald hx hb hK.1 hw.1 1 0 rfl rfl h.1 d_M_next_33 ?_
        have h := h.2
        refine lv_bipush (v := 9) hx hb d_M_next_34 (by decide) ?_
        refine lv_icmp_eq (tgt := 53) hx hb d_M_next_36 (by decide) (fun hc => ?_) (fun hc => ?_)
        · have h := h.1 hc
          exact j53 _ _ _ _ h hw (lv_sub hl [0] rfl)
        · have h := h.2 hc
          refine lv_aload_n hx hb d_M_next_39 rfl (lv_at hl 0 rfl) ?_
          refine va_get (D := D) (ci := 5) (v := .ref (ad 23)) (C := R_M) (T := T_M) (N := 18) hx hb hts (fun w h => List.mem_cons_of_mem _ (iw_M w h)) hown hK.1 hw.1 0 rfl rfl 12 (by decide) (hg gm_579) (fun _ h9 => h9) rfl d_M_next_40 ?_
          refine lv_aload_n hx hb d_M_next_43 rfl (lv_at hl 0 rfl) ?_
          refine va_get (D := D) (ci := 5) (v := .int M_place) (C := R_M) (T := T_M) (N := 18) hx hb hts (fun w h => List.mem_cons_of_mem _ (iw_M w h)) hown hK.1 hw.1 0 rfl rfl 14 (by decide) (hg gm_581) (fun _ h9 => h9) rfl d_M_next_44 ?_
          refine va_iald hx hb hK.1 hw.1 1 0 rfl rfl h.1 d_M_next_47 ?_
          have h := h.2
          refine lv_bipush (v := 13) hx hb d_M_next_48 (by decide) ?_
          refine lv_icmp_ne (tgt := 66) hx hb d_M_next_50 (by decide) (fun hc => ?_) (fun hc => ?_)
          · have h := h.2 hc
            exact j66 _ _ _ _ h hw (lv_sub hl [0] rfl)
          · have h := h.1 hc
            exact j53 _ _ _ _ h hw (lv_sub hl [0] rfl)
  unfold wp_M_next at h
  have h := h C0 hc0
  exact (hC0 _).1 h _ _ _ hw (lv_sub hl [0] rfl)
def rm_M_readLiteral : Room := { frames := 1, cells := 0, slots := 0, locals := 20 }
set_option maxHeartbeats 4000000 in
set_option maxRecDepth 100000 in
theorem c_M_readLiteral (l : Launch) (D : va_G) (cA : Nat → ClassId) (ad : Nat → Nat) (sz : Nat) (M_thrown : Int32) (M_gates : Int32) (M_lines : Int32) (M_conflict : Int32) (M_moved : Int32) (M_tapeSize : Int32) (M_place : Int32) (M_found : Int32) (M_tape : (Nat → Int32)) (post : Int32 → Int32 → Prop) (h : wp_M_readLiteral M_gates M_tapeSize M_place M_tape post) : Met l y_M_readLiteral w_M_readLiteral rm_M_readLiteral (mPc D cA [.ref (ad 15)] [(k_M cA ad M_thrown M_gates M_lines M_conflict M_moved M_tapeSize M_place M_found), (k_M_tape cA ad M_tape)] sz) (va_Qi (fun (r : Int32) (u : Int32) => post r u) (mB D (va_A [(k_M cA ad M_thrown M_gates M_lines M_conflict M_moved M_tapeSize M_place M_found), (k_M_tape cA ad M_tape)] sz) (fun (u : Int32) => [(k_M cA ad M_thrown M_gates M_lines M_conflict M_moved M_tapeSize u M_found), (k_M_tape cA ad M_tape)])) (va_A [(k_M cA ad M_thrown M_gates M_lines M_conflict M_moved M_tapeSize M_place M_found), (k_M_tape cA ad M_tape)] sz)) 0 0 (va_A [(k_M cA ad M_thrown M_gates M_lines M_conflict M_moved M_tapeSize M_place M_found), (k_M_tape cA ad M_tape)] sz) := by
  refine m_methI (by decide) rfl (Nat.le_of_ble_eq_true rfl) ?_
  intro p e s m below meth c A Q ls hx hb hml hown hts hK hA hw hl hE
  have hl : lv_has ls 5 [(0, .ref (ad 15))] := hl
  have hown : s.vm.findClass R_M = some m.cls := hown
  have hg : ∀ {w : Cond}, w ∈ gw → w.before _ s = true := fun h => hts _ (List.mem_cons_of_mem _ h)
  obtain ⟨C40, hC40⟩ : ∃ C : Int32 → Int32 → Int32 → Int32 → Int32 → Prop, ∀ (x1 : Int32) (x2 : Int32) (x3 : Int32) (x4 : Int32) (M_place : Int32), C x1 x2 x3 x4 M_place ↔ (∀ (H : Heap) (locs : List Loc) (ls : Array Slot), mW D A s.heap [(k_M cA ad M_thrown M_gates M_lines M_conflict M_moved M_tapeSize M_place M_found), (k_M_tape cA ad M_tape)] H locs → lv_has ls 5 [(0, .ref (ad 15)), (1, .int x1), (2, .int x2), (3, .int x3), (4, .int x4)] → W p l e rm_M_readLiteral s m [.ref (ad 15)].toArray below meth c H locs 0 0 Q (F0 m 40 ls [])) := ⟨_, fun _ _ _ _ _ => Iff.rfl⟩
  have j124 : ∀ (x1 : Int32) (x2 : Int32) (x3 : Int32) (x4 : Int32) (M_place : Int32) (H : Heap) (locs : List Loc) (ls : Array Slot), s_M_readLiteral_124 M_gates M_tapeSize M_tape C40 post x1 x2 x3 x4 M_place → mW D A s.heap [(k_M cA ad M_thrown M_gates M_lines M_conflict M_moved M_tapeSize M_place M_found), (k_M_tape cA ad M_tape)] H locs → lv_has ls 5 [(0, .ref (ad 15)), (1, .int x1), (2, .int x2), (3, .int x3), (4, .int x4)] → W p l e rm_M_readLiteral s m [.ref (ad 15)].toArray below meth c H locs 0 0 Q (F0 m 124 ls []) := by
    intro x1 x2 x3 x4 M_place H locs ls h hw hl
    unfold s_M_readLiteral_124 at h
    refine lv_iload_n hx hb d_M_readLiteral_124 rfl (lv_at hl 2 rfl) ?_
    refine lv_iconst (v := (-1)) hx hb d_M_readLiteral_125 (by decide) ?_
    refine lv_icmp_eq (tgt := 142) hx hb d_M_readLiteral_126 (by decide) (fun hc => ?_) (fun hc => ?_)
    · have h := h.1 hc
      refine lv_iconst (v := (-1)) hx hb d_M_readLiteral_142 (by decide) ?_
      refine lv_goto (tgt := 151) hx hb d_M_readLiteral_143 (by decide) ?_
      exact hE (-1) (M_place) _ _ _ _ h hw d_M_readLiteral_151
    · have h := h.2 hc
      refine lv_iload hx hb d_M_readLiteral_129 (lv_at hl 4 rfl) ?_
      refine lv_if_eq (tgt := 142) hx hb d_M_readLiteral_131 (by decide) (fun hc => ?_) (fun hc => ?_)
      · have h := h.1 hc
        refine lv_iconst (v := (-1)) hx hb d_M_readLiteral_142 (by decide) ?_
        refine lv_goto (tgt := 151) hx hb d_M_readLiteral_143 (by decide) ?_
        exact hE (-1) (M_place) _ _ _ _ h hw d_M_readLiteral_151
      · have h := h.2 hc
        refine lv_iload_n hx hb d_M_readLiteral_134 rfl (lv_at hl 3 rfl) ?_
        refine lv_aload_n hx hb d_M_readLiteral_135 rfl (lv_at hl 0 rfl) ?_
        refine va_get (D := D) (ci := 5) (v := .int M_gates) (C := R_M) (T := T_M) (N := 18) hx hb hts (fun w h => List.mem_cons_of_mem _ (iw_M w h)) hown hK.1 hw.1 0 rfl rfl 4 (by decide) (hg gm_571) (fun _ h9 => h9) rfl d_M_readLiteral_136 ?_
        refine lv_icmp_lt (tgt := 146) hx hb d_M_readLiteral_139 (by decide) (fun hc => ?_) (fun hc => ?_)
        · have h := h.1 hc
          refine lv_iconst (v := 2) hx hb d_M_readLiteral_146 (by decide) ?_
          refine lv_iload_n hx hb d_M_readLiteral_147 rfl (lv_at hl 3 rfl) ?_
          refine lv_imul hx hb d_M_readLiteral_148 ?_
          refine lv_iload_n hx hb d_M_readLiteral_149 rfl (lv_at hl 1 rfl) ?_
          refine lv_iadd hx hb d_M_readLiteral_150 ?_
          exact hE ((2 * x3) + x1) (M_place) _ _ _ _ h hw d_M_readLiteral_151
        · have h := h.2 hc
          refine lv_iconst (v := (-1)) hx hb d_M_readLiteral_142 (by decide) ?_
          refine lv_goto (tgt := 151) hx hb d_M_readLiteral_143 (by decide) ?_
          exact hE (-1) (M_place) _ _ _ _ h hw d_M_readLiteral_151
  have j107 : ∀ (s0 : Int32) (x1 : Int32) (x2 : Int32) (x4 : Int32) (M_place : Int32) (H : Heap) (locs : List Loc) (ls : Array Slot), s_M_readLiteral_107 M_gates M_tapeSize M_tape C40 post s0 x1 x2 x4 M_place → mW D A s.heap [(k_M cA ad M_thrown M_gates M_lines M_conflict M_moved M_tapeSize M_place M_found), (k_M_tape cA ad M_tape)] H locs → lv_has ls 5 [(0, .ref (ad 15)), (1, .int x1), (2, .int x2), (4, .int x4)] → W p l e rm_M_readLiteral s m [.ref (ad 15)].toArray below meth c H locs 0 0 Q (F0 m 107 ls [.int s0]) := by
    intro s0 x1 x2 x4 M_place H locs ls h hw hl
    unfold s_M_readLiteral_107 at h
    refine lv_istore_n (lv' := [(3, .int s0), (0, .ref (ad 15)), (1, .int x1), (2, .int x2), (4, .int x4)]) hx hb d_M_readLiteral_107 rfl hl (by decide) rfl (fun ls hl => ?_)
    refine lv_iinc (v := (x4 + 1)) (lv' := [(4, .int (x4 + 1)), (3, .int s0), (0, .ref (ad 15)), (1, .int x1), (2, .int x2)]) hx hb d_M_readLiteral_108 hl (k := 4) rfl rfl (by decide) rfl (fun ls hl => ?_)
    refine lv_aload_n hx hb d_M_readLiteral_111 rfl (lv_at hl 2 rfl) ?_
    refine lv_dup hx hb d_M_readLiteral_112 rfl ?_
    refine va_get (D := D) (ci := 5) (v := .int M_place) (C := R_M) (T := T_M) (N := 18) hx hb hts (fun w h => List.mem_cons_of_mem _ (iw_M w h)) hown hK.1 hw.1 0 rfl rfl 14 (by decide) (hg gm_581) (fun _ h9 => h9) rfl d_M_readLiteral_113 ?_
    refine lv_iconst (v := 1) hx hb d_M_readLiteral_116 (by decide) ?_
    refine lv_iadd hx hb d_M_readLiteral_117 ?_
    refine m_put (ws' := [(k_M cA ad M_thrown M_gates M_lines M_conflict M_moved M_tapeSize (M_place + 1) M_found), (k_M_tape cA ad M_tape)]) (ci := 5) (v := .int (M_place + 1)) (ty := .int) (C := R_M) (T := T_M) (N := 18) hx hb hts (fun w h => List.mem_cons_of_mem _ (iw_M w h)) ty_M tyok_M nm_M hown hK.1 hw 0 rfl rfl 14 (by decide) (hg gm_581) (fun _ h9 => h9) rfl (by decide +kernel) rfl rfl (Nat.le_of_ble_eq_true rfl) rfl d_M_readLiteral_118 (fun H locs hw => ?_)
    refine lv_goto (tgt := 40) hx hb d_M_readLiteral_121 (by decide) ?_
    exact (hC40 _ _ _ _ _).1 h _ _ _ hw (lv_sub hl [2, 3, 4, 1, 0] rfl)
  have j19 : ∀ (s0 : Int32) (M_place : Int32) (H : Heap) (locs : List Loc) (ls : Array Slot), s_M_readLiteral_19 M_gates M_tapeSize M_tape C40 post s0 M_place → mW D A s.heap [(k_M cA ad M_thrown M_gates M_lines M_conflict M_moved M_tapeSize M_place M_found), (k_M_tape cA ad M_tape)] H locs → lv_has ls 5 [(0, .ref (ad 15))] → W p l e rm_M_readLiteral s m [.ref (ad 15)].toArray below meth c H locs 0 0 Q (F0 m 19 ls [.int s0]) := by
    intro s0 M_place H locs ls h hw hl
    unfold s_M_readLiteral_19 at h
    refine lv_istore_n (lv' := [(1, .int s0), (0, .ref (ad 15))]) hx hb d_M_readLiteral_19 rfl hl (by decide) rfl (fun ls hl => ?_)
    refine lv_aload_n hx hb d_M_readLiteral_20 rfl (lv_at hl 1 rfl) ?_
    refine lv_dup hx hb d_M_readLiteral_21 rfl ?_
    refine va_get (D := D) (ci := 5) (v := .int M_place) (C := R_M) (T := T_M) (N := 18) hx hb hts (fun w h => List.mem_cons_of_mem _ (iw_M w h)) hown hK.1 hw.1 0 rfl rfl 14 (by decide) (hg gm_581) (fun _ h9 => h9) rfl d_M_readLiteral_22 ?_
    refine lv_iconst (v := 1) hx hb d_M_readLiteral_25 (by decide) ?_
    refine lv_iadd hx hb d_M_readLiteral_26 ?_
    refine m_put (ws' := [(k_M cA ad M_thrown M_gates M_lines M_conflict M_moved M_tapeSize (M_place + 1) M_found), (k_M_tape cA ad M_tape)]) (ci := 5) (v := .int (M_place + 1)) (ty := .int) (C := R_M) (T := T_M) (N := 18) hx hb hts (fun w h => List.mem_cons_of_mem _ (iw_M w h)) ty_M tyok_M nm_M hown hK.1 hw 0 rfl rfl 14 (by decide) (hg gm_581) (fun _ h9 => h9) rfl (by decide +kernel) rfl rfl (Nat.le_of_ble_eq_true rfl) rfl d_M_readLiteral_27 (fun H locs hw => ?_)
    refine lv_aload_n hx hb d_M_readLiteral_30 rfl (lv_at hl 1 rfl) ?_
    refine m_calli (hr := va_runV (As := []) (rest := []) ⟨hx, hb, hml, hown, hts⟩ (c_M_next l D cA ad _ M_thrown M_gates M_lines M_conflict M_moved M_tapeSize (M_place + 1) M_found M_tape _ h) (cwV 0 hts (ginV gm_759 gm_761 gs_58 gm_6 gm_762) rfl rfl rfl (by decide +kernel) ⟨Nat.le_of_ble_eq_true rfl, Nat.le_of_ble_eq_true rfl⟩) (m_preV 5 0 rfl rfl hK hw [0, 1] rfl rfl) rfl rfl hl.1 rfl (lv_room (Nat.le_of_ble_eq_true rfl)) d_M_readLiteral_31 ⟨Nat.zero_le _, Nat.zero_le _⟩) (w2 := (fun (u : Int32) => [(k_M cA ad M_thrown M_gates M_lines M_conflict M_moved M_tapeSize u M_found), (k_M_tape cA ad M_tape)])) (wr := []) hw hA [0, 1] [] [0, 1] rfl rfl (by decide) (by decide) (by decide) (fun _ => rfl) (fun r31 u H locs hw h => ?_)
    obtain ⟨M_place_31, rfl⟩ : ∃ z, z = u := ⟨_, rfl⟩
    have hw : mW D A s.heap [(k_M cA ad M_thrown M_gates M_lines M_conflict M_moved M_tapeSize M_place_31 M_found), (k_M_tape cA ad M_tape)] H locs := hw
    refine lv_istore_n (lv' := [(2, .int r31), (1, .int s0), (0, .ref (ad 15))]) hx hb d_M_readLiteral_34 rfl hl (by decide) rfl (fun ls hl => ?_)
    refine lv_iconst (v := 0) hx hb d_M_readLiteral_35 (by decide) ?_
    refine lv_istore_n (lv' := [(3, .int 0), (2, .int r31), (1, .int s0), (0, .ref (ad 15))]) hx hb d_M_readLiteral_36 rfl hl (by decide) rfl (fun ls hl => ?_)
    refine lv_iconst (v := 0) hx hb d_M_readLiteral_37 (by decide) ?_
    refine lv_istore (lv' := [(4, .int 0), (3, .int 0), (2, .int r31), (1, .int s0), (0, .ref (ad 15))]) hx hb d_M_readLiteral_38 hl (by decide) rfl (fun ls hl => ?_)
    exact (hC40 _ _ _ _ _).1 h _ _ _ hw (lv_sub hl [4, 3, 2, 1, 0] rfl)
  have hc40 : ∀ (x1 : Int32) (x2 : Int32) (x3 : Int32) (x4 : Int32) (M_place : Int32), s_M_readLiteral_40 M_gates M_tapeSize M_tape C40 post x1 x2 x3 x4 M_place → C40 x1 x2 x3 x4 M_place := by
    intro x1 x2 x3 x4 M_place h
    unfold s_M_readLiteral_40 at h
    refine (hC40 _ _ _ _ _).2 ?_
    intro H locs ls hw hl
    refine lv_aload_n hx hb d_M_readLiteral_40 rfl (lv_at hl 0 rfl) ?_
    refine va_get (D := D) (ci := 5) (v := .int M_place) (C := R_M) (T := T_M) (N := 18) hx hb hts (fun w h => List.mem_cons_of_mem _ (iw_M w h)) hown hK.1 hw.1 0 rfl rfl 14 (by decide) (hg gm_581) (fun _ h9 => h9) rfl d_M_readLiteral_41 ?_
    refine lv_aload_n hx hb d_M_readLiteral_44 rfl (lv_at hl 0 rfl) ?_
    refine va_get (D := D) (ci := 5) (v := .int M_tapeSize) (C := R_M) (T := T_M) (N := 18) hx hb hts (fun w h => List.mem_cons_of_mem _ (iw_M w h)) hown hK.1 hw.1 0 rfl rfl 13 (by decide) (hg gm_580) (fun _ h9 => h9) rfl d_M_readLiteral_45 ?_
    refine lv_icmp_ge (tgt := 124) hx hb d_M_readLiteral_48 (by decide) (fun hc => ?_) (fun hc => ?_)
    · have h := h.1 hc
      exact j124 _ _ _ _ _ _ _ _ h hw (lv_sub hl [0, 1, 2, 3, 4] rfl)
    · have h := h.2 hc
      refine lv_aload_n hx hb d_M_readLiteral_51 rfl (lv_at hl 0 rfl) ?_
      refine va_get (D := D) (ci := 5) (v := .ref (ad 23)) (C := R_M) (T := T_M) (N := 18) hx hb hts (fun w h => List.mem_cons_of_mem _ (iw_M w h)) hown hK.1 hw.1 0 rfl rfl 12 (by decide) (hg gm_579) (fun _ h9 => h9) rfl d_M_readLiteral_52 ?_
      refine lv_aload_n hx hb d_M_readLiteral_55 rfl (lv_at hl 0 rfl) ?_
      refine va_get (D := D) (ci := 5) (v := .int M_place) (C := R_M) (T := T_M) (N := 18) hx hb hts (fun w h => List.mem_cons_of_mem _ (iw_M w h)) hown hK.1 hw.1 0 rfl rfl 14 (by decide) (hg gm_581) (fun _ h9 => h9) rfl d_M_readLiteral_56 ?_
      refine va_iald hx hb hK.1 hw.1 1 0 rfl rfl h.1 d_M_readLiteral_59 ?_
      have h := h.2
      refine lv_bipush (v := 48) hx hb d_M_readLiteral_60 (by decide) ?_
      refine lv_icmp_lt (tgt := 124) hx hb d_M_readLiteral_62 (by decide) (fun hc => ?_) (fun hc => ?_)
      · have h := h.1 hc
        exact j124 _ _ _ _ _ _ _ _ h hw (lv_sub hl [0, 1, 2, 3, 4] rfl)
      · have h := h.2 hc
        refine lv_aload_n hx hb d_M_readLiteral_65 rfl (lv_at hl 0 rfl) ?_
        refine va_get (D := D) (ci := 5) (v := .ref (ad 23)) (C := R_M) (T := T_M) (N := 18) hx hb hts (fun w h => List.mem_cons_of_mem _ (iw_M w h)) hown hK.1 hw.1 0 rfl rfl 12 (by decide) (hg gm_579) (fun _ h9 => h9) rfl d_M_readLiteral_66 ?_
        refine lv_aload_n hx hb d_M_readLiteral_69 rfl (lv_at hl 0 rfl) ?_
        refine va_get (D := D) (ci := 5) (v := .int M_place) (C := R_M) (T := T_M) (N := 18) hx hb hts (fun w h => List.mem_cons_of_mem _ (iw_M w h)) hown hK.1 hw.1 0 rfl rfl 14 (by decide) (hg gm_581) (fun _ h9 => h9) rfl d_M_readLiteral_70 ?_
        refine va_iald hx hb hK.1 hw.1 1 0 rfl rfl h.1 d_M_readLiteral_73 ?_
        have h := h.2
        refine lv_bipush (v := 57) hx hb d_M_readLiteral_74 (by decide) ?_
        refine lv_icmp_gt (tgt := 124) hx hb d_M_readLiteral_76 (by decide) (fun hc => ?_) (fun hc => ?_)
        · have h := h.1 hc
          exact j124 _ _ _ _ _ _ _ _ h hw (lv_sub hl [0, 1, 2, 3, 4] rfl)
        · have h := h.2 hc
          refine lv_iload_n hx hb d_M_readLiteral_79 rfl (lv_at hl 3 rfl) ?_
          refine lv_sipush (v := 1000) hx hb d_M_readLiteral_80 (by decide) ?_
          refine lv_icmp_le (tgt := 90) hx hb d_M_readLiteral_83 (by decide) (fun hc => ?_) (fun hc => ?_)
          · have h := h.1 hc
            refine lv_bipush (v := 10) hx hb d_M_readLiteral_90 (by decide) ?_
            refine lv_iload_n hx hb d_M_readLiteral_92 rfl (lv_at hl 3 rfl) ?_
            refine lv_imul hx hb d_M_readLiteral_93 ?_
            refine lv_aload_n hx hb d_M_readLiteral_94 rfl (lv_at hl 0 rfl) ?_
            refine va_get (D := D) (ci := 5) (v := .ref (ad 23)) (C := R_M) (T := T_M) (N := 18) hx hb hts (fun w h => List.mem_cons_of_mem _ (iw_M w h)) hown hK.1 hw.1 0 rfl rfl 12 (by decide) (hg gm_579) (fun _ h9 => h9) rfl d_M_readLiteral_95 ?_
            refine lv_aload_n hx hb d_M_readLiteral_98 rfl (lv_at hl 0 rfl) ?_
            refine va_get (D := D) (ci := 5) (v := .int M_place) (C := R_M) (T := T_M) (N := 18) hx hb hts (fun w h => List.mem_cons_of_mem _ (iw_M w h)) hown hK.1 hw.1 0 rfl rfl 14 (by decide) (hg gm_581) (fun _ h9 => h9) rfl d_M_readLiteral_99 ?_
            refine va_iald hx hb hK.1 hw.1 1 0 rfl rfl h.1 d_M_readLiteral_102 ?_
            have h := h.2
            refine lv_iadd hx hb d_M_readLiteral_103 ?_
            refine lv_bipush (v := 48) hx hb d_M_readLiteral_104 (by decide) ?_
            refine lv_isub hx hb d_M_readLiteral_106 ?_
            exact j107 _ _ _ _ _ _ _ _ h hw (lv_sub hl [0, 1, 2, 4] rfl)
          · have h := h.2 hc
            refine lv_iload_n hx hb d_M_readLiteral_86 rfl (lv_at hl 3 rfl) ?_
            refine lv_goto (tgt := 107) hx hb d_M_readLiteral_87 (by decide) ?_
            exact j107 _ _ _ _ _ _ _ _ h hw (lv_sub hl [0, 1, 2, 4] rfl)
  unfold wp_M_readLiteral at h
  have h := h C40 hc40
  refine lv_aload_n hx hb d_M_readLiteral_0 rfl (lv_at hl 0 rfl) ?_
  refine va_get (D := D) (ci := 5) (v := .ref (ad 23)) (C := R_M) (T := T_M) (N := 18) hx hb hts (fun w h => List.mem_cons_of_mem _ (iw_M w h)) hown hK.1 hw.1 0 rfl rfl 12 (by decide) (hg gm_579) (fun _ h9 => h9) rfl d_M_readLiteral_1 ?_
  refine lv_aload_n hx hb d_M_readLiteral_4 rfl (lv_at hl 0 rfl) ?_
  refine va_get (D := D) (ci := 5) (v := .int M_place) (C := R_M) (T := T_M) (N := 18) hx hb hts (fun w h => List.mem_cons_of_mem _ (iw_M w h)) hown hK.1 hw.1 0 rfl rfl 14 (by decide) (hg gm_581) (fun _ h9 => h9) rfl d_M_readLiteral_5 ?_
  refine va_iald hx hb hK.1 hw.1 1 0 rfl rfl h.1 d_M_readLiteral_8 ?_
  have h := h.2
  refine lv_bipush (v := 45) hx hb d_M_readLiteral_9 (by decide) ?_
  refine lv_icmp_ne (tgt := 18) hx hb d_M_readLiteral_11 (by decide) (fun hc => ?_) (fun hc => ?_)
  · have h := h.2 hc
    refine lv_iconst (v := 0) hx hb d_M_readLiteral_18 (by decide) ?_
    exact j19 _ _ _ _ _ h hw (lv_sub hl [0] rfl)
  · have h := h.1 hc
    refine lv_iconst (v := 1) hx hb d_M_readLiteral_14 (by decide) ?_
    refine lv_goto (tgt := 19) hx hb d_M_readLiteral_15 (by decide) ?_
    exact j19 _ _ _ _ _ h hw (lv_sub hl [0] rfl)
def rm_M_readLine : Room := { frames := 2, cells := 0, slots := 0, locals := 44 }
set_option maxHeartbeats 4000000 in
set_option maxRecDepth 100000 in
theorem c_M_readLine (l : Launch) (D : va_G) (cA : Nat → ClassId) (ad : Nat → Nat) (sz : Nat) (M_thrown : Int32) (M_gates : Int32) (M_lines : Int32) (M_conflict : Int32) (M_moved : Int32) (M_tapeSize : Int32) (M_place : Int32) (M_found : Int32) (M_equals : (Nat → Int32)) (M_counts : (Nat → Int32)) (M_literals : (Nat → Int32)) (M_tape : (Nat → Int32)) (p1 : Int32) (post : Int32 → Int32 → (Nat → Int32) → (Nat → Int32) → Prop) (h : wp_M_readLine M_gates M_tapeSize M_place M_equals M_counts M_literals M_tape p1 post) : Met l y_M_readLine w_M_readLine rm_M_readLine (mPc D cA [.ref (ad 15), .int p1] [(k_M cA ad M_thrown M_gates M_lines M_conflict M_moved M_tapeSize M_place M_found), (k_M_equals cA ad M_equals), (k_M_counts cA ad M_counts), (k_M_literals cA ad M_literals), (k_M_tape cA ad M_tape)] sz) (va_Qi (fun (r : Int32) (u : Int32 × (Nat → Int32) × (Nat → Int32)) => post r u.1 u.2.1 u.2.2) (mB D (va_A [(k_M cA ad M_thrown M_gates M_lines M_conflict M_moved M_tapeSize M_place M_found), (k_M_equals cA ad M_equals), (k_M_counts cA ad M_counts), (k_M_literals cA ad M_literals), (k_M_tape cA ad M_tape)] sz) (fun (u : Int32 × (Nat → Int32) × (Nat → Int32)) => [(k_M cA ad M_thrown M_gates M_lines M_conflict M_moved M_tapeSize u.1 M_found), (k_M_equals cA ad M_equals), (k_M_counts cA ad u.2.1), (k_M_literals cA ad u.2.2), (k_M_tape cA ad M_tape)])) (va_A [(k_M cA ad M_thrown M_gates M_lines M_conflict M_moved M_tapeSize M_place M_found), (k_M_equals cA ad M_equals), (k_M_counts cA ad M_counts), (k_M_literals cA ad M_literals), (k_M_tape cA ad M_tape)] sz)) 0 0 (va_A [(k_M cA ad M_thrown M_gates M_lines M_conflict M_moved M_tapeSize M_place M_found), (k_M_equals cA ad M_equals), (k_M_counts cA ad M_counts), (k_M_literals cA ad M_literals), (k_M_tape cA ad M_tape)] sz) := by
  refine m_methI (by decide) rfl (Nat.le_of_ble_eq_true rfl) ?_
  intro p e s m below meth c A Q ls hx hb hml hown hts hK hA hw hl hE
  have hl : lv_has ls 6 [(0, .ref (ad 15)), (1, .int p1)] := hl
  have hown : s.vm.findClass R_M = some m.cls := hown
  have hg : ∀ {w : Cond}, w ∈ gw → w.before _ s = true := fun h => hts _ (List.mem_cons_of_mem _ h)
  obtain ⟨C5, hC5⟩ : ∃ C : Int32 → Int32 → (Nat → Int32) → (Nat → Int32) → Prop, ∀ (x2 : Int32) (M_place : Int32) (M_counts : (Nat → Int32)) (M_literals : (Nat → Int32)), C x2 M_place M_counts M_literals ↔ (∀ (H : Heap) (locs : List Loc) (ls : Array Slot), mW D A s.heap [(k_M cA ad M_thrown M_gates M_lines M_conflict M_moved M_tapeSize M_place M_found), (k_M_equals cA ad M_equals), (k_M_counts cA ad M_counts), (k_M_literals cA ad M_literals), (k_M_tape cA ad M_tape)] H locs → lv_has ls 6 [(0, .ref (ad 15)), (1, .int p1), (2, .int x2)] → W p l e rm_M_readLine s m [.ref (ad 15), .int p1].toArray below meth c H locs 0 0 Q (F0 m 5 ls [])) := ⟨_, fun _ _ _ _ => Iff.rfl⟩
  have j114 : ∀ (s0 : Int32) (M_place : Int32) (M_counts : (Nat → Int32)) (M_literals : (Nat → Int32)) (H : Heap) (locs : List Loc) (ls : Array Slot), s_M_readLine_114 M_gates M_tapeSize M_equals M_tape p1 C5 post s0 M_place M_counts M_literals → mW D A s.heap [(k_M cA ad M_thrown M_gates M_lines M_conflict M_moved M_tapeSize M_place M_found), (k_M_equals cA ad M_equals), (k_M_counts cA ad M_counts), (k_M_literals cA ad M_literals), (k_M_tape cA ad M_tape)] H locs → lv_has ls 6 [(0, .ref (ad 15)), (1, .int p1)] → W p l e rm_M_readLine s m [.ref (ad 15), .int p1].toArray below meth c H locs 0 0 Q (F0 m 114 ls [.int s0]) := by
    intro s0 M_place M_counts M_literals H locs ls h hw hl
    unfold s_M_readLine_114 at h
    refine lv_istore_n (lv' := [(3, .int s0), (0, .ref (ad 15)), (1, .int p1)]) hx hb d_M_readLine_114 rfl hl (by decide) rfl (fun ls hl => ?_)
    refine lv_iload_n hx hb d_M_readLine_115 rfl (lv_at hl 0 rfl) ?_
    refine lv_if_eq (tgt := 142) hx hb d_M_readLine_116 (by decide) (fun hc => ?_) (fun hc => ?_)
    · have h := h.1 hc
      refine lv_aload_n hx hb d_M_readLine_142 rfl (lv_at hl 1 rfl) ?_
      refine va_get (D := D) (ci := 5) (v := .int M_place) (C := R_M) (T := T_M) (N := 18) hx hb hts (fun w h => List.mem_cons_of_mem _ (iw_M w h)) hown hK.1 hw.1 0 rfl rfl 14 (by decide) (hg gm_581) (fun _ h9 => h9) rfl d_M_readLine_143 ?_
      exact hE M_place (M_place, M_counts, M_literals) _ _ _ _ h hw d_M_readLine_146
    · have h := h.2 hc
      refine lv_aload_n hx hb d_M_readLine_119 rfl (lv_at hl 1 rfl) ?_
      refine va_get (D := D) (ci := 5) (v := .ref (ad 19)) (C := R_M) (T := T_M) (N := 18) hx hb hts (fun w h => List.mem_cons_of_mem _ (iw_M w h)) hown hK.1 hw.1 0 rfl rfl 5 (by decide) (hg gm_572) (fun _ h9 => h9) rfl d_M_readLine_120 ?_
      refine lv_iload_n hx hb d_M_readLine_123 rfl (lv_at hl 2 rfl) ?_
      refine va_zald hx hb hK.1 hw.1 1 1 rfl rfl h.1 d_M_readLine_124 ?_
      have h := h.2
      refine lv_if_eq (tgt := 138) hx hb d_M_readLine_125 (by decide) (fun hc => ?_) (fun hc => ?_)
      · have h := h.1 hc
        refine lv_iconst (v := (-1)) hx hb d_M_readLine_138 (by decide) ?_
        refine lv_goto (tgt := 146) hx hb d_M_readLine_139 (by decide) ?_
        exact hE (-1) (M_place, M_counts, M_literals) _ _ _ _ h hw d_M_readLine_146
      · have h := h.2 hc
        refine lv_aload_n hx hb d_M_readLine_128 rfl (lv_at hl 1 rfl) ?_
        refine va_get (D := D) (ci := 5) (v := .ref (ad 20)) (C := R_M) (T := T_M) (N := 18) hx hb hts (fun w h => List.mem_cons_of_mem _ (iw_M w h)) hown hK.1 hw.1 0 rfl rfl 6 (by decide) (hg gm_573) (fun _ h9 => h9) rfl d_M_readLine_129 ?_
        refine lv_iload_n hx hb d_M_readLine_132 rfl (lv_at hl 2 rfl) ?_
        refine va_iald hx hb hK.1 hw.1 2 0 rfl rfl h.1 d_M_readLine_133 ?_
        have h := h.2
        refine lv_iconst (v := 2) hx hb d_M_readLine_134 (by decide) ?_
        refine lv_icmp_ne (tgt := 142) hx hb d_M_readLine_135 (by decide) (fun hc => ?_) (fun hc => ?_)
        · have h := h.2 hc
          refine lv_aload_n hx hb d_M_readLine_142 rfl (lv_at hl 1 rfl) ?_
          refine va_get (D := D) (ci := 5) (v := .int M_place) (C := R_M) (T := T_M) (N := 18) hx hb hts (fun w h => List.mem_cons_of_mem _ (iw_M w h)) hown hK.1 hw.1 0 rfl rfl 14 (by decide) (hg gm_581) (fun _ h9 => h9) rfl d_M_readLine_143 ?_
          exact hE M_place (M_place, M_counts, M_literals) _ _ _ _ h hw d_M_readLine_146
        · have h := h.1 hc
          refine lv_iconst (v := (-1)) hx hb d_M_readLine_138 (by decide) ?_
          refine lv_goto (tgt := 146) hx hb d_M_readLine_139 (by decide) ?_
          exact hE (-1) (M_place, M_counts, M_literals) _ _ _ _ h hw d_M_readLine_146
  have j109 : ∀ (M_place : Int32) (M_counts : (Nat → Int32)) (M_literals : (Nat → Int32)) (H : Heap) (locs : List Loc) (ls : Array Slot), s_M_readLine_109 M_gates M_tapeSize M_equals M_tape p1 C5 post M_place M_counts M_literals → mW D A s.heap [(k_M cA ad M_thrown M_gates M_lines M_conflict M_moved M_tapeSize M_place M_found), (k_M_equals cA ad M_equals), (k_M_counts cA ad M_counts), (k_M_literals cA ad M_literals), (k_M_tape cA ad M_tape)] H locs → lv_has ls 6 [(0, .ref (ad 15)), (1, .int p1)] → W p l e rm_M_readLine s m [.ref (ad 15), .int p1].toArray below meth c H locs 0 0 Q (F0 m 109 ls []) := by
    intro M_place M_counts M_literals H locs ls h hw hl
    unfold s_M_readLine_109 at h
    refine lv_iconst (v := 1) hx hb d_M_readLine_109 (by decide) ?_
    refine lv_goto (tgt := 114) hx hb d_M_readLine_110 (by decide) ?_
    exact j114 _ _ _ _ _ _ _ h hw (lv_sub hl [0, 1] rfl)
  have j90 : ∀ (M_place : Int32) (M_counts : (Nat → Int32)) (M_literals : (Nat → Int32)) (H : Heap) (locs : List Loc) (ls : Array Slot), s_M_readLine_90 M_gates M_tapeSize M_equals M_tape p1 C5 post M_place M_counts M_literals → mW D A s.heap [(k_M cA ad M_thrown M_gates M_lines M_conflict M_moved M_tapeSize M_place M_found), (k_M_equals cA ad M_equals), (k_M_counts cA ad M_counts), (k_M_literals cA ad M_literals), (k_M_tape cA ad M_tape)] H locs → lv_has ls 6 [(0, .ref (ad 15)), (1, .int p1)] → W p l e rm_M_readLine s m [.ref (ad 15), .int p1].toArray below meth c H locs 0 0 Q (F0 m 90 ls []) := by
    intro M_place M_counts M_literals H locs ls h hw hl
    unfold s_M_readLine_90 at h
    refine lv_aload_n hx hb d_M_readLine_90 rfl (lv_at hl 0 rfl) ?_
    refine m_calli (hr := va_runV (As := []) (rest := []) ⟨hx, hb, hml, hown, hts⟩ (c_M_next l D cA ad _ M_thrown M_gates M_lines M_conflict M_moved M_tapeSize M_place M_found M_tape _ h) (cwV 0 hts (ginV gm_759 gm_761 gs_58 gm_6 gm_762) rfl rfl rfl (by decide +kernel) ⟨Nat.le_of_ble_eq_true rfl, Nat.le_of_ble_eq_true rfl⟩) (m_preV 5 0 rfl rfl hK hw [0, 4] rfl rfl) rfl rfl hl.1 rfl (lv_room (Nat.le_of_ble_eq_true rfl)) d_M_readLine_91 ⟨Nat.zero_le _, Nat.zero_le _⟩) (w2 := (fun (u : Int32) => [(k_M cA ad M_thrown M_gates M_lines M_conflict M_moved M_tapeSize u M_found), (k_M_equals cA ad M_equals), (k_M_counts cA ad M_counts), (k_M_literals cA ad M_literals), (k_M_tape cA ad M_tape)])) (wr := [(k_M_equals cA ad M_equals), (k_M_counts cA ad M_counts), (k_M_literals cA ad M_literals)]) hw hA [0, 4] [1, 2, 3] [3, 0, 1, 2, 4] rfl rfl (by decide) (by decide) (by decide) (fun _ => rfl) (fun r91 u H locs hw h => ?_)
    obtain ⟨M_place_91, rfl⟩ : ∃ z, z = u := ⟨_, rfl⟩
    have hw : mW D A s.heap [(k_M cA ad M_thrown M_gates M_lines M_conflict M_moved M_tapeSize M_place_91 M_found), (k_M_equals cA ad M_equals), (k_M_counts cA ad M_counts), (k_M_literals cA ad M_literals), (k_M_tape cA ad M_tape)] H locs := hw
    refine lv_istore_n (lv' := [(2, .int r91), (0, .ref (ad 15)), (1, .int p1)]) hx hb d_M_readLine_94 rfl hl (by decide) rfl (fun ls hl => ?_)
    refine lv_goto (tgt := 5) hx hb d_M_readLine_95 (by decide) ?_
    exact (hC5 _ _ _ _).1 h _ _ _ hw (lv_sub hl [1, 2, 0] rfl)
  have j83 : ∀ (x5 : Int32) (M_place : Int32) (M_counts : (Nat → Int32)) (M_literals : (Nat → Int32)) (H : Heap) (locs : List Loc) (ls : Array Slot), s_M_readLine_83 M_gates M_tapeSize M_equals M_tape p1 C5 post x5 M_place M_counts M_literals → mW D A s.heap [(k_M cA ad M_thrown M_gates M_lines M_conflict M_moved M_tapeSize M_place M_found), (k_M_equals cA ad M_equals), (k_M_counts cA ad M_counts), (k_M_literals cA ad M_literals), (k_M_tape cA ad M_tape)] H locs → lv_has ls 6 [(0, .ref (ad 15)), (1, .int p1), (5, .int x5)] → W p l e rm_M_readLine s m [.ref (ad 15), .int p1].toArray below meth c H locs 0 0 Q (F0 m 83 ls []) := by
    intro x5 M_place M_counts M_literals H locs ls h hw hl
    unfold s_M_readLine_83 at h
    refine lv_aload_n hx hb d_M_readLine_83 rfl (lv_at hl 0 rfl) ?_
    refine lv_iload_n hx hb d_M_readLine_84 rfl (lv_at hl 1 rfl) ?_
    refine lv_iload hx hb d_M_readLine_85 (lv_at hl 2 rfl) ?_
    refine m_callv (hr := va_runV (As := [.int p1, .int x5]) (rest := []) ⟨hx, hb, hml, hown, hts⟩ (c_M_add l D cA ad _ M_thrown M_gates M_lines M_conflict M_moved M_tapeSize M_place M_found M_counts M_literals p1 x5 _ h) (cwV 2 hts (ginV gm_650 gm_652 gs_43 gm_6 gm_653) rfl rfl rfl (by decide +kernel) ⟨Nat.le_of_ble_eq_true rfl, Nat.le_of_ble_eq_true rfl⟩) (m_preV 5 0 rfl rfl hK hw [0, 2, 3] rfl rfl) rfl rfl hl.1 rfl (lv_room (Nat.le_of_ble_eq_true rfl)) d_M_readLine_87 ⟨Nat.zero_le _, Nat.zero_le _⟩) (w2 := (fun (u : (Nat → Int32) × (Nat → Int32)) => [(k_M cA ad M_thrown M_gates M_lines M_conflict M_moved M_tapeSize M_place M_found), (k_M_equals cA ad M_equals), (k_M_counts cA ad u.1), (k_M_literals cA ad u.2), (k_M_tape cA ad M_tape)])) (wr := [(k_M_equals cA ad M_equals), (k_M_tape cA ad M_tape)]) hw hA [0, 2, 3] [1, 4] [2, 0, 3, 4, 1] rfl rfl (by decide) (by decide) (by decide) (fun _ => rfl) (fun u H locs hw h => ?_)
    obtain ⟨M_counts_87, M_literals_87⟩ := u
    have hw : mW D A s.heap [(k_M cA ad M_thrown M_gates M_lines M_conflict M_moved M_tapeSize M_place M_found), (k_M_equals cA ad M_equals), (k_M_counts cA ad M_counts_87), (k_M_literals cA ad M_literals_87), (k_M_tape cA ad M_tape)] H locs := hw
    exact j90 _ _ _ _ _ _ h hw (lv_sub hl [0, 1] rfl)
  have j37 : ∀ (s0 : Int32) (x3 : Int32) (M_place : Int32) (M_counts : (Nat → Int32)) (M_literals : (Nat → Int32)) (H : Heap) (locs : List Loc) (ls : Array Slot), s_M_readLine_37 M_gates M_tapeSize M_equals M_tape p1 C5 post s0 x3 M_place M_counts M_literals → mW D A s.heap [(k_M cA ad M_thrown M_gates M_lines M_conflict M_moved M_tapeSize M_place M_found), (k_M_equals cA ad M_equals), (k_M_counts cA ad M_counts), (k_M_literals cA ad M_literals), (k_M_tape cA ad M_tape)] H locs → lv_has ls 6 [(0, .ref (ad 15)), (1, .int p1), (3, .int x3)] → W p l e rm_M_readLine s m [.ref (ad 15), .int p1].toArray below meth c H locs 0 0 Q (F0 m 37 ls [.int s0]) := by
    intro s0 x3 M_place M_counts M_literals H locs ls h hw hl
    unfold s_M_readLine_37 at h
    refine lv_istore (lv' := [(4, .int s0), (0, .ref (ad 15)), (1, .int p1), (3, .int x3)]) hx hb d_M_readLine_37 hl (by decide) rfl (fun ls hl => ?_)
    refine lv_aload_n hx hb d_M_readLine_39 rfl (lv_at hl 1 rfl) ?_
    refine m_calli (hr := va_runV (As := []) (rest := []) ⟨hx, hb, hml, hown, hts⟩ (c_M_readLiteral l D cA ad _ M_thrown M_gates M_lines M_conflict M_moved M_tapeSize M_place M_found M_tape _ h) (cwV 0 hts (ginV gm_767 gm_769 gs_60 gm_6 gm_770) rfl rfl rfl (by decide +kernel) ⟨Nat.le_of_ble_eq_true rfl, Nat.le_of_ble_eq_true rfl⟩) (m_preV 5 0 rfl rfl hK hw [0, 4] rfl rfl) rfl rfl hl.1 rfl (lv_room (Nat.le_of_ble_eq_true rfl)) d_M_readLine_40 ⟨Nat.zero_le _, Nat.zero_le _⟩) (w2 := (fun (u : Int32) => [(k_M cA ad M_thrown M_gates M_lines M_conflict M_moved M_tapeSize u M_found), (k_M_equals cA ad M_equals), (k_M_counts cA ad M_counts), (k_M_literals cA ad M_literals), (k_M_tape cA ad M_tape)])) (wr := [(k_M_equals cA ad M_equals), (k_M_counts cA ad M_counts), (k_M_literals cA ad M_literals)]) hw hA [0, 4] [1, 2, 3] [3, 0, 1, 2, 4] rfl rfl (by decide) (by decide) (by decide) (fun _ => rfl) (fun r40 u H locs hw h => ?_)
    obtain ⟨M_place_40, rfl⟩ : ∃ z, z = u := ⟨_, rfl⟩
    have hw : mW D A s.heap [(k_M cA ad M_thrown M_gates M_lines M_conflict M_moved M_tapeSize M_place_40 M_found), (k_M_equals cA ad M_equals), (k_M_counts cA ad M_counts), (k_M_literals cA ad M_literals), (k_M_tape cA ad M_tape)] H locs := hw
    refine lv_istore (lv' := [(5, .int r40), (4, .int s0), (0, .ref (ad 15)), (1, .int p1), (3, .int x3)]) hx hb d_M_readLine_43 hl (by decide) rfl (fun ls hl => ?_)
    refine lv_iload hx hb d_M_readLine_45 (lv_at hl 0 rfl) ?_
    refine lv_iconst (v := (-1)) hx hb d_M_readLine_47 (by decide) ?_
    refine lv_icmp_eq (tgt := 62) hx hb d_M_readLine_48 (by decide) (fun hc => ?_) (fun hc => ?_)
    · have h := h.1 hc
      refine lv_iload_n hx hb d_M_readLine_62 rfl (lv_at hl 4 rfl) ?_
      exact hE x3 (M_place_40, M_counts, M_literals) _ _ _ _ h hw d_M_readLine_63
    · have h := h.2 hc
      refine lv_aload_n hx hb d_M_readLine_51 rfl (lv_at hl 2 rfl) ?_
      refine va_get (D := D) (ci := 5) (v := .ref (ad 20)) (C := R_M) (T := T_M) (N := 18) hx hb hts (fun w h => List.mem_cons_of_mem _ (iw_M w h)) hown hK.1 hw.1 0 rfl rfl 6 (by decide) (hg gm_573) (fun _ h9 => h9) rfl d_M_readLine_52 ?_
      refine lv_iload_n hx hb d_M_readLine_55 rfl (lv_at hl 3 rfl) ?_
      refine va_iald hx hb hK.1 hw.1 2 0 rfl rfl h.1 d_M_readLine_56 ?_
      have h := h.2
      refine lv_iload hx hb d_M_readLine_57 (lv_at hl 1 rfl) ?_
      refine lv_icmp_ne (tgt := 64) hx hb d_M_readLine_59 (by decide) (fun hc => ?_) (fun hc => ?_)
      · have h := h.2 hc
        refine lv_aload_n hx hb d_M_readLine_64 rfl (lv_at hl 2 rfl) ?_
        refine va_get (D := D) (ci := 5) (v := .ref (ad 19)) (C := R_M) (T := T_M) (N := 18) hx hb hts (fun w h => List.mem_cons_of_mem _ (iw_M w h)) hown hK.1 hw.1 0 rfl rfl 5 (by decide) (hg gm_572) (fun _ h9 => h9) rfl d_M_readLine_65 ?_
        refine lv_iload_n hx hb d_M_readLine_68 rfl (lv_at hl 3 rfl) ?_
        refine va_zald hx hb hK.1 hw.1 1 1 rfl rfl h.1 d_M_readLine_69 ?_
        have h := h.2
        refine lv_if_ne (tgt := 83) hx hb d_M_readLine_70 (by decide) (fun hc => ?_) (fun hc => ?_)
        · have h := h.2 hc
          exact j83 _ _ _ _ _ _ _ h hw (lv_sub hl [2, 3, 0] rfl)
        · have h := h.1 hc
          refine lv_aload_n hx hb d_M_readLine_73 rfl (lv_at hl 2 rfl) ?_
          refine lv_iload_n hx hb d_M_readLine_74 rfl (lv_at hl 3 rfl) ?_
          refine lv_iload hx hb d_M_readLine_75 (lv_at hl 0 rfl) ?_
          refine m_calli (hr := va_runV (As := [.int p1, .int r40]) (rest := []) ⟨hx, hb, hml, hown, hts⟩ (c_M_isThere l D cA ad _ M_thrown M_gates M_lines M_conflict M_moved M_tapeSize M_place_40 M_found M_counts M_literals p1 r40 _ h) (cwV 2 hts (ginV gm_646 gm_648 gs_42 gm_6 gm_649) rfl rfl rfl (by decide +kernel) ⟨Nat.le_of_ble_eq_true rfl, Nat.le_of_ble_eq_true rfl⟩) (m_preV 5 0 rfl rfl hK hw [0, 2, 3] rfl rfl) rfl rfl hl.1 rfl (lv_room (Nat.le_of_ble_eq_true rfl)) d_M_readLine_77 ⟨Nat.zero_le _, Nat.zero_le _⟩) (w2 := (fun (_ : Unit) => [(k_M cA ad M_thrown M_gates M_lines M_conflict M_moved M_tapeSize M_place_40 M_found), (k_M_equals cA ad M_equals), (k_M_counts cA ad M_counts), (k_M_literals cA ad M_literals), (k_M_tape cA ad M_tape)])) (wr := [(k_M_equals cA ad M_equals), (k_M_tape cA ad M_tape)]) hw hA [0, 2, 3] [1, 4] [2, 0, 3, 4, 1] rfl rfl (by decide) (by decide) (by decide) (fun _ => rfl) (fun r77 u H locs hw h => ?_)
          refine lv_if_ne (tgt := 90) hx hb d_M_readLine_80 (by decide) (fun hc => ?_) (fun hc => ?_)
          · have h := h.2 hc
            exact j90 _ _ _ _ _ _ h hw (lv_sub hl [2, 3] rfl)
          · have h := h.1 hc
            exact j83 _ _ _ _ _ _ _ h hw (lv_sub hl [2, 3, 0] rfl)
      · have h := h.1 hc
        refine lv_iload_n hx hb d_M_readLine_62 rfl (lv_at hl 4 rfl) ?_
        exact hE x3 (M_place_40, M_counts, M_literals) _ _ _ _ h hw d_M_readLine_63
  have j17 : ∀ (M_place : Int32) (M_counts : (Nat → Int32)) (M_literals : (Nat → Int32)) (H : Heap) (locs : List Loc) (ls : Array Slot), s_M_readLine_17 M_gates M_tapeSize M_equals M_tape p1 C5 post M_place M_counts M_literals → mW D A s.heap [(k_M cA ad M_thrown M_gates M_lines M_conflict M_moved M_tapeSize M_place M_found), (k_M_equals cA ad M_equals), (k_M_counts cA ad M_counts), (k_M_literals cA ad M_literals), (k_M_tape cA ad M_tape)] H locs → lv_has ls 6 [(0, .ref (ad 15)), (1, .int p1)] → W p l e rm_M_readLine s m [.ref (ad 15), .int p1].toArray below meth c H locs 0 0 Q (F0 m 17 ls []) := by
    intro M_place M_counts M_literals H locs ls h hw hl
    unfold s_M_readLine_17 at h
    refine lv_aload_n hx hb d_M_readLine_17 rfl (lv_at hl 0 rfl) ?_
    refine va_get (D := D) (ci := 5) (v := .int M_place) (C := R_M) (T := T_M) (N := 18) hx hb hts (fun w h => List.mem_cons_of_mem _ (iw_M w h)) hown hK.1 hw.1 0 rfl rfl 14 (by decide) (hg gm_581) (fun _ h9 => h9) rfl d_M_readLine_18 ?_
    refine lv_istore_n (lv' := [(3, .int M_place), (0, .ref (ad 15)), (1, .int p1)]) hx hb d_M_readLine_21 rfl hl (by decide) rfl (fun ls hl => ?_)
    refine lv_aload_n hx hb d_M_readLine_22 rfl (lv_at hl 1 rfl) ?_
    refine va_get (D := D) (ci := 5) (v := .ref (ad 19)) (C := R_M) (T := T_M) (N := 18) hx hb hts (fun w h => List.mem_cons_of_mem _ (iw_M w h)) hown hK.1 hw.1 0 rfl rfl 5 (by decide) (hg gm_572) (fun _ h9 => h9) rfl d_M_readLine_23 ?_
    refine lv_iload_n hx hb d_M_readLine_26 rfl (lv_at hl 2 rfl) ?_
    refine va_zald hx hb hK.1 hw.1 1 1 rfl rfl h.1 d_M_readLine_27 ?_
    have h := h.2
    refine lv_if_eq (tgt := 35) hx hb d_M_readLine_28 (by decide) (fun hc => ?_) (fun hc => ?_)
    · have h := h.1 hc
      refine lv_bipush (v := 6) hx hb d_M_readLine_35 (by decide) ?_
      exact j37 _ _ _ _ _ _ _ _ h hw (lv_sub hl [1, 2, 0] rfl)
    · have h := h.2 hc
      refine lv_iconst (v := 2) hx hb d_M_readLine_31 (by decide) ?_
      refine lv_goto (tgt := 37) hx hb d_M_readLine_32 (by decide) ?_
      exact j37 _ _ _ _ _ _ _ _ h hw (lv_sub hl [1, 2, 0] rfl)
  have hc5 : ∀ (x2 : Int32) (M_place : Int32) (M_counts : (Nat → Int32)) (M_literals : (Nat → Int32)), s_M_readLine_5 M_gates M_tapeSize M_equals M_tape p1 C5 post x2 M_place M_counts M_literals → C5 x2 M_place M_counts M_literals := by
    intro x2 M_place M_counts M_literals h
    unfold s_M_readLine_5 at h
    refine (hC5 _ _ _ _).2 ?_
    intro H locs ls hw hl
    refine lv_iload_n hx hb d_M_readLine_5 rfl (lv_at hl 2 rfl) ?_
    refine lv_bipush (v := 43) hx hb d_M_readLine_6 (by decide) ?_
    refine lv_icmp_eq (tgt := 17) hx hb d_M_readLine_8 (by decide) (fun hc => ?_) (fun hc => ?_)
    · have h := h.1 hc
      exact j17 _ _ _ _ _ _ h hw (lv_sub hl [0, 1] rfl)
    · have h := h.2 hc
      refine lv_iload_n hx hb d_M_readLine_11 rfl (lv_at hl 2 rfl) ?_
      refine lv_bipush (v := 45) hx hb d_M_readLine_12 (by decide) ?_
      refine lv_icmp_ne (tgt := 98) hx hb d_M_readLine_14 (by decide) (fun hc => ?_) (fun hc => ?_)
      · have h := h.2 hc
        refine lv_iload_n hx hb d_M_readLine_98 rfl (lv_at hl 2 rfl) ?_
        refine lv_iconst (v := (-1)) hx hb d_M_readLine_99 (by decide) ?_
        refine lv_icmp_eq (tgt := 109) hx hb d_M_readLine_100 (by decide) (fun hc => ?_) (fun hc => ?_)
        · have h := h.1 hc
          exact j109 _ _ _ _ _ _ h hw (lv_sub hl [0, 1] rfl)
        · have h := h.2 hc
          refine lv_iload_n hx hb d_M_readLine_103 rfl (lv_at hl 2 rfl) ?_
          refine lv_bipush (v := 10) hx hb d_M_readLine_104 (by decide) ?_
          refine lv_icmp_ne (tgt := 113) hx hb d_M_readLine_106 (by decide) (fun hc => ?_) (fun hc => ?_)
          · have h := h.2 hc
            refine lv_iconst (v := 0) hx hb d_M_readLine_113 (by decide) ?_
            exact j114 _ _ _ _ _ _ _ h hw (lv_sub hl [0, 1] rfl)
          · have h := h.1 hc
            exact j109 _ _ _ _ _ _ h hw (lv_sub hl [0, 1] rfl)
      · have h := h.1 hc
        exact j17 _ _ _ _ _ _ h hw (lv_sub hl [0, 1] rfl)
  unfold wp_M_readLine at h
  have h := h C5 hc5
  refine lv_aload_n hx hb d_M_readLine_0 rfl (lv_at hl 0 rfl) ?_
  refine m_calli (hr := va_runV (As := []) (rest := []) ⟨hx, hb, hml, hown, hts⟩ (c_M_next l D cA ad _ M_thrown M_gates M_lines M_conflict M_moved M_tapeSize M_place M_found M_tape _ h) (cwV 0 hts (ginV gm_759 gm_761 gs_58 gm_6 gm_762) rfl rfl rfl (by decide +kernel) ⟨Nat.le_of_ble_eq_true rfl, Nat.le_of_ble_eq_true rfl⟩) (m_preV 5 0 rfl rfl hK hw [0, 4] rfl rfl) rfl rfl hl.1 rfl (lv_room (Nat.le_of_ble_eq_true rfl)) d_M_readLine_1 ⟨Nat.zero_le _, Nat.zero_le _⟩) (w2 := (fun (u : Int32) => [(k_M cA ad M_thrown M_gates M_lines M_conflict M_moved M_tapeSize u M_found), (k_M_equals cA ad M_equals), (k_M_counts cA ad M_counts), (k_M_literals cA ad M_literals), (k_M_tape cA ad M_tape)])) (wr := [(k_M_equals cA ad M_equals), (k_M_counts cA ad M_counts), (k_M_literals cA ad M_literals)]) hw hA [0, 4] [1, 2, 3] [3, 0, 1, 2, 4] rfl rfl (by decide) (by decide) (by decide) (fun _ => rfl) (fun r1 u H locs hw h => ?_)
  obtain ⟨M_place_1, rfl⟩ : ∃ z, z = u := ⟨_, rfl⟩
  have hw : mW D A s.heap [(k_M cA ad M_thrown M_gates M_lines M_conflict M_moved M_tapeSize M_place_1 M_found), (k_M_equals cA ad M_equals), (k_M_counts cA ad M_counts), (k_M_literals cA ad M_literals), (k_M_tape cA ad M_tape)] H locs := hw
  refine lv_istore_n (lv' := [(2, .int r1), (0, .ref (ad 15)), (1, .int p1)]) hx hb d_M_readLine_4 rfl hl (by decide) rfl (fun ls hl => ?_)
  exact (hC5 _ _ _ _).1 h _ _ _ hw (lv_sub hl [1, 2, 0] rfl)
def rm_M_read : Room := { frames := 3, cells := 0, slots := 0, locals := 69 }
set_option maxHeartbeats 4000000 in
set_option maxRecDepth 100000 in
theorem c_M_read (l : Launch) (D : va_G) (cA : Nat → ClassId) (ad : Nat → Nat) (sz : Nat) (M_thrown : Int32) (M_gates : Int32) (M_lines : Int32) (M_conflict : Int32) (M_moved : Int32) (M_tapeSize : Int32) (M_place : Int32) (M_found : Int32) (M_equals : (Nat → Int32)) (M_counts : (Nat → Int32)) (M_literals : (Nat → Int32)) (M_tape : (Nat → Int32)) (post : Int32 → Int32 → Int32 → Int32 → Int32 → (Nat → Int32) → (Nat → Int32) → (Nat → Int32) → Prop) (h : wp_M_read M_thrown M_gates M_lines M_tapeSize M_place M_equals M_counts M_literals M_tape post) : Met l y_M_read w_M_read rm_M_read (mPc D cA [.ref (ad 15)] [(k_M cA ad M_thrown M_gates M_lines M_conflict M_moved M_tapeSize M_place M_found), (k_M_equals cA ad M_equals), (k_M_counts cA ad M_counts), (k_M_literals cA ad M_literals), (k_M_tape cA ad M_tape)] sz) (va_Qi (fun (r : Int32) (u : Int32 × Int32 × Int32 × Int32 × (Nat → Int32) × (Nat → Int32) × (Nat → Int32)) => post r u.1 u.2.1 u.2.2.1 u.2.2.2.1 u.2.2.2.2.1 u.2.2.2.2.2.1 u.2.2.2.2.2.2) (mB D (va_A [(k_M cA ad M_thrown M_gates M_lines M_conflict M_moved M_tapeSize M_place M_found), (k_M_equals cA ad M_equals), (k_M_counts cA ad M_counts), (k_M_literals cA ad M_literals), (k_M_tape cA ad M_tape)] sz) (fun (u : Int32 × Int32 × Int32 × Int32 × (Nat → Int32) × (Nat → Int32) × (Nat → Int32)) => [(k_M cA ad u.1 M_gates u.2.1 M_conflict M_moved u.2.2.1 u.2.2.2.1 M_found), (k_M_equals cA ad u.2.2.2.2.1), (k_M_counts cA ad u.2.2.2.2.2.1), (k_M_literals cA ad u.2.2.2.2.2.2), (k_M_tape cA ad M_tape)])) (va_A [(k_M cA ad M_thrown M_gates M_lines M_conflict M_moved M_tapeSize M_place M_found), (k_M_equals cA ad M_equals), (k_M_counts cA ad M_counts), (k_M_literals cA ad M_literals), (k_M_tape cA ad M_tape)] sz)) 0 0 (va_A [(k_M cA ad M_thrown M_gates M_lines M_conflict M_moved M_tapeSize M_place M_found), (k_M_equals cA ad M_equals), (k_M_counts cA ad M_counts), (k_M_literals cA ad M_literals), (k_M_tape cA ad M_tape)] sz) := by
  refine m_methI (by decide) rfl (Nat.le_of_ble_eq_true rfl) ?_
  intro p e s m below meth c A Q ls hx hb hml hown hts hK hA hw hl hE
  have hl : lv_has ls 4 [(0, .ref (ad 15))] := hl
  have hown : s.vm.findClass R_M = some m.cls := hown
  have hg : ∀ {w : Cond}, w ∈ gw → w.before _ s = true := fun h => hts _ (List.mem_cons_of_mem _ h)
  obtain ⟨C17, hC17⟩ : ∃ C : Int32 → Int32 → Int32 → Int32 → Int32 → Int32 → (Nat → Int32) → (Nat → Int32) → (Nat → Int32) → Prop, ∀ (x1 : Int32) (x2 : Int32) (M_thrown : Int32) (M_lines : Int32) (M_tapeSize : Int32) (M_place : Int32) (M_equals : (Nat → Int32)) (M_counts : (Nat → Int32)) (M_literals : (Nat → Int32)), C x1 x2 M_thrown M_lines M_tapeSize M_place M_equals M_counts M_literals ↔ (∀ (H : Heap) (locs : List Loc) (ls : Array Slot), mW D A s.heap [(k_M cA ad M_thrown M_gates M_lines M_conflict M_moved M_tapeSize M_place M_found), (k_M_equals cA ad M_equals), (k_M_counts cA ad M_counts), (k_M_literals cA ad M_literals), (k_M_tape cA ad M_tape)] H locs → lv_has ls 4 [(0, .ref (ad 15)), (1, .int x1), (2, .int x2)] → W p l e rm_M_read s m [.ref (ad 15)].toArray below meth c H locs 0 0 Q (F0 m 17 ls [])) := ⟨_, fun _ _ _ _ _ _ _ _ _ => Iff.rfl⟩
  have j151 : ∀ (x1 : Int32) (x2 : Int32) (M_thrown : Int32) (M_lines : Int32) (M_tapeSize : Int32) (M_place : Int32) (M_equals : (Nat → Int32)) (M_counts : (Nat → Int32)) (M_literals : (Nat → Int32)) (H : Heap) (locs : List Loc) (ls : Array Slot), s_M_read_151 M_gates M_tape C17 post x1 x2 M_thrown M_lines M_tapeSize M_place M_equals M_counts M_literals → mW D A s.heap [(k_M cA ad M_thrown M_gates M_lines M_conflict M_moved M_tapeSize M_place M_found), (k_M_equals cA ad M_equals), (k_M_counts cA ad M_counts), (k_M_literals cA ad M_literals), (k_M_tape cA ad M_tape)] H locs → lv_has ls 4 [(0, .ref (ad 15)), (1, .int x1), (2, .int x2)] → W p l e rm_M_read s m [.ref (ad 15)].toArray below meth c H locs 0 0 Q (F0 m 151 ls []) := by
    intro x1 x2 M_thrown M_lines M_tapeSize M_place M_equals M_counts M_literals H locs ls h hw hl
    unfold s_M_read_151 at h
    refine lv_aload_n hx hb d_M_read_151 rfl (lv_at hl 0 rfl) ?_
    refine lv_iconst (v := 0) hx hb d_M_read_152 (by decide) ?_
    refine m_put (ws' := [(k_M cA ad M_thrown M_gates M_lines M_conflict M_moved 0 M_place M_found), (k_M_equals cA ad M_equals), (k_M_counts cA ad M_counts), (k_M_literals cA ad M_literals), (k_M_tape cA ad M_tape)]) (ci := 5) (v := .int 0) (ty := .int) (C := R_M) (T := T_M) (N := 18) hx hb hts (fun w h => List.mem_cons_of_mem _ (iw_M w h)) ty_M tyok_M nm_M hown hK.1 hw 0 rfl rfl 13 (by decide) (hg gm_580) (fun _ h9 => h9) rfl (by decide +kernel) rfl rfl (Nat.le_of_ble_eq_true rfl) rfl d_M_read_153 (fun H locs hw => ?_)
    refine lv_iload_n hx hb d_M_read_156 rfl (lv_at hl 2 rfl) ?_
    refine lv_if_lt (tgt := 169) hx hb d_M_read_157 (by decide) (fun hc => ?_) (fun hc => ?_)
    · have h := h.1 hc
      refine lv_aload_n hx hb d_M_read_169 rfl (lv_at hl 0 rfl) ?_
      refine va_get (D := D) (ci := 5) (v := .int M_lines) (C := R_M) (T := T_M) (N := 18) hx hb hts (fun w h => List.mem_cons_of_mem _ (iw_M w h)) hown hK.1 hw.1 0 rfl rfl 8 (by decide) (hg gm_575) (fun _ h9 => h9) rfl d_M_read_170 ?_
      exact hE M_lines (M_thrown, M_lines, 0, M_place, M_equals, M_counts, M_literals) _ _ _ _ h hw d_M_read_173
    · have h := h.2 hc
      refine lv_aload_n hx hb d_M_read_160 rfl (lv_at hl 0 rfl) ?_
      refine lv_iload_n hx hb d_M_read_161 rfl (lv_at hl 1 rfl) ?_
      refine m_put (ws' := [(k_M cA ad M_thrown M_gates x1 M_conflict M_moved 0 M_place M_found), (k_M_equals cA ad M_equals), (k_M_counts cA ad M_counts), (k_M_literals cA ad M_literals), (k_M_tape cA ad M_tape)]) (ci := 5) (v := .int x1) (ty := .int) (C := R_M) (T := T_M) (N := 18) hx hb hts (fun w h => List.mem_cons_of_mem _ (iw_M w h)) ty_M tyok_M nm_M hown hK.1 hw 0 rfl rfl 8 (by decide) (hg gm_575) (fun _ h9 => h9) rfl (by decide +kernel) rfl rfl (Nat.le_of_ble_eq_true rfl) rfl d_M_read_162 (fun H locs hw => ?_)
      refine lv_iconst (v := (-1)) hx hb d_M_read_165 (by decide) ?_
      refine lv_iload_n hx hb d_M_read_166 rfl (lv_at hl 2 rfl) ?_
      refine lv_isub hx hb d_M_read_167 ?_
      exact hE ((-1) - x2) (M_thrown, x1, 0, M_place, M_equals, M_counts, M_literals) _ _ _ _ h hw d_M_read_168
  have j148 : ∀ (x1 : Int32) (x2 : Int32) (M_thrown : Int32) (M_lines : Int32) (M_tapeSize : Int32) (M_place : Int32) (M_equals : (Nat → Int32)) (M_counts : (Nat → Int32)) (M_literals : (Nat → Int32)) (H : Heap) (locs : List Loc) (ls : Array Slot), s_M_read_148 M_gates M_tape C17 post x1 x2 M_thrown M_lines M_tapeSize M_place M_equals M_counts M_literals → mW D A s.heap [(k_M cA ad M_thrown M_gates M_lines M_conflict M_moved M_tapeSize M_place M_found), (k_M_equals cA ad M_equals), (k_M_counts cA ad M_counts), (k_M_literals cA ad M_literals), (k_M_tape cA ad M_tape)] H locs → lv_has ls 4 [(0, .ref (ad 15)), (1, .int x1), (2, .int x2)] → W p l e rm_M_read s m [.ref (ad 15)].toArray below meth c H locs 0 0 Q (F0 m 148 ls []) := by
    intro x1 x2 M_thrown M_lines M_tapeSize M_place M_equals M_counts M_literals H locs ls h hw hl
    unfold s_M_read_148 at h
    refine lv_goto (tgt := 17) hx hb d_M_read_148 (by decide) ?_
    exact (hC17 _ _ _ _ _ _ _ _ _).1 h _ _ _ hw (lv_sub hl [0, 1, 2] rfl)
  have j116 : ∀ (s0 : Int32) (s1 : Int32) (x1 : Int32) (M_thrown : Int32) (M_lines : Int32) (M_tapeSize : Int32) (M_place : Int32) (M_equals : (Nat → Int32)) (M_counts : (Nat → Int32)) (M_literals : (Nat → Int32)) (H : Heap) (locs : List Loc) (ls : Array Slot), s_M_read_116 M_gates M_tape C17 post s0 s1 x1 M_thrown M_lines M_tapeSize M_place M_equals M_counts M_literals → mW D A s.heap [(k_M cA ad M_thrown M_gates M_lines M_conflict M_moved M_tapeSize M_place M_found), (k_M_equals cA ad M_equals), (k_M_counts cA ad M_counts), (k_M_literals cA ad M_literals), (k_M_tape cA ad M_tape)] H locs → lv_has ls 4 [(0, .ref (ad 15)), (1, .int x1)] → W p l e rm_M_read s m [.ref (ad 15)].toArray below meth c H locs 0 0 Q (F0 m 116 ls [.int s0, .int s1, .ref (ad 19)]) := by
    intro s0 s1 x1 M_thrown M_lines M_tapeSize M_place M_equals M_counts M_literals H locs ls h hw hl
    unfold s_M_read_116 at h
    refine m_zast (ws' := [(k_M cA ad M_thrown M_gates M_lines M_conflict M_moved M_tapeSize M_place M_found), (k_M_equals cA ad (upd M_equals s1.toNatClampNeg (vp_nar .boolean s0))), (k_M_counts cA ad M_counts), (k_M_literals cA ad M_literals), (k_M_tape cA ad M_tape)]) hx hb hK.1 hw 1 1 rfl rfl h.1 rfl d_M_read_116 (fun H locs hw => ?_)
    have h := h.2
    refine lv_aload_n hx hb d_M_read_117 rfl (lv_at hl 0 rfl) ?_
    refine va_get (D := D) (ci := 5) (v := .ref (ad 20)) (C := R_M) (T := T_M) (N := 18) hx hb hts (fun w h => List.mem_cons_of_mem _ (iw_M w h)) hown hK.1 hw.1 0 rfl rfl 6 (by decide) (hg gm_573) (fun _ h9 => h9) rfl d_M_read_118 ?_
    refine lv_aload_n hx hb d_M_read_121 rfl (lv_at hl 0 rfl) ?_
    refine va_get (D := D) (ci := 5) (v := .int M_lines) (C := R_M) (T := T_M) (N := 18) hx hb hts (fun w h => List.mem_cons_of_mem _ (iw_M w h)) hown hK.1 hw.1 0 rfl rfl 8 (by decide) (hg gm_575) (fun _ h9 => h9) rfl d_M_read_122 ?_
    refine lv_iconst (v := 0) hx hb d_M_read_125 (by decide) ?_
    refine m_iast (ws' := [(k_M cA ad M_thrown M_gates M_lines M_conflict M_moved M_tapeSize M_place M_found), (k_M_equals cA ad (upd M_equals s1.toNatClampNeg (vp_nar .boolean s0))), (k_M_counts cA ad (upd M_counts M_lines.toNatClampNeg 0)), (k_M_literals cA ad M_literals), (k_M_tape cA ad M_tape)]) hx hb hK.1 hw 2 0 rfl rfl h.1 rfl d_M_read_126 (fun H locs hw => ?_)
    have h := h.2
    refine lv_aload_n hx hb d_M_read_127 rfl (lv_at hl 0 rfl) ?_
    refine lv_dup hx hb d_M_read_128 rfl ?_
    refine va_get (D := D) (ci := 5) (v := .int M_lines) (C := R_M) (T := T_M) (N := 18) hx hb hts (fun w h => List.mem_cons_of_mem _ (iw_M w h)) hown hK.1 hw.1 0 rfl rfl 8 (by decide) (hg gm_575) (fun _ h9 => h9) rfl d_M_read_129 ?_
    refine lv_iconst (v := 1) hx hb d_M_read_132 (by decide) ?_
    refine lv_iadd hx hb d_M_read_133 ?_
    refine m_put (ws' := [(k_M cA ad M_thrown M_gates (M_lines + 1) M_conflict M_moved M_tapeSize M_place M_found), (k_M_equals cA ad (upd M_equals s1.toNatClampNeg (vp_nar .boolean s0))), (k_M_counts cA ad (upd M_counts M_lines.toNatClampNeg 0)), (k_M_literals cA ad M_literals), (k_M_tape cA ad M_tape)]) (ci := 5) (v := .int (M_lines + 1)) (ty := .int) (C := R_M) (T := T_M) (N := 18) hx hb hts (fun w h => List.mem_cons_of_mem _ (iw_M w h)) ty_M tyok_M nm_M hown hK.1 hw 0 rfl rfl 8 (by decide) (hg gm_575) (fun _ h9 => h9) rfl (by decide +kernel) rfl rfl (Nat.le_of_ble_eq_true rfl) rfl d_M_read_134 (fun H locs hw => ?_)
    refine lv_aload_n hx hb d_M_read_137 rfl (lv_at hl 0 rfl) ?_
    refine lv_aload_n hx hb d_M_read_138 rfl (lv_at hl 0 rfl) ?_
    refine va_get (D := D) (ci := 5) (v := .int (M_lines + 1)) (C := R_M) (T := T_M) (N := 18) hx hb hts (fun w h => List.mem_cons_of_mem _ (iw_M w h)) hown hK.1 hw.1 0 rfl rfl 8 (by decide) (hg gm_575) (fun _ h9 => h9) rfl d_M_read_139 ?_
    refine lv_iconst (v := 1) hx hb d_M_read_142 (by decide) ?_
    refine lv_isub hx hb d_M_read_143 ?_
    refine m_calli (hr := va_runV (As := [.int ((M_lines + 1) - 1)]) (rest := []) ⟨hx, hb, hml, hown, hts⟩ (c_M_readLine l D cA ad _ M_thrown M_gates (M_lines + 1) M_conflict M_moved M_tapeSize M_place M_found (upd M_equals s1.toNatClampNeg (vp_nar .boolean s0)) (upd M_counts M_lines.toNatClampNeg 0) M_literals M_tape ((M_lines + 1) - 1) _ h) (cwV 1 hts (ginV gm_763 gm_765 gs_59 gm_6 gm_766) rfl rfl rfl (by decide +kernel) ⟨Nat.le_of_ble_eq_true rfl, Nat.le_of_ble_eq_true rfl⟩) (m_preV 5 0 rfl rfl hK hw [0, 1, 2, 3, 4] rfl rfl) rfl rfl hl.1 rfl (lv_room (Nat.le_of_ble_eq_true rfl)) d_M_read_144 ⟨Nat.zero_le _, Nat.zero_le _⟩) (w2 := (fun (u : Int32 × (Nat → Int32) × (Nat → Int32)) => [(k_M cA ad M_thrown M_gates (M_lines + 1) M_conflict M_moved M_tapeSize u.1 M_found), (k_M_equals cA ad (upd M_equals s1.toNatClampNeg (vp_nar .boolean s0))), (k_M_counts cA ad u.2.1), (k_M_literals cA ad u.2.2), (k_M_tape cA ad M_tape)])) (wr := []) hw hA [0, 1, 2, 3, 4] [] [0, 1, 2, 3, 4] rfl rfl (by decide) (by decide) (by decide) (fun _ => rfl) (fun r144 u H locs hw h => ?_)
    obtain ⟨M_place_144, M_counts_144, M_literals_144⟩ := u
    have hw : mW D A s.heap [(k_M cA ad M_thrown M_gates (M_lines + 1) M_conflict M_moved M_tapeSize M_place_144 M_found), (k_M_equals cA ad (upd M_equals s1.toNatClampNeg (vp_nar .boolean s0))), (k_M_counts cA ad M_counts_144), (k_M_literals cA ad M_literals_144), (k_M_tape cA ad M_tape)] H locs := hw
    refine lv_istore_n (lv' := [(2, .int r144), (0, .ref (ad 15)), (1, .int x1)]) hx hb d_M_read_147 rfl hl (by decide) rfl (fun ls hl => ?_)
    exact j148 _ _ _ _ _ _ _ _ _ _ _ _ h hw (lv_sub hl [1, 2, 0] rfl)
  have j79 : ∀ (x1 : Int32) (M_thrown : Int32) (M_lines : Int32) (M_tapeSize : Int32) (M_place : Int32) (M_equals : (Nat → Int32)) (M_counts : (Nat → Int32)) (M_literals : (Nat → Int32)) (H : Heap) (locs : List Loc) (ls : Array Slot), s_M_read_79 M_gates M_tape C17 post x1 M_thrown M_lines M_tapeSize M_place M_equals M_counts M_literals → mW D A s.heap [(k_M cA ad M_thrown M_gates M_lines M_conflict M_moved M_tapeSize M_place M_found), (k_M_equals cA ad M_equals), (k_M_counts cA ad M_counts), (k_M_literals cA ad M_literals), (k_M_tape cA ad M_tape)] H locs → lv_has ls 4 [(0, .ref (ad 15)), (1, .int x1)] → W p l e rm_M_read s m [.ref (ad 15)].toArray below meth c H locs 0 0 Q (F0 m 79 ls []) := by
    intro x1 M_thrown M_lines M_tapeSize M_place M_equals M_counts M_literals H locs ls h hw hl
    unfold s_M_read_79 at h
    refine lv_aload_n hx hb d_M_read_79 rfl (lv_at hl 0 rfl) ?_
    refine va_get (D := D) (ci := 5) (v := .int M_place) (C := R_M) (T := T_M) (N := 18) hx hb hts (fun w h => List.mem_cons_of_mem _ (iw_M w h)) hown hK.1 hw.1 0 rfl rfl 14 (by decide) (hg gm_581) (fun _ h9 => h9) rfl d_M_read_80 ?_
    refine lv_istore_n (lv' := [(2, .int M_place), (0, .ref (ad 15)), (1, .int x1)]) hx hb d_M_read_83 rfl hl (by decide) rfl (fun ls hl => ?_)
    refine lv_goto (tgt := 148) hx hb d_M_read_84 (by decide) ?_
    exact j148 _ _ _ _ _ _ _ _ _ _ _ _ h hw (lv_sub hl [1, 2, 0] rfl)
  have j70 : ∀ (x1 : Int32) (x3 : Int32) (M_thrown : Int32) (M_lines : Int32) (M_tapeSize : Int32) (M_place : Int32) (M_equals : (Nat → Int32)) (M_counts : (Nat → Int32)) (M_literals : (Nat → Int32)) (H : Heap) (locs : List Loc) (ls : Array Slot), s_M_read_70 M_gates M_tape C17 post x1 x3 M_thrown M_lines M_tapeSize M_place M_equals M_counts M_literals → mW D A s.heap [(k_M cA ad M_thrown M_gates M_lines M_conflict M_moved M_tapeSize M_place M_found), (k_M_equals cA ad M_equals), (k_M_counts cA ad M_counts), (k_M_literals cA ad M_literals), (k_M_tape cA ad M_tape)] H locs → lv_has ls 4 [(0, .ref (ad 15)), (1, .int x1), (3, .int x3)] → W p l e rm_M_read s m [.ref (ad 15)].toArray below meth c H locs 0 0 Q (F0 m 70 ls []) := by
    intro x1 x3 M_thrown M_lines M_tapeSize M_place M_equals M_counts M_literals H locs ls h hw hl
    unfold s_M_read_70 at h
    refine lv_aload_n hx hb d_M_read_70 rfl (lv_at hl 0 rfl) ?_
    refine va_get (D := D) (ci := 5) (v := .int M_lines) (C := R_M) (T := T_M) (N := 18) hx hb hts (fun w h => List.mem_cons_of_mem _ (iw_M w h)) hown hK.1 hw.1 0 rfl rfl 8 (by decide) (hg gm_575) (fun _ h9 => h9) rfl d_M_read_71 ?_
    refine lv_bipush (v := 24) hx hb d_M_read_74 (by decide) ?_
    refine lv_icmp_ne (tgt := 87) hx hb d_M_read_76 (by decide) (fun hc => ?_) (fun hc => ?_)
    · have h := h.2 hc
      refine lv_aload_n hx hb d_M_read_87 rfl (lv_at hl 0 rfl) ?_
      refine lv_dup hx hb d_M_read_88 rfl ?_
      refine va_get (D := D) (ci := 5) (v := .int M_place) (C := R_M) (T := T_M) (N := 18) hx hb hts (fun w h => List.mem_cons_of_mem _ (iw_M w h)) hown hK.1 hw.1 0 rfl rfl 14 (by decide) (hg gm_581) (fun _ h9 => h9) rfl d_M_read_89 ?_
      refine lv_iconst (v := 1) hx hb d_M_read_92 (by decide) ?_
      refine lv_iadd hx hb d_M_read_93 ?_
      refine m_put (ws' := [(k_M cA ad M_thrown M_gates M_lines M_conflict M_moved M_tapeSize (M_place + 1) M_found), (k_M_equals cA ad M_equals), (k_M_counts cA ad M_counts), (k_M_literals cA ad M_literals), (k_M_tape cA ad M_tape)]) (ci := 5) (v := .int (M_place + 1)) (ty := .int) (C := R_M) (T := T_M) (N := 18) hx hb hts (fun w h => List.mem_cons_of_mem _ (iw_M w h)) ty_M tyok_M nm_M hown hK.1 hw 0 rfl rfl 14 (by decide) (hg gm_581) (fun _ h9 => h9) rfl (by decide +kernel) rfl rfl (Nat.le_of_ble_eq_true rfl) rfl d_M_read_94 (fun H locs hw => ?_)
      refine lv_aload_n hx hb d_M_read_97 rfl (lv_at hl 0 rfl) ?_
      refine va_get (D := D) (ci := 5) (v := .ref (ad 19)) (C := R_M) (T := T_M) (N := 18) hx hb hts (fun w h => List.mem_cons_of_mem _ (iw_M w h)) hown hK.1 hw.1 0 rfl rfl 5 (by decide) (hg gm_572) (fun _ h9 => h9) rfl d_M_read_98 ?_
      refine lv_aload_n hx hb d_M_read_101 rfl (lv_at hl 0 rfl) ?_
      refine va_get (D := D) (ci := 5) (v := .int M_lines) (C := R_M) (T := T_M) (N := 18) hx hb hts (fun w h => List.mem_cons_of_mem _ (iw_M w h)) hown hK.1 hw.1 0 rfl rfl 8 (by decide) (hg gm_575) (fun _ h9 => h9) rfl d_M_read_102 ?_
      refine lv_iload_n hx hb d_M_read_105 rfl (lv_at hl 2 rfl) ?_
      refine lv_bipush (v := 61) hx hb d_M_read_106 (by decide) ?_
      refine lv_icmp_ne (tgt := 115) hx hb d_M_read_108 (by decide) (fun hc => ?_) (fun hc => ?_)
      · have h := h.2 hc
        refine lv_iconst (v := 0) hx hb d_M_read_115 (by decide) ?_
        exact j116 _ _ _ _ _ _ _ _ _ _ _ _ _ h hw (lv_sub hl [0, 1] rfl)
      · have h := h.1 hc
        refine lv_iconst (v := 1) hx hb d_M_read_111 (by decide) ?_
        refine lv_goto (tgt := 116) hx hb d_M_read_112 (by decide) ?_
        exact j116 _ _ _ _ _ _ _ _ _ _ _ _ _ h hw (lv_sub hl [0, 1] rfl)
    · have h := h.1 hc
      exact j79 _ _ _ _ _ _ _ _ _ _ _ h hw (lv_sub hl [0, 1] rfl)
  have hc17 : ∀ (x1 : Int32) (x2 : Int32) (M_thrown : Int32) (M_lines : Int32) (M_tapeSize : Int32) (M_place : Int32) (M_equals : (Nat → Int32)) (M_counts : (Nat → Int32)) (M_literals : (Nat → Int32)), s_M_read_17 M_gates M_tape C17 post x1 x2 M_thrown M_lines M_tapeSize M_place M_equals M_counts M_literals → C17 x1 x2 M_thrown M_lines M_tapeSize M_place M_equals M_counts M_literals := by
    intro x1 x2 M_thrown M_lines M_tapeSize M_place M_equals M_counts M_literals h
    unfold s_M_read_17 at h
    refine (hC17 _ _ _ _ _ _ _ _ _).2 ?_
    intro H locs ls hw hl
    refine lv_iload_n hx hb d_M_read_17 rfl (lv_at hl 2 rfl) ?_
    refine lv_if_ge (tgt := 151) hx hb d_M_read_18 (by decide) (fun hc => ?_) (fun hc => ?_)
    · have h := h.1 hc
      exact j151 _ _ _ _ _ _ _ _ _ _ _ _ h hw (lv_sub hl [0, 1, 2] rfl)
    · have h := h.2 hc
      refine lv_aload_n hx hb d_M_read_21 rfl (lv_at hl 0 rfl) ?_
      refine m_calli (hr := va_runV (As := []) (rest := []) ⟨hx, hb, hml, hown, hts⟩ (c_M_next l D cA ad _ M_thrown M_gates M_lines M_conflict M_moved M_tapeSize M_place M_found M_tape _ h) (cwV 0 hts (ginV gm_759 gm_761 gs_58 gm_6 gm_762) rfl rfl rfl (by decide +kernel) ⟨Nat.le_of_ble_eq_true rfl, Nat.le_of_ble_eq_true rfl⟩) (m_preV 5 0 rfl rfl hK hw [0, 4] rfl rfl) rfl rfl hl.1 rfl (lv_room (Nat.le_of_ble_eq_true rfl)) d_M_read_22 ⟨Nat.zero_le _, Nat.zero_le _⟩) (w2 := (fun (u : Int32) => [(k_M cA ad M_thrown M_gates M_lines M_conflict M_moved M_tapeSize u M_found), (k_M_equals cA ad M_equals), (k_M_counts cA ad M_counts), (k_M_literals cA ad M_literals), (k_M_tape cA ad M_tape)])) (wr := [(k_M_equals cA ad M_equals), (k_M_counts cA ad M_counts), (k_M_literals cA ad M_literals)]) hw hA [0, 4] [1, 2, 3] [3, 0, 1, 2, 4] rfl rfl (by decide) (by decide) (by decide) (fun _ => rfl) (fun r22 u H locs hw h => ?_)
      obtain ⟨M_place_22, rfl⟩ : ∃ z, z = u := ⟨_, rfl⟩
      have hw : mW D A s.heap [(k_M cA ad M_thrown M_gates M_lines M_conflict M_moved M_tapeSize M_place_22 M_found), (k_M_equals cA ad M_equals), (k_M_counts cA ad M_counts), (k_M_literals cA ad M_literals), (k_M_tape cA ad M_tape)] H locs := hw
      refine lv_iconst (v := (-1)) hx hb d_M_read_25 (by decide) ?_
      refine lv_icmp_eq (tgt := 151) hx hb d_M_read_26 (by decide) (fun hc => ?_) (fun hc => ?_)
      · have h := h.1 hc
        exact j151 _ _ _ _ _ _ _ _ _ _ _ _ h hw (lv_sub hl [0, 1, 2] rfl)
      · have h := h.2 hc
        refine lv_aload_n hx hb d_M_read_29 rfl (lv_at hl 0 rfl) ?_
        refine va_get (D := D) (ci := 5) (v := .ref (ad 23)) (C := R_M) (T := T_M) (N := 18) hx hb hts (fun w h => List.mem_cons_of_mem _ (iw_M w h)) hown hK.1 hw.1 0 rfl rfl 12 (by decide) (hg gm_579) (fun _ h9 => h9) rfl d_M_read_30 ?_
        refine lv_aload_n hx hb d_M_read_33 rfl (lv_at hl 0 rfl) ?_
        refine va_get (D := D) (ci := 5) (v := .int M_place_22) (C := R_M) (T := T_M) (N := 18) hx hb hts (fun w h => List.mem_cons_of_mem _ (iw_M w h)) hown hK.1 hw.1 0 rfl rfl 14 (by decide) (hg gm_581) (fun _ h9 => h9) rfl d_M_read_34 ?_
        refine va_iald hx hb hK.1 hw.1 4 0 rfl rfl h.1 d_M_read_37 ?_
        have h := h.2
        refine lv_istore_n (lv' := [(3, .int (M_tape M_place_22.toNatClampNeg)), (0, .ref (ad 15)), (1, .int x1), (2, .int x2)]) hx hb d_M_read_38 rfl hl (by decide) rfl (fun ls hl => ?_)
        refine lv_iload_n hx hb d_M_read_39 rfl (lv_at hl 0 rfl) ?_
        refine lv_bipush (v := 10) hx hb d_M_read_40 (by decide) ?_
        refine lv_icmp_ne (tgt := 58) hx hb d_M_read_42 (by decide) (fun hc => ?_) (fun hc => ?_)
        · have h := h.2 hc
          refine lv_iload_n hx hb d_M_read_58 rfl (lv_at hl 0 rfl) ?_
          refine lv_bipush (v := 99) hx hb d_M_read_59 (by decide) ?_
          refine lv_icmp_eq (tgt := 70) hx hb d_M_read_61 (by decide) (fun hc => ?_) (fun hc => ?_)
          · have h := h.1 hc
            exact j70 _ _ _ _ _ _ _ _ _ _ _ _ h hw (lv_sub hl [1, 2, 0] rfl)
          · have h := h.2 hc
            refine lv_iload_n hx hb d_M_read_64 rfl (lv_at hl 0 rfl) ?_
            refine lv_bipush (v := 61) hx hb d_M_read_65 (by decide) ?_
            refine lv_icmp_ne (tgt := 79) hx hb d_M_read_67 (by decide) (fun hc => ?_) (fun hc => ?_)
            · have h := h.2 hc
              exact j79 _ _ _ _ _ _ _ _ _ _ _ h hw (lv_sub hl [1, 2] rfl)
            · have h := h.1 hc
              exact j70 _ _ _ _ _ _ _ _ _ _ _ _ h hw (lv_sub hl [1, 2, 0] rfl)
        · have h := h.1 hc
          refine lv_aload_n hx hb d_M_read_45 rfl (lv_at hl 1 rfl) ?_
          refine lv_dup hx hb d_M_read_46 rfl ?_
          refine va_get (D := D) (ci := 5) (v := .int M_place_22) (C := R_M) (T := T_M) (N := 18) hx hb hts (fun w h => List.mem_cons_of_mem _ (iw_M w h)) hown hK.1 hw.1 0 rfl rfl 14 (by decide) (hg gm_581) (fun _ h9 => h9) rfl d_M_read_47 ?_
          refine lv_iconst (v := 1) hx hb d_M_read_50 (by decide) ?_
          refine lv_iadd hx hb d_M_read_51 ?_
          refine m_put (ws' := [(k_M cA ad M_thrown M_gates M_lines M_conflict M_moved M_tapeSize (M_place_22 + 1) M_found), (k_M_equals cA ad M_equals), (k_M_counts cA ad M_counts), (k_M_literals cA ad M_literals), (k_M_tape cA ad M_tape)]) (ci := 5) (v := .int (M_place_22 + 1)) (ty := .int) (C := R_M) (T := T_M) (N := 18) hx hb hts (fun w h => List.mem_cons_of_mem _ (iw_M w h)) ty_M tyok_M nm_M hown hK.1 hw 0 rfl rfl 14 (by decide) (hg gm_581) (fun _ h9 => h9) rfl (by decide +kernel) rfl rfl (Nat.le_of_ble_eq_true rfl) rfl d_M_read_52 (fun H locs hw => ?_)
          refine lv_goto (tgt := 148) hx hb d_M_read_55 (by decide) ?_
          exact j148 _ _ _ _ _ _ _ _ _ _ _ _ h hw (lv_sub hl [1, 2, 3] rfl)
  unfold wp_M_read at h
  have h := h C17 hc17
  refine lv_aload_n hx hb d_M_read_0 rfl (lv_at hl 0 rfl) ?_
  refine lv_iconst (v := 0) hx hb d_M_read_1 (by decide) ?_
  refine m_put (ws' := [(k_M cA ad 0 M_gates M_lines M_conflict M_moved M_tapeSize M_place M_found), (k_M_equals cA ad M_equals), (k_M_counts cA ad M_counts), (k_M_literals cA ad M_literals), (k_M_tape cA ad M_tape)]) (ci := 5) (v := .int 0) (ty := .int) (C := R_M) (T := T_M) (N := 18) hx hb hts (fun w h => List.mem_cons_of_mem _ (iw_M w h)) ty_M tyok_M nm_M hown hK.1 hw 0 rfl rfl 0 (by decide) (hg gm_567) (fun _ h9 => h9) rfl (by decide +kernel) rfl rfl (Nat.le_of_ble_eq_true rfl) rfl d_M_read_2 (fun H locs hw => ?_)
  refine lv_aload_n hx hb d_M_read_5 rfl (lv_at hl 0 rfl) ?_
  refine va_get (D := D) (ci := 5) (v := .int M_lines) (C := R_M) (T := T_M) (N := 18) hx hb hts (fun w h => List.mem_cons_of_mem _ (iw_M w h)) hown hK.1 hw.1 0 rfl rfl 8 (by decide) (hg gm_575) (fun _ h9 => h9) rfl d_M_read_6 ?_
  refine lv_istore_n (lv' := [(1, .int M_lines), (0, .ref (ad 15))]) hx hb d_M_read_9 rfl hl (by decide) rfl (fun ls hl => ?_)
  refine lv_aload_n hx hb d_M_read_10 rfl (lv_at hl 1 rfl) ?_
  refine lv_iconst (v := 0) hx hb d_M_read_11 (by decide) ?_
  refine m_put (ws' := [(k_M cA ad 0 M_gates M_lines M_conflict M_moved M_tapeSize 0 M_found), (k_M_equals cA ad M_equals), (k_M_counts cA ad M_counts), (k_M_literals cA ad M_literals), (k_M_tape cA ad M_tape)]) (ci := 5) (v := .int 0) (ty := .int) (C := R_M) (T := T_M) (N := 18) hx hb hts (fun w h => List.mem_cons_of_mem _ (iw_M w h)) ty_M tyok_M nm_M hown hK.1 hw 0 rfl rfl 14 (by decide) (hg gm_581) (fun _ h9 => h9) rfl (by decide +kernel) rfl rfl (Nat.le_of_ble_eq_true rfl) rfl d_M_read_12 (fun H locs hw => ?_)
  refine lv_iconst (v := (-1)) hx hb d_M_read_15 (by decide) ?_
  refine lv_istore_n (lv' := [(2, .int (-1)), (1, .int M_lines), (0, .ref (ad 15))]) hx hb d_M_read_16 rfl hl (by decide) rfl (fun ls hl => ?_)
  exact (hC17 _ _ _ _ _ _ _ _ _).1 h _ _ _ hw (lv_sub hl [2, 1, 0] rfl)
