/-! Methods that only read: the heap is the same behind them. -/
def mQr (post : Int32 → Prop) : Array Value → State → Outcome → State → Prop := fun _ st oc t => ∃ r : Int32, oc = .returned (some (.int r)) ∧ post r ∧ t.heap = st.heap
theorem m_callr {p : Program} {l : Launch} {e : Env} {R : Room} {s : State} {m : MethodId} {args : Array Value} {below : List Frame} {meth : Method} {c : Code} {H : Heap} {locs : List Loc} {cells slots : Nat} {Q : State → Prop} {pc : Nat} {ls : Array Slot} {rest st0 : List Value} {post : Int32 → Prop} {a : Array Value} (hr : va_Run p l e R s m args below meth c H locs cells slots 0 0 (F0 m pc ls st0) rest (mQr post a) (fun _ => False)) (kk : ∀ r : Int32, post r → W p l e R s m args below meth c H locs cells slots Q (F0 m (pc + 3) ls (.int r :: rest))) : W p l e R s m args below meth c H locs cells slots Q (F0 m pc ls st0) := by
  intro T hT X
  obtain ⟨v, st₀, t, T', L, h0, X', hL, e1, -, ⟨r, hv, hp, hh⟩, hg⟩ := hr T hT X
  have hLn : L = [] := by
    cases L with
    | nil => rfl
    | cons q qs => exact (hL q List.mem_cons_self).elim
  subst hLn
  cases hv
  rw [List.append_nil] at X'
  obtain ⟨t2, a1, b1⟩ := kk r hp T' (e1.trans (hh.trans h0)) X'
  exact ⟨t2, hg t2 a1, b1⟩
theorem m_methRI {l : Launch} {y : MethodName} {ws ws' : List Cond} {rm : Room} {cc : ByteArray} {nL : Nat} {D : va_G} {cA : Nat → ClassId} {av : List Value} {w0 : va_W} {sz : Nat} {post : Int32 → Prop} (hy : plainName y.cls = true) (hws : ws = Cond.code y cc nL (some .int) :: ws') (hfit : (lg_sl av).length ≤ nL)
    (body : mBody l y ws rm cc nL D cA av w0 (fun p e s m below meth c A Q => ∀ (r : Int32) (pc : Nat) (ls : Array Slot), post r → decode cc pc = .ok (.ireturn, 1) → W p l e rm s m av.toArray below meth c s.heap [] 0 0 Q (F0 m pc ls [.int r]))) :
    Met l y ws rm (mPc D cA av w0 sz) (mQr post) 0 0 (fun _ => False) := by
  refine Met.ofW (cc := cc) (maxL := nL) (ret := some .int) hy hws ?_
  intro p e s m args below meth c s₁ B hml hv
  obtain ⟨rfl, hsz, hP, hK, hD0⟩ := hv
  have hx := B.exec
  have hb := B.bytes
  have hr := B.returns
  have hts := atoms_spec (ws := ws) B.pre
  have hown : s.vm.findClass y.cls = some m.cls := findClass_of_methodNamed B.named
  have hlocks := B.notSynchronized
  subst hsz
  have hD := hD0.self (sz := s.heap.size)
  rw [lg_entry_eq]
  exact body p e s m below meth c (va_A w0 s.heap.size) _ _ hx hb hml hown hts hK (fun q h => Or.inr h) ⟨hP, hD, va_S.rf⟩ (lv_entry av hfit)
    (fun r pc ls hp hd => W.iret hx hb hr (fun t ht _ => ⟨r, rfl, hp, ht⟩) (fun q hq => nomatch hq) hd)
theorem m_methRZ {l : Launch} {y : MethodName} {ws ws' : List Cond} {rm : Room} {cc : ByteArray} {nL : Nat} {D : va_G} {cA : Nat → ClassId} {av : List Value} {w0 : va_W} {sz : Nat} {post : Int32 → Prop} (hy : plainName y.cls = true) (hws : ws = Cond.code y cc nL (some .boolean) :: ws') (hfit : (lg_sl av).length ≤ nL)
    (body : mBody l y ws rm cc nL D cA av w0 (fun p e s m below meth c A Q => ∀ (r : Int32) (pc : Nat) (ls : Array Slot), post r → narrow .boolean (.int r) = .int r → decode cc pc = .ok (.ireturn, 1) → W p l e rm s m av.toArray below meth c s.heap [] 0 0 Q (F0 m pc ls [.int r]))) :
    Met l y ws rm (mPc D cA av w0 sz) (mQr post) 0 0 (fun _ => False) := by
  refine Met.ofW (cc := cc) (maxL := nL) (ret := some .boolean) hy hws ?_
  intro p e s m args below meth c s₁ B hml hv
  obtain ⟨rfl, hsz, hP, hK, hD0⟩ := hv
  have hx := B.exec
  have hb := B.bytes
  have hr := B.returns
  have hts := atoms_spec (ws := ws) B.pre
  have hown : s.vm.findClass y.cls = some m.cls := findClass_of_methodNamed B.named
  have hlocks := B.notSynchronized
  subst hsz
  have hD := hD0.self (sz := s.heap.size)
  rw [lg_entry_eq]
  exact body p e s m below meth c (va_A w0 s.heap.size) _ _ hx hb hml hown hts hK (fun q h => Or.inr h) ⟨hP, hD, va_S.rf⟩ (lv_entry av hfit)
    (fun r pc ls hp hn hd => W.zret hx hb hr hn (fun t ht _ => ⟨r, rfl, hp, ht⟩) (fun q hq => nomatch hq) hd)
def rr_G_has : Room := { frames := 0, cells := 0, slots := 0, locals := 0 }
set_option maxHeartbeats 4000000 in
set_option maxRecDepth 100000 in
theorem r_G_has (l : Launch) (D : va_G) (cA : Nat → ClassId) (ad : Nat → Nat) (sz : Nat) (G_size : Int32) (G_inputs : Int32) (p1 : Int32) (post : Int32 → Prop) (h : wp_G_has G_size p1 post) : Met l y_G_has w_G_has rr_G_has (mPc D cA [.ref (ad 1), .int p1] [(k_G cA ad G_size G_inputs)] sz) (mQr post) 0 0 (fun _ => False) := by
  refine m_methRZ (by decide) rfl (Nat.le_of_ble_eq_true rfl) ?_
  intro p e s m below meth c A Q ls hx hb hml hown hts hK hA hw hl hE
  have hl : lv_has ls 2 [(0, .ref (ad 1)), (1, .int p1)] := hl
  have hown : s.vm.findClass R_G = some m.cls := hown
  have hg : ∀ {w : Cond}, w ∈ gw → w.before _ s = true := fun h => hts _ (List.mem_cons_of_mem _ h)
  unfold wp_G_has at h
  refine lv_iload_n hx hb d_G_has_0 rfl (lv_at hl 1 rfl) ?_
  refine lv_if_lt (tgt := 16) hx hb d_G_has_1 (by decide) (fun hc => ?_) (fun hc => ?_)
  · have h := h.1 hc
    refine lv_iconst (v := 0) hx hb d_G_has_16 (by decide) ?_
    exact hE 0 _ _ h rfl d_G_has_17
  · have h := h.2 hc
    refine lv_iload_n hx hb d_G_has_4 rfl (lv_at hl 1 rfl) ?_
    refine lv_aload_n hx hb d_G_has_5 rfl (lv_at hl 0 rfl) ?_
    refine va_get (D := D) (ci := 1) (v := .int G_size) (C := R_G) (T := T_G) (N := 6) hx hb hts (fun w h => List.mem_cons_of_mem _ (iw_G w h)) hown hK.1 hw.1 0 rfl rfl 4 (by decide) (hg gm_38) (fun _ h9 => h9) rfl d_G_has_6 ?_
    refine lv_icmp_ge (tgt := 16) hx hb d_G_has_9 (by decide) (fun hc => ?_) (fun hc => ?_)
    · have h := h.1 hc
      refine lv_iconst (v := 0) hx hb d_G_has_16 (by decide) ?_
      exact hE 0 _ _ h rfl d_G_has_17
    · have h := h.2 hc
      refine lv_iconst (v := 1) hx hb d_G_has_12 (by decide) ?_
      refine lv_goto (tgt := 17) hx hb d_G_has_13 (by decide) ?_
      exact hE 1 _ _ h rfl d_G_has_17
def rr_G_hasLiteral : Room := { frames := 1, cells := 0, slots := 0, locals := 21 }
set_option maxHeartbeats 4000000 in
set_option maxRecDepth 100000 in
theorem r_G_hasLiteral (l : Launch) (D : va_G) (cA : Nat → ClassId) (ad : Nat → Nat) (sz : Nat) (G_size : Int32) (G_inputs : Int32) (p1 : Int32) (post : Int32 → Prop) (h : wp_G_hasLiteral G_size p1 post) : Met l y_G_hasLiteral w_G_hasLiteral rr_G_hasLiteral (mPc D cA [.ref (ad 1), .int p1] [(k_G cA ad G_size G_inputs)] sz) (mQr post) 0 0 (fun _ => False) := by
  refine m_methRZ (by decide) rfl (Nat.le_of_ble_eq_true rfl) ?_
  intro p e s m below meth c A Q ls hx hb hml hown hts hK hA hw hl hE
  have hl : lv_has ls 2 [(0, .ref (ad 1)), (1, .int p1)] := hl
  have hown : s.vm.findClass R_G = some m.cls := hown
  have hg : ∀ {w : Cond}, w ∈ gw → w.before _ s = true := fun h => hts _ (List.mem_cons_of_mem _ h)
  unfold wp_G_hasLiteral at h
  refine lv_iload_n hx hb d_G_hasLiteral_0 rfl (lv_at hl 1 rfl) ?_
  refine lv_if_lt (tgt := 18) hx hb d_G_hasLiteral_1 (by decide) (fun hc => ?_) (fun hc => ?_)
  · have h := h.1 hc
    refine lv_iconst (v := 0) hx hb d_G_hasLiteral_18 (by decide) ?_
    exact hE 0 _ _ h rfl d_G_hasLiteral_19
  · have h := h.2 hc
    refine lv_aload_n hx hb d_G_hasLiteral_4 rfl (lv_at hl 0 rfl) ?_
    refine lv_iload_n hx hb d_G_hasLiteral_5 rfl (lv_at hl 1 rfl) ?_
    refine lv_iconst (v := 1) hx hb d_G_hasLiteral_6 (by decide) ?_
    refine lv_ishr hx hb d_G_hasLiteral_7 ?_
    refine m_callr (hr := va_runV (As := [.int (p1 >>> ((1 : Int32) &&& 31))]) (rest := []) ⟨hx, hb, hml, hown, hts⟩ (r_G_has l D cA ad _ G_size G_inputs (p1 >>> ((1 : Int32) &&& 31)) _ h) (cwV 1 hts (ginV gm_262 gm_226 gs_14 gm_2 gm_227) rfl rfl rfl (by decide +kernel) ⟨Nat.le_of_ble_eq_true rfl, Nat.le_of_ble_eq_true rfl⟩) (m_preV 1 0 rfl rfl hK hw [0] rfl rfl) rfl rfl hl.1 rfl (lv_room (Nat.le_of_ble_eq_true rfl)) d_G_hasLiteral_8 ⟨Nat.zero_le _, Nat.zero_le _⟩) (fun r8 h => ?_)
    refine lv_if_eq (tgt := 18) hx hb d_G_hasLiteral_11 (by decide) (fun hc => ?_) (fun hc => ?_)
    · have h := h.1 hc
      refine lv_iconst (v := 0) hx hb d_G_hasLiteral_18 (by decide) ?_
      exact hE 0 _ _ h rfl d_G_hasLiteral_19
    · have h := h.2 hc
      refine lv_iconst (v := 1) hx hb d_G_hasLiteral_14 (by decide) ?_
      refine lv_goto (tgt := 19) hx hb d_G_hasLiteral_15 (by decide) ?_
      exact hE 1 _ _ h rfl d_G_hasLiteral_19
def rr_F_isFull : Room := { frames := 0, cells := 0, slots := 0, locals := 0 }
set_option maxHeartbeats 4000000 in
set_option maxRecDepth 100000 in
theorem r_F_isFull (l : Launch) (D : va_G) (cA : Nat → ClassId) (ad : Nat → Nat) (sz : Nat) (F_size : Int32) (post : Int32 → Prop) (h : wp_F_isFull F_size post) : Met l y_F_isFull w_F_isFull rr_F_isFull (mPc D cA [.ref (ad 6)] [(k_F cA ad F_size)] sz) (mQr post) 0 0 (fun _ => False) := by
  refine m_methRZ (by decide) rfl (Nat.le_of_ble_eq_true rfl) ?_
  intro p e s m below meth c A Q ls hx hb hml hown hts hK hA hw hl hE
  have hl : lv_has ls 1 [(0, .ref (ad 6))] := hl
  have hown : s.vm.findClass R_F = some m.cls := hown
  have hg : ∀ {w : Cond}, w ∈ gw → w.before _ s = true := fun h => hts _ (List.mem_cons_of_mem _ h)
  unfold wp_F_isFull at h
  refine lv_aload_n hx hb d_F_isFull_0 rfl (lv_at hl 0 rfl) ?_
  refine va_get (D := D) (ci := 2) (v := .int F_size) (C := R_F) (T := T_F) (N := 5) hx hb hts (fun w h => List.mem_cons_of_mem _ (iw_F w h)) hown hK.1 hw.1 0 rfl rfl 4 (by decide) (hg gm_77) (fun _ h9 => h9) rfl d_F_isFull_1 ?_
  refine lv_bipush (v := 24) hx hb d_F_isFull_4 (by decide) ?_
  refine lv_icmp_lt (tgt := 13) hx hb d_F_isFull_6 (by decide) (fun hc => ?_) (fun hc => ?_)
  · have h := h.1 hc
    refine lv_iconst (v := 0) hx hb d_F_isFull_13 (by decide) ?_
    exact hE 0 _ _ h rfl d_F_isFull_14
  · have h := h.2 hc
    refine lv_iconst (v := 1) hx hb d_F_isFull_9 (by decide) ?_
    refine lv_goto (tgt := 14) hx hb d_F_isFull_10 (by decide) ?_
    exact hE 1 _ _ h rfl d_F_isFull_14
def rr_F_has : Room := { frames := 0, cells := 0, slots := 0, locals := 0 }
set_option maxHeartbeats 4000000 in
set_option maxRecDepth 100000 in
theorem r_F_has (l : Launch) (D : va_G) (cA : Nat → ClassId) (ad : Nat → Nat) (sz : Nat) (F_size : Int32) (p1 : Int32) (post : Int32 → Prop) (h : wp_F_has F_size p1 post) : Met l y_F_has w_F_has rr_F_has (mPc D cA [.ref (ad 6), .int p1] [(k_F cA ad F_size)] sz) (mQr post) 0 0 (fun _ => False) := by
  refine m_methRZ (by decide) rfl (Nat.le_of_ble_eq_true rfl) ?_
  intro p e s m below meth c A Q ls hx hb hml hown hts hK hA hw hl hE
  have hl : lv_has ls 2 [(0, .ref (ad 6)), (1, .int p1)] := hl
  have hown : s.vm.findClass R_F = some m.cls := hown
  have hg : ∀ {w : Cond}, w ∈ gw → w.before _ s = true := fun h => hts _ (List.mem_cons_of_mem _ h)
  unfold wp_F_has at h
  refine lv_iload_n hx hb d_F_has_0 rfl (lv_at hl 1 rfl) ?_
  refine lv_if_lt (tgt := 16) hx hb d_F_has_1 (by decide) (fun hc => ?_) (fun hc => ?_)
  · have h := h.1 hc
    refine lv_iconst (v := 0) hx hb d_F_has_16 (by decide) ?_
    exact hE 0 _ _ h rfl d_F_has_17
  · have h := h.2 hc
    refine lv_iload_n hx hb d_F_has_4 rfl (lv_at hl 1 rfl) ?_
    refine lv_aload_n hx hb d_F_has_5 rfl (lv_at hl 0 rfl) ?_
    refine va_get (D := D) (ci := 2) (v := .int F_size) (C := R_F) (T := T_F) (N := 5) hx hb hts (fun w h => List.mem_cons_of_mem _ (iw_F w h)) hown hK.1 hw.1 0 rfl rfl 4 (by decide) (hg gm_77) (fun _ h9 => h9) rfl d_F_has_6 ?_
    refine lv_icmp_ge (tgt := 16) hx hb d_F_has_9 (by decide) (fun hc => ?_) (fun hc => ?_)
    · have h := h.1 hc
      refine lv_iconst (v := 0) hx hb d_F_has_16 (by decide) ?_
      exact hE 0 _ _ h rfl d_F_has_17
    · have h := h.2 hc
      refine lv_iconst (v := 1) hx hb d_F_has_12 (by decide) ?_
      refine lv_goto (tgt := 17) hx hb d_F_has_13 (by decide) ?_
      exact hE 1 _ _ h rfl d_F_has_17
def rr_F_literalOf : Room := { frames := 0, cells := 0, slots := 0, locals := 0 }
set_option maxHeartbeats 4000000 in
set_option maxRecDepth 100000 in
theorem r_F_literalOf (l : Launch) (D : va_G) (cA : Nat → ClassId) (ad : Nat → Nat) (sz : Nat) (F_size : Int32) (F_literals : (Nat → Int32)) (p1 : Int32) (p2 : Int32) (post : Int32 → Prop) (h : wp_F_literalOf F_literals p1 p2 post) : Met l y_F_literalOf w_F_literalOf rr_F_literalOf (mPc D cA [.ref (ad 6), .int p1, .int p2] [(k_F cA ad F_size), (k_F_literals cA ad F_literals)] sz) (mQr post) 0 0 (fun _ => False) := by
  refine m_methRI (by decide) rfl (Nat.le_of_ble_eq_true rfl) ?_
  intro p e s m below meth c A Q ls hx hb hml hown hts hK hA hw hl hE
  have hl : lv_has ls 3 [(0, .ref (ad 6)), (1, .int p1), (2, .int p2)] := hl
  have hown : s.vm.findClass R_F = some m.cls := hown
  have hg : ∀ {w : Cond}, w ∈ gw → w.before _ s = true := fun h => hts _ (List.mem_cons_of_mem _ h)
  unfold wp_F_literalOf at h
  refine lv_aload_n hx hb d_F_literalOf_0 rfl (lv_at hl 0 rfl) ?_
  refine va_get (D := D) (ci := 2) (v := .ref (ad 9)) (C := R_F) (T := T_F) (N := 5) hx hb hts (fun w h => List.mem_cons_of_mem _ (iw_F w h)) hown hK.1 hw.1 0 rfl rfl 2 (by decide) (hg gm_73) (fun _ h9 => h9) rfl d_F_literalOf_1 ?_
  refine lv_iload_n hx hb d_F_literalOf_4 rfl (lv_at hl 1 rfl) ?_
  refine lv_bipush (v := 6) hx hb d_F_literalOf_5 (by decide) ?_
  refine lv_imul hx hb d_F_literalOf_7 ?_
  refine lv_iload_n hx hb d_F_literalOf_8 rfl (lv_at hl 2 rfl) ?_
  refine lv_iadd hx hb d_F_literalOf_9 ?_
  refine va_iald hx hb hK.1 hw.1 1 0 rfl rfl h.1 d_F_literalOf_10 ?_
  have h := h.2
  exact hE (F_literals ((p1 * 6) + p2).toNatClampNeg) _ _ h d_F_literalOf_11
def rr_F_contains : Room := { frames := 1, cells := 0, slots := 0, locals := 22 }
set_option maxHeartbeats 4000000 in
set_option maxRecDepth 100000 in
theorem r_F_contains (l : Launch) (D : va_G) (cA : Nat → ClassId) (ad : Nat → Nat) (sz : Nat) (F_size : Int32) (F_sizes : (Nat → Int32)) (F_literals : (Nat → Int32)) (p1 : Int32) (p2 : Int32) (post : Int32 → Prop) (h : wp_F_contains F_sizes F_literals p1 p2 post) : Met l y_F_contains w_F_contains rr_F_contains (mPc D cA [.ref (ad 6), .int p1, .int p2] [(k_F cA ad F_size), (k_F_sizes cA ad F_sizes), (k_F_literals cA ad F_literals)] sz) (mQr post) 0 0 (fun _ => False) := by
  refine m_methRZ (by decide) rfl (Nat.le_of_ble_eq_true rfl) ?_
  intro p e s m below meth c A Q ls hx hb hml hown hts hK hA hw hl hE
  have hl : lv_has ls 4 [(0, .ref (ad 6)), (1, .int p1), (2, .int p2)] := hl
  have hown : s.vm.findClass R_F = some m.cls := hown
  have hg : ∀ {w : Cond}, w ∈ gw → w.before _ s = true := fun h => hts _ (List.mem_cons_of_mem _ h)
  obtain ⟨C2, hC2⟩ : ∃ C : Int32 → Prop, ∀ (x3 : Int32), C x3 ↔ (∀ (ls : Array Slot), lv_has ls 4 [(0, .ref (ad 6)), (1, .int p1), (2, .int p2), (3, .int x3)] → W p l e rr_F_contains s m [.ref (ad 6), .int p1, .int p2].toArray below meth c s.heap [] 0 0 Q (F0 m 2 ls [])) := ⟨_, fun _ => Iff.rfl⟩
  have hc2 : ∀ (x3 : Int32), s_F_contains_2 F_sizes F_literals p1 p2 C2 post x3 → C2 x3 := by
    intro x3 h
    unfold s_F_contains_2 at h
    refine (hC2 _).2 ?_
    intro ls hl
    refine lv_iload_n hx hb d_F_contains_2 rfl (lv_at hl 3 rfl) ?_
    refine lv_aload_n hx hb d_F_contains_3 rfl (lv_at hl 0 rfl) ?_
    refine va_get (D := D) (ci := 2) (v := .ref (ad 8)) (C := R_F) (T := T_F) (N := 5) hx hb hts (fun w h => List.mem_cons_of_mem _ (iw_F w h)) hown hK.1 hw.1 0 rfl rfl 1 (by decide) (hg gm_69) (fun _ h9 => h9) rfl d_F_contains_4 ?_
    refine lv_iload_n hx hb d_F_contains_7 rfl (lv_at hl 1 rfl) ?_
    refine va_iald hx hb hK.1 hw.1 1 0 rfl rfl h.1 d_F_contains_8 ?_
    have h := h.2
    refine lv_icmp_ge (tgt := 30) hx hb d_F_contains_9 (by decide) (fun hc => ?_) (fun hc => ?_)
    · have h := h.1 hc
      refine lv_iconst (v := 0) hx hb d_F_contains_30 (by decide) ?_
      exact hE 0 _ _ h rfl d_F_contains_31
    · have h := h.2 hc
      refine lv_aload_n hx hb d_F_contains_12 rfl (lv_at hl 0 rfl) ?_
      refine lv_iload_n hx hb d_F_contains_13 rfl (lv_at hl 1 rfl) ?_
      refine lv_iload_n hx hb d_F_contains_14 rfl (lv_at hl 3 rfl) ?_
      refine m_callr (hr := va_runV (As := [.int p1, .int x3]) (rest := []) ⟨hx, hb, hml, hown, hts⟩ (r_F_literalOf l D cA ad _ F_size F_literals p1 x3 _ h) (cwV 2 hts (ginV gm_232 gm_234 gs_16 gm_3 gm_235) rfl rfl rfl (by decide +kernel) ⟨Nat.le_of_ble_eq_true rfl, Nat.le_of_ble_eq_true rfl⟩) (m_preV 2 0 rfl rfl hK hw [0, 2] rfl rfl) rfl rfl hl.1 rfl (lv_room (Nat.le_of_ble_eq_true rfl)) d_F_contains_15 ⟨Nat.zero_le _, Nat.zero_le _⟩) (fun r15 h => ?_)
      refine lv_iload_n hx hb d_F_contains_18 rfl (lv_at hl 2 rfl) ?_
      refine lv_icmp_ne (tgt := 24) hx hb d_F_contains_19 (by decide) (fun hc => ?_) (fun hc => ?_)
      · have h := h.2 hc
        refine lv_iinc (v := (x3 + 1)) (lv' := [(3, .int (x3 + 1)), (0, .ref (ad 6)), (1, .int p1), (2, .int p2)]) hx hb d_F_contains_24 hl (k := 3) rfl rfl (by decide) rfl (fun ls hl => ?_)
        refine lv_goto (tgt := 2) hx hb d_F_contains_27 (by decide) ?_
        exact (hC2 _).1 h _ (lv_sub hl [1, 2, 3, 0] rfl)
      · have h := h.1 hc
        refine lv_iconst (v := 1) hx hb d_F_contains_22 (by decide) ?_
        exact hE 1 _ _ h rfl d_F_contains_23
  unfold wp_F_contains at h
  have h := h C2 hc2
  refine lv_iconst (v := 0) hx hb d_F_contains_0 (by decide) ?_
  refine lv_istore_n (lv' := [(3, .int 0), (0, .ref (ad 6)), (1, .int p1), (2, .int p2)]) hx hb d_F_contains_1 rfl hl (by decide) rfl (fun ls hl => ?_)
  exact (hC2 _).1 h _ (lv_sub hl [1, 2, 3, 0] rfl)
def rr_F_isLineFull : Room := { frames := 0, cells := 0, slots := 0, locals := 0 }
set_option maxHeartbeats 4000000 in
set_option maxRecDepth 100000 in
theorem r_F_isLineFull (l : Launch) (D : va_G) (cA : Nat → ClassId) (ad : Nat → Nat) (sz : Nat) (F_size : Int32) (F_kinds : (Nat → Int32)) (F_sizes : (Nat → Int32)) (p1 : Int32) (post : Int32 → Prop) (h : wp_F_isLineFull F_kinds F_sizes p1 post) : Met l y_F_isLineFull w_F_isLineFull rr_F_isLineFull (mPc D cA [.ref (ad 6), .int p1] [(k_F cA ad F_size), (k_F_kinds cA ad F_kinds), (k_F_sizes cA ad F_sizes)] sz) (mQr post) 0 0 (fun _ => False) := by
  refine m_methRZ (by decide) rfl (Nat.le_of_ble_eq_true rfl) ?_
  intro p e s m below meth c A Q ls hx hb hml hown hts hK hA hw hl hE
  have hl : lv_has ls 2 [(0, .ref (ad 6)), (1, .int p1)] := hl
  have hown : s.vm.findClass R_F = some m.cls := hown
  have hg : ∀ {w : Cond}, w ∈ gw → w.before _ s = true := fun h => hts _ (List.mem_cons_of_mem _ h)
  have j22 : ∀ (s0 : Int32) (s1 : Int32) (ls : Array Slot), s_F_isLineFull_22 F_kinds F_sizes p1 post s0 s1 → lv_has ls 2 [] → W p l e rr_F_isLineFull s m [.ref (ad 6), .int p1].toArray below meth c s.heap [] 0 0 Q (F0 m 22 ls [.int s0, .int s1]) := by
    intro s0 s1 ls h hl
    unfold s_F_isLineFull_22 at h
    refine lv_icmp_lt (tgt := 29) hx hb d_F_isLineFull_22 (by decide) (fun hc => ?_) (fun hc => ?_)
    · have h := h.1 hc
      refine lv_iconst (v := 0) hx hb d_F_isLineFull_29 (by decide) ?_
      exact hE 0 _ _ h rfl d_F_isLineFull_30
    · have h := h.2 hc
      refine lv_iconst (v := 1) hx hb d_F_isLineFull_25 (by decide) ?_
      refine lv_goto (tgt := 30) hx hb d_F_isLineFull_26 (by decide) ?_
      exact hE 1 _ _ h rfl d_F_isLineFull_30
  unfold wp_F_isLineFull at h
  refine lv_aload_n hx hb d_F_isLineFull_0 rfl (lv_at hl 0 rfl) ?_
  refine va_get (D := D) (ci := 2) (v := .ref (ad 8)) (C := R_F) (T := T_F) (N := 5) hx hb hts (fun w h => List.mem_cons_of_mem _ (iw_F w h)) hown hK.1 hw.1 0 rfl rfl 1 (by decide) (hg gm_69) (fun _ h9 => h9) rfl d_F_isLineFull_1 ?_
  refine lv_iload_n hx hb d_F_isLineFull_4 rfl (lv_at hl 1 rfl) ?_
  refine va_iald hx hb hK.1 hw.1 2 0 rfl rfl h.1 d_F_isLineFull_5 ?_
  have h := h.2
  refine lv_aload_n hx hb d_F_isLineFull_6 rfl (lv_at hl 0 rfl) ?_
  refine va_get (D := D) (ci := 2) (v := .ref (ad 7)) (C := R_F) (T := T_F) (N := 5) hx hb hts (fun w h => List.mem_cons_of_mem _ (iw_F w h)) hown hK.1 hw.1 0 rfl rfl 0 (by decide) (hg gm_64) (fun _ h9 => h9) rfl d_F_isLineFull_7 ?_
  refine lv_iload_n hx hb d_F_isLineFull_10 rfl (lv_at hl 1 rfl) ?_
  refine va_iald hx hb hK.1 hw.1 1 0 rfl rfl h.1 d_F_isLineFull_11 ?_
  have h := h.2
  refine lv_iconst (v := 1) hx hb d_F_isLineFull_12 (by decide) ?_
  refine lv_icmp_ne (tgt := 20) hx hb d_F_isLineFull_13 (by decide) (fun hc => ?_) (fun hc => ?_)
  · have h := h.2 hc
    refine lv_bipush (v := 6) hx hb d_F_isLineFull_20 (by decide) ?_
    exact j22 _ _ _ h (lv_sub hl [] rfl)
  · have h := h.1 hc
    refine lv_iconst (v := 2) hx hb d_F_isLineFull_16 (by decide) ?_
    refine lv_goto (tgt := 22) hx hb d_F_isLineFull_17 (by decide) ?_
    exact j22 _ _ _ h (lv_sub hl [] rfl)
def rr_P_isNoneOrLiteral : Room := { frames := 2, cells := 0, slots := 0, locals := 42 }
set_option maxHeartbeats 4000000 in
set_option maxRecDepth 100000 in
theorem r_P_isNoneOrLiteral (l : Launch) (D : va_G) (cA : Nat → ClassId) (ad : Nat → Nat) (sz : Nat) (G_size : Int32) (G_inputs : Int32) (p1 : Int32) (post : Int32 → Prop) (h : wp_P_isNoneOrLiteral G_size p1 post) : Met l y_P_isNoneOrLiteral w_P_isNoneOrLiteral rr_P_isNoneOrLiteral (mPc D cA [.ref (ad 0), .int p1] [(k_P cA ad), (k_G cA ad G_size G_inputs)] sz) (mQr post) 0 0 (fun _ => False) := by
  refine m_methRZ (by decide) rfl (Nat.le_of_ble_eq_true rfl) ?_
  intro p e s m below meth c A Q ls hx hb hml hown hts hK hA hw hl hE
  have hl : lv_has ls 2 [(0, .ref (ad 0)), (1, .int p1)] := hl
  have hown : s.vm.findClass R_P = some m.cls := hown
  have hg : ∀ {w : Cond}, w ∈ gw → w.before _ s = true := fun h => hts _ (List.mem_cons_of_mem _ h)
  unfold wp_P_isNoneOrLiteral at h
  refine lv_iload_n hx hb d_P_isNoneOrLiteral_0 rfl (lv_at hl 1 rfl) ?_
  refine lv_iconst (v := (-1)) hx hb d_P_isNoneOrLiteral_1 (by decide) ?_
  refine lv_icmp_eq (tgt := 16) hx hb d_P_isNoneOrLiteral_2 (by decide) (fun hc => ?_) (fun hc => ?_)
  · have h := h.1 hc
    refine lv_iconst (v := 1) hx hb d_P_isNoneOrLiteral_16 (by decide) ?_
    refine lv_goto (tgt := 21) hx hb d_P_isNoneOrLiteral_17 (by decide) ?_
    exact hE 1 _ _ h rfl d_P_isNoneOrLiteral_21
  · have h := h.2 hc
    refine lv_aload_n hx hb d_P_isNoneOrLiteral_5 rfl (lv_at hl 0 rfl) ?_
    refine va_get (D := D) (ci := 0) (v := .ref (ad 1)) (C := R_P) (T := T_P) (N := 4) hx hb hts (fun w h => List.mem_cons_of_mem _ (iw_P w h)) hown hK.1 hw.1 0 rfl rfl 0 (by decide) (hg gm_141) (fun _ h9 => h9) rfl d_P_isNoneOrLiteral_6 ?_
    refine lv_iload_n hx hb d_P_isNoneOrLiteral_9 rfl (lv_at hl 1 rfl) ?_
    refine m_callr (hr := va_runVN (As := [.int p1]) (rest := []) ⟨hx, hb, hml, hown, hts⟩ (r_G_hasLiteral l D cA ad _ G_size G_inputs p1 _ h) ⟨va_cnB 1 hts (gin gm_261) rfl rfl rfl (hK.2 _ nw_258) (hg gm_2) (by decide +kernel) ⟨Nat.le_of_ble_eq_true rfl, Nat.le_of_ble_eq_true rfl⟩, hg gm_260, hg gs_19⟩ (m_preV 1 1 rfl rfl hK hw [1] rfl rfl) rfl rfl hl.1 rfl (lv_room (Nat.le_of_ble_eq_true rfl)) d_P_isNoneOrLiteral_10 ⟨Nat.zero_le _, Nat.zero_le _⟩) (fun r10 h => ?_)
    refine lv_if_eq (tgt := 20) hx hb d_P_isNoneOrLiteral_13 (by decide) (fun hc => ?_) (fun hc => ?_)
    · have h := h.1 hc
      refine lv_iconst (v := 0) hx hb d_P_isNoneOrLiteral_20 (by decide) ?_
      exact hE 0 _ _ h rfl d_P_isNoneOrLiteral_21
    · have h := h.2 hc
      refine lv_iconst (v := 1) hx hb d_P_isNoneOrLiteral_16 (by decide) ?_
      refine lv_goto (tgt := 21) hx hb d_P_isNoneOrLiteral_17 (by decide) ?_
      exact hE 1 _ _ h rfl d_P_isNoneOrLiteral_21
def rr_X_literalLength : Room := { frames := 0, cells := 0, slots := 0, locals := 0 }
set_option maxHeartbeats 4000000 in
set_option maxRecDepth 100000 in
theorem r_X_literalLength (l : Launch) (D : va_G) (cA : Nat → ClassId) (ad : Nat → Nat) (sz : Nat) (p0 : Int32) (post : Int32 → Prop) (h : wp_X_literalLength p0 post) : Met l y_X_literalLength w_X_literalLength rr_X_literalLength (mPc D cA [.int p0] [] sz) (mQr post) 0 0 (fun _ => False) := by
  refine m_methRI (by decide) rfl (Nat.le_of_ble_eq_true rfl) ?_
  intro p e s m below meth c A Q ls hx hb hml hown hts hK hA hw hl hE
  have hl : lv_has ls 1 [(0, .int p0)] := hl
  have hown : s.vm.findClass R_X = some m.cls := hown
  have hg : ∀ {w : Cond}, w ∈ gw → w.before _ s = true := fun h => hts _ (List.mem_cons_of_mem _ h)
  unfold wp_X_literalLength at h
  refine lv_iload_n hx hb d_X_literalLength_0 rfl (lv_at hl 0 rfl) ?_
  refine lv_iconst (v := 1) hx hb d_X_literalLength_1 (by decide) ?_
  refine lv_ishr hx hb d_X_literalLength_2 ?_
  refine lv_bipush (v := 10) hx hb d_X_literalLength_3 (by decide) ?_
  refine lv_icmp_ge (tgt := 12) hx hb d_X_literalLength_5 (by decide) (fun hc => ?_) (fun hc => ?_)
  · have h := h.1 hc
    refine lv_iconst (v := 4) hx hb d_X_literalLength_12 (by decide) ?_
    exact hE 4 _ _ h d_X_literalLength_13
  · have h := h.2 hc
    refine lv_iconst (v := 3) hx hb d_X_literalLength_8 (by decide) ?_
    refine lv_goto (tgt := 13) hx hb d_X_literalLength_9 (by decide) ?_
    exact hE 3 _ _ h d_X_literalLength_13
def rr_X_lineLength : Room := { frames := 1, cells := 0, slots := 0, locals := 22 }
set_option maxHeartbeats 4000000 in
set_option maxRecDepth 100000 in
theorem r_X_lineLength (l : Launch) (D : va_G) (cA : Nat → ClassId) (ad : Nat → Nat) (sz : Nat) (F_size : Int32) (F_sizes : (Nat → Int32)) (F_literals : (Nat → Int32)) (p1 : Int32) (post : Int32 → Prop) (h : wp_X_lineLength F_sizes F_literals p1 post) : Met l y_X_lineLength w_X_lineLength rr_X_lineLength (mPc D cA [.ref (ad 6), .int p1] [(k_F cA ad F_size), (k_F_sizes cA ad F_sizes), (k_F_literals cA ad F_literals)] sz) (mQr post) 0 0 (fun _ => False) := by
  refine m_methRI (by decide) rfl (Nat.le_of_ble_eq_true rfl) ?_
  intro p e s m below meth c A Q ls hx hb hml hown hts hK hA hw hl hE
  have hl : lv_has ls 4 [(0, .ref (ad 6)), (1, .int p1)] := hl
  have hown : s.vm.findClass R_X = some m.cls := hown
  have hg : ∀ {w : Cond}, w ∈ gw → w.before _ s = true := fun h => hts _ (List.mem_cons_of_mem _ h)
  obtain ⟨C4, hC4⟩ : ∃ C : Int32 → Int32 → Prop, ∀ (x2 : Int32) (x3 : Int32), C x2 x3 ↔ (∀ (ls : Array Slot), lv_has ls 4 [(0, .ref (ad 6)), (1, .int p1), (2, .int x2), (3, .int x3)] → W p l e rr_X_lineLength s m [.ref (ad 6), .int p1].toArray below meth c s.heap [] 0 0 Q (F0 m 4 ls [])) := ⟨_, fun _ _ => Iff.rfl⟩
  have hc4 : ∀ (x2 : Int32) (x3 : Int32), s_X_lineLength_4 F_sizes F_literals p1 C4 post x2 x3 → C4 x2 x3 := by
    intro x2 x3 h
    unfold s_X_lineLength_4 at h
    refine (hC4 _ _).2 ?_
    intro ls hl
    refine lv_iload_n hx hb d_X_lineLength_4 rfl (lv_at hl 3 rfl) ?_
    refine lv_aload_n hx hb d_X_lineLength_5 rfl (lv_at hl 0 rfl) ?_
    refine va_getN (D := D) (ci := 2) (v := .ref (ad 8)) (C := R_F) (T := T_F) (N := 5) hx hb hts (fun w h => List.mem_cons_of_mem _ (iw_F w h)) hown hK.1 hw.1 0 rfl rfl 1 (by decide) (va_Nw.use rfl (hK.2 _ nw_71)) (fun _ h9 => h9) rfl d_X_lineLength_6 ?_
    refine lv_iload_n hx hb d_X_lineLength_9 rfl (lv_at hl 1 rfl) ?_
    refine va_iald hx hb hK.1 hw.1 1 0 rfl rfl h.1 d_X_lineLength_10 ?_
    have h := h.2
    refine lv_icmp_ge (tgt := 32) hx hb d_X_lineLength_11 (by decide) (fun hc => ?_) (fun hc => ?_)
    · have h := h.1 hc
      refine lv_iload_n hx hb d_X_lineLength_32 rfl (lv_at hl 2 rfl) ?_
      exact hE x2 _ _ h d_X_lineLength_33
    · have h := h.2 hc
      refine lv_iload_n hx hb d_X_lineLength_14 rfl (lv_at hl 2 rfl) ?_
      refine lv_aload_n hx hb d_X_lineLength_15 rfl (lv_at hl 0 rfl) ?_
      refine lv_iload_n hx hb d_X_lineLength_16 rfl (lv_at hl 1 rfl) ?_
      refine lv_iload_n hx hb d_X_lineLength_17 rfl (lv_at hl 3 rfl) ?_
      refine m_callr (hr := va_runVN (As := [.int p1, .int x3]) (rest := [.int x2]) ⟨hx, hb, hml, hown, hts⟩ (r_F_literalOf l D cA ad _ F_size F_literals p1 x3 _ h) ⟨va_cnB 2 hts (gin gm_235) rfl rfl rfl (hK.2 _ nw_539) (hg gm_3) (by decide +kernel) ⟨Nat.le_of_ble_eq_true rfl, Nat.le_of_ble_eq_true rfl⟩, hg gm_234, hg gs_16⟩ (m_preV 2 0 rfl rfl hK hw [0, 2] rfl rfl) rfl rfl hl.1 rfl (lv_room (Nat.le_of_ble_eq_true rfl)) d_X_lineLength_18 ⟨Nat.zero_le _, Nat.zero_le _⟩) (fun r18 h => ?_)
      refine m_callr (hr := va_runS (As := [.int r18]) (rest := [.int x2]) ⟨hx, hb, hml, hown, hts⟩ (r_X_literalLength l D cA ad _ r18 _ h) (va_cwS 1 hts (ginS gm_540 gm_541 gm_15 gm_542) rfl rfl rfl (by decide +kernel) ⟨Nat.le_of_ble_eq_true rfl, Nat.le_of_ble_eq_true rfl⟩) (m_preS hK hw [] rfl rfl) rfl rfl hl.1 rfl (lv_room (Nat.le_of_ble_eq_true rfl)) d_X_lineLength_21 ⟨Nat.zero_le _, Nat.zero_le _⟩) (fun r21 h => ?_)
      refine lv_iadd hx hb d_X_lineLength_24 ?_
      refine lv_istore_n (lv' := [(2, .int (x2 + r21)), (0, .ref (ad 6)), (1, .int p1), (3, .int x3)]) hx hb d_X_lineLength_25 rfl hl (by decide) rfl (fun ls hl => ?_)
      refine lv_iinc (v := (x3 + 1)) (lv' := [(3, .int (x3 + 1)), (2, .int (x2 + r21)), (0, .ref (ad 6)), (1, .int p1)]) hx hb d_X_lineLength_26 hl (k := 3) rfl rfl (by decide) rfl (fun ls hl => ?_)
      refine lv_goto (tgt := 4) hx hb d_X_lineLength_29 (by decide) ?_
      exact (hC4 _ _).1 h _ (lv_sub hl [2, 3, 1, 0] rfl)
  unfold wp_X_lineLength at h
  have h := h C4 hc4
  refine lv_iconst (v := 2) hx hb d_X_lineLength_0 (by decide) ?_
  refine lv_istore_n (lv' := [(2, .int 2), (0, .ref (ad 6)), (1, .int p1)]) hx hb d_X_lineLength_1 rfl hl (by decide) rfl (fun ls hl => ?_)
  refine lv_iconst (v := 0) hx hb d_X_lineLength_2 (by decide) ?_
  refine lv_istore_n (lv' := [(3, .int 0), (2, .int 2), (0, .ref (ad 6)), (1, .int p1)]) hx hb d_X_lineLength_3 rfl hl (by decide) rfl (fun ls hl => ?_)
  exact (hC4 _ _).1 h _ (lv_sub hl [2, 3, 1, 0] rfl)
def rr_X_lengthOf : Room := { frames := 2, cells := 0, slots := 0, locals := 45 }
set_option maxHeartbeats 4000000 in
set_option maxRecDepth 100000 in
theorem r_X_lengthOf (l : Launch) (D : va_G) (cA : Nat → ClassId) (ad : Nat → Nat) (sz : Nat) (F_size : Int32) (F_sizes : (Nat → Int32)) (F_literals : (Nat → Int32)) (post : Int32 → Prop) (h : wp_X_lengthOf F_size F_sizes F_literals post) : Met l y_X_lengthOf w_X_lengthOf rr_X_lengthOf (mPc D cA [.ref (ad 6)] [(k_F cA ad F_size), (k_F_sizes cA ad F_sizes), (k_F_literals cA ad F_literals)] sz) (mQr post) 0 0 (fun _ => False) := by
  refine m_methRI (by decide) rfl (Nat.le_of_ble_eq_true rfl) ?_
  intro p e s m below meth c A Q ls hx hb hml hown hts hK hA hw hl hE
  have hl : lv_has ls 3 [(0, .ref (ad 6))] := hl
  have hown : s.vm.findClass R_X = some m.cls := hown
  have hg : ∀ {w : Cond}, w ∈ gw → w.before _ s = true := fun h => hts _ (List.mem_cons_of_mem _ h)
  obtain ⟨C4, hC4⟩ : ∃ C : Int32 → Int32 → Prop, ∀ (x1 : Int32) (x2 : Int32), C x1 x2 ↔ (∀ (ls : Array Slot), lv_has ls 3 [(0, .ref (ad 6)), (1, .int x1), (2, .int x2)] → W p l e rr_X_lengthOf s m [.ref (ad 6)].toArray below meth c s.heap [] 0 0 Q (F0 m 4 ls [])) := ⟨_, fun _ _ => Iff.rfl⟩
  have hc4 : ∀ (x1 : Int32) (x2 : Int32), s_X_lengthOf_4 F_size F_sizes F_literals C4 post x1 x2 → C4 x1 x2 := by
    intro x1 x2 h
    unfold s_X_lengthOf_4 at h
    refine (hC4 _ _).2 ?_
    intro ls hl
    refine lv_iload_n hx hb d_X_lengthOf_4 rfl (lv_at hl 2 rfl) ?_
    refine lv_aload_n hx hb d_X_lengthOf_5 rfl (lv_at hl 0 rfl) ?_
    refine va_getN (D := D) (ci := 2) (v := .int F_size) (C := R_F) (T := T_F) (N := 5) hx hb hts (fun w h => List.mem_cons_of_mem _ (iw_F w h)) hown hK.1 hw.1 0 rfl rfl 4 (by decide) (va_Nw.use rfl (hK.2 _ nw_78)) (fun _ h9 => h9) rfl d_X_lengthOf_6 ?_
    refine lv_icmp_ge (tgt := 26) hx hb d_X_lengthOf_9 (by decide) (fun hc => ?_) (fun hc => ?_)
    · have h := h.1 hc
      refine lv_iload_n hx hb d_X_lengthOf_26 rfl (lv_at hl 1 rfl) ?_
      exact hE x1 _ _ h d_X_lengthOf_27
    · have h := h.2 hc
      refine lv_iload_n hx hb d_X_lengthOf_12 rfl (lv_at hl 1 rfl) ?_
      refine lv_aload_n hx hb d_X_lengthOf_13 rfl (lv_at hl 0 rfl) ?_
      refine lv_iload_n hx hb d_X_lengthOf_14 rfl (lv_at hl 2 rfl) ?_
      refine m_callr (hr := va_runS (As := [.ref (ad 6), .int x2]) (rest := [.int x1]) ⟨hx, hb, hml, hown, hts⟩ (r_X_lineLength l D cA ad _ F_size F_sizes F_literals x2 _ h) (va_cwS 2 hts (ginS gm_536 gm_537 gm_15 gm_538) rfl rfl rfl (by decide +kernel) ⟨Nat.le_of_ble_eq_true rfl, Nat.le_of_ble_eq_true rfl⟩) (m_preS hK hw [0, 1, 2] rfl rfl) rfl rfl hl.1 rfl (lv_room (Nat.le_of_ble_eq_true rfl)) d_X_lengthOf_15 ⟨Nat.zero_le _, Nat.zero_le _⟩) (fun r15 h => ?_)
      refine lv_iadd hx hb d_X_lengthOf_18 ?_
      refine lv_istore_n (lv' := [(1, .int (x1 + r15)), (0, .ref (ad 6)), (2, .int x2)]) hx hb d_X_lengthOf_19 rfl hl (by decide) rfl (fun ls hl => ?_)
      refine lv_iinc (v := (x2 + 1)) (lv' := [(2, .int (x2 + 1)), (1, .int (x1 + r15)), (0, .ref (ad 6))]) hx hb d_X_lengthOf_20 hl (k := 2) rfl rfl (by decide) rfl (fun ls hl => ?_)
      refine lv_goto (tgt := 4) hx hb d_X_lengthOf_23 (by decide) ?_
      exact (hC4 _ _).1 h _ (lv_sub hl [2, 1, 0] rfl)
  unfold wp_X_lengthOf at h
  have h := h C4 hc4
  refine lv_iconst (v := 0) hx hb d_X_lengthOf_0 (by decide) ?_
  refine lv_istore_n (lv' := [(1, .int 0), (0, .ref (ad 6))]) hx hb d_X_lengthOf_1 rfl hl (by decide) rfl (fun ls hl => ?_)
  refine lv_iconst (v := 0) hx hb d_X_lengthOf_2 (by decide) ?_
  refine lv_istore_n (lv' := [(2, .int 0), (1, .int 0), (0, .ref (ad 6))]) hx hb d_X_lengthOf_3 rfl hl (by decide) rfl (fun ls hl => ?_)
  exact (hC4 _ _).1 h _ (lv_sub hl [2, 1, 0] rfl)
def rr_X_literalByte : Room := { frames := 1, cells := 0, slots := 0, locals := 20 }
set_option maxHeartbeats 4000000 in
set_option maxRecDepth 100000 in
theorem r_X_literalByte (l : Launch) (D : va_G) (cA : Nat → ClassId) (ad : Nat → Nat) (sz : Nat) (p0 : Int32) (p1 : Int32) (post : Int32 → Prop) (h : wp_X_literalByte p0 p1 post) : Met l y_X_literalByte w_X_literalByte rr_X_literalByte (mPc D cA [.int p0, .int p1] [] sz) (mQr post) 0 0 (fun _ => False) := by
  refine m_methRI (by decide) rfl (Nat.le_of_ble_eq_true rfl) ?_
  intro p e s m below meth c A Q ls hx hb hml hown hts hK hA hw hl hE
  have hl : lv_has ls 3 [(0, .int p0), (1, .int p1)] := hl
  have hown : s.vm.findClass R_X = some m.cls := hown
  have hg : ∀ {w : Cond}, w ∈ gw → w.before _ s = true := fun h => hts _ (List.mem_cons_of_mem _ h)
  unfold wp_X_literalByte at h
  refine lv_iload_n hx hb d_X_literalByte_0 rfl (lv_at hl 1 rfl) ?_
  refine lv_if_ne (tgt := 7) hx hb d_X_literalByte_1 (by decide) (fun hc => ?_) (fun hc => ?_)
  · have h := h.2 hc
    refine lv_iload_n hx hb d_X_literalByte_7 rfl (lv_at hl 1 rfl) ?_
    refine lv_iconst (v := 1) hx hb d_X_literalByte_8 (by decide) ?_
    refine lv_icmp_ne (tgt := 27) hx hb d_X_literalByte_9 (by decide) (fun hc => ?_) (fun hc => ?_)
    · have h := h.2 hc
      refine lv_iload_n hx hb d_X_literalByte_27 rfl (lv_at hl 0 rfl) ?_
      refine lv_iconst (v := 1) hx hb d_X_literalByte_28 (by decide) ?_
      refine lv_ishr hx hb d_X_literalByte_29 ?_
      refine lv_istore_n (lv' := [(2, .int (p0 >>> ((1 : Int32) &&& 31))), (0, .int p0), (1, .int p1)]) hx hb d_X_literalByte_30 rfl hl (by decide) rfl (fun ls hl => ?_)
      refine lv_bipush (v := 48) hx hb d_X_literalByte_31 (by decide) ?_
      refine lv_iload_n hx hb d_X_literalByte_33 rfl (lv_at hl 2 rfl) ?_
      refine lv_iload_n hx hb d_X_literalByte_34 rfl (lv_at hl 1 rfl) ?_
      refine m_callr (hr := va_runS (As := [.int p0]) (rest := [.int p1, .int 48]) ⟨hx, hb, hml, hown, hts⟩ (r_X_literalLength l D cA ad _ p0 _ h) (va_cwS 1 hts (ginS gm_540 gm_541 gm_15 gm_542) rfl rfl rfl (by decide +kernel) ⟨Nat.le_of_ble_eq_true rfl, Nat.le_of_ble_eq_true rfl⟩) (m_preS hK hw [] rfl rfl) rfl rfl hl.1 rfl (lv_room (Nat.le_of_ble_eq_true rfl)) d_X_literalByte_35 ⟨Nat.zero_le _, Nat.zero_le _⟩) (fun r35 h => ?_)
      refine lv_iconst (v := 1) hx hb d_X_literalByte_38 (by decide) ?_
      refine lv_isub hx hb d_X_literalByte_39 ?_
      refine lv_icmp_ne (tgt := 50) hx hb d_X_literalByte_40 (by decide) (fun hc => ?_) (fun hc => ?_)
      · have h := h.2 hc
        refine lv_iload_n hx hb d_X_literalByte_50 rfl (lv_at hl 0 rfl) ?_
        refine lv_bipush (v := 10) hx hb d_X_literalByte_51 (by decide) ?_
        refine lv_idiv hx hb d_X_literalByte_53 (by decide) ?_
        refine lv_iadd hx hb d_X_literalByte_54 ?_
        exact hE (48 + ((p0 >>> ((1 : Int32) &&& 31)) / 10)) _ _ h d_X_literalByte_55
      · have h := h.1 hc
        refine lv_iload_n hx hb d_X_literalByte_43 rfl (lv_at hl 0 rfl) ?_
        refine lv_bipush (v := 10) hx hb d_X_literalByte_44 (by decide) ?_
        refine lv_irem hx hb d_X_literalByte_46 (by decide) ?_
        refine lv_goto (tgt := 54) hx hb d_X_literalByte_47 (by decide) ?_
        refine lv_iadd hx hb d_X_literalByte_54 ?_
        exact hE (48 + ((p0 >>> ((1 : Int32) &&& 31)) - (p0 >>> ((1 : Int32) &&& 31)) / 10 * 10)) _ _ h d_X_literalByte_55
    · have h := h.1 hc
      refine lv_iload_n hx hb d_X_literalByte_12 rfl (lv_at hl 0 rfl) ?_
      refine lv_iconst (v := 1) hx hb d_X_literalByte_13 (by decide) ?_
      refine lv_iand hx hb d_X_literalByte_14 ?_
      refine lv_iconst (v := 1) hx hb d_X_literalByte_15 (by decide) ?_
      refine lv_icmp_ne (tgt := 24) hx hb d_X_literalByte_16 (by decide) (fun hc => ?_) (fun hc => ?_)
      · have h := h.2 hc
        refine lv_bipush (v := 43) hx hb d_X_literalByte_24 (by decide) ?_
        exact hE 43 _ _ h d_X_literalByte_26
      · have h := h.1 hc
        refine lv_bipush (v := 45) hx hb d_X_literalByte_19 (by decide) ?_
        refine lv_goto (tgt := 26) hx hb d_X_literalByte_21 (by decide) ?_
        exact hE 45 _ _ h d_X_literalByte_26
  · have h := h.1 hc
    refine lv_bipush (v := 32) hx hb d_X_literalByte_4 (by decide) ?_
    exact hE 32 _ _ h d_X_literalByte_6
def rr_X_lineByte : Room := { frames := 2, cells := 0, slots := 0, locals := 42 }
set_option maxHeartbeats 4000000 in
set_option maxRecDepth 100000 in
theorem r_X_lineByte (l : Launch) (D : va_G) (cA : Nat → ClassId) (ad : Nat → Nat) (sz : Nat) (F_size : Int32) (F_kinds : (Nat → Int32)) (F_sizes : (Nat → Int32)) (F_literals : (Nat → Int32)) (p1 : Int32) (p2 : Int32) (post : Int32 → Prop) (h : wp_X_lineByte F_kinds F_sizes F_literals p1 p2 post) : Met l y_X_lineByte w_X_lineByte rr_X_lineByte (mPc D cA [.ref (ad 6), .int p1, .int p2] [(k_F cA ad F_size), (k_F_kinds cA ad F_kinds), (k_F_sizes cA ad F_sizes), (k_F_literals cA ad F_literals)] sz) (mQr post) 0 0 (fun _ => False) := by
  refine m_methRI (by decide) rfl (Nat.le_of_ble_eq_true rfl) ?_
  intro p e s m below meth c A Q ls hx hb hml hown hts hK hA hw hl hE
  have hl : lv_has ls 7 [(0, .ref (ad 6)), (1, .int p1), (2, .int p2)] := hl
  have hown : s.vm.findClass R_X = some m.cls := hown
  have hg : ∀ {w : Cond}, w ∈ gw → w.before _ s = true := fun h => hts _ (List.mem_cons_of_mem _ h)
  obtain ⟨C29, hC29⟩ : ∃ C : Int32 → Int32 → Prop, ∀ (x3 : Int32) (x4 : Int32), C x3 x4 ↔ (∀ (ls : Array Slot), lv_has ls 7 [(0, .ref (ad 6)), (1, .int p1), (3, .int x3), (4, .int x4)] → W p l e rr_X_lineByte s m [.ref (ad 6), .int p1, .int p2].toArray below meth c s.heap [] 0 0 Q (F0 m 29 ls [])) := ⟨_, fun _ _ => Iff.rfl⟩
  have hc29 : ∀ (x3 : Int32) (x4 : Int32), s_X_lineByte_29 F_kinds F_sizes F_literals p1 p2 C29 post x3 x4 → C29 x3 x4 := by
    intro x3 x4 h
    unfold s_X_lineByte_29 at h
    refine (hC29 _ _).2 ?_
    intro ls hl
    refine lv_iload hx hb d_X_lineByte_29 (lv_at hl 3 rfl) ?_
    refine lv_aload_n hx hb d_X_lineByte_31 rfl (lv_at hl 0 rfl) ?_
    refine va_getN (D := D) (ci := 2) (v := .ref (ad 8)) (C := R_F) (T := T_F) (N := 5) hx hb hts (fun w h => List.mem_cons_of_mem _ (iw_F w h)) hown hK.1 hw.1 0 rfl rfl 1 (by decide) (va_Nw.use rfl (hK.2 _ nw_71)) (fun _ h9 => h9) rfl d_X_lineByte_32 ?_
    refine lv_iload_n hx hb d_X_lineByte_35 rfl (lv_at hl 1 rfl) ?_
    refine va_iald hx hb hK.1 hw.1 2 0 rfl rfl h.1 d_X_lineByte_36 ?_
    have h := h.2
    refine lv_icmp_ge (tgt := 80) hx hb d_X_lineByte_37 (by decide) (fun hc => ?_) (fun hc => ?_)
    · have h := h.1 hc
      refine lv_bipush (v := 10) hx hb d_X_lineByte_80 (by decide) ?_
      exact hE 10 _ _ h d_X_lineByte_82
    · have h := h.2 hc
      refine lv_aload_n hx hb d_X_lineByte_40 rfl (lv_at hl 0 rfl) ?_
      refine lv_iload_n hx hb d_X_lineByte_41 rfl (lv_at hl 1 rfl) ?_
      refine lv_iload hx hb d_X_lineByte_42 (lv_at hl 3 rfl) ?_
      refine m_callr (hr := va_runVN (As := [.int p1, .int x4]) (rest := []) ⟨hx, hb, hml, hown, hts⟩ (r_F_literalOf l D cA ad _ F_size F_literals p1 x4 _ h) ⟨va_cnB 2 hts (gin gm_235) rfl rfl rfl (hK.2 _ nw_539) (hg gm_3) (by decide +kernel) ⟨Nat.le_of_ble_eq_true rfl, Nat.le_of_ble_eq_true rfl⟩, hg gm_234, hg gs_16⟩ (m_preV 2 0 rfl rfl hK hw [0, 3] rfl rfl) rfl rfl hl.1 rfl (lv_room (Nat.le_of_ble_eq_true rfl)) d_X_lineByte_44 ⟨Nat.zero_le _, Nat.zero_le _⟩) (fun r44 h => ?_)
      refine lv_istore (lv' := [(5, .int r44), (0, .ref (ad 6)), (1, .int p1), (3, .int x3), (4, .int x4)]) hx hb d_X_lineByte_47 hl (by decide) rfl (fun ls hl => ?_)
      refine lv_iload hx hb d_X_lineByte_49 (lv_at hl 0 rfl) ?_
      refine m_callr (hr := va_runS (As := [.int r44]) (rest := []) ⟨hx, hb, hml, hown, hts⟩ (r_X_literalLength l D cA ad _ r44 _ h) (va_cwS 1 hts (ginS gm_540 gm_541 gm_15 gm_542) rfl rfl rfl (by decide +kernel) ⟨Nat.le_of_ble_eq_true rfl, Nat.le_of_ble_eq_true rfl⟩) (m_preS hK hw [] rfl rfl) rfl rfl hl.1 rfl (lv_room (Nat.le_of_ble_eq_true rfl)) d_X_lineByte_51 ⟨Nat.zero_le _, Nat.zero_le _⟩) (fun r51 h => ?_)
      refine lv_istore (lv' := [(6, .int r51), (5, .int r44), (0, .ref (ad 6)), (1, .int p1), (3, .int x3), (4, .int x4)]) hx hb d_X_lineByte_54 hl (by decide) rfl (fun ls hl => ?_)
      refine lv_iload_n hx hb d_X_lineByte_56 rfl (lv_at hl 4 rfl) ?_
      refine lv_iload hx hb d_X_lineByte_57 (lv_at hl 0 rfl) ?_
      refine lv_icmp_ge (tgt := 69) hx hb d_X_lineByte_59 (by decide) (fun hc => ?_) (fun hc => ?_)
      · have h := h.1 hc
        refine lv_iload_n hx hb d_X_lineByte_69 rfl (lv_at hl 4 rfl) ?_
        refine lv_iload hx hb d_X_lineByte_70 (lv_at hl 0 rfl) ?_
        refine lv_isub hx hb d_X_lineByte_72 ?_
        refine lv_istore_n (lv' := [(3, .int (x3 - r51)), (6, .int r51), (5, .int r44), (0, .ref (ad 6)), (1, .int p1), (4, .int x4)]) hx hb d_X_lineByte_73 rfl hl (by decide) rfl (fun ls hl => ?_)
        refine lv_iinc (v := (x4 + 1)) (lv' := [(4, .int (x4 + 1)), (3, .int (x3 - r51)), (6, .int r51), (5, .int r44), (0, .ref (ad 6)), (1, .int p1)]) hx hb d_X_lineByte_74 hl (k := 5) rfl rfl (by decide) rfl (fun ls hl => ?_)
        refine lv_goto (tgt := 29) hx hb d_X_lineByte_77 (by decide) ?_
        exact (hC29 _ _).1 h _ (lv_sub hl [4, 5, 1, 0] rfl)
      · have h := h.2 hc
        refine lv_iload hx hb d_X_lineByte_62 (lv_at hl 1 rfl) ?_
        refine lv_iload_n hx hb d_X_lineByte_64 rfl (lv_at hl 4 rfl) ?_
        refine m_callr (hr := va_runS (As := [.int r44, .int x3]) (rest := []) ⟨hx, hb, hml, hown, hts⟩ (r_X_literalByte l D cA ad _ r44 x3 _ h) (va_cwS 2 hts (ginS gm_550 gm_551 gm_15 gm_552) rfl rfl rfl (by decide +kernel) ⟨Nat.le_of_ble_eq_true rfl, Nat.le_of_ble_eq_true rfl⟩) (m_preS hK hw [] rfl rfl) rfl rfl hl.1 rfl (lv_room (Nat.le_of_ble_eq_true rfl)) d_X_lineByte_65 ⟨Nat.zero_le _, Nat.zero_le _⟩) (fun r65 h => ?_)
        exact hE r65 _ _ h d_X_lineByte_68
  unfold wp_X_lineByte at h
  have h := h C29 hc29
  refine lv_iload_n hx hb d_X_lineByte_0 rfl (lv_at hl 2 rfl) ?_
  refine lv_if_ne (tgt := 22) hx hb d_X_lineByte_1 (by decide) (fun hc => ?_) (fun hc => ?_)
  · have h := h.2 hc
    refine lv_iload_n hx hb d_X_lineByte_22 rfl (lv_at hl 2 rfl) ?_
    refine lv_iconst (v := 1) hx hb d_X_lineByte_23 (by decide) ?_
    refine lv_isub hx hb d_X_lineByte_24 ?_
    refine lv_istore_n (lv' := [(3, .int (p2 - 1)), (0, .ref (ad 6)), (1, .int p1), (2, .int p2)]) hx hb d_X_lineByte_25 rfl hl (by decide) rfl (fun ls hl => ?_)
    refine lv_iconst (v := 0) hx hb d_X_lineByte_26 (by decide) ?_
    refine lv_istore (lv' := [(4, .int 0), (3, .int (p2 - 1)), (0, .ref (ad 6)), (1, .int p1), (2, .int p2)]) hx hb d_X_lineByte_27 hl (by decide) rfl (fun ls hl => ?_)
    exact (hC29 _ _).1 h _ (lv_sub hl [2, 3, 1, 0] rfl)
  · have h := h.1 hc
    refine lv_aload_n hx hb d_X_lineByte_4 rfl (lv_at hl 0 rfl) ?_
    refine va_getN (D := D) (ci := 2) (v := .ref (ad 7)) (C := R_F) (T := T_F) (N := 5) hx hb hts (fun w h => List.mem_cons_of_mem _ (iw_F w h)) hown hK.1 hw.1 0 rfl rfl 0 (by decide) (va_Nw.use rfl (hK.2 _ nw_67)) (fun _ h9 => h9) rfl d_X_lineByte_5 ?_
    refine lv_iload_n hx hb d_X_lineByte_8 rfl (lv_at hl 1 rfl) ?_
    refine va_iald hx hb hK.1 hw.1 1 0 rfl rfl h.1 d_X_lineByte_9 ?_
    have h := h.2
    refine lv_iconst (v := 1) hx hb d_X_lineByte_10 (by decide) ?_
    refine lv_icmp_ne (tgt := 19) hx hb d_X_lineByte_11 (by decide) (fun hc => ?_) (fun hc => ?_)
    · have h := h.2 hc
      refine lv_bipush (v := 99) hx hb d_X_lineByte_19 (by decide) ?_
      exact hE 99 _ _ h d_X_lineByte_21
    · have h := h.1 hc
      refine lv_bipush (v := 61) hx hb d_X_lineByte_14 (by decide) ?_
      refine lv_goto (tgt := 21) hx hb d_X_lineByte_16 (by decide) ?_
      exact hE 61 _ _ h d_X_lineByte_21
def rr_X_byteOf : Room := { frames := 3, cells := 0, slots := 0, locals := 68 }
set_option maxHeartbeats 4000000 in
set_option maxRecDepth 100000 in
theorem r_X_byteOf (l : Launch) (D : va_G) (cA : Nat → ClassId) (ad : Nat → Nat) (sz : Nat) (F_size : Int32) (F_kinds : (Nat → Int32)) (F_sizes : (Nat → Int32)) (F_literals : (Nat → Int32)) (p1 : Int32) (post : Int32 → Prop) (h : wp_X_byteOf F_size F_kinds F_sizes F_literals p1 post) : Met l y_X_byteOf w_X_byteOf rr_X_byteOf (mPc D cA [.ref (ad 6), .int p1] [(k_F cA ad F_size), (k_F_kinds cA ad F_kinds), (k_F_sizes cA ad F_sizes), (k_F_literals cA ad F_literals)] sz) (mQr post) 0 0 (fun _ => False) := by
  refine m_methRI (by decide) rfl (Nat.le_of_ble_eq_true rfl) ?_
  intro p e s m below meth c A Q ls hx hb hml hown hts hK hA hw hl hE
  have hl : lv_has ls 5 [(0, .ref (ad 6)), (1, .int p1)] := hl
  have hown : s.vm.findClass R_X = some m.cls := hown
  have hg : ∀ {w : Cond}, w ∈ gw → w.before _ s = true := fun h => hts _ (List.mem_cons_of_mem _ h)
  obtain ⟨C4, hC4⟩ : ∃ C : Int32 → Int32 → Prop, ∀ (x2 : Int32) (x3 : Int32), C x2 x3 ↔ (∀ (ls : Array Slot), lv_has ls 5 [(0, .ref (ad 6)), (2, .int x2), (3, .int x3)] → W p l e rr_X_byteOf s m [.ref (ad 6), .int p1].toArray below meth c s.heap [] 0 0 Q (F0 m 4 ls [])) := ⟨_, fun _ _ => Iff.rfl⟩
  have hc4 : ∀ (x2 : Int32) (x3 : Int32), s_X_byteOf_4 F_size F_kinds F_sizes F_literals p1 C4 post x2 x3 → C4 x2 x3 := by
    intro x2 x3 h
    unfold s_X_byteOf_4 at h
    refine (hC4 _ _).2 ?_
    intro ls hl
    refine lv_iload_n hx hb d_X_byteOf_4 rfl (lv_at hl 2 rfl) ?_
    refine lv_aload_n hx hb d_X_byteOf_5 rfl (lv_at hl 0 rfl) ?_
    refine va_getN (D := D) (ci := 2) (v := .int F_size) (C := R_F) (T := T_F) (N := 5) hx hb hts (fun w h => List.mem_cons_of_mem _ (iw_F w h)) hown hK.1 hw.1 0 rfl rfl 4 (by decide) (va_Nw.use rfl (hK.2 _ nw_78)) (fun _ h9 => h9) rfl d_X_byteOf_6 ?_
    refine lv_icmp_ge (tgt := 43) hx hb d_X_byteOf_9 (by decide) (fun hc => ?_) (fun hc => ?_)
    · have h := h.1 hc
      refine lv_bipush (v := 10) hx hb d_X_byteOf_43 (by decide) ?_
      exact hE 10 _ _ h d_X_byteOf_45
    · have h := h.2 hc
      refine lv_aload_n hx hb d_X_byteOf_12 rfl (lv_at hl 0 rfl) ?_
      refine lv_iload_n hx hb d_X_byteOf_13 rfl (lv_at hl 2 rfl) ?_
      refine m_callr (hr := va_runS (As := [.ref (ad 6), .int x3]) (rest := []) ⟨hx, hb, hml, hown, hts⟩ (r_X_lineLength l D cA ad _ F_size F_sizes F_literals x3 _ h) (va_cwS 2 hts (ginS gm_536 gm_537 gm_15 gm_538) rfl rfl rfl (by decide +kernel) ⟨Nat.le_of_ble_eq_true rfl, Nat.le_of_ble_eq_true rfl⟩) (m_preS hK hw [0, 2, 3] rfl rfl) rfl rfl hl.1 rfl (lv_room (Nat.le_of_ble_eq_true rfl)) d_X_byteOf_14 ⟨Nat.zero_le _, Nat.zero_le _⟩) (fun r14 h => ?_)
      refine lv_istore (lv' := [(4, .int r14), (0, .ref (ad 6)), (2, .int x2), (3, .int x3)]) hx hb d_X_byteOf_17 hl (by decide) rfl (fun ls hl => ?_)
      refine lv_iload_n hx hb d_X_byteOf_19 rfl (lv_at hl 2 rfl) ?_
      refine lv_iload hx hb d_X_byteOf_20 (lv_at hl 0 rfl) ?_
      refine lv_icmp_ge (tgt := 32) hx hb d_X_byteOf_22 (by decide) (fun hc => ?_) (fun hc => ?_)
      · have h := h.1 hc
        refine lv_iload_n hx hb d_X_byteOf_32 rfl (lv_at hl 2 rfl) ?_
        refine lv_iload hx hb d_X_byteOf_33 (lv_at hl 0 rfl) ?_
        refine lv_isub hx hb d_X_byteOf_35 ?_
        refine lv_istore_n (lv' := [(2, .int (x2 - r14)), (4, .int r14), (0, .ref (ad 6)), (3, .int x3)]) hx hb d_X_byteOf_36 rfl hl (by decide) rfl (fun ls hl => ?_)
        refine lv_iinc (v := (x3 + 1)) (lv' := [(3, .int (x3 + 1)), (2, .int (x2 - r14)), (4, .int r14), (0, .ref (ad 6))]) hx hb d_X_byteOf_37 hl (k := 3) rfl rfl (by decide) rfl (fun ls hl => ?_)
        refine lv_goto (tgt := 4) hx hb d_X_byteOf_40 (by decide) ?_
        exact (hC4 _ _).1 h _ (lv_sub hl [3, 1, 0] rfl)
      · have h := h.2 hc
        refine lv_aload_n hx hb d_X_byteOf_25 rfl (lv_at hl 1 rfl) ?_
        refine lv_iload_n hx hb d_X_byteOf_26 rfl (lv_at hl 3 rfl) ?_
        refine lv_iload_n hx hb d_X_byteOf_27 rfl (lv_at hl 2 rfl) ?_
        refine m_callr (hr := va_runS (As := [.ref (ad 6), .int x3, .int x2]) (rest := []) ⟨hx, hb, hml, hown, hts⟩ (r_X_lineByte l D cA ad _ F_size F_kinds F_sizes F_literals x3 x2 _ h) (va_cwS 3 hts (ginS gm_547 gm_548 gm_15 gm_549) rfl rfl rfl (by decide +kernel) ⟨Nat.le_of_ble_eq_true rfl, Nat.le_of_ble_eq_true rfl⟩) (m_preS hK hw [0, 1, 2, 3] rfl rfl) rfl rfl hl.1 rfl (lv_room (Nat.le_of_ble_eq_true rfl)) d_X_byteOf_28 ⟨Nat.zero_le _, Nat.zero_le _⟩) (fun r28 h => ?_)
        exact hE r28 _ _ h d_X_byteOf_31
  unfold wp_X_byteOf at h
  have h := h C4 hc4
  refine lv_iload_n hx hb d_X_byteOf_0 rfl (lv_at hl 1 rfl) ?_
  refine lv_istore_n (lv' := [(2, .int p1), (0, .ref (ad 6)), (1, .int p1)]) hx hb d_X_byteOf_1 rfl hl (by decide) rfl (fun ls hl => ?_)
  refine lv_iconst (v := 0) hx hb d_X_byteOf_2 (by decide) ?_
  refine lv_istore_n (lv' := [(3, .int 0), (2, .int p1), (0, .ref (ad 6)), (1, .int p1)]) hx hb d_X_byteOf_3 rfl hl (by decide) rfl (fun ls hl => ?_)
  exact (hC4 _ _).1 h _ (lv_sub hl [2, 1, 0] rfl)
