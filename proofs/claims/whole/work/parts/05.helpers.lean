def k_P (_ : Nat → ClassId) (ad : Nat → Nat) : Nat × va_E := (ad 0, .inr (0, [.ref (ad 1), .ref (ad 6), .ref (ad 11), .ref (ad 13)]))
def k_G (_ : Nat → ClassId) (ad : Nat → Nat) (G_size : Int32) (G_inputs : Int32) : Nat × va_E := (ad 1, .inr (1, [.ref (ad 2), .ref (ad 3), .ref (ad 4), .ref (ad 5), .int G_size, .int G_inputs]))
def k_G_kinds (cA : Nat → ClassId) (ad : Nat → Nat) (f : (Nat → Int32)) : Nat × va_E := (ad 2, .inl (cA 0, 40, .inl f))
def k_G_lefts (cA : Nat → ClassId) (ad : Nat → Nat) (f : (Nat → Int32)) : Nat × va_E := (ad 3, .inl (cA 0, 40, .inl f))
def k_G_rights (cA : Nat → ClassId) (ad : Nat → Nat) (f : (Nat → Int32)) : Nat × va_E := (ad 4, .inl (cA 0, 40, .inl f))
def k_G_truths (cA : Nat → ClassId) (ad : Nat → Nat) (f : (Nat → Int32)) : Nat × va_E := (ad 5, .inl (cA 1, 40, .inl f))
def k_F (_ : Nat → ClassId) (ad : Nat → Nat) (F_size : Int32) : Nat × va_E := (ad 6, .inr (2, [.ref (ad 7), .ref (ad 8), .ref (ad 9), .ref (ad 10), .int F_size]))
def k_F_kinds (cA : Nat → ClassId) (ad : Nat → Nat) (f : (Nat → Int32)) : Nat × va_E := (ad 7, .inl (cA 0, 24, .inl f))
def k_F_sizes (cA : Nat → ClassId) (ad : Nat → Nat) (f : (Nat → Int32)) : Nat × va_E := (ad 8, .inl (cA 0, 24, .inl f))
def k_F_literals (cA : Nat → ClassId) (ad : Nat → Nat) (f : (Nat → Int32)) : Nat × va_E := (ad 9, .inl (cA 0, 144, .inl f))
def k_F_leftOut (cA : Nat → ClassId) (ad : Nat → Nat) (f : (Nat → Int32)) : Nat × va_E := (ad 10, .inl (cA 1, 24, .inl f))
def k_U (_ : Nat → ClassId) (ad : Nat → Nat) (U_conflict : Int32) (U_changed : Int32) : Nat × va_E := (ad 11, .inr (3, [.ref (ad 1), .ref (ad 6), .ref (ad 12), .int U_conflict, .int U_changed]))
def k_U_told (cA : Nat → ClassId) (ad : Nat → Nat) (f : (Nat → Int32)) : Nat × va_E := (ad 12, .inl (cA 0, 40, .inl f))
def k_T (_ : Nat → ClassId) (ad : Nat → Nat) (T_size : Int32) (T_place : Int32) (T_fault : Int32) : Nat × va_E := (ad 13, .inr (4, [.ref (ad 1), .ref (ad 6), .ref (ad 14), .int T_size, .int T_place, .int T_fault]))
def k_T_bytes (cA : Nat → ClassId) (ad : Nat → Nat) (f : (Nat → Int32)) : Nat × va_E := (ad 14, .inl (cA 0, 1000, .inl f))
def k_M (_ : Nat → ClassId) (ad : Nat → Nat) (M_thrown : Int32) (M_gates : Int32) (M_lines : Int32) (M_conflict : Int32) (M_moved : Int32) (M_tapeSize : Int32) (M_place : Int32) (M_found : Int32) : Nat × va_E := (ad 15, .inr (5, [.int M_thrown, .ref (ad 16), .ref (ad 17), .ref (ad 18), .int M_gates, .ref (ad 19), .ref (ad 20), .ref (ad 21), .int M_lines, .ref (ad 22), .int M_conflict, .int M_moved, .ref (ad 23), .int M_tapeSize, .int M_place, .ref (ad 24), .ref (ad 25), .int M_found]))
def k_M_kinds (cA : Nat → ClassId) (ad : Nat → Nat) (f : (Nat → Int32)) : Nat × va_E := (ad 16, .inl (cA 0, 40, .inl f))
def k_M_ones (cA : Nat → ClassId) (ad : Nat → Nat) (f : (Nat → Int32)) : Nat × va_E := (ad 17, .inl (cA 0, 40, .inl f))
def k_M_twos (cA : Nat → ClassId) (ad : Nat → Nat) (f : (Nat → Int32)) : Nat × va_E := (ad 18, .inl (cA 0, 40, .inl f))
def k_M_equals (cA : Nat → ClassId) (ad : Nat → Nat) (f : (Nat → Int32)) : Nat × va_E := (ad 19, .inl (cA 1, 24, .inl f))
def k_M_counts (cA : Nat → ClassId) (ad : Nat → Nat) (f : (Nat → Int32)) : Nat × va_E := (ad 20, .inl (cA 0, 24, .inl f))
def k_M_literals (cA : Nat → ClassId) (ad : Nat → Nat) (f : (Nat → Int32)) : Nat × va_E := (ad 21, .inl (cA 0, 144, .inl f))
def k_M_values (cA : Nat → ClassId) (ad : Nat → Nat) (f : (Nat → Int32)) : Nat × va_E := (ad 22, .inl (cA 0, 40, .inl f))
def k_M_tape (cA : Nat → ClassId) (ad : Nat → Nat) (f : (Nat → Int32)) : Nat × va_E := (ad 23, .inl (cA 0, 1000, .inl f))
def k_M_told (cA : Nat → ClassId) (ad : Nat → Nat) (f : (Nat → Int32)) : Nat × va_E := (ad 24, .inl (cA 1, 24, .inl f))
def k_M_out (cA : Nat → ClassId) (ad : Nat → Nat) (f : (Nat → Int32)) : Nat × va_E := (ad 25, .inl (cA 1, 24, .inl f))
def k_L_out (cA : Nat → ClassId) (ad : Nat → Nat) (f : (Nat → Int64)) : Nat × va_E := (ad 26, .inl (cA 2, 1, .inr (.inl f)))
/-! Rows of mine over the kit's: a method's world in one hypothesis, a call in one row, a method's entry and ends in one row. -/
def isB (x : Int32) : Prop := x = 0 ∨ x = 1
theorem isB_nar {x : Int32} (h : isB x) : narrow .boolean (.int x) = .int x := by rcases h with rfl | rfl <;> rfl
theorem isB_fit {x : Int32} (h : isB x) : fits .boolean (.int x) = true := by rcases h with rfl | rfl <;> rfl
def cpOk (sp dp n : Int32) (n0 n1 : Nat) : Prop := ¬ sp < 0 ∧ ¬ dp < 0 ∧ ¬ n < 0 ∧ sp.toNatClampNeg + n.toNatClampNeg ≤ n0 ∧ dp.toNatClampNeg + n.toNatClampNeg ≤ n1
def mW (D : va_G) (A : Nat → Prop) (H0 : Heap) (ws : va_W) (H : Heap) (locs : List Loc) : Prop := va_P D vwCl ws H ∧ va_D A ws ∧ va_S A H0 H locs
theorem mp_fm {α β : Type} (f : α → Option β) : ∀ (is : List α) (ws : List β), is.map f = ws.map some → is.filterMap f = ws
  | [], [], _ => rfl
  | [], _ :: _, h => by simp at h
  | _ :: _, [], h => by simp at h
  | i :: is, w :: ws, h => by
    rw [List.map_cons, List.map_cons, List.cons.injEq] at h
    rw [List.filterMap_cons, h.1, mp_fm f is ws h.2]
def tysA (cA : Nat → ClassId) : List (ClassId × FieldType) := [(cA 0, .int), (cA 1, .boolean), (cA 2, .long), (cA 3, .byte)]
/-- the words of the tables that are carried by hand -/
def nst (U : State) : Prop := ∀ w ∈ nestWs, va_Nw w U
theorem nst_warm {s U : State} (hW : s.WarmedH U.vm) (h : nst s) : nst U := fun w hw => nest_warm w hw hW (h w hw)
theorem nst_same {s U : State} (e : s.vm = U.vm) (h : nst s) : nst U := fun w hw => va_Nw.same (nest_tab w hw) e (h w hw)
def mK (D : va_G) (cA : Nat → ClassId) (U : State) : Prop := va_K D vwCl (tysA cA) U ∧ nst U
theorem mK_warm {D : va_G} {cA : Nat → ClassId} {s U : State} (hW : s.WarmedH U.vm) (h : mK D cA s) : mK D cA U := ⟨va_K.moved hW.alike h.1, nst_warm hW h.2⟩
def mPc (D : va_G) (cA : Nat → ClassId) (av : List Value) (ws : va_W) (sz : Nat) : Array Value → State → Prop := va_Pc av (fun U => U.heap.size = sz ∧ va_P D vwCl ws U.heap ∧ mK D cA U ∧ va_D (fun _ => True) ws)
def mB {S : Type} (D : va_G) (A : Nat → Prop) (w : S → va_W) : S → State → Prop := fun u t => va_P D vwCl (w u) t.heap ∧ va_D A (w u)
theorem mPc_blind {D : va_G} {cA : Nat → ClassId} {av : List Value} {ws : va_W} {sz : Nat} : FrameBlind (mPc D cA av ws sz) := by
  intro a U g mk q
  obtain ⟨q0, q1, qP, qK, qD⟩ := q
  exact ⟨q0, q1, qP, ⟨va_K.moved (u := U) (U := U.calling g mk a) (Vm.Alike.refl U.vm) qK.1, nst_same (s := U) (U := U.calling g mk a) rfl qK.2⟩, qD⟩
theorem m_preS {D : va_G} {cA : Nat → ClassId} {A : Nat → Prop} {H0 H : Heap} {locs : List Loc} {s : State} {ws wc : va_W} {av : List Value} (hK : mK D cA s) (hw : mW D A H0 ws H locs) (isC : List Nat) (hn : va_nd isC = true) (hC : isC.map (fun i => ws[i]?) = wc.map some) : PreS s H (mPc D cA av wc H.size) av :=
  ⟨mPc_blind, fun U hU hW => ⟨rfl, by rw [hU], by rw [hU]; exact hw.1.sub isC (mp_fm _ _ _ hC), mK_warm hW hK, (hw.2.1.sub isC hn hC).weaken (fun _ _ _ _ => trivial)⟩⟩
theorem m_preV {D : va_G} {cA : Nat → ClassId} {A : Nat → Prop} {H0 H : Heap} {locs : List Loc} {s : State} {ws wc : va_W} {b : Nat} {As : List Value} {C : String} {T : u_T} {N : Nat} {fs : List Value} (ci q0 : Nat) (hc : vwCl[ci]? = some (C, T, N)) (he : ws[q0]? = some (b, .inr (ci, fs))) (hK : mK D cA s) (hw : mW D A H0 ws H locs) (isC : List Nat) (hn : va_nd isC = true) (hC : isC.map (fun i => ws[i]?) = wc.map some) : PreV s H C b (mPc D cA (.ref b :: As) wc H.size) As :=
  ⟨mPc_blind, va_recv (q := (C, T, N)) hK.1 hw.1 hc he, fun U hU hW => ⟨rfl, by rw [hU], by rw [hU]; exact hw.1.sub isC (mp_fm _ _ _ hC), mK_warm hW hK, (hw.2.1.sub isC hn hC).weaken (fun _ _ _ _ => trivial)⟩⟩
section MROW
variable {p : Program} {l : Launch} {e : Env} {R : Room} {s : State} {m : MethodId} {args : Array Value} {below : List Frame} {meth : Method} {c : Code} {H : Heap} {locs : List Loc} {cells slots : Nat} {Q : State → Prop}
variable {cc : ByteArray} {pc : Nat} {ls : Array Slot} {rest st0 : List Value} {D : va_G} {A : Nat → Prop} {a : Nat} {tys : List (ClassId × FieldType)} {ws ws' : va_W} {H0 : Heap}
theorem m_put (hexec : p.tables.exec = Jvm.exec) (hb : c.code = cc) {own ref C : String} {T : u_T} {N ci index : Nat} {Ts : List Cond} (hts : ∀ w ∈ Ts, w.before args s = true) (hin : ∀ w ∈ u_ws C T N, w ∈ Ts) (ty0 : Nat → FieldType) (hty : ∀ k, k < N → parseFieldDescriptor (T k).2.2.1 = some (ty0 k)) (hnm : ∀ a, a < N → ∀ b, b < N → a ≠ b → (T a).2.1 ≠ (T b).2.1) (hown : s.vm.findClass own = some m.cls) (hK : va_K D vwCl tys s) (hw : mW D A H0 ws H locs) (q0 : Nat) {fs : List Value} (he : ws[q0]? = some (a, .inr (ci, fs))) (hc : vwCl[ci]? = some (C, T, N)) (k : Nat) (hk : k < N) (hlink : (Cond.fieldLink own index ref (T k).2.1 (T k).2.2.1).before args s = true) (hsame : ∀ x, s.fieldFound? (T k).1 (T k).2.1 (T k).2.2.1 = some x → s.fieldFound? ref (T k).2.1 (T k).2.2.1 = some x) (hfin : (T k).2.2.2 = false) {ty : FieldType} {v : Value} (hd : parseFieldDescriptor (T k).2.2.1 = some ty) (hn : narrow ty v = v) (hfit : fits ty v = true) (hl : k < fs.length) (hws : ws.set q0 (a, .inr (ci, fs.set k v)) = ws') (hdg : decode cc pc = .ok (.putfield index, 3)) (kk : ∀ (H1 : Heap) (locs1 : List Loc), mW D A H0 ws' H1 locs1 → W p l e R s m args below meth c H1 locs1 cells slots Q (F0 m (pc + 3) ls rest)) : W p l e R s m args below meth c H locs cells slots Q (F0 m pc ls (v :: .ref a :: rest)) := by
  subst hws
  exact va_put hexec hb hts hin ty0 hty hnm hown hK hw.1 hw.2.1 hw.2.2 q0 he hc k hk hlink hsame hfin hd hn hfit hl hdg (fun H1 locs1 h1 h2 h3 => kk H1 locs1 ⟨h1, h2, h3⟩)
theorem m_putN (hexec : p.tables.exec = Jvm.exec) (hb : c.code = cc) {own ref C host : String} {T : u_T} {N ci index : Nat} {Ts : List Cond} (hts : ∀ w ∈ Ts, w.before args s = true) (hin : ∀ w ∈ u_ws C T N, w ∈ Ts) (ty0 : Nat → FieldType) (hty : ∀ k, k < N → parseFieldDescriptor (T k).2.2.1 = some (ty0 k)) (hnm : ∀ a, a < N → ∀ b, b < N → a ≠ b → (T a).2.1 ≠ (T b).2.1) (hown : s.vm.findClass own = some m.cls) (hK : va_K D vwCl tys s) (hw : mW D A H0 ws H locs) (q0 : Nat) {fs : List Value} (he : ws[q0]? = some (a, .inr (ci, fs))) (hc : vwCl[ci]? = some (C, T, N)) (k : Nat) (hk : k < N) (hlink : (Cond.fieldLinkNest own index ref (T k).2.1 (T k).2.2.1 host).before args s = true) (hsame : ∀ x, s.fieldFound? (T k).1 (T k).2.1 (T k).2.2.1 = some x → s.fieldFound? ref (T k).2.1 (T k).2.2.1 = some x) (hfin : (T k).2.2.2 = false) {ty : FieldType} {v : Value} (hd : parseFieldDescriptor (T k).2.2.1 = some ty) (hn : narrow ty v = v) (hfit : fits ty v = true) (hl : k < fs.length) (hws : ws.set q0 (a, .inr (ci, fs.set k v)) = ws') (hdg : decode cc pc = .ok (.putfield index, 3)) (kk : ∀ (H1 : Heap) (locs1 : List Loc), mW D A H0 ws' H1 locs1 → W p l e R s m args below meth c H1 locs1 cells slots Q (F0 m (pc + 3) ls rest)) : W p l e R s m args below meth c H locs cells slots Q (F0 m pc ls (v :: .ref a :: rest)) := by
  subst hws
  exact va_putN hexec hb hts hin ty0 hty hnm hown hK hw.1 hw.2.1 hw.2.2 q0 he hc k hk hlink hsame hfin hd hn hfit hl hdg (fun H1 locs1 h1 h2 h3 => kk H1 locs1 ⟨h1, h2, h3⟩)
theorem m_iast (hexec : p.tables.exec = Jvm.exec) (hb : c.code = cc) (hK : va_K D vwCl tys s) (hw : mW D A H0 ws H locs) (q0 t0 : Nat) {cA : ClassId} {n : Nat} {f : Nat → Int32} (ha : ws[q0]? = some (a, .inl (cA, n, .inl f))) (ht : tys[t0]? = some (cA, .int)) {i x : Int32} (hin : vp_in i n) (hws : ws.set q0 (a, .inl (cA, n, .inl (upd f i.toNatClampNeg x))) = ws') (hdg : decode cc pc = .ok (.iastore, 1)) (kk : ∀ (H1 : Heap) (locs1 : List Loc), mW D A H0 ws' H1 locs1 → W p l e R s m args below meth c H1 locs1 cells slots Q (F0 m (pc + 1) ls rest)) : W p l e R s m args below meth c H locs cells slots Q (F0 m pc ls (.int x :: .int i :: .ref a :: rest)) := by
  subst hws
  exact va_iast hexec hb hK hw.1 hw.2.1 hw.2.2 q0 t0 ha ht hin hdg (fun H1 locs1 h1 h2 h3 => kk H1 locs1 ⟨h1, h2, h3⟩)
theorem m_zast (hexec : p.tables.exec = Jvm.exec) (hb : c.code = cc) (hK : va_K D vwCl tys s) (hw : mW D A H0 ws H locs) (q0 t0 : Nat) {cA : ClassId} {n : Nat} {f : Nat → Int32} (ha : ws[q0]? = some (a, .inl (cA, n, .inl f))) (ht : tys[t0]? = some (cA, .boolean)) {i x : Int32} (hin : vp_in i n) (hws : ws.set q0 (a, .inl (cA, n, .inl (upd f i.toNatClampNeg (vp_nar .boolean x)))) = ws') (hdg : decode cc pc = .ok (.bastore, 1)) (kk : ∀ (H1 : Heap) (locs1 : List Loc), mW D A H0 ws' H1 locs1 → W p l e R s m args below meth c H1 locs1 cells slots Q (F0 m (pc + 1) ls rest)) : W p l e R s m args below meth c H locs cells slots Q (F0 m pc ls (.int x :: .int i :: .ref a :: rest)) := by
  subst hws
  exact va_zast hexec hb hK hw.1 hw.2.1 hw.2.2 q0 t0 ha ht hin hdg (fun H1 locs1 h1 h2 h3 => kk H1 locs1 ⟨h1, h2, h3⟩)
theorem m_last (hexec : p.tables.exec = Jvm.exec) (hb : c.code = cc) (hK : va_K D vwCl tys s) (hw : mW D A H0 ws H locs) (q0 t0 : Nat) {cA : ClassId} {n : Nat} {f : Nat → Int64} (ha : ws[q0]? = some (a, .inl (cA, n, .inr (.inl f)))) (ht : tys[t0]? = some (cA, .long)) {i : Int32} {x : Int64} (hin : vp_in i n) (hws : ws.set q0 (a, .inl (cA, n, .inr (.inl (vp_updL f i.toNatClampNeg x)))) = ws') (hdg : decode cc pc = .ok (.lastore, 1)) (kk : ∀ (H1 : Heap) (locs1 : List Loc), mW D A H0 ws' H1 locs1 → W p l e R s m args below meth c H1 locs1 cells slots Q (F0 m (pc + 1) ls rest)) : W p l e R s m args below meth c H locs cells slots Q (F0 m pc ls (.long x :: .int i :: .ref a :: rest)) := by
  subst hws
  exact va_last hexec hb hK hw.1 hw.2.1 hw.2.2 q0 t0 ha ht hin hdg (fun H1 locs1 h1 h2 h3 => kk H1 locs1 ⟨h1, h2, h3⟩)
theorem m_copyi (hexec : p.tables.exec = Jvm.exec) (hb : c.code = cc) (hml : c.maxLocals = ls.size) {own : String} {index : Nat} (hown : s.vm.findClass own = some m.cls) (hlink : (Cond.methodLink own index arraycopyName).before args s = true) (hnat : (Cond.native arraycopyName).before args s = true) (hstat : (Cond.static arraycopyName).before args s = true) (hini : (Cond.initialized "java/lang/System").before args s = true) (hK : va_K D vwCl tys s) (hw : mW D A H0 ws H locs) (q0 q1 t0 t1 : Nat) {a0 : Nat} {c0 c1 : ClassId} {n0 n1 : Nat} {f g : Nat → Int32} {ty : FieldType} (ha0 : ws[q0]? = some (a0, .inl (c0, n0, .inl f))) (ha1 : ws[q1]? = some (a, .inl (c1, n1, .inl g))) (ht0 : tys[t0]? = some (c0, ty)) (ht1 : tys[t1]? = some (c1, ty)) (hprim : refKind ty = false) {sp dp n : Int32} (hok : cpOk sp dp n n0 n1) (hfit : ∀ i, i < n.toNatClampNeg → fits ty (.int (f (sp.toNatClampNeg + i))) = true) (hframes : 1 ≤ R.frames) (hlocals : (rest.map fun v => v.category).sum + (nativeFrameWords "java/lang/System" "arraycopy" 5 + 11) ≤ R.locals) (hws : ws.set q1 (a, .inl (c1, n1, .inl (va_cpy f g sp.toNatClampNeg dp.toNatClampNeg n.toNatClampNeg))) = ws') (hdg : decode cc pc = .ok (.invokestatic index, 3)) (kk : ∀ (H1 : Heap) (locs1 : List Loc), mW D A H0 ws' H1 locs1 → W p l e R s m args below meth c H1 locs1 cells slots Q (F0 m (pc + 3) ls rest)) : W p l e R s m args below meth c H locs cells slots Q (F0 m pc ls (.int n :: .int dp :: .ref a :: .int sp :: .ref a0 :: rest)) := by
  subst hws
  exact va_copyi hexec hb hml hown hlink hnat hstat hini hK hw.1 hw.2.1 hw.2.2 q0 q1 t0 t1 ha0 ha1 ht0 ht1 hprim hok.1 hok.2.1 hok.2.2.1 hok.2.2.2.1 hok.2.2.2.2 hfit hframes hlocals hdg (fun H1 locs1 h1 h2 h3 => kk H1 locs1 ⟨h1, h2, h3⟩)
/-- behind a call: what came back beside the rest, in the old order -/
theorem m_back {S : Type} {wc wr : va_W} {w1 w2 : S → va_W} {u : S} {t : State} {H1 : Heap} {locs1 : List Loc} (hw : mW D A H0 ws H locs) (hA : ∀ q, H0.size ≤ q → A q) (isC isR is2 : List Nat) (hC : isC.map (fun i => ws[i]?) = wc.map some) (hR : isR.map (fun i => ws[i]?) = wr.map some) (hn : va_nd isR = true) (hdis : ∀ i ∈ isR, i ∉ isC) (hn2 : va_nd is2 = true) (h2 : ∀ u, is2.map (fun i => (wr ++ w1 u)[i]?) = (w2 u).map some) (ht : t.heap = H1) (hB : mB D (va_A wc H.size) w1 u t) (hk : ∀ q : Nat, q < H.size → ¬ va_A wc H.size q → H1[q]? = H[q]?) (hS : va_S A H0 H1 locs1) : mW D A H0 (w2 u) H1 locs1 := by
  obtain ⟨hP1, hD1⟩ := hB
  rw [ht] at hP1
  have hF := va_free (wc := wc) hw.2.1 hw.2.2 hA isC hC
  obtain ⟨hP, hD⟩ := va_join hw.1 hw.2.1 isC isR hC hR hn hdis hk hF hP1 hD1
  exact ⟨hP.sub is2 (mp_fm _ _ _ (h2 u)), hD.sub is2 hn2 (h2 u), hS⟩
theorem m_calli {S : Type} {post : Int32 → S → Prop} {wc wr : va_W} {w1 w2 : S → va_W} {a : Array Value} (hr : va_Run p l e R s m args below meth c H locs cells slots 0 0 (F0 m pc ls st0) rest (va_Qi post (mB D (va_A wc H.size) w1) (va_A wc H.size) a) (va_A wc H.size)) (hw : mW D A H0 ws H locs) (hA : ∀ q, H0.size ≤ q → A q) (isC isR is2 : List Nat) (hC : isC.map (fun i => ws[i]?) = wc.map some) (hR : isR.map (fun i => ws[i]?) = wr.map some) (hn : va_nd isR = true) (hdis : ∀ i ∈ isR, i ∉ isC) (hn2 : va_nd is2 = true) (h2 : ∀ u, is2.map (fun i => (wr ++ w1 u)[i]?) = (w2 u).map some) (kk : ∀ (r : Int32) (u : S) (H1 : Heap) (locs1 : List Loc), mW D A H0 (w2 u) H1 locs1 → post r u → W p l e R s m args below meth c H1 locs1 cells slots Q (F0 m (pc + 3) ls (.int r :: rest))) : W p l e R s m args below meth c H locs cells slots Q (F0 m pc ls st0) := by
  have hF := va_free (wc := wc) hw.2.1 hw.2.2 hA isC hC
  exact va_calli hr hw.2.2 (fun q _ h => hF q h) hF (fun r u t H1 locs1 ht _ hp hB _ hk hS => kk r u H1 locs1 (m_back hw hA isC isR is2 hC hR hn hdis hn2 h2 ht hB hk hS) hp)
theorem m_callv {S : Type} {post : S → Prop} {wc wr : va_W} {w1 w2 : S → va_W} {a : Array Value} (hr : va_Run p l e R s m args below meth c H locs cells slots 0 0 (F0 m pc ls st0) rest (va_Qv post (mB D (va_A wc H.size) w1) (va_A wc H.size) a) (va_A wc H.size)) (hw : mW D A H0 ws H locs) (hA : ∀ q, H0.size ≤ q → A q) (isC isR is2 : List Nat) (hC : isC.map (fun i => ws[i]?) = wc.map some) (hR : isR.map (fun i => ws[i]?) = wr.map some) (hn : va_nd isR = true) (hdis : ∀ i ∈ isR, i ∉ isC) (hn2 : va_nd is2 = true) (h2 : ∀ u, is2.map (fun i => (wr ++ w1 u)[i]?) = (w2 u).map some) (kk : ∀ (u : S) (H1 : Heap) (locs1 : List Loc), mW D A H0 (w2 u) H1 locs1 → post u → W p l e R s m args below meth c H1 locs1 cells slots Q (F0 m (pc + 3) ls rest)) : W p l e R s m args below meth c H locs cells slots Q (F0 m pc ls st0) := by
  have hF := va_free (wc := wc) hw.2.1 hw.2.2 hA isC hC
  exact va_callv hr hw.2.2 (fun q _ h => hF q h) hF (fun u t H1 locs1 ht _ hp hB _ hk hS => kk u H1 locs1 (m_back hw hA isC isR is2 hC hR hn hdis hn2 h2 ht hB hk hS) hp)
end MROW
/-- what a method's body has at its entry -/
abbrev mBody (l : Launch) (y : MethodName) (ws : List Cond) (rm : Room) (cc : ByteArray) (nL : Nat) (D : va_G) (cA : Nat → ClassId) (av : List Value) (w0 : va_W) (End : (p : Program) → (e : Env) → (s : State) → (m : MethodId) → (below : List Frame) → (meth : Method) → (c : Code) → (A : Nat → Prop) → (Q : State → Prop) → Prop) : Prop :=
  ∀ (p : Program) (e : Env) (s : State) (m : MethodId) (below : List Frame) (meth : Method) (c : Code) (A : Nat → Prop) (Q : State → Prop) (ls : Array Slot), p.tables.exec = Jvm.exec → c.code = cc → c.maxLocals = nL → s.vm.findClass y.cls = some m.cls → (∀ w ∈ ws, w.before av.toArray s = true) → mK D cA s → (∀ q : Nat, s.heap.size ≤ q → A q) → mW D A s.heap w0 s.heap [] → lv_has ls nL (lv_args 0 av) → End p e s m below meth c A Q → W p l e rm s m av.toArray below meth c s.heap [] 0 0 Q (F0 m 0 ls [])
theorem m_methI {l : Launch} {y : MethodName} {ws ws' : List Cond} {rm : Room} {cc : ByteArray} {nL : Nat} {D : va_G} {cA : Nat → ClassId} {av : List Value} {w0 : va_W} {sz : Nat} {S : Type} {post : Int32 → S → Prop} {w : S → va_W} (hy : plainName y.cls = true) (hws : ws = Cond.code y cc nL (some .int) :: ws') (hfit : (lg_sl av).length ≤ nL)
    (body : mBody l y ws rm cc nL D cA av w0 (fun p e s m below meth c A Q => ∀ (r : Int32) (u : S) (H : Heap) (locs : List Loc) (pc : Nat) (ls : Array Slot), post r u → mW D A s.heap (w u) H locs → decode cc pc = .ok (.ireturn, 1) → W p l e rm s m av.toArray below meth c H locs 0 0 Q (F0 m pc ls [.int r]))) :
    Met l y ws rm (mPc D cA av w0 sz) (va_Qi post (mB D (va_A w0 sz) w) (va_A w0 sz)) 0 0 (va_A w0 sz) := by
  refine Met.ofW (cc := cc) (maxL := nL) (ret := some .int) hy hws ?_
  intro p e s m args below meth c s₁ B hml hv
  obtain ⟨rfl, hsz, hP, hK, hD0⟩ := hv
  have hx := B.exec
  have hb := B.bytes
  have hr := B.returns
  have hts := atoms_spec (ws := ws) B.pre
  have hown : s.vm.findClass y.cls = some m.cls := findClass_of_methodNamed B.named
  have hlocks := B.notSynchronized
  subst hsz
  have hD := hD0.self (sz := s.heap.size)
  rw [lg_entry_eq]
  exact body p e s m below meth c (va_A w0 s.heap.size) _ _ hx hb hml hown hts hK (fun q h => Or.inr h) ⟨hP, hD, va_S.rf⟩ (lv_entry av hfit)
    (fun r u H locs pc ls hp hw hd => W.iret hx hb hr (fun t ht hW => ⟨⟨r, u, rfl, hp, by rw [ht]; exact hw.1, hw.2.1⟩, hw.2.2.F ht⟩) hw.2.2.2.2 hd)
theorem m_methZ {l : Launch} {y : MethodName} {ws ws' : List Cond} {rm : Room} {cc : ByteArray} {nL : Nat} {D : va_G} {cA : Nat → ClassId} {av : List Value} {w0 : va_W} {sz : Nat} {S : Type} {post : Int32 → S → Prop} {w : S → va_W} (hy : plainName y.cls = true) (hws : ws = Cond.code y cc nL (some .boolean) :: ws') (hfit : (lg_sl av).length ≤ nL)
    (body : mBody l y ws rm cc nL D cA av w0 (fun p e s m below meth c A Q => ∀ (r : Int32) (u : S) (H : Heap) (locs : List Loc) (pc : Nat) (ls : Array Slot), post r u → narrow .boolean (.int r) = .int r → mW D A s.heap (w u) H locs → decode cc pc = .ok (.ireturn, 1) → W p l e rm s m av.toArray below meth c H locs 0 0 Q (F0 m pc ls [.int r]))) :
    Met l y ws rm (mPc D cA av w0 sz) (va_Qi post (mB D (va_A w0 sz) w) (va_A w0 sz)) 0 0 (va_A w0 sz) := by
  refine Met.ofW (cc := cc) (maxL := nL) (ret := some .boolean) hy hws ?_
  intro p e s m args below meth c s₁ B hml hv
  obtain ⟨rfl, hsz, hP, hK, hD0⟩ := hv
  have hx := B.exec
  have hb := B.bytes
  have hr := B.returns
  have hts := atoms_spec (ws := ws) B.pre
  have hown : s.vm.findClass y.cls = some m.cls := findClass_of_methodNamed B.named
  have hlocks := B.notSynchronized
  subst hsz
  have hD := hD0.self (sz := s.heap.size)
  rw [lg_entry_eq]
  exact body p e s m below meth c (va_A w0 s.heap.size) _ _ hx hb hml hown hts hK (fun q h => Or.inr h) ⟨hP, hD, va_S.rf⟩ (lv_entry av hfit)
    (fun r u H locs pc ls hp hn hw hd => W.zret hx hb hr hn (fun t ht hW => ⟨⟨r, u, rfl, hp, by rw [ht]; exact hw.1, hw.2.1⟩, hw.2.2.F ht⟩) hw.2.2.2.2 hd)
theorem m_methV {l : Launch} {y : MethodName} {ws ws' : List Cond} {rm : Room} {cc : ByteArray} {nL : Nat} {D : va_G} {cA : Nat → ClassId} {av : List Value} {w0 : va_W} {sz : Nat} {S : Type} {post : S → Prop} {w : S → va_W} (hy : plainName y.cls = true) (hws : ws = Cond.code y cc nL none :: ws') (hfit : (lg_sl av).length ≤ nL)
    (body : mBody l y ws rm cc nL D cA av w0 (fun p e s m below meth c A Q => ∀ (u : S) (H : Heap) (locs : List Loc) (pc : Nat) (ls : Array Slot), post u → mW D A s.heap (w u) H locs → decode cc pc = .ok (.return_, 1) → W p l e rm s m av.toArray below meth c H locs 0 0 Q (F0 m pc ls []))) :
    Met l y ws rm (mPc D cA av w0 sz) (va_Qv post (mB D (va_A w0 sz) w) (va_A w0 sz)) 0 0 (va_A w0 sz) := by
  refine Met.ofW (cc := cc) (maxL := nL) (ret := none) hy hws ?_
  intro p e s m args below meth c s₁ B hml hv
  obtain ⟨rfl, hsz, hP, hK, hD0⟩ := hv
  have hx := B.exec
  have hb := B.bytes
  have hr := B.returns
  have hts := atoms_spec (ws := ws) B.pre
  have hown : s.vm.findClass y.cls = some m.cls := findClass_of_methodNamed B.named
  have hlocks := B.notSynchronized
  subst hsz
  have hD := hD0.self (sz := s.heap.size)
  rw [lg_entry_eq]
  exact body p e s m below meth c (va_A w0 s.heap.size) _ _ hx hb hml hown hts hK (fun q h => Or.inr h) ⟨hP, hD, va_S.rf⟩ (lv_entry av hfit)
    (fun u H locs pc ls hp hw hd => W.vret hx hb hr (fun t ht hW => ⟨⟨u, rfl, hp, by rw [ht]; exact hw.1, hw.2.1⟩, hw.2.2.F ht⟩) hw.2.2.2.2 hd)
theorem sw_out {x : Int32} (n : Nat) (hn : n < 2 ^ 31) (h : ∀ k, k < n → ¬ x = nI k) : x.toInt < 0 ∨ (n : Int) - 1 < x.toInt := by
  rcases pk_ix x hn with q | q | ⟨j, hj, q⟩
  · exact Or.inl (by rw [Int32.lt_iff_toInt_lt] at q; exact q)
  · refine Or.inr ?_
    rw [Int32.le_iff_toInt_le, nI_toInt hn] at q
    omega
  · exact absurd q (h j hj)
theorem sw_out5 {x : Int32} (h0 : ¬ x = 0) (h1 : ¬ x = 1) (h2 : ¬ x = 2) (h3 : ¬ x = 3) (h4 : ¬ x = 4) : x.toInt < 0 ∨ 4 < x.toInt := sw_out 5 (by decide) (fun k hk => match k, hk with | 0, _ => h0 | 1, _ => h1 | 2, _ => h2 | 3, _ => h3 | 4, _ => h4)
theorem sw_out15 {x : Int32} (h0 : ¬ x = 0) (h1 : ¬ x = 1) (h2 : ¬ x = 2) (h3 : ¬ x = 3) (h4 : ¬ x = 4) (h5 : ¬ x = 5) (h6 : ¬ x = 6) (h7 : ¬ x = 7) (h8 : ¬ x = 8) (h9 : ¬ x = 9) (h10 : ¬ x = 10) (h11 : ¬ x = 11) (h12 : ¬ x = 12) (h13 : ¬ x = 13) (h14 : ¬ x = 14) : x.toInt < 0 ∨ 14 < x.toInt := sw_out 15 (by decide) (fun k hk => match k, hk with | 0, _ => h0 | 1, _ => h1 | 2, _ => h2 | 3, _ => h3 | 4, _ => h4 | 5, _ => h5 | 6, _ => h6 | 7, _ => h7 | 8, _ => h8 | 9, _ => h9 | 10, _ => h10 | 11, _ => h11 | 12, _ => h12 | 13, _ => h13 | 14, _ => h14)
