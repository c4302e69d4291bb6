def strTab : List (String × Nat × String) := [(R_P, 45, "no such literal"), (R_P, 52, "no such kind of gate"), (R_P, 61, "no more gates"), (R_P, 72, "no more lines"), (R_P, 80, "no such line or literal"), (R_P, 86, "the line is an equality"), (R_P, 95, "no more literals"), (R_P, 105, "no such line"), (R_P, 113, "no such line or place"), (R_P, 122, "no such literal or gate"), (R_P, 155, "no such place"), (R_P, 171, "nothing that is counted")]
def ncTab : List (String × String) := [("java/lang/IllegalArgumentException", "java/lang/IndexOutOfBoundsException"), ("java/lang/UnsupportedOperationException", "java/lang/IndexOutOfBoundsException"), ("java/lang/UnsupportedOperationException", "java/lang/IllegalArgumentException")]
/-! Methods that throw and leave the heap alone; how the law's own methods call and catch them. -/
def exN (k : Nat) : String := match k with
  | 0 => "java/lang/IndexOutOfBoundsException"
  | 1 => "java/lang/IllegalArgumentException"
  | _ => "java/lang/UnsupportedOperationException"
def exC : List String := ["java/lang/RuntimeException", "java/lang/Exception"]
def four : List Cond := [.isRef (.static Bundle.tN "UNASSIGNED_STACK" Bundle.steD), .isRef (.static Bundle.tN "SUPPRESSED_SENTINEL" Bundle.listD), .laysStatic Bundle.tN "UNASSIGNED_STACK" Bundle.steD, .laysStatic Bundle.tN "SUPPRESSED_SENTINEL" Bundle.listD]
/-- U has the old cells of s0, and its tables, perhaps warmer -/
def old (s0 U : State) : Prop := s0.WarmedH U.vm ∧ ∀ q : Nat, q < s0.heap.size → U.heap[q]? = s0.heap[q]?
/-- what the law's start says for throws -/
def tS (s0 : State) : Prop := (∀ x ∈ strTab, ∃ sa, vk_R x.1 x.2.1 x.2.2 sa s0) ∧ (∀ w ∈ four, w.before #[] s0 = true) ∧ (Cond.initialized Bundle.tN).before #[] s0 = true ∧ ∀ x ∈ ncTab, va_Nc x.1 x.2 s0
theorem lays_old {C n d : String} {s0 U : State} {a a' : Array Value} (h : (Cond.laysStatic C n d).before a s0 = true) (ho : old s0 U) : (Cond.laysStatic C n d).before a' U = true := by
  obtain ⟨c, k, i, f, b, cell, h1, h2, h3, h4, h5, h6, h7, h8, h9⟩ := Cond.laysStatic_spec h
  obtain ⟨k', hi', he⟩ := State.fieldFound?_setVm ho.1.alike h2
  have hc : U.vm.findClass C = some c := by rw [ho.1.alike.findClass]; exact h1
  have h5' : U.heap[b]? = some cell := by rw [ho.2 b (Array.getElem?_eq_some_iff.mp h5).1]; exact h5
  exact Cond.laysStatic_of hc hi' h3 (by rw [he]; exact h4) h5' h6 h7 h8 (by rw [he]; exact h9)
theorem isRef_old {C n d : String} {s0 U : State} {a a' : Array Value} (hl : (Cond.laysStatic C n d).before a s0 = true) (hi : (Cond.initialized C).before a s0 = true) (h : (Cond.isRef (.static C n d)).before a s0 = true) (ho : old s0 U) : (Cond.isRef (.static C n d)).before a' U = true := by
  have z := va_Zqof (A := fun q => s0.heap.size ≤ q) hl hi h (fun b hb => Nat.not_le.mpr hb)
  have z1 : va_Zq C n d (fun q => s0.heap.size ≤ q) U U.heap := va_Zq.moved ho.1.alike (z.kept (fun b hb _ => ho.2 b hb))
  have one : ∀ v : Value, v.isRef = true → va_Z C n d v (fun q => s0.heap.size ≤ q) U U.heap → (Cond.isRef (.static C n d)).before a' U = true := by
    intro v hv hz
    obtain ⟨cf, kf, fi, f, b, cell, h1, h2, h3, h4, h5, h6, h7, -⟩ := hz
    have he : (Term.static C n d).eval a' U none [] U = some v := by simp [Term.eval, State.fieldNamed?, h1, h2, h4, h5, h6, h7]
    simp only [Cond.before, Cond.holds, Cond.value, he]
    cases v <;> simp_all [Value.isRef]
  rcases z1 with z1 | ⟨t, z1⟩
  · exact one _ rfl z1
  · exact one _ rfl z1
theorem four_old {s0 U : State} {a : Array Value} (h : tS s0) (ho : old s0 U) : ∀ w ∈ four, w.before a U = true := by
  have f := h.2.1
  have l1 := f (.laysStatic Bundle.tN "UNASSIGNED_STACK" Bundle.steD) (by simp [four])
  have l2 := f (.laysStatic Bundle.tN "SUPPRESSED_SENTINEL" Bundle.listD) (by simp [four])
  have r1 := f (.isRef (.static Bundle.tN "UNASSIGNED_STACK" Bundle.steD)) (by simp [four])
  have r2 := f (.isRef (.static Bundle.tN "SUPPRESSED_SENTINEL" Bundle.listD)) (by simp [four])
  intro w hw
  rcases List.mem_cons.mp hw with e | hw
  · rw [e]; exact isRef_old l1 h.2.2.1 r1 ho
  · rcases List.mem_cons.mp hw with e | hw
    · rw [e]; exact isRef_old l2 h.2.2.1 r2 ho
    · rcases List.mem_cons.mp hw with e | hw
      · rw [e]; exact lays_old l1 ho
      · rw [List.mem_singleton.mp hw]; exact lays_old l2 ho
theorem heap_same {s U : State} {k n : Nat} (h : s.sameButNew ({ U with vm := s.vm } : State) [] k n) : s.heap.size ≤ U.heap.size ∧ ∀ q : Nat, q < s.heap.size → U.heap[q]? = s.heap[q]? := by
  obtain ⟨-, h2, -, -, -, h6⟩ := h
  refine ⟨h2, fun q hq => ?_⟩
  obtain ⟨c9, e1, e2, -, e4⟩ := h6 q _ (Array.getElem?_eq_getElem hq)
  have hs : c9.slots = (s.heap[q]).slots := Array.ext_getElem? fun i => e4 i (fun z => nomatch z)
  rw [hs] at e2
  have e5 : U.heap[q]? = some c9 := e1
  rw [e5, Array.getElem?_eq_getElem hq]
  exact congrArg some e2
/-- the end of a method that throws exception k, px k, and does nothing else -/
def xT (px : Nat → Prop) : Array Value → State → Outcome → State → Prop := fun _ st oc t => ∃ (q : Addr) (k : Nat) (ce : Cell), oc = .threw q ∧ px k ∧ t.heap[q]? = some ce ∧ ce.vm = .none ∧ st.vm.findClass (exN k) = some ce.cls ∧ FrameEndT st oc t [] 1 6
def xMet (l : Launch) (y : MethodName) (ws : List Cond) (rm : Room) (Pc : Array Value → State → Prop) (px : Nat → Prop) : Prop := MetFree l y (headSpec ws rm) Pc (fun _ _ _ _ _ => True) (xT px)
def xQ (below : List Frame) (px : Nat → Prop) (a : Array Value) (s : State) : State → Prop := fun t => ∃ o, t.status = .running ∧ Ended t below o ∧ xT px a s o t
def mPcO (D : va_G) (cA : Nat → ClassId) (s0 : State) (av : List Value) (ws : va_W) (sz : Nat) : Array Value → State → Prop := va_Pc av (fun U => U.heap.size = sz ∧ va_P D vwCl ws U.heap ∧ mK D cA U ∧ va_D (fun _ => True) ws ∧ old s0 U)
theorem mPcO_blind {D : va_G} {cA : Nat → ClassId} {s0 : State} {av : List Value} {ws : va_W} {sz : Nat} : FrameBlind (mPcO D cA s0 av ws sz) := by
  intro a U g mk q
  obtain ⟨q0, q1, qP, qK, qD, qO⟩ := q
  exact ⟨q0, q1, qP, ⟨va_K.moved (u := U) (U := U.calling g mk a) (Vm.Alike.refl U.vm) qK.1, nst_same (s := U) (U := U.calling g mk a) rfl qK.2⟩, qD, qO⟩
theorem old_at {s0 s U : State} (ho : old s0 s) (hW : s.WarmedH U.vm) (hq : ∀ q : Nat, q < s0.heap.size → U.heap[q]? = s.heap[q]?) : old s0 U := ⟨State.WarmedH.trans ho.1 hW, fun q h => (hq q h).trans (ho.2 q h)⟩
theorem m_preVO {D : va_G} {cA : Nat → ClassId} {A : Nat → Prop} {s0 s : State} {ws wc : va_W} {b : Nat} {As : List Value} {C : String} {T : u_T} {N : Nat} {fs : List Value} (ci q0 : Nat) (hc : vwCl[ci]? = some (C, T, N)) (he : ws[q0]? = some (b, .inr (ci, fs))) (hK : mK D cA s) (ho : old s0 s) (hw : mW D A s.heap ws s.heap []) (isC : List Nat) (hn : va_nd isC = true) (hC : isC.map (fun i => ws[i]?) = wc.map some) : PreV s s.heap C b (mPcO D cA s0 (.ref b :: As) wc s.heap.size) As :=
  ⟨mPcO_blind, va_recv (q := (C, T, N)) hK.1 hw.1 hc he, fun U hU hW => ⟨rfl, by rw [hU], by rw [hU]; exact hw.1.sub isC (mp_fm _ _ _ hC), mK_warm hW hK, (hw.2.1.sub isC hn hC).weaken (fun _ _ _ _ => trivial), old_at ho hW (fun q _ => by rw [hU])⟩⟩
theorem m_preSO {D : va_G} {cA : Nat → ClassId} {A : Nat → Prop} {H : Heap} {locs : List Loc} {s0 s : State} {ws wc : va_W} {As : List Value} (hK : mK D cA s) (ho : ∀ U : State, U.heap = H → s.WarmedH U.vm → old s0 U) (hw : mW D A s.heap ws H locs) (isC : List Nat) (hn : va_nd isC = true) (hC : isC.map (fun i => ws[i]?) = wc.map some) : PreS s H (mPcO D cA s0 As wc H.size) As :=
  ⟨mPcO_blind, fun U hU hW => ⟨rfl, by rw [hU], by rw [hU]; exact hw.1.sub isC (mp_fm _ _ _ hC), mK_warm hW hK, (hw.2.1.sub isC hn hC).weaken (fun _ _ _ _ => trivial), ho U hU hW⟩⟩
/-- a place where 'throw new E("text")' stands -/
def mSite (own : String) (cc : ByteArray) (pc ik is ic : Nat) (tx : String) (k : Nat) (args : Array Value) (s : State) : Prop :=
  (Cond.classLink own ik (exN k)).before args s = true ∧ (Cond.initialized (exN k)).before args s = true ∧ (own, is, tx) ∈ strTab ∧ (∀ w ∈ Bundle.ownAtoms own ic (exN k) exC, w ∉ four → w.before args s = true) ∧
  decode cc pc = .ok (.new ik, 3) ∧ decode cc (pc + 3) = .ok (.dup, 1) ∧ decode cc (pc + 4) = .ok (.ldc is, 2) ∧ decode cc (pc + 6) = .ok (.invokespecial ic, 3) ∧ decode cc (pc + 9) = .ok (.athrow, 1) ∧ Bundle.fit (exN k) = true
theorem x_throw {p : Program} {l : Launch} {e : Env} {R : Room} {s0 s : State} {m : MethodId} {args : Array Value} {below : List Frame} {meth : Method} {c : Code} {cc : ByteArray} {nL : Nat} {own : String} {px : Nat → Prop} (hl9 : l.stackTraces = false) (hx : p.tables.exec = Jvm.exec) (hb : c.code = cc) (hml : c.maxLocals = nL) (hown : s.vm.findClass own = some m.cls) (hlocks : meth.locks = false) (hEx : c.exceptionTable.isEmpty = true) (hs0 : tS s0) (ho : old s0 s) (hR : 5 < R.frames ∧ 82 ≤ R.locals ∧ 1 ≤ R.cells ∧ 6 ≤ R.slots)
    {k pc : Nat} {ls : Array Slot} {ik is ic : Nat} {tx : String} (hp : px k) (hsz : ls.size = nL) (hst : mSite own cc pc ik is ic tx k args s) :
    W p l e R s m args below meth c s.heap [] 0 0 (xQ below px args s) (F0 m pc ls []) := by
  obtain ⟨h1, h2, h3, h4, d0, d3, d4, d6, d9, h6⟩ := hst
  subst hb
  intro T hT X
  have htr : e.platform.stackTraces = false := (show e.platform.stackTraces = l.stackTraces by rw [X.admits.platform]).trans hl9
  have hat : ∀ w ∈ Bundle.ownAtoms own ic (exN k) exC, w.before args s = true := fun w hw => by
    by_cases hf : w ∈ four
    · exact four_old hs0 ho w hf
    · exact h4 w hw hf
  have hins : (Cond.instantiable (exN k) 6).before args s = true := hat _ (by simp [Bundle.ownAtoms])
  obtain ⟨vm₁, cX, kX, hfX, hkX, -, -, X₁, st1⟩ := X.newCold hx (own := own) (C := exN k) (index := ik) (n := 6) hown h1 hins h2 (g := F0 m pc ls []) rfl d0 (by have := hR.2.2.1; omega) (by have := hR.2.2.2; omega)
  have hnew : ((T.setVm vm₁).pushCell { cls := cX, slots := kX.instanceTypes.map defaultValue, vm := .none }).heap[T.heap.size]? = some (freshCell cX kX) := State.heap_pushCell_size _ _
  obtain ⟨sa, hs⟩ := hs0.1 _ h3
  have hs' : vk_R own is tx sa s := vk_R.warm ho.1 hs
  have hev : (Term.string own is).eval args s none [] s = some (.ref sa) := hs'.2
  have hsr : (Cond.stringRef own is tx).before args s = true := hs'.1
  generalize ((T.setVm vm₁).pushCell { cls := cX, slots := kX.instanceTypes.map defaultValue, vm := .none }) = T1 at X₁ st1 hnew
  obtain ⟨U, hsteps, hrun, hend, hW, hsame, ce, hce, hO⟩ := X₁.ctorThrowS hx htr (own := own) (cls := exN k) (names := exC) (ic := ic) hown h6 (by decide +kernel) hat (fun z hz => nomatch hz) hfX hkX hnew (by rw [hT]; exact Nat.le_refl _) (msg := .ref sa) rfl
    (g := { method := m, pc := pc + 6, locals := ls, stack := .ref sa :: .ref T.heap.size :: .ref T.heap.size :: [], locked := none }) rfl (hsz.trans hml.symm) rfl rfl (rest := []) rfl d6 d9
    (fun z hz => by
      rw [Array.isEmpty_iff.mp hEx] at hz
      cases hz) (show 2 + 3 < R.frames from hR.1) (Nat.le_trans (show 2 * 0 + 1 + (13 * (2 + 1) + 42) ≤ 82 from Nat.le_of_ble_eq_true rfl) hR.2.1) hlocks
  refine ⟨U, ?_, .threw T.heap.size, hrun, hend, T.heap.size, k, ce, rfl, hp, hce, hO.vm, hO.cls, ⟨_, rfl⟩, hW, hsame⟩
  refine st1 _ ?_
  show Steps p.tables e below (T1.setTop { method := m, pc := pc + 3, locals := ls, stack := .ref T.heap.size :: [], locked := none }) _
  jvm_step X₁.here [X₁.here.top, hx, d3, Value.category]
  exact X₁.ldcString hx (own := own) (text := tx) (index := is) (a := sa) hown hsr hev (g := { method := m, pc := pc + 4, locals := ls, stack := .ref T.heap.size :: .ref T.heap.size :: [], locked := none }) rfl d4 _ hsteps
theorem x_meth {l : Launch} {y : MethodName} {ws ws' : List Cond} {rm : Room} {cc : ByteArray} {nL : Nat} {ret : Option FieldType} {D : va_G} {cA : Nat → ClassId} {s0 : State} {av : List Value} {w0 : va_W} {sz : Nat} {px : Nat → Prop} (hl9 : l.stackTraces = false) (hs0 : tS s0) (hy : plainName y.cls = true) (hws : ws = Cond.code y cc nL ret :: ws') (hfit : (lg_sl av).length ≤ nL) (hR : 5 < rm.frames ∧ 82 ≤ rm.locals ∧ 1 ≤ rm.cells ∧ 6 ≤ rm.slots)
    (body : mBody l y ws rm cc nL D cA av w0 (fun p e s m below meth c A Q => ∀ (k pc : Nat) (ls : Array Slot) (ik is ic : Nat) (tx : String), px k → ls.size = nL → mSite y.cls cc pc ik is ic tx k av.toArray s → W p l e rm s m av.toArray below meth c s.heap [] 0 0 Q (F0 m pc ls []))) :
    xMet l y ws rm (mPcO D cA s0 av w0 sz) px := by
  refine MetFree.of_bodyS (code := cc) (maxLocals := nL) (ret := ret) hy ?_ ?_
  · intro args s m h hn
    obtain ⟨meth, c, h1, h2, h3, h4, h5, h6, -, -⟩ := Cond.code_spec hn (atoms_spec (ws := ws) h _ (by rw [hws]; exact List.mem_cons_self))
    exact ⟨meth, c, h1, h2, h3, h4, h5, h6⟩
  · intro p e s m args below meth c s₁ B hml hv _
    obtain ⟨rfl, hsz, hP, hK, hD0, ho⟩ := hv
    have hx := B.exec
    have hb := B.bytes
    have hts := atoms_spec (ws := ws) B.pre
    have hown : s.vm.findClass y.cls = some m.cls := findClass_of_methodNamed B.named
    have hlocks := B.notSynchronized
    have hEx : c.exceptionTable.isEmpty = true := by
      obtain ⟨meth', c', h1, h2, -, -, -, -, h7, -⟩ := Cond.code_spec B.named (hts _ (by rw [hws]; exact List.mem_cons_self))
      have X : Stand p l e (headSpec ws rm).room s m av.toArray below meth c s₁ [] 0 0 := Stand.of_body B
      cases X.method.symm.trans h1
      cases X.code.symm.trans h2
      exact h7
    subst hsz
    have hD := hD0.self (sz := s.heap.size)
    have hh0 : s₁.heap = s.heap := by rw [B.state]; rfl
    have K : W p l e rm s m av.toArray below meth c s.heap [] 0 0 (xQ below px av.toArray s) (entryFrame m av.toArray nL) := by
      rw [lg_entry_eq]
      exact body p e s m below meth c (va_A w0 s.heap.size) _ _ hx hb hml hown hts hK (fun q h => Or.inr h) ⟨hP, hD, va_S.rf⟩ (lv_entry av hfit)
        (fun k pc ls ik is ic tx hp hz hst => x_throw hl9 hx hb hml hown hlocks hEx hs0 ho hR hp hz hst)
    obtain ⟨t, a1, o, b1, b2, b3⟩ := K s₁ hh0 (Stand.of_body B)
    exact ⟨t, o, a1, b1, b2, b3⟩
/-- the call of a method that throws, and its catching -/
theorem x_call {p : Program} {l : Launch} {e : Env} {R : Room} {s : State} {m : MethodId} {args : Array Value} {below : List Frame} {meth : Method} {c : Code} {H : Heap} {locs : List Loc} {cells slots : Nat} {Q : State → Prop} {cc : ByteArray} {nL : Nat} {Ts : List Cond} {own C : String} {y : MethodName} {ws : List Cond} {rm : Room} {Pc : Array Value → State → Prop} {px : Nat → Prop} {index n maxL : Nat} {bytes : ByteArray} {ret : Option FieldType} {b : Addr} {As rest : List Value} {pc : Nat} {ls : Array Slot}
    (S : CallFix p m c cc nL s args Ts own) (hM : xMet l y ws rm Pc px) (cw : CallW R s args own C index y bytes maxL ret ws rm 1 6 n) (hp : PreV s H C b Pc As) (hn : As.length = n) (hsize : ls.size = nL) (hW : 2 * (F0 m pc ls rest).monitorRoom + (rest.map fun v => v.category).sum ≤ 8) (hdg : decode cc pc = .ok (.invokevirtual index, 3)) (hf : cells + 1 ≤ R.cells ∧ slots + 6 ≤ R.slots)
    (kk : ∀ (k : Nat) (q : Addr) (H1 : Heap), px k → H.size ≤ H1.size → (∀ z : Nat, z < H.size → H1[z]? = H[z]?) →
      ∃ (pre : List ExceptionTableEntry) (x : ExceptionTableEntry) (suf : List ExceptionTableEntry) (name : String), c.exceptionTable.toList = pre ++ x :: suf ∧ (∀ z ∈ pre, covers z pc = false ∨ (z.catchType ≠ 0 ∧ ∃ nm : String, (Cond.classLink own z.catchType nm).before args s = true ∧ va_Nc (exN k) nm s)) ∧ covers x pc = true ∧ x.catchType ≠ 0 ∧ (Cond.classLink own x.catchType name).before args s = true ∧ (Cond.castable (exN k) name).before args s = true ∧ W p l e R s m args below meth c H1 locs (cells + 1) (slots + 6) Q (F0 m x.handlerPc ls [.ref q])) :
    W p l e R s m args below meth c H locs cells slots Q (F0 m pc ls (As.reverse ++ .ref b :: rest)) := by
  intro T hT X
  obtain ⟨⟨hrc, hrs, hfr, hlo, hws, hcw, hcode, hini, hy, hlen, hl⟩, hinst, hsel⟩ := cw
  obtain ⟨hexec, hb, hml, ho, -⟩ := S
  obtain ⟨hbl, ⟨cellB, hcB, hoB, hclB⟩, hPc⟩ := hp
  subst hb
  have hK : BackT l R p e below s args y 3 8 (PreOf R 1 6 Pc) (fun A _ q B => ∃ (k : Nat) (ce : Cell), px k ∧ B.U.heap[q]? = some ce ∧ ce.vm = .none ∧ A.U.vm.findClass (exN k) = some ce.cls ∧ B.locs = A.locs ∧ B.cells = A.cells + 1 ∧ B.slots = A.slots + 6 ∧ A.U.heap.size ≤ B.U.heap.size ∧ ∀ z : Nat, z < A.U.heap.size → B.U.heap[z]? = A.U.heap[z]?) := by
    refine BackT.of_free (S := headSpec ws rm) (P := Pc) (K := fun _ _ _ _ _ => True) (Q := xT px) (bytes := bytes) (maxL := maxL) (ret := ret) (E := fun _ st _ t L k n => L = [] ∧ k = 1 ∧ n = 6 ∧ st.heap.size ≤ t.heap.size ∧ ∀ z : Nat, z < st.heap.size → t.heap[z]? = st.heap[z]?) hM hfr hlo ?_ ?_ (fun _ _ _ _ _ _ _ _ _ => trivial) ?_ ?_
    · intro m' meth' c' A a' X' hp'
      exact ⟨atoms_intro fun w hw => hws w hw _ _ X'.warmed, hws _ hcw _ _ X'.warmed, word_at X'.warmed (Or.inl (by first | rfl | simp [Cond.onTables, Cond.keeps, Cond.steady])) hini, by rw [show (headSpec ws rm).room.cells = 1 from hrc]; exact hp'.1, by rw [show (headSpec ws rm).room.slots = 6 from hrs]; exact hp'.2.1⟩
    · intro m' meth' c' A a' g mk X' hp'
      exact hbl _ _ _ _ hp'.2.2
    · intro a' st o t hq
      obtain ⟨q, k, ce, -, -, -, -, -, hF⟩ := hq
      exact ⟨[], 1, 6, hF, rfl, rfl, rfl, heap_same hF.2.2⟩
    · intro m' meth' c' A a' g mk v t L k n X' hp' hq hF hE
      obtain ⟨e1, e2, e3, e4, e5⟩ := hE
      subst e1; subst e2; subst e3
      obtain ⟨q, k, ce, hv, h1, h2, h3, h4, -⟩ := hq
      cases hv
      exact ⟨k, ce, h1, h2, h3, h4, List.append_nil _, rfl, rfl, e4, e5⟩
  obtain ⟨mk, methM, hnamed, hmethM, hstM, habM⟩ := Cond.instanceMethod_spec hinst
  obtain ⟨methM', cM, hmethM', -, -, -, -, -, -, hsigM⟩ := Cond.code_spec hnamed hcode
  cases hmethM.symm.trans hmethM'
  obtain ⟨c2, r2, m2, q1, q2, q3, q4, kP, hkP, hkPi⟩ := Cond.selects_spec hsel
  cases hclB.symm.trans q1
  cases (State.methodFound?_of_named hnamed hy).symm.trans q2
  cases hnamed.symm.trans q3
  have hselP : selectMethod e.platform s.vm cellB.cls mk = .method mk := by rw [Launch.admits_selectMethod X.admits]; exact q4
  obtain ⟨vm₁, X₁, hstep₁⟩ := X.invokevirtual hexec ho hl hnamed hmethM hstM hkP hkPi hy (a := b) (cell := cellB) (by rw [hT]; exact hcB)
    (fun z h => by rw [h] at hoB; cases hoB) hselP hmethM habM hkP hkPi (g := F0 m pc ls (As.reverse ++ .ref b :: rest)) rfl (argsL := As) (rest := rest) (hn.trans (hlen _ hsigM)) rfl hdg
  obtain ⟨q, B, X', ⟨k, ce, h1, h2, h3, h4, e1, e2, e3, e4, e5⟩, hsteps⟩ := hK m meth c ⟨T.setVm vm₁, locs, cells, slots⟩ (F0 m pc ls rest) (.invokevirtual index) mk (Value.ref b :: As).toArray X₁ rfl (hsize.trans hml.symm) hdg hW (X₁.named hnamed) ⟨hf.1, hf.2, hPc _ hT X₁.warmed⟩
  obtain ⟨U', L', cs', sl'⟩ := B
  dsimp only [Pt.U, Pt.locs, Pt.cells, Pt.slots] at X' h2 h4 e1 e2 e3 e4 e5 hsteps
  subst e1; subst e2; subst e3
  have hT' : (T.setVm vm₁).heap = H := hT
  rw [hT'] at e4 e5
  have hcl : s.vm.findClass (exN k) = some ce.cls := by
    have h9 : (T.setVm vm₁).vm.findClass (exN k) = some ce.cls := h4
    rw [X₁.warmed.alike.findClass] at h9
    exact h9
  obtain ⟨pre, x, suf, name, hsp, hpass, hcov, h0, hlk, hcast, hw⟩ := kk k q U'.heap h1 e4 e5
  have hpl : e.platform.magicAccessors = ({} : Platform).magicAccessors := by rw [X.admits.platform]
  obtain ⟨c3, c4, hc3, hc4, hasg⟩ := Cond.castable_spec hcast
  cases Option.some.inj (hc3.symm.trans hcl)
  obtain ⟨c5, hc5, hcl5⟩ := Cond.classLink_spec ho hlk e.platform hpl
  cases Option.some.inj (hc4.symm.trans hc5)
  obtain ⟨vm', X'', st⟩ := X'.caughtThrough q (g := F0 m pc ls rest) rfl h2 (by rw [h3]; rfl) (by obtain ⟨k9, h9, -⟩ := Vm.findClass_spec hcl; exact ⟨k9, h9⟩) pre x suf hsp
    (fun z hz => by
      rcases hpass z hz with h | ⟨hz0, nm, hl1, hn1⟩
      · exact Or.inl h
      · obtain ⟨c6, hc6, hcl6⟩ := Cond.classLink_spec ho hl1 e.platform hpl
        obtain ⟨a8, b8, p1, p2, p3⟩ := hn1
        cases Option.some.inj (p1.symm.trans hcl)
        cases Option.some.inj (p2.symm.trans hc6)
        exact Or.inr ⟨hz0, _, hcl6, p3⟩) hcov (Or.inr ⟨h0, c4, hcl5, hasg⟩)
  obtain ⟨t, a1, b1⟩ := hw (U'.setVm vm') rfl X''
  refine ⟨t, hstep₁ _ fun acts => ?_, b1⟩
  rw [doInvoke_state]
  rw [X'.pushThrowing_eq] at hsteps
  exact hsteps.trans (st _ a1)
theorem m_keep {D : va_G} {A : Nat → Prop} {H0 H H1 : Heap} {ws : va_W} (hw : mW D A H0 ws H []) (hz : H.size ≤ H1.size) (hk : ∀ z : Nat, z < H.size → H1[z]? = H[z]?) : mW D A H0 ws H1 [] :=
  ⟨hw.1.kept (fun k q hq => hk q.1 ((hw.1 k q hq).lt)), hw.2.1, Nat.le_trans hw.2.2.1 hz, fun q q1 q2 => (hk q (Nat.lt_of_lt_of_le q1 hw.2.2.1)).trans (hw.2.2.2.1 q q1 q2), hw.2.2.2.2⟩
theorem m_methW {l : Launch} {y : MethodName} {ws ws' : List Cond} {rm : Room} {cc : ByteArray} {nL : Nat} {hh : List (Nat × Nat × Nat × Nat)} {D : va_G} {cA : Nat → ClassId} {s0 : State} {av : List Value} {w0 : va_W} {sz : Nat} {S : Type} {post : Int32 → S → Prop} {w : S → va_W} (hy : plainName y.cls = true) (hws : ws = Cond.codeWith y cc nL (some .int) hh :: ws') (hfit : (lg_sl av).length ≤ nL)
    (body : ∀ (p : Program) (e : Env) (s : State) (m : MethodId) (below : List Frame) (meth : Method) (c : Code) (A : Nat → Prop) (Q : State → Prop) (ls : Array Slot), p.tables.exec = Jvm.exec → c.code = cc → c.maxLocals = nL → s.vm.findClass y.cls = some m.cls → (∀ w ∈ ws, w.before av.toArray s = true) → mK D cA s → old s0 s → c.exceptionTable.toList = hh.map (fun q => ⟨q.1, q.2.1, q.2.2.1, q.2.2.2⟩) → (∀ q : Nat, s.heap.size ≤ q → A q) → mW D A s.heap w0 s.heap [] → lv_has ls nL (lv_args 0 av) →
      (∀ (r : Int32) (u : S) (H : Heap) (locs : List Loc) (pc : Nat) (ls : Array Slot), post r u → mW D A s.heap (w u) H locs → decode cc pc = .ok (.ireturn, 1) → W p l e rm s m av.toArray below meth c H locs 1 6 Q (F0 m pc ls [.int r])) → W p l e rm s m av.toArray below meth c s.heap [] 0 0 Q (F0 m 0 ls [])) :
    Met l y ws rm (mPcO D cA s0 av w0 sz) (va_Qi post (mB D (va_A w0 sz) w) (va_A w0 sz)) 1 6 (va_A w0 sz) := by
  refine va_MetW (cc := cc) (maxL := nL) (ret := some .int) (hh := hh) hy hws ?_
  intro p e s m args below meth c s₁ B hml hv
  obtain ⟨rfl, hsz, hP, hK, hD0, ho⟩ := hv
  have hx := B.exec
  have hb := B.bytes
  have hr := B.returns
  have hts := atoms_spec (ws := ws) B.pre
  have hown : s.vm.findClass y.cls = some m.cls := findClass_of_methodNamed B.named
  have hlocks := B.notSynchronized
  have hTab : c.exceptionTable.toList = hh.map (fun q => ⟨q.1, q.2.1, q.2.2.1, q.2.2.2⟩) := by
    obtain ⟨m', meth', c', h0, h1, h2, -, -, h5, -, -, -⟩ := Cond.codeWith_spec (hts _ (by rw [hws]; exact List.mem_cons_self))
    have X : Stand p l e (headSpec ws rm).room s m av.toArray below meth c s₁ [] 0 0 := Stand.of_body B
    cases h0.symm.trans B.named
    cases X.method.symm.trans h1
    cases X.code.symm.trans h2
    rw [← h5, List.map_map]
    exact (List.map_id _).symm
  subst hsz
  have hD := hD0.self (sz := s.heap.size)
  rw [lg_entry_eq]
  exact body p e s m below meth c (va_A w0 s.heap.size) _ _ hx hb hml hown hts hK ho hTab (fun q h => Or.inr h) ⟨hP, hD, va_S.rf⟩ (lv_entry av hfit)
    (fun r u H locs pc ls hp hw hd => W.iret hx hb hr (fun t ht hW => ⟨⟨r, u, rfl, hp, by rw [ht]; exact hw.1, hw.2.1⟩, hw.2.2.F ht⟩) hw.2.2.2.2 hd)
theorem nc_old {s0 s : State} (hs0 : tS s0) (ho : old s0 s) {E nm : String} (h : (E, nm) ∈ ncTab) : va_Nc E nm s := va_Nc.moved ho.1.alike (hs0.2.2.2 _ h)
theorem at_0 : ∀ w ∈ Bundle.ownAtoms R_P 47 (exN 0) exC, (w ∈ lw_tbl ∧ goodWord w = true) ∨ (w ∈ tables_1 ∧ isNest w = true) ∨ w ∈ four := by decide +kernel
theorem site_0 {args : Array Value} {s : State} (hg : ∀ {w : Cond}, w ∈ gw → w.before args s = true) (hn : nst s) : ∀ w ∈ Bundle.ownAtoms R_P 47 (exN 0) exC, w ∉ four → w.before args s = true := fun w hw hf => (at_0 w hw).elim (fun q => hg (List.mem_filter.mpr q)) (fun q => q.elim (fun q => va_Nw.use (nest_tab w (List.mem_filter.mpr q)) (hn w (List.mem_filter.mpr q))) (fun q => absurd q hf))
theorem at_1 : ∀ w ∈ Bundle.ownAtoms R_P 54 (exN 1) exC, (w ∈ lw_tbl ∧ goodWord w = true) ∨ (w ∈ tables_1 ∧ isNest w = true) ∨ w ∈ four := by decide +kernel
theorem site_1 {args : Array Value} {s : State} (hg : ∀ {w : Cond}, w ∈ gw → w.before args s = true) (hn : nst s) : ∀ w ∈ Bundle.ownAtoms R_P 54 (exN 1) exC, w ∉ four → w.before args s = true := fun w hw hf => (at_1 w hw).elim (fun q => hg (List.mem_filter.mpr q)) (fun q => q.elim (fun q => va_Nw.use (nest_tab w (List.mem_filter.mpr q)) (hn w (List.mem_filter.mpr q))) (fun q => absurd q hf))
theorem at_2 : ∀ w ∈ Bundle.ownAtoms R_P 63 (exN 2) exC, (w ∈ lw_tbl ∧ goodWord w = true) ∨ (w ∈ tables_1 ∧ isNest w = true) ∨ w ∈ four := by decide +kernel
theorem site_2 {args : Array Value} {s : State} (hg : ∀ {w : Cond}, w ∈ gw → w.before args s = true) (hn : nst s) : ∀ w ∈ Bundle.ownAtoms R_P 63 (exN 2) exC, w ∉ four → w.before args s = true := fun w hw hf => (at_2 w hw).elim (fun q => hg (List.mem_filter.mpr q)) (fun q => q.elim (fun q => va_Nw.use (nest_tab w (List.mem_filter.mpr q)) (hn w (List.mem_filter.mpr q))) (fun q => absurd q hf))
