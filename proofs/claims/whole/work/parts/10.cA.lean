theorem d_A_fill_0 : decode b_A_fill 0 = .ok (.iconst 0, 1) := by decide +kernel
theorem d_A_fill_1 : decode b_A_fill 1 = .ok (.istore_n 2, 1) := by decide +kernel
theorem d_A_fill_2 : decode b_A_fill 2 = .ok (.aload_n 0, 1) := by decide +kernel
theorem d_A_fill_3 : decode b_A_fill 3 = .ok (.arraylength, 1) := by decide +kernel
theorem d_A_fill_4 : decode b_A_fill 4 = .ok (.istore_n 3, 1) := by decide +kernel
theorem d_A_fill_5 : decode b_A_fill 5 = .ok (.iload_n 2, 1) := by decide +kernel
theorem d_A_fill_6 : decode b_A_fill 6 = .ok (.iload_n 3, 1) := by decide +kernel
theorem d_A_fill_7 : decode b_A_fill 7 = .ok (.if_icmp .ge 13, 3) := by decide +kernel
theorem d_A_fill_10 : decode b_A_fill 10 = .ok (.aload_n 0, 1) := by decide +kernel
theorem d_A_fill_11 : decode b_A_fill 11 = .ok (.iload_n 2, 1) := by decide +kernel
theorem d_A_fill_12 : decode b_A_fill 12 = .ok (.iload_n 1, 1) := by decide +kernel
theorem d_A_fill_13 : decode b_A_fill 13 = .ok (.iastore, 1) := by decide +kernel
theorem d_A_fill_14 : decode b_A_fill 14 = .ok (.iinc 2 1, 3) := by decide +kernel
theorem d_A_fill_17 : decode b_A_fill 17 = .ok (.goto (-12), 3) := by decide +kernel
theorem d_A_fill_20 : decode b_A_fill 20 = .ok (.return_, 1) := by decide +kernel
def rm_A_fill : Room := { frames := 0, cells := 0, slots := 0, locals := 0 }
set_option maxHeartbeats 4000000 in
set_option maxRecDepth 100000 in
theorem c_A_fill (l : Launch) (D : va_G) (cA : Nat → ClassId) (ad : Nat → Nat) (sz : Nat) (U_told : (Nat → Int32)) (p1 : Int32) (post : (Nat → Int32) → Prop) (h : wp_A_fill U_told p1 post) : Met l y_A_fill w_A_fill rm_A_fill (mPc D cA [.ref (ad 12), .int p1] [(k_U_told cA ad U_told)] sz) (va_Qv (fun (u : (Nat → Int32)) => post u) (mB D (va_A [(k_U_told cA ad U_told)] sz) (fun (u : (Nat → Int32)) => [(k_U_told cA ad u)])) (va_A [(k_U_told cA ad U_told)] sz)) 0 0 (va_A [(k_U_told cA ad U_told)] sz) := by
  refine m_methV (by decide) rfl (Nat.le_of_ble_eq_true rfl) ?_
  intro p e s m below meth c A Q ls hx hb hml hown hts hK hA hw hl hE
  have hl : lv_has ls 4 [(0, .ref (ad 12)), (1, .int p1)] := hl
  have hown : s.vm.findClass R_A = some m.cls := hown
  have hg : ∀ {w : Cond}, w ∈ gw → w.before _ s = true := fun h => hts _ (List.mem_cons_of_mem _ h)
  obtain ⟨C5, hC5⟩ : ∃ C : Int32 → Int32 → (Nat → Int32) → Prop, ∀ (x2 : Int32) (x3 : Int32) (U_told : (Nat → Int32)), C x2 x3 U_told ↔ (∀ (H : Heap) (locs : List Loc) (ls : Array Slot), mW D A s.heap [(k_U_told cA ad U_told)] H locs → lv_has ls 4 [(0, .ref (ad 12)), (1, .int p1), (2, .int x2), (3, .int x3)] → W p l e rm_A_fill s m [.ref (ad 12), .int p1].toArray below meth c H locs 0 0 Q (F0 m 5 ls [])) := ⟨_, fun _ _ _ => Iff.rfl⟩
  have hc5 : ∀ (x2 : Int32) (x3 : Int32) (U_told : (Nat → Int32)), s_A_fill_5 p1 C5 post x2 x3 U_told → C5 x2 x3 U_told := by
    intro x2 x3 U_told h
    unfold s_A_fill_5 at h
    refine (hC5 _ _ _).2 ?_
    intro H locs ls hw hl
    refine lv_iload_n hx hb d_A_fill_5 rfl (lv_at hl 2 rfl) ?_
    refine lv_iload_n hx hb d_A_fill_6 rfl (lv_at hl 3 rfl) ?_
    refine lv_icmp_ge (tgt := 20) hx hb d_A_fill_7 (by decide) (fun hc => ?_) (fun hc => ?_)
    · have h := h.1 hc
      exact hE (U_told) _ _ _ _ h hw d_A_fill_20
    · have h := h.2 hc
      refine lv_aload_n hx hb d_A_fill_10 rfl (lv_at hl 0 rfl) ?_
      refine lv_iload_n hx hb d_A_fill_11 rfl (lv_at hl 2 rfl) ?_
      refine lv_iload_n hx hb d_A_fill_12 rfl (lv_at hl 1 rfl) ?_
      refine m_iast (ws' := [(k_U_told cA ad (upd U_told x2.toNatClampNeg p1))]) hx hb hK.1 hw 0 0 rfl rfl h.1 rfl d_A_fill_13 (fun H locs hw => ?_)
      have h := h.2
      refine lv_iinc (v := (x2 + 1)) (lv' := [(2, .int (x2 + 1)), (0, .ref (ad 12)), (1, .int p1), (3, .int x3)]) hx hb d_A_fill_14 hl (k := 2) rfl rfl (by decide) rfl (fun ls hl => ?_)
      refine lv_goto (tgt := 5) hx hb d_A_fill_17 (by decide) ?_
      exact (hC5 _ _ _).1 h _ _ _ hw (lv_sub hl [1, 2, 0, 3] rfl)
  unfold wp_A_fill at h
  have h := h C5 hc5
  refine lv_iconst (v := 0) hx hb d_A_fill_0 (by decide) ?_
  refine lv_istore_n (lv' := [(2, .int 0), (0, .ref (ad 12)), (1, .int p1)]) hx hb d_A_fill_1 rfl hl (by decide) rfl (fun ls hl => ?_)
  refine lv_aload_n hx hb d_A_fill_2 rfl (lv_at hl 1 rfl) ?_
  refine va_alen (v := 40) hx hb hK.1 hw.1 0 0 rfl rfl rfl d_A_fill_3 ?_
  refine lv_istore_n (lv' := [(3, .int 40), (2, .int 0), (0, .ref (ad 12)), (1, .int p1)]) hx hb d_A_fill_4 rfl hl (by decide) rfl (fun ls hl => ?_)
  exact (hC5 _ _ _).1 h _ _ _ hw (lv_sub hl [2, 3, 1, 0] rfl)
