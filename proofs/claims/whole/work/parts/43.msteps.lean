/-! Unit steps of the reference: its values are told gates below the number of gates. -/
def mk (n : Nat) (t : Nat → Int32) : Nat → Int32 := fun g => if g < n then t g else 2
theorem mk_in {n g : Nat} {t : Nat → Int32} (h : g < n) : mk n t g = t g := if_pos h
theorem mk_upd {n g : Nat} {t : Nat → Int32} {v : Int32} (h : g < n) : upd (mk n t) g v = mk n (upd t g v) := by
  funext k
  by_cases e : k = g
  · subst e; rw [pk_us, mk_in h, pk_us]
  · rw [pk_un e]; unfold mk; rw [pk_un e]
theorem lit_half2 {l : Nat} (h : l < 2 ^ 31) : nI l / 2 = nI (l / 2) := pk_div (d := 2) h (by decide) (by decide)
theorem value_r {n : Nat} (hn : n ≤ 40) {t : Nat → Int32} (hT : tOK (mk n t)) {l : Nat} (hl : l < 2 * n) {post : Int32 → Prop} (k : ∀ r, (∀ b, r = bI b ↔ dl (tl (mk n t)) l b) → (r = 2 ∨ ∃ b, r = bI b) → post r) : wp_M_value t (nI l) post := by
  have hq := toldOf_r (post := post) hT (by omega : l < 80) k
  unfold wp_U_toldOf at hq
  rw [lit_half (by omega), nI_clamp (by omega : l / 2 < 2 ^ 31), mk_in (by omega)] at hq
  unfold wp_M_value
  rw [lit_half2 (by omega), nI_clamp (by omega : l / 2 < 2 ^ 31)]
  exact hq
theorem tell_M {n : Nat} (hn : n ≤ 40) {Dr : Nat → Bool → Prop} {Cf : Prop} (hcf : ∀ g, Dr g true → Dr g false → Cf) {t : Nat → Int32} {cf ch : Int32} (h : uS Dr Cf (mk n t) cf ch) {l : Nat} (hl : l < 2 * n) (b : Bool) (hd : dl Dr l b) {post : Int32 → Int32 → (Nat → Int32) → Prop} (k : ∀ cf' ch' t', uR Dr Cf (mk n t) cf ch (mk n t') cf' ch' → (cf' = 0 → dl (tl (mk n t')) l b) → post cf' ch' t') : wp_M_tell cf ch t (nI l) (bI b) post := by
  have hq := tell_R (post := fun cf' ch' u => uR Dr Cf (mk n t) cf ch u cf' ch' ∧ (cf' = 0 → dl (tl u) l b)) hcf h (by omega : l < 80) b hd (fun _ _ _ x y => ⟨x, y⟩)
  have hg : l / 2 < n := by omega
  unfold wp_U_tell at hq
  rw [lit_half (by omega), lit_low (by omega), bI_xor, nI_clamp (by omega : l / 2 < 2 ^ 31), mk_in hg] at hq
  obtain ⟨hin, q1, q2⟩ := hq
  have hT := h.1 (l / 2) (by omega)
  rw [mk_in hg] at hT
  unfold wp_M_tell wp_M_value s_M_tell_28 s_M_tell_24 s_M_tell_29
  rw [lit_half2 (by omega), lit_low (by omega), bI_xor, nI_clamp (by omega : l / 2 < 2 ^ 31)]
  have c1 : ¬ cf = 0 → cf = 1 := fun e => h.2.2.1.resolve_left e
  refine ⟨hin, br_c (fun h2 => ?_) (fun h2 => ?_)⟩
  · have q := (q1 h2).2
    rw [mk_upd hg] at q
    refine br_c (fun e0 => br_t rfl ⟨isB_0, br_t rfl ⟨hin, ?_⟩⟩) (fun e0 => ⟨isB_1, br_t rfl ⟨hin, ?_⟩⟩)
    · rw [e0] at q k; exact k _ _ _ q.1 q.2
    · rw [c1 e0] at q k; exact k _ _ _ q.1 q.2
  · obtain ⟨w, hw⟩ := hT.resolve_left h2
    have qq := (q2 h2).2
    rw [hw] at qq ⊢
    rw [bI_xor]
    have ew : ∀ {d : Bool}, w = (b ^^ d) ↔ (w ^^ d) = b := by intro d; cases w <;> cases b <;> cases d <;> decide
    refine br_c (fun e0 => br_f (bI_ne2 _) (br_c (fun e => ⟨isB_0, br_f (bI_ne2 _) ?_⟩) (fun e => ⟨isB_1, br_f (bI_ne2 _) ?_⟩))) (fun e0 => ⟨isB_1, br_f (bI_ne2 _) ?_⟩)
    · have q := qq.1 (by rw [ew.2 (bI_inj e)])
      rw [e0] at q k; exact k _ _ _ q.1 q.2
    · have q := qq.2 (fun z => e (by rw [ew.1 (bI_inj z)]))
      exact k _ _ _ q.1 q.2
    · by_cases z : bI w = bI (b ^^ decide (l % 2 = 1))
      · have q := qq.1 z
        rw [c1 e0] at q k; exact k _ _ _ q.1 q.2
      · have q := qq.2 z
        exact k _ _ _ q.1 q.2
theorem and_M {n : Nat} (hn : n ≤ 40) {Dr : Nat → Bool → Prop} {Cf : Prop} (hcf : ∀ g, Dr g true → Dr g false → Cf) {t : Nat → Int32} {cf ch : Int32} (h : uS Dr Cf (mk n t) cf ch) {g a b : Nat} (hg : g < n) (ha : a < 2 * n) (hb : b < 2 * n) {O W : Nat → Int32} (eO : O g = nI a) (eW : W g = nI b) (hd : dAnd Dr g a b) {post : Int32 → Int32 → (Nat → Int32) → Prop} (k : ∀ cf' ch' t', uR Dr Cf (mk n t) cf ch (mk n t') cf' ch' → (cf' = 0 → ch' = 0 → dAnd (tl (mk n t')) g a b) → post cf' ch' t') : wp_M_and cf ch O W t (nI g) post := by
  obtain ⟨d1, d2, d3, d4, d5, d6, d7⟩ := hd
  have up : ∀ {l b}, dl (tl (mk n t)) l b → dl Dr l b := fun q => h.2.1 _ _ q
  have cl : (nI g).toNatClampNeg = g := nI_clamp (by omega)
  have vin : vp_in (nI g) 40 := vp_in_nI (by omega) (by decide)
  unfold wp_M_and
  rw [cl, eO, eW, two_nI]
  refine ⟨vin, value_r hn h.1 ha (fun x hx _ => ⟨vin, value_r hn h.1 hb (fun y hy _ => value_r hn h.1 (by omega : 2 * g < 2 * n) (fun w hw' _ => ?_))⟩)⟩
  have hw : ∀ b, w = bI b ↔ tl (mk n t) g b := fun b => (hw' b).trans dl_even
  have x0 : x = 0 ↔ dl (tl (mk n t)) a false := hx false
  have x1 : x = 1 ↔ dl (tl (mk n t)) a true := hx true
  have y0 : y = 0 ↔ dl (tl (mk n t)) b false := hy false
  have y1 : y = 1 ↔ dl (tl (mk n t)) b true := hy true
  have w0 : w = 0 ↔ tl (mk n t) g false := hw false
  have w1 : w = 1 ↔ tl (mk n t) g true := hw true
  have fin : ∀ cf' ch' t', uR Dr Cf (mk n t) cf ch (mk n t') cf' ch' → (cf' = 0 → (x = 0 ∨ y = 0) → tl (mk n t') g false) → (cf' = 0 → x = 1 → y = 1 → tl (mk n t') g true) → (cf' = 0 → w = 1 → dl (tl (mk n t')) a true ∧ dl (tl (mk n t')) b true) → (cf' = 0 → w = 0 → x = 1 → dl (tl (mk n t')) b false) → (cf' = 0 → w = 0 → y = 1 → dl (tl (mk n t')) a false) → post cf' ch' t' := by
    intro cf' ch' t' hr e1 e2 e3 e4 e5
    refine k cf' ch' t' hr (fun hc hh => ?_)
    have et : mk n t' = mk n t := (hr.2.2.2.1 hh).2
    rw [et] at e1 e2 e3 e4 e5 ⊢
    exact ⟨fun q => e1 hc (Or.inl (x0.2 q)), fun q => e1 hc (Or.inr (y0.2 q)), fun q q' => e2 hc (x1.2 q) (y1.2 q'), fun q => (e3 hc (w1.2 q)).1, fun q => (e3 hc (w1.2 q)).2, fun q q' => e4 hc (w0.2 q) (x1.2 q'), fun q q' => e5 hc (w0.2 q) (y1.2 q')⟩
  have j95 : ∀ cf' ch' t', uR Dr Cf (mk n t) cf ch (mk n t') cf' ch' → (cf' = 0 → (x = 0 ∨ y = 0) → tl (mk n t') g false) → (cf' = 0 → x = 1 → y = 1 → tl (mk n t') g true) → (cf' = 0 → w = 1 → dl (tl (mk n t')) a true ∧ dl (tl (mk n t')) b true) → (cf' = 0 → w = 0 → x = 1 → dl (tl (mk n t')) b false) → s_M_and_114 O W (nI g) post y w cf' ch' t' := by
    intro cf1 ch1 t1 hr e1 e2 e3 e4
    unfold s_M_and_114
    rw [cl, eO]
    refine br2 (fun q0 q1 => ⟨vin, ?_⟩) (fun q => fin _ _ _ hr e1 e2 e3 e4 (fun _ a b => absurd ⟨a, b⟩ q))
    refine tell_M hn hcf hr.1 ha false (d7 (h.2.1 _ _ (w0.1 q0)) (up (y1.1 q1))) (fun cf2 ch2 t2 r2 c2 => ?_)
    have z : cf2 = 0 → cf1 = 0 := r2.2.2.1
    exact fin _ _ _ (uR_tr hr r2) (fun o p => r2.2.1 _ _ (e1 (z o) p)) (fun o p p' => r2.2.1 _ _ (e2 (z o) p p')) (fun o p => ⟨uR_dl r2 (e3 (z o) p).1, uR_dl r2 (e3 (z o) p).2⟩) (fun o p p' => uR_dl r2 (e4 (z o) p p')) (fun o _ _ => c2 o)
  have j78 : ∀ cf' ch' t', uR Dr Cf (mk n t) cf ch (mk n t') cf' ch' → (cf' = 0 → (x = 0 ∨ y = 0) → tl (mk n t') g false) → (cf' = 0 → x = 1 → y = 1 → tl (mk n t') g true) → (cf' = 0 → w = 1 → dl (tl (mk n t')) a true ∧ dl (tl (mk n t')) b true) → s_M_and_93 O W (nI g) post x y w cf' ch' t' := by
    intro cf1 ch1 t1 hr e1 e2 e3
    unfold s_M_and_93
    rw [cl, eW]
    refine br2 (fun q0 q1 => ⟨vin, ?_⟩) (fun q => j95 _ _ _ hr e1 e2 e3 (fun _ a b => absurd ⟨a, b⟩ q))
    refine tell_M hn hcf hr.1 hb false (d6 (h.2.1 _ _ (w0.1 q0)) (up (x1.1 q1))) (fun cf2 ch2 t2 r2 c2 => ?_)
    have z : cf2 = 0 → cf1 = 0 := r2.2.2.1
    exact j95 _ _ _ (uR_tr hr r2) (fun o p => r2.2.1 _ _ (e1 (z o) p)) (fun o p p' => r2.2.1 _ _ (e2 (z o) p p')) (fun o p => ⟨uR_dl r2 (e3 (z o) p).1, uR_dl r2 (e3 (z o) p).2⟩) (fun o _ _ => c2 o)
  have j60 : ∀ cf' ch' t', uR Dr Cf (mk n t) cf ch (mk n t') cf' ch' → (cf' = 0 → (x = 0 ∨ y = 0) → tl (mk n t') g false) → (cf' = 0 → x = 1 → y = 1 → tl (mk n t') g true) → s_M_and_65 O W (nI g) post x y w cf' ch' t' := by
    intro cf1 ch1 t1 hr e1 e2
    unfold s_M_and_65
    rw [cl, eO, eW]
    refine br_c (fun q => ⟨vin, ?_⟩) (fun q => j78 _ _ _ hr e1 e2 (fun _ a => absurd a q))
    refine tell_M hn hcf hr.1 ha true (d4 (h.2.1 _ _ (w1.1 q))) (fun cf2 ch2 t2 r2 c2 => ⟨vin, ?_⟩)
    refine tell_M hn hcf r2.1 hb true (d5 (h.2.1 _ _ (w1.1 q))) (fun cf3 ch3 t3 r3 c3 => ?_)
    have z : cf3 = 0 → cf2 = 0 := r3.2.2.1
    have z2 : cf2 = 0 → cf1 = 0 := r2.2.2.1
    have r23 := uR_tr r2 r3
    exact j78 _ _ _ (uR_tr hr r23) (fun o p => r23.2.1 _ _ (e1 (z2 (z o)) p)) (fun o p p' => r23.2.1 _ _ (e2 (z2 (z o)) p p')) (fun o _ => ⟨uR_dl r3 (c2 (z o)), c3 o⟩)
  have j40 : ∀ cf' ch' t', uR Dr Cf (mk n t) cf ch (mk n t') cf' ch' → (cf' = 0 → (x = 0 ∨ y = 0) → tl (mk n t') g false) → s_M_and_47 O W (nI g) post x y w cf' ch' t' := by
    intro cf1 ch1 t1 hr e1
    unfold s_M_and_47
    rw [two_nI]
    refine br2 (fun q0 q1 => ?_) (fun q => j60 _ _ _ hr e1 (fun _ a b => absurd ⟨a, b⟩ q))
    refine tell_M hn hcf hr.1 (by omega : 2 * g < 2 * n) true (dl_even.2 (d3 (up (x1.1 q0)) (up (y1.1 q1)))) (fun cf2 ch2 t2 r2 c2 => ?_)
    exact j60 _ _ _ (uR_tr hr r2) (fun o p => r2.2.1 _ _ (e1 (r2.2.2.1 o) p)) (fun o _ _ => dl_even.1 (c2 o))
  have j32 : (x = 0 ∨ y = 0) → s_M_and_39 O W (nI g) post x y w cf ch t := by
    intro q
    unfold s_M_and_39
    rw [two_nI]
    refine tell_M hn hcf h (by omega : 2 * g < 2 * n) false (dl_even.2 (q.elim (fun q => d1 (up (x0.1 q))) (fun q => d2 (up (y0.1 q))))) (fun cf2 ch2 t2 r2 c2 => ?_)
    exact j40 _ _ _ r2 (fun o _ => dl_even.1 (c2 o))
  exact br_c (fun q => j32 (Or.inl q)) (fun q => br_c (fun q' => j32 (Or.inr q')) (fun q' => j40 _ _ _ (uR_rf h) (fun _ p => p.elim (fun z => absurd z q) (fun z => absurd z q'))))
theorem either_M {n : Nat} (hn : n ≤ 40) {Dr : Nat → Bool → Prop} {Cf : Prop} (hcf : ∀ g, Dr g true → Dr g false → Cf) {t : Nat → Int32} {cf ch : Int32} (h : uS Dr Cf (mk n t) cf ch) {g a b : Nat} (hg : g < n) (ha : a < 2 * n) (hb : b < 2 * n) {O W : Nat → Int32} (eO : O g = nI a) (eW : W g = nI b) (hd : dXor Dr g a b) {post : Int32 → Int32 → (Nat → Int32) → Prop} (k : ∀ cf' ch' t', uR Dr Cf (mk n t) cf ch (mk n t') cf' ch' → (cf' = 0 → ch' = 0 → dXor (tl (mk n t')) g a b) → post cf' ch' t') : wp_M_either cf ch O W t (nI g) post := by
  obtain ⟨d1, d2, d3⟩ := hd
  have up : ∀ {l b}, dl (tl (mk n t)) l b → dl Dr l b := fun q => h.2.1 _ _ q
  have cl : (nI g).toNatClampNeg = g := nI_clamp (by omega)
  have vin : vp_in (nI g) 40 := vp_in_nI (by omega) (by decide)
  unfold wp_M_either
  rw [cl, eO, eW, two_nI]
  refine ⟨vin, value_r hn h.1 ha (fun x hx x2 => ⟨vin, value_r hn h.1 hb (fun y hy y2 => value_r hn h.1 (by omega : 2 * g < 2 * n) (fun w hw' w2 => ?_))⟩)⟩
  have hw : ∀ b, w = bI b ↔ tl (mk n t) g b := fun b => (hw' b).trans dl_even
  have n2 : ∀ {b}, ¬ bI b = 2 := fun {b} => bI_ne2 b
  have fin : ∀ cf' ch' t', uR Dr Cf (mk n t) cf ch (mk n t') cf' ch' → (cf' = 0 → ∀ u v, x = bI u → y = bI v → tl (mk n t') g (u ^^ v)) → (cf' = 0 → ∀ u v, w = bI u → x = bI v → dl (tl (mk n t')) b (u ^^ v)) → (cf' = 0 → ∀ u v, w = bI u → y = bI v → dl (tl (mk n t')) a (u ^^ v)) → post cf' ch' t' := by
    intro cf' ch' t' hr e1 e2 e3
    refine k cf' ch' t' hr (fun hc hh => ?_)
    have et : mk n t' = mk n t := (hr.2.2.2.1 hh).2
    rw [et] at e1 e2 e3 ⊢
    exact ⟨fun u v p q => e1 hc u v ((hx _).2 p) ((hy _).2 q), fun u v p q => e2 hc u v ((hw _).2 p) ((hx _).2 q), fun u v p q => e3 hc u v ((hw _).2 p) ((hy _).2 q)⟩
  have j68 : ∀ cf' ch' t', uR Dr Cf (mk n t) cf ch (mk n t') cf' ch' → (cf' = 0 → ∀ u v, x = bI u → y = bI v → tl (mk n t') g (u ^^ v)) → (cf' = 0 → ∀ u v, w = bI u → x = bI v → dl (tl (mk n t')) b (u ^^ v)) → s_M_either_76 O W (nI g) post y w cf' ch' t' := by
    intro cf1 ch1 t1 hr e1 e2
    unfold s_M_either_76
    rw [cl, eO]
    refine br3 (fun q p => ⟨vin, ?_⟩) (fun p => fin _ _ _ hr e1 e2 (fun _ u v p1 p2 => by
      rcases p with p | p
      · exact absurd (p2.symm.trans p) n2
      · exact absurd (p1.symm.trans p) n2))
    obtain ⟨u, eu⟩ := w2.resolve_left p
    obtain ⟨v, ev⟩ := y2.resolve_left q
    rw [eu, ev, bI_xx, Bool.xor_comm]
    refine tell_M hn hcf hr.1 ha (u ^^ v) (d3 u v (h.2.1 _ _ ((hw u).1 eu)) (up ((hy v).1 ev))) (fun cf2 ch2 t2 r2 c2 => ?_)
    have z : cf2 = 0 → cf1 = 0 := r2.2.2.1
    exact fin _ _ _ (uR_tr hr r2) (fun o u v p q => r2.2.1 _ _ (e1 (z o) u v p q)) (fun o u v p q => uR_dl r2 (e2 (z o) u v p q)) (fun o u' v' p q => by
      rw [← bI_inj (eu.symm.trans p), ← bI_inj (ev.symm.trans q)]; exact c2 o)
  have j46 : ∀ cf' ch' t', uR Dr Cf (mk n t) cf ch (mk n t') cf' ch' → (cf' = 0 → ∀ u v, x = bI u → y = bI v → tl (mk n t') g (u ^^ v)) → s_M_either_51 O W (nI g) post x y w cf' ch' t' := by
    intro cf1 ch1 t1 hr e1
    unfold s_M_either_51
    rw [cl, eW]
    refine br3 (fun q p => ⟨vin, ?_⟩) (fun p => j68 _ _ _ hr e1 (fun _ u v p1 p2 => by
      rcases p with p | p
      · exact absurd (p2.symm.trans p) n2
      · exact absurd (p1.symm.trans p) n2))
    obtain ⟨u, eu⟩ := w2.resolve_left p
    obtain ⟨v, ev⟩ := x2.resolve_left q
    rw [eu, ev, bI_xx, Bool.xor_comm]
    refine tell_M hn hcf hr.1 hb (u ^^ v) (d2 u v (h.2.1 _ _ ((hw u).1 eu)) (up ((hx v).1 ev))) (fun cf2 ch2 t2 r2 c2 => ?_)
    have z : cf2 = 0 → cf1 = 0 := r2.2.2.1
    have q := j68 _ _ _ (uR_tr hr r2) (fun o u v p q => r2.2.1 _ _ (e1 (z o) u v p q)) (fun o u' v' p q => by
      rw [← bI_inj (eu.symm.trans p), ← bI_inj (ev.symm.trans q)]; exact c2 o)
    rw [eu] at q
    exact q
  refine br3 (fun p q => ?_) (fun p => j46 _ _ _ (uR_rf h) (fun _ u v p1 p2 => by
      rcases p with p | p
      · exact absurd (p1.symm.trans p) n2
      · exact absurd (p2.symm.trans p) n2))
  obtain ⟨u, eu⟩ := x2.resolve_left p
  obtain ⟨v, ev⟩ := y2.resolve_left q
  rw [eu, ev, bI_xx]
  refine tell_M hn hcf h (by omega : 2 * g < 2 * n) (u ^^ v) (dl_even.2 (d1 u v (up ((hx u).1 eu)) (up ((hy v).1 ev)))) (fun cf2 ch2 t2 r2 c2 => ?_)
  have q := j46 _ _ _ r2 (fun o u' v' p q => by
    rw [← bI_inj (eu.symm.trans p), ← bI_inj (ev.symm.trans q)]; exact dl_even.1 (c2 o))
  rw [eu, ev] at q
  exact q
theorem equality_M {n : Nat} (hn : n ≤ 40) {Dr : Nat → Bool → Prop} {Cf : Prop} (hcf : ∀ g, Dr g true → Dr g false → Cf) {t : Nat → Int32} {cf ch : Int32} (h : uS Dr Cf (mk n t) cf ch) {j a b : Nat} (hj : j < 24) {T : Nat → Int32} (e0 : T (6 * j) = nI a) (e1 : T (6 * j + 1) = nI b) (ha : a < 2 * n) (hb : b < 2 * n) (hd : dEq Dr a b) {post : Int32 → Int32 → (Nat → Int32) → Prop} (k : ∀ cf' ch' t', uR Dr Cf (mk n t) cf ch (mk n t') cf' ch' → (cf' = 0 → ch' = 0 → dEq (tl (mk n t')) a b) → post cf' ch' t') : wp_M_equality cf ch T t (nI j) post := by
  obtain ⟨d1, d2⟩ := hd
  have i0 : (6 : Int32) * nI j = nI (6 * j) := pk_mul 6 j
  unfold wp_M_equality
  rw [i0, nI_1, nI_clamp (by omega : 6 * j < 2 ^ 31), nI_clamp (by omega : 6 * j + 1 < 2 ^ 31), e0, e1]
  have j41 : ∀ cf' ch' t', uR Dr Cf (mk n t) cf ch (mk n t') cf' ch' → (cf' = 0 → ∀ u, dl (tl (mk n t)) a u → dl (tl (mk n t')) b u) → s_M_equality_41 T (nI j) post (nI a) (nI b) cf' ch' t' := by
    intro cf1 ch1 t1 hr e
    unfold s_M_equality_41
    refine value_r hn hr.1.1 hb (fun r hr1 r2 => br_c (fun p => ?_) (fun p => ?_))
    · refine k _ _ _ hr (fun oc oh => ?_)
      have et : mk n t1 = mk n t := (hr.2.2.2.1 oh).2
      rw [et] at e hr1 ⊢
      exact ⟨e oc, fun x hx => absurd (((hr1 x).2 hx).symm.trans p) (bI_ne2 x)⟩
    · obtain ⟨v, ev⟩ := r2.resolve_left p
      refine value_r hn hr.1.1 hb (fun r' hr' r2' => ?_)
      have er : r' = bI v := (hr' v).2 ((hr1 v).1 ev)
      rw [er]
      refine tell_M hn hcf hr.1 ha v (d2 v (hr.1.2.1 _ _ ((hr1 v).1 ev))) (fun cf2 ch2 t2 q2 c2 => k _ _ _ (uR_tr hr q2) (fun oc oh => ?_))
      have et2 : mk n t2 = mk n t1 := (q2.2.2.2.1 oh).2
      have et : mk n t1 = mk n t := (hr.2.2.2.1 (q2.2.2.2.1 oh).1).2
      rw [et2] at c2 ⊢
      rw [et] at e hr1 c2 ⊢
      refine ⟨e (q2.2.2.1 oc), fun x hx => ?_⟩
      have ex : bI x = bI v := ((hr1 x).2 hx).symm.trans ev
      rw [bI_inj ex]; exact c2 oc
  refine ⟨vp_in_nI (by omega) (by decide), vp_in_nI (by omega) (by decide), value_r hn h.1 ha (fun r hr r2 => br_c (fun p => j41 _ _ _ (uR_rf h) (fun _ u q => absurd (((hr u).2 q).symm.trans p) (bI_ne2 u))) (fun p => value_r hn h.1 ha (fun r' hr' r2' => ?_)))⟩
  obtain ⟨v, ev⟩ := r2.resolve_left p
  have er : r' = bI v := (hr' v).2 ((hr v).1 ev)
  rw [er]
  refine tell_M hn hcf h hb v (d1 v (h.2.1 _ _ ((hr v).1 ev))) (fun cf2 ch2 t2 q2 c2 => j41 _ _ _ q2 (fun oc u hu => ?_))
  have ex : bI u = bI v := ((hr u).2 hu).symm.trans ev
  rw [bI_inj ex]; exact c2 oc
theorem clause_M {n : Nat} (hn : n ≤ 40) {Dr : Nat → Bool → Prop} {Cf : Prop} (hcf : ∀ g, Dr g true → Dr g false → Cf) {t : Nat → Int32} {cf ch : Int32} (h : uS Dr Cf (mk n t) cf ch) {Z T : Nat → Int32} {j z : Nat} {lt : Nat → Nat} (hj : j < 24) (hz : Z j = nI z) (hz6 : z ≤ 6) (hT : ∀ i, i < z → T (6 * j + i) = nI (lt i) ∧ lt i < 2 * n) (hd : dCl Dr z lt) (hall : (∀ i, i < z → dl Dr (lt i) false) → Cf) {post : Int32 → Int32 → (Nat → Int32) → Prop} (k : ∀ cf' ch' t', uR Dr Cf (mk n t) cf ch (mk n t') cf' ch' → (cf' = 0 → ch' = 0 → dCl (tl (mk n t')) z lt ∧ ∃ i, i < z ∧ ¬ dl (tl (mk n t')) (lt i) false) → post cf' ch' t') : wp_M_clause cf ch Z T t (nI j) post := by
  have up : ∀ {l b}, dl (tl (mk n t)) l b → dl Dr l b := fun q => h.2.1 _ _ q
  unfold wp_M_clause
  intro C7 h7
  have loop : ∀ d i o (x2 : Int32), i + d = z → ((o = 0 ∧ ∀ i', i' < i → dl (tl (mk n t)) (lt i') false) ∨ (o = 1 ∧ ∃ i0, i0 < i ∧ x2 = nI (lt i0) ∧ ¬ dl (tl (mk n t)) (lt i0) false ∧ ∀ i', i' < i → i' ≠ i0 → dl (tl (mk n t)) (lt i') false) ∨ (2 ≤ o ∧ o ≤ i ∧ ∃ i1 i2, i1 < i ∧ i2 < i ∧ i1 ≠ i2 ∧ ¬ dl (tl (mk n t)) (lt i1) false ∧ ¬ dl (tl (mk n t)) (lt i2) false)) → C7 x2 (nI o) (nI i) cf ch t := by
    intro d
    induction d with
    | zero =>
      intro i o x2 hi hp
      have ei : i = z := by omega
      subst ei
      refine h7 _ _ _ _ _ _ ?_
      unfold s_M_clause_7
      rw [nI_clamp (by omega : j < 2 ^ 31), hz]
      have ho : o < 7 := by rcases hp with hp | hp | hp <;> omega
      refine ⟨vp_in_nI hj (by decide), pk_le i i (fun _ => ?_) (fun q => absurd q (Nat.lt_irrefl _))⟩
      refine pk_eq o 0 (fun e => ?_) (fun e => pk_eq o 1 (fun e1 => ?_) (fun e1 => ?_))
      · have hf : ∀ i', i' < i → dl (tl (mk n t)) (lt i') false := by
          rcases hp with hp | hp | hp
          · exact hp.2
          · omega
          · omega
        have hC : Cf := hall (fun i' hi' => up (hf i' hi'))
        exact k 1 ch t ⟨⟨h.1, h.2.1, isB_1, h.2.2.2.1, fun _ => hC⟩, fun _ _ q => q, fun q => absurd q (by decide), fun q => ⟨q, rfl⟩, fun q => Or.inl q, Nat.le_refl _⟩ (fun q => absurd q (by decide))
      · obtain ⟨i0, hi0, e3, hnf, hf⟩ : ∃ i0, i0 < i ∧ x2 = nI (lt i0) ∧ ¬ dl (tl (mk n t)) (lt i0) false ∧ ∀ i', i' < i → i' ≠ i0 → dl (tl (mk n t)) (lt i') false := by
          rcases hp with hp | hp | hp
          · omega
          · exact hp.2
          · omega
        rw [e3]
        refine tell_M hn hcf h (hT i0 hi0).2 true (hd i0 hi0 (fun i' a b => up (hf i' a b))) (fun cf2 ch2 t2 r2 c2 => k _ _ _ r2 (fun oc oh => ?_))
        have et : mk n t2 = mk n t := (r2.2.2.2.1 oh).2
        rw [et] at c2 ⊢
        refine ⟨fun i' hi' ha => ?_, i0, hi0, hnf⟩
        by_cases e4 : i' = i0
        · subst e4; exact c2 oc
        · exact absurd (ha i0 hi0 (fun q => e4 q.symm)) hnf
      · obtain ⟨-, -, i1, i2, a1, a2, a3, a4, a5⟩ : 2 ≤ o ∧ o ≤ i ∧ ∃ i1 i2, i1 < i ∧ i2 < i ∧ i1 ≠ i2 ∧ ¬ dl (tl (mk n t)) (lt i1) false ∧ ¬ dl (tl (mk n t)) (lt i2) false := by
          rcases hp with hp | hp | hp
          · omega
          · omega
          · exact hp
        refine k cf ch t (uR_rf h) (fun _ _ => ⟨fun i' hi' ha => ?_, i1, a1, a4⟩)
        by_cases e4 : i1 = i'
        · exact absurd (ha i2 a2 (fun q => a3 (e4.trans q.symm))) a5
        · exact absurd (ha i1 a1 e4) a4
    | succ d ih =>
      intro i o x2 hi hp
      have ho : o ≤ i := by rcases hp with hp | ⟨hp, i0, hp2, -⟩ | hp <;> omega
      refine h7 _ _ _ _ _ _ ?_
      unfold s_M_clause_7 s_M_clause_59 s_M_clause_70
      rw [nI_clamp (by omega : j < 2 ^ 31), hz, show (6 : Int32) * nI j = nI (6 * j) from pk_mul 6 j, nI_add, nI_clamp (by omega : 6 * j + i < 2 ^ 31), (hT i (by omega)).1]
      refine ⟨vp_in_nI hj (by decide), pk_le z i (fun q => absurd q (by omega)) (fun _ => ⟨vp_in_nI (by omega) (by decide), ?_⟩)⟩
      refine value_r hn h.1 (hT i (by omega)).2 (fun r hr _ => br_c (fun e => ?_) (fun e => ?_))
      · have hf : dl (tl (mk n t)) (lt i) false := (hr false).1 e
        rw [nI_1]
        refine ih (i + 1) o x2 (by omega) ?_
        rcases hp with ⟨a, b⟩ | ⟨a, i0, b1, b2, b3, b4⟩ | ⟨a, a', i1, i2, b1, b2, b3, b4, b5⟩
        · exact Or.inl ⟨a, lt_s b hf⟩
        · exact Or.inr (Or.inl ⟨a, i0, by omega, b2, b3, lt_s b4 (fun _ => hf)⟩)
        · exact Or.inr (Or.inr ⟨a, by omega, i1, i2, by omega, by omega, b3, b4, b5⟩)
      · have hf : ¬ dl (tl (mk n t)) (lt i) false := fun q => e ((hr false).2 q)
        refine value_r hn h.1 (hT i (by omega)).2 (fun r' hr' _ => br_c (fun e' => ?_) (fun e' => ?_))
        · have ht : dl (tl (mk n t)) (lt i) true := (hr' true).1 e'
          refine pk_le 9 8 (fun q => absurd q (by decide)) (fun _ => k _ _ _ (uR_rf h) (fun _ _ => ⟨fun i' hi' ha => ?_, i, by omega, hf⟩))
          by_cases e4 : i = i'
          · subst e4; exact ht
          · exact absurd (ha i (by omega) e4) hf
        · rw [nI_1, nI_1]
          refine pk_le (o + 1) 8 (fun _ => ?_) (fun q => absurd q (by omega))
          refine ih (i + 1) (o + 1) _ (by omega) ?_
          rcases hp with ⟨a, b⟩ | ⟨a, i0, b1, b2, b3, b4⟩ | ⟨a, a', i1, i2, b1, b2, b3, b4, b5⟩
          · exact Or.inr (Or.inl ⟨by omega, i, by omega, rfl, hf, fun i' q1 q2 => b i' (by omega)⟩)
          · exact Or.inr (Or.inr ⟨by omega, by omega, i0, i, by omega, by omega, by omega, b3, hf⟩)
          · exact Or.inr (Or.inr ⟨by omega, by omega, i1, i2, by omega, by omega, b3, b4, b5⟩)
  exact loop z 0 0 _ (by omega) (Or.inl ⟨rfl, fun i' q => absurd q (Nat.not_lt_zero _)⟩)
theorem z_ne {g : Nat} (h : 0 < g) : g ≠ (0 : Int32).toNatClampNeg := fun q => absurd (q.trans (show (0 : Int32).toNatClampNeg = 0 from rfl)) (by omega)
theorem begin_M {n : Nat} (h0 : 0 < n) (hn : n ≤ 40) {t : Nat → Int32} {cf : Int32} {post : Int32 → (Nat → Int32) → Prop} (k : ∀ t', (mk n t' 0 = 0 ∧ ∀ g, 0 < g → g < 40 → mk n t' g = 2) → post 0 t') : wp_M_begin (nI n) cf t post := by
  unfold wp_M_begin
  intro C7 h7
  have loop : ∀ d i t', i + d = n → (∀ g, g < i → t' g = 2) → C7 (nI i) 0 t' := by
    intro d
    induction d with
    | zero =>
      intro i t' hi ht
      have e : i = n := by omega
      subst e
      refine h7 _ _ _ ?_
      unfold s_M_begin_7
      refine pk_le i i (fun _ => ⟨vp_in_nI (n := 0) (by decide) (by decide), k _ ⟨?_, fun g g0 g1 => ?_⟩⟩) (fun q => absurd q (Nat.lt_irrefl _))
      · rw [mk_in h0]; exact pk_us
      · by_cases e : g < i
        · rw [mk_in e, pk_un (z_ne g0)]; exact ht g e
        · exact if_neg e
    | succ d ih =>
      intro i t' hi ht
      refine h7 _ _ _ ?_
      unfold s_M_begin_7
      rw [nI_1, nI_clamp (by omega : i < 2 ^ 31)]
      refine pk_le n i (fun q => absurd q (by omega)) (fun _ => ⟨vp_in_nI (by omega) (by decide), ih (i + 1) _ (by omega) (fun g hg => ?_)⟩)
      by_cases e : g = i
      · subst e; exact pk_us
      · rw [pk_un e]; exact ht g (by omega)
  exact loop n 0 t (by omega) (fun g q => absurd q (Nat.not_lt_zero _))
theorem steps_M {n k : Nat} {kd ga gb : Nat → Nat} {lk lz : Nat → Nat} {lt : Nat → Nat → Nat} {asm : Nat → Prop} {gs : Int32} {GK GL GR FK FZ FT FO : Nat → Int32} (hg : gA n kd ga gb gs GK GL GR) (hl : lA n k lk lz lt FK FZ FT) (hk : k ≤ 24) {Dr : Nat → Bool → Prop} {Cf : Prop} (eD : Dr = Der n kd ga gb (fun j => j < k ∧ FO j = 0) lk lz lt asm) (eC : Cf = Conf n kd ga gb (fun j => j < k ∧ FO j = 0) lk lz lt asm) {t : Nat → Int32} {cf ch : Int32} (h : uS Dr Cf (mk n t) cf ch) (ha : cf = 0 → tl (mk n t) 0 false ∧ ∀ l, asm l → dl (tl (mk n t)) l true) {post : Int32 → Int32 → (Nat → Int32) → Prop} (kk : ∀ r ch' t', isB r → isB ch' → (r = 1 → Cf) → (r = 0 → ¬ Cf ∧ ∀ g b, Dr g b ↔ tl (mk n t') g b) → tOK (mk n t') → post r ch' t') : wp_M_steps gs cf ch GK GL GR FK FZ FT t FO (nI k) post := by
  obtain ⟨egs, hn0, hn, hgt⟩ := hg
  subst egs
  have hclo : dClo n kd ga gb (fun j => j < k ∧ FO j = 0) lk lz lt asm Dr := by rw [eD]; exact der_clo ..
  have hcf : ∀ g, Dr g true → Dr g false → Cf := by rw [eD, eC]; exact fun g a b => Or.inl ⟨g, a, b⟩
  have hcl : ∀ j, j < k → FO j = 0 → lk j = 0 → (∀ i, i < lz j → dl Dr (lt j i) false) → Cf := by rw [eD, eC]; exact fun j a b c d => Or.inr ⟨j, ⟨a, b⟩, c, d⟩
  unfold wp_M_steps
  intro C5 C26 C75 h5 h26 h75
  have L75 : ∀ d j (t0 : Nat → Int32) cf' ch' t', j + d = k → uR Dr Cf t0 0 0 (mk n t') cf' ch' → (cf' = 0 → ch' = 0 → dGates n kd ga gb n (tl (mk n t')) ∧ dLines (fun j => j < k ∧ FO j = 0) lk lz lt j (tl (mk n t'))) → (∀ cf2 ch2 t2, uR Dr Cf t0 0 0 (mk n t2) cf2 ch2 → (cf2 = 0 → ch2 = 0 → dGates n kd ga gb n (tl (mk n t2)) ∧ dLines (fun j => j < k ∧ FO j = 0) lk lz lt k (tl (mk n t2))) → C5 cf2 ch2 t2) → C75 (nI j) cf' ch' t' := by
    intro d
    induction d with
    | zero =>
      intro j t0 cf' ch' t' hj hr hc kx
      have ej : j = k := by omega
      subst ej
      refine h75 _ _ _ _ ?_
      unfold s_M_steps_75
      exact pk_le j j (fun _ => kx _ _ _ hr hc) (fun q => absurd q (Nat.lt_irrefl _))
    | succ d ih =>
      intro j t0 cf' ch' t' hj hr hc kx
      refine h75 _ _ _ _ ?_
      have vin : vp_in (nI j) 24 := vp_in_nI (by omega) (by decide)
      unfold s_M_steps_75 s_M_steps_106 s_M_steps_120
      rw [nI_1, nI_clamp (by omega : j < 2 ^ 31)]
      obtain ⟨eK, hlk, eZ, hz6, hz2, hT⟩ := hl j (by omega)
      have next : ∀ cf2 ch2 t2, uR Dr Cf (mk n t') cf' ch' (mk n t2) cf2 ch2 → (FO j = 0 → cf2 = 0 → ch2 = 0 → (lk j = 1 → dEq (tl (mk n t2)) (lt j 0) (lt j 1)) ∧ (lk j = 0 → dCl (tl (mk n t2)) (lz j) (lt j) ∧ ∃ i, i < lz j ∧ ¬ dl (tl (mk n t2)) (lt j i) false)) → C75 (nI (j + 1)) cf2 ch2 t2 := by
        intro cf2 ch2 t2 r2 c2
        refine ih (j + 1) t0 cf2 ch2 t2 (by omega) (uR_tr hr r2) (fun o1 o2 => ?_) kx
        obtain ⟨e1, e2⟩ := r2.2.2.2.1 o2
        have hh := hc (r2.2.2.1 o1) e1
        rw [e2] at c2 ⊢
        exact ⟨hh.1, lt_s hh.2 (fun q => c2 q.2 o1 o2)⟩
      refine pk_le k j (fun q => absurd q (by omega)) (fun _ => ⟨vin, br_c (fun eo => ⟨vin, ?_⟩) (fun eo => ⟨vin, br_f eo (next _ _ _ (uR_rf hr.1) (fun q => absurd q eo))⟩)⟩)
      rw [eK]
      refine pk_eq (lk j) 0 (fun e0 => ⟨vin, br_t eo ?_⟩) (fun e0 => ?_)
      · exact clause_M hn hcf hr.1 (by omega) eZ hz6 hT (hclo.2.2.2.2.2 j ⟨by omega, eo⟩ e0) (hcl j (by omega) eo e0) (fun cf2 ch2 t2 r2 c2 => next _ _ _ r2 (fun _ o1 o2 => ⟨fun q => by omega, fun _ => c2 o1 o2⟩))
      · have e1 : lk j = 1 := by omega
        have hz := hz2 e1
        exact equality_M hn hcf hr.1 (by omega) (hT 0 (by omega)).1 (hT 1 (by omega)).1 (hT 0 (by omega)).2 (hT 1 (by omega)).2 (hclo.2.2.2.2.1 j ⟨by omega, eo⟩ e1) (fun cf2 ch2 t2 r2 c2 => next _ _ _ r2 (fun _ o1 o2 => ⟨fun _ => c2 o1 o2, fun q => by omega⟩))
  have L26 : ∀ d g (t0 : Nat → Int32) cf' ch' t', g + d = n → 0 < g → uR Dr Cf t0 0 0 (mk n t') cf' ch' → (cf' = 0 → ch' = 0 → dGates n kd ga gb g (tl (mk n t'))) → (∀ cf2 ch2 t2, uR Dr Cf t0 0 0 (mk n t2) cf2 ch2 → (cf2 = 0 → ch2 = 0 → dGates n kd ga gb n (tl (mk n t2))) → C75 (nI 0) cf2 ch2 t2) → C26 (nI g) cf' ch' t' := by
    intro d
    induction d with
    | zero =>
      intro g t0 cf' ch' t' hgn h0 hr hc kx
      have eg : g = n := by omega
      subst eg
      refine h26 _ _ _ _ ?_
      unfold s_M_steps_26
      exact pk_le g g (fun _ => kx _ _ _ hr hc) (fun q => absurd q (Nat.lt_irrefl _))
    | succ d ih =>
      intro g t0 cf' ch' t' hgn h0 hr hc kx
      refine h26 _ _ _ _ ?_
      unfold s_M_steps_26 s_M_steps_67
      rw [nI_1, nI_clamp (by omega : g < 2 ^ 31)]
      obtain ⟨eK, hk2, hlr⟩ := hgt g h0 (by omega)
      rw [eK]
      have vin : vp_in (nI g) 40 := vp_in_nI (by omega) (by decide)
      have next : ∀ cf2 ch2 t2, uR Dr Cf (mk n t') cf' ch' (mk n t2) cf2 ch2 → (cf2 = 0 → ch2 = 0 → (kd g = 1 → dAnd (tl (mk n t2)) g (ga g) (gb g)) ∧ (kd g = 2 → dXor (tl (mk n t2)) g (ga g) (gb g))) → C26 (nI (g + 1)) cf2 ch2 t2 := by
        intro cf2 ch2 t2 r2 c2
        refine ih (g + 1) t0 cf2 ch2 t2 (by omega) (by omega) (uR_tr hr r2) (fun o1 o2 => ?_) kx
        obtain ⟨e1, e2⟩ := r2.2.2.2.1 o2
        have hh := hc (r2.2.2.1 o1) e1
        rw [e2] at c2 ⊢
        intro g' q0 q1 q2
        by_cases e : g' = g
        · subst e; exact c2 o1 o2
        · exact hh g' q0 (by omega) q2
      refine pk_le n g (fun q => absurd q (by omega)) (fun _ => ⟨vin, ?_⟩)
      refine pk_eq (kd g) 1 (fun e1 => ?_) (fun e1 => ⟨vin, pk_eq (kd g) 2 (fun e2 => ?_) (fun e2 => ?_)⟩)
      · obtain ⟨eL, hL, eR, hR⟩ := hlr (by omega)
        exact and_M hn hcf hr.1 (by omega) (by omega) (by omega) eL eR (hclo.2.2.1 g h0 (by omega) e1) (fun cf2 ch2 t2 r2 c2 => next _ _ _ r2 (fun o1 o2 => ⟨fun _ => c2 o1 o2, fun q => by omega⟩))
      · obtain ⟨eL, hL, eR, hR⟩ := hlr (by omega)
        exact either_M hn hcf hr.1 (by omega) (by omega) (by omega) eL eR (hclo.2.2.2.1 g h0 (by omega) e2) (fun cf2 ch2 t2 r2 c2 => next _ _ _ r2 (fun o1 o2 => ⟨fun q => by omega, fun _ => c2 o1 o2⟩))
      · exact next _ _ _ (uR_rf hr.1) (fun _ _ => ⟨fun q => absurd q e1, fun q => absurd q e2⟩)
  have L5 : ∀ d cf' ch' t', 40 < cnt (mk n t') 40 + d → uS Dr Cf (mk n t') cf' ch' → (cf' = 0 → tl (mk n t') 0 false ∧ ∀ l, asm l → dl (tl (mk n t')) l true) → (cf' = 0 → ch' = 0 → dGates n kd ga gb n (tl (mk n t')) ∧ dLines (fun j => j < k ∧ FO j = 0) lk lz lt k (tl (mk n t'))) → C5 cf' ch' t' := by
    intro d
    have done : ∀ cf' ch' t', uS Dr Cf (mk n t') cf' ch' → (cf' = 0 → tl (mk n t') 0 false ∧ ∀ l, asm l → dl (tl (mk n t')) l true) → (cf' = 0 → dGates n kd ga gb n (tl (mk n t')) ∧ dLines (fun j => j < k ∧ FO j = 0) lk lz lt k (tl (mk n t'))) → post cf' ch' t' := by
      intro cf' ch' t' hs hb hc
      refine kk cf' ch' t' hs.2.2.1 hs.2.2.2.1 hs.2.2.2.2 (fun e0 => ?_) hs.1
      obtain ⟨c1, c2⟩ := hc e0
      obtain ⟨b1, b2⟩ := hb e0
      have hh := der_done (n := n) (kd := kd) (ga := ga) (gb := gb) (us := fun j => j < k ∧ FO j = 0) (lk := lk) (lz := lz) (lt := lt) (asm := asm) (S := tl (mk n t')) (fun g b q => by rw [← eD]; exact hs.2.1 g b q) (fun g q1 q2 => by cases tl_fun q1 q2)
        ⟨b1, b2, fun g q0 q1 q2 => (c1 g q0 q1 q1).1 q2, fun g q0 q1 q2 => (c1 g q0 q1 q1).2 q2, fun j q1 q2 => (c2 j q1.1 q1).1 q2, fun j q1 q2 => ((c2 j q1.1 q1).2 q2).1⟩
        (fun j q1 q2 => ((c2 j q1.1 q1).2 q2).2)
      rw [eD, eC]
      exact ⟨hh.2, hh.1⟩
    induction d with
    | zero =>
      intro cf' ch' t' hd hs hb hc
      have := cnt_le (mk n t') 40
      omega
    | succ d ih =>
      intro cf' ch' t' hd hs hb hc
      refine h5 _ _ _ ?_
      unfold s_M_steps_5
      refine br_c (fun e1 => done cf' ch' t' hs hb (fun e0 => hc e0 e1)) (fun e1 => br_c (fun e0 => ?_) (fun e0 => done cf' ch' t' hs hb (fun e2 => absurd e2 e0)))
      subst e0
      have hs0 : uS Dr Cf (mk n t') 0 0 := ⟨hs.1, hs.2.1, isB_0, isB_0, fun q => absurd q (by decide)⟩
      refine L26 (n - 1) 1 (mk n t') 0 0 t' (by omega) (by decide) (uR_rf hs0) (fun _ _ g q0 q1 => by omega) (fun cf2 ch2 t2 r2 c2 => ?_)
      refine L75 k 0 (mk n t') cf2 ch2 t2 (by omega) r2 (fun o1 o2 => ⟨c2 o1 o2, fun j q => absurd q (Nat.not_lt_zero _)⟩) (fun cf3 ch3 t3 r3 c3 => ?_)
      have hb3 : cf3 = 0 → tl (mk n t3) 0 false ∧ ∀ l, asm l → dl (tl (mk n t3)) l true := fun o => by
        obtain ⟨b1, b2⟩ := hb rfl
        exact ⟨r3.2.1 _ _ b1, fun l q => uR_dl r3 (b2 l q)⟩
      rcases r3.1.2.2.2.1 with e3 | e3
      · refine h5 _ _ _ ?_
        unfold s_M_steps_5
        exact br_t e3 (done _ _ _ r3.1 hb3 (fun e0 => c3 e0 e3))
      · refine ih cf3 ch3 t3 ?_ r3.1 hb3 c3
        rcases r3.2.2.2.2.1 e3 with q | q
        · exact absurd q (by decide)
        · omega
  exact L5 41 cf 1 t (by omega) ⟨h.1, h.2.1, h.2.2.1, isB_1, h.2.2.2.2⟩ ha (fun _ q => absurd q (by decide))
