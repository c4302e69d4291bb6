/-! Unit steps of the class, over its predicate transformers. -/
def bI (b : Bool) : Int32 := if b then 1 else 0
theorem bI_isB (b : Bool) : isB (bI b) := by cases b; exact Or.inl rfl; exact Or.inr rfl
theorem bI_inj {a b : Bool} (h : bI a = bI b) : a = b := by revert h; cases a <;> cases b <;> decide
theorem bI_ne2 (b : Bool) : bI b ≠ 2 := by cases b <;> decide
theorem bI_xx (a b : Bool) : bI a ^^^ bI b = bI (a ^^ b) := by cases a <;> cases b <;> decide
theorem lit_half {l : Nat} (h : l < 2 ^ 31) : nI l >>> ((1 : Int32) &&& 31) = nI (l / 2) := pk_shrN h ((1 : Int32) &&& 31) 1 (by decide)
theorem lit_low {l : Nat} (h : l < 2 ^ 32) : nI l &&& 1 = nI (l % 2) := pk_andN h 1 (by decide)
theorem bI_xor (b : Bool) (l : Nat) : bI b ^^^ nI (l % 2) = bI (b ^^ decide (l % 2 = 1)) := by
  rcases Nat.mod_two_eq_zero_or_one l with h | h <;> rw [h] <;> cases b <;> decide
def tl (t : Nat → Int32) : Nat → Bool → Prop := fun g b => g < 40 ∧ t g = bI b
def tOK (t : Nat → Int32) : Prop := ∀ g, g < 40 → t g = 2 ∨ ∃ b, t g = bI b
def cnt (t : Nat → Int32) : Nat → Nat
  | 0 => 0
  | k + 1 => cnt t k + if t k = 2 then 0 else 1
theorem cnt_le (t : Nat → Int32) : ∀ k, cnt t k ≤ k
  | 0 => Nat.le_refl 0
  | k + 1 => by
    have h := cnt_le t k
    unfold cnt
    split <;> omega
theorem cnt_same {t t' : Nat → Int32} : ∀ k, (∀ j, j < k → t' j = t j) → cnt t' k = cnt t k
  | 0, _ => rfl
  | k + 1, h => by
    unfold cnt
    rw [cnt_same k (fun j hj => h j (by omega)), h k (by omega)]
theorem cnt_up {t : Nat → Int32} {g : Nat} {v : Int32} (h2 : t g = 2) (hv : v ≠ 2) : ∀ k, g < k → cnt (upd t g v) k = cnt t k + 1
  | 0, h => absurd h (Nat.not_lt_zero _)
  | k + 1, h => by
    unfold cnt
    by_cases e : g = k
    · subst e
      rw [cnt_same g (fun j hj => pk_un (by omega)), pk_us, if_neg hv, if_pos h2]
    · rw [cnt_up h2 hv k (by omega), pk_un (by omega : k ≠ g)]
      omega
/-- a good state of the steps -/
def uS (Dr : Nat → Bool → Prop) (Cf : Prop) (t : Nat → Int32) (cf ch : Int32) : Prop := tOK t ∧ (∀ g b, tl t g b → Dr g b) ∧ isB cf ∧ isB ch ∧ (cf = 1 → Cf)
/-- how steps go on -/
def uR (Dr : Nat → Bool → Prop) (Cf : Prop) (t : Nat → Int32) (cf ch : Int32) (t' : Nat → Int32) (cf' ch' : Int32) : Prop :=
  uS Dr Cf t' cf' ch' ∧ (∀ g b, tl t g b → tl t' g b) ∧ (cf' = 0 → cf = 0) ∧ (ch' = 0 → ch = 0 ∧ t' = t) ∧ (ch' = 1 → ch = 1 ∨ cnt t 40 < cnt t' 40) ∧ cnt t 40 ≤ cnt t' 40
theorem uR_rf {Dr : Nat → Bool → Prop} {Cf : Prop} {t : Nat → Int32} {cf ch : Int32} (h : uS Dr Cf t cf ch) : uR Dr Cf t cf ch t cf ch := ⟨h, fun _ _ h => h, fun h => h, fun h => ⟨h, rfl⟩, fun h => Or.inl h, Nat.le_refl _⟩
theorem uR_tr {Dr : Nat → Bool → Prop} {Cf : Prop} {t t1 t2 : Nat → Int32} {cf ch cf1 ch1 cf2 ch2 : Int32} (a : uR Dr Cf t cf ch t1 cf1 ch1) (b : uR Dr Cf t1 cf1 ch1 t2 cf2 ch2) : uR Dr Cf t cf ch t2 cf2 ch2 := by
  obtain ⟨a0, a1, a2, a3, a4, a5⟩ := a
  obtain ⟨b0, b1, b2, b3, b4, b5⟩ := b
  refine ⟨b0, fun g x h => b1 g x (a1 g x h), fun h => a2 (b2 h), fun h => ?_, fun h => ?_, by omega⟩
  · obtain ⟨c1, c2⟩ := b3 h
    obtain ⟨d1, d2⟩ := a3 c1
    exact ⟨d1, c2.trans d2⟩
  · rcases b4 h with c | c
    · rcases a4 c with d | d
      · exact Or.inl d
      · exact Or.inr (by omega)
    · exact Or.inr (by omega)
theorem dl_mono {S S' : Nat → Bool → Prop} (h : ∀ g b, S g b → S' g b) {l : Nat} {b : Bool} (hd : dl S l b) : dl S' l b := h _ _ hd
theorem tl_fun {t : Nat → Int32} {g : Nat} {a b : Bool} (h : tl t g a) (h' : tl t g b) : a = b := bI_inj (h.2.symm.trans h'.2)
theorem xor_can (b c : Bool) : ((b ^^ c) ^^ c) = b := by cases b <;> cases c <;> rfl
theorem isB_0 : isB 0 := Or.inl rfl
theorem isB_1 : isB 1 := Or.inr rfl
theorem tell_R {Dr : Nat → Bool → Prop} {Cf : Prop} (hcf : ∀ g, Dr g true → Dr g false → Cf) {t : Nat → Int32} {cf ch : Int32} (h : uS Dr Cf t cf ch) {l : Nat} (hl : l < 80) (b : Bool) (hd : dl Dr l b) {post : Int32 → Int32 → (Nat → Int32) → Prop} (k : ∀ cf' ch' t', uR Dr Cf t cf ch t' cf' ch' → (cf' = 0 → dl (tl t') l b) → post cf' ch' t') : wp_U_tell cf ch t (nI l) (bI b) post := by
  have hg : l / 2 < 40 := by omega
  unfold wp_U_tell
  rw [lit_half (by omega), lit_low (by omega), bI_xor, nI_clamp (by omega : l / 2 < 2 ^ 31)]
  have hin : vp_in (nI (l / 2)) 40 := vp_in_nI hg (by decide)
  obtain ⟨hT, hS, hb1, hb2, hC⟩ := h
  generalize hv : (b ^^ decide (l % 2 = 1)) = v at *
  have hd' : Dr (l / 2) v := by rw [← hv]; exact hd
  have both : ∀ w, Dr (l / 2) w → w ≠ v → Cf := by
    intro w hw hne
    cases v <;> cases w
    · exact absurd rfl hne
    · exact hcf _ hw hd'
    · exact hcf _ hd' hw
    · exact absurd rfl hne
  refine ⟨hin, br_c (fun h2 => ⟨hin, ?_⟩) (fun h2 => ⟨hin, br_c (fun h3 => ?_) (fun h3 => ?_)⟩)⟩
  · refine k cf 1 _ ⟨⟨?_, ?_, hb1, isB_1, hC⟩, ?_, fun h => h, fun h => absurd h (by decide), fun _ => Or.inr ?_, ?_⟩ (fun _ => ⟨hg, ?_⟩)
    · intro g hg'
      by_cases e : g = l / 2
      · subst e; rw [pk_us]; exact Or.inr ⟨v, rfl⟩
      · rw [pk_un e]; exact hT g hg'
    · intro g w hw
      by_cases e : g = l / 2
      · subst e
        have := hw.2
        rw [pk_us] at this
        rw [← bI_inj this]; exact hd'
      · exact hS g w ⟨hw.1, by have := hw.2; rwa [pk_un e] at this⟩
    · intro g w hw
      by_cases e : g = l / 2
      · subst e
        exact absurd (h2.symm.trans hw.2) (fun q => bI_ne2 w q.symm)
      · exact ⟨hw.1, by rw [pk_un e]; exact hw.2⟩
    · rw [cnt_up h2 (bI_ne2 v) 40 hg]; omega
    · rw [cnt_up h2 (bI_ne2 v) 40 hg]; omega
    · rw [pk_us, hv]
  · refine k cf ch t (uR_rf ⟨hT, hS, hb1, hb2, hC⟩) (fun _ => ⟨hg, ?_⟩)
    rw [h3, hv]
  · obtain ⟨w, hw⟩ := (hT _ hg).resolve_left h2
    have hc : Cf := both w (hS _ _ ⟨hg, hw⟩) (fun e => h3 (by rw [hw, e]))
    exact k 1 ch t ⟨⟨hT, hS, isB_1, hb2, fun _ => hc⟩, fun _ _ h => h, fun h => absurd h (by decide), fun h => ⟨h, rfl⟩, fun h => Or.inl h, Nat.le_refl _⟩ (fun h => absurd h (by decide))
theorem toldOf_R {t : Nat → Int32} (hT : tOK t) {l : Nat} (hl : l < 80) {post : Int32 → Prop} (k2 : (∀ b, ¬ dl (tl t) l b) → post 2) (kb : ∀ b, dl (tl t) l b → post (bI b)) : wp_U_toldOf t (nI l) post := by
  have hg : l / 2 < 40 := by omega
  unfold wp_U_toldOf
  rw [lit_half (by omega), lit_low (by omega), nI_clamp (by omega : l / 2 < 2 ^ 31)]
  refine ⟨vp_in_nI hg (by decide), br_c (fun h2 => k2 (fun b hb => ?_)) (fun h2 => ?_)⟩
  · exact absurd (h2.symm.trans hb.2) (fun q => bI_ne2 _ q.symm)
  · obtain ⟨w, hw⟩ := (hT _ hg).resolve_left h2
    rw [hw, bI_xor]
    refine kb _ ⟨hg, ?_⟩
    rw [hw, xor_can]
theorem toldOf_r {t : Nat → Int32} (hT : tOK t) {l : Nat} (hl : l < 80) {post : Int32 → Prop} (k : ∀ r, (∀ b, r = bI b ↔ dl (tl t) l b) → (r = 2 ∨ ∃ b, r = bI b) → post r) : wp_U_toldOf t (nI l) post :=
  toldOf_R hT hl (fun h => k 2 (fun b => ⟨fun e => absurd e.symm (bI_ne2 b), fun e => absurd e (h b)⟩) (Or.inl rfl))
    (fun b h => k (bI b) (fun b' => ⟨fun e => by rw [← bI_inj e]; exact h, fun e => by
      have := tl_fun h e
      revert this
      cases b <;> cases b' <;> cases decide (l % 2 = 1) <;> simp⟩) (Or.inr ⟨b, rfl⟩))
theorem br2 {p q T N : Prop} (f : p → q → T) (n : ¬ (p ∧ q) → N) : ((p → ((q → T) ∧ (¬ q → N))) ∧ (¬ p → N)) :=
  ⟨fun hp => ⟨fun hq => f hp hq, fun hq => n (fun h => hq h.2)⟩, fun hp => n (fun h => hp h.1)⟩
theorem dl_even {S : Nat → Bool → Prop} {g : Nat} {b : Bool} : dl S (2 * g) b ↔ S g b := by
  unfold dl
  rw [Nat.mul_div_cancel_left g (by decide), Nat.mul_mod_right]
  simp
theorem two_nI (g : Nat) : 2 * nI g = nI (2 * g) := pk_mul 2 g
theorem uR_dl {Dr : Nat → Bool → Prop} {Cf : Prop} {t t' : Nat → Int32} {cf ch cf' ch' : Int32} (h : uR Dr Cf t cf ch t' cf' ch') {l : Nat} {b : Bool} (hd : dl (tl t) l b) : dl (tl t') l b := h.2.1 _ _ hd
theorem stepAnd_R {Dr : Nat → Bool → Prop} {Cf : Prop} (hcf : ∀ g, Dr g true → Dr g false → Cf) {t : Nat → Int32} {cf ch : Int32} (h : uS Dr Cf t cf ch) {g a b : Nat} (hg : g < 40) (ha : a < 80) (hb : b < 80) (hd : dAnd Dr g a b) {post : Int32 → Int32 → (Nat → Int32) → Prop} (k : ∀ cf' ch' t', uR Dr Cf t cf ch t' cf' ch' → (cf' = 0 → ch' = 0 → dAnd (tl t') g a b) → post cf' ch' t') : wp_U_stepAnd cf ch t (nI g) (nI a) (nI b) post := by
  obtain ⟨d1, d2, d3, d4, d5, d6, d7⟩ := hd
  have up : ∀ {l b}, dl (tl t) l b → dl Dr l b := fun q => h.2.1 _ _ q
  unfold wp_U_stepAnd
  rw [nI_clamp (by omega : g < 2 ^ 31)]
  refine ⟨vp_in_nI hg (by decide), toldOf_r h.1 ha (fun x hx _ => toldOf_r h.1 hb (fun y hy _ => ?_))⟩
  have hw : ∀ b, t g = bI b ↔ tl t g b := fun b => ⟨fun e => ⟨hg, e⟩, fun e => e.2⟩
  generalize t g = w at hw ⊢
  have x0 : x = 0 ↔ dl (tl t) a false := hx false
  have x1 : x = 1 ↔ dl (tl t) a true := hx true
  have y0 : y = 0 ↔ dl (tl t) b false := hy false
  have y1 : y = 1 ↔ dl (tl t) b true := hy true
  have w0 : w = 0 ↔ tl t g false := hw false
  have w1 : w = 1 ↔ tl t g true := hw true
  have fin : ∀ cf' ch' t', uR Dr Cf t cf ch t' cf' ch' → (cf' = 0 → (x = 0 ∨ y = 0) → tl t' g false) → (cf' = 0 → x = 1 → y = 1 → tl t' g true) → (cf' = 0 → w = 1 → dl (tl t') a true ∧ dl (tl t') b true) → (cf' = 0 → w = 0 → x = 1 → dl (tl t') b false) → (cf' = 0 → w = 0 → y = 1 → dl (tl t') a false) → post cf' ch' t' := by
    intro cf' ch' t' hr e1 e2 e3 e4 e5
    refine k cf' ch' t' hr (fun hc hh => ?_)
    have et : t' = t := (hr.2.2.2.1 hh).2
    subst et
    exact ⟨fun q => e1 hc (Or.inl (x0.2 q)), fun q => e1 hc (Or.inr (y0.2 q)), fun q q' => e2 hc (x1.2 q) (y1.2 q'), fun q => (e3 hc (w1.2 q)).1, fun q => (e3 hc (w1.2 q)).2, fun q q' => e4 hc (w0.2 q) (x1.2 q'), fun q q' => e5 hc (w0.2 q) (y1.2 q')⟩
  have j95 : ∀ cf' ch' t', uR Dr Cf t cf ch t' cf' ch' → (cf' = 0 → (x = 0 ∨ y = 0) → tl t' g false) → (cf' = 0 → x = 1 → y = 1 → tl t' g true) → (cf' = 0 → w = 1 → dl (tl t') a true ∧ dl (tl t') b true) → (cf' = 0 → w = 0 → x = 1 → dl (tl t') b false) → s_U_stepAnd_95 (nI g) (nI a) (nI b) post w y cf' ch' t' := by
    intro cf1 ch1 t1 hr e1 e2 e3 e4
    unfold s_U_stepAnd_95
    refine br2 (fun q0 q1 => ?_) (fun q => fin _ _ _ hr e1 e2 e3 e4 (fun _ a b => absurd ⟨a, b⟩ q))
    refine tell_R hcf hr.1 ha false (d7 (h.2.1 _ _ (w0.1 q0)) (up (y1.1 q1))) (fun cf2 ch2 t2 r2 c2 => ?_)
    have z : cf2 = 0 → cf1 = 0 := r2.2.2.1
    exact fin _ _ _ (uR_tr hr r2) (fun o p => r2.2.1 _ _ (e1 (z o) p)) (fun o p p' => r2.2.1 _ _ (e2 (z o) p p')) (fun o p => ⟨uR_dl r2 (e3 (z o) p).1, uR_dl r2 (e3 (z o) p).2⟩) (fun o p p' => uR_dl r2 (e4 (z o) p p')) (fun o _ _ => c2 o)
  have j78 : ∀ cf' ch' t', uR Dr Cf t cf ch t' cf' ch' → (cf' = 0 → (x = 0 ∨ y = 0) → tl t' g false) → (cf' = 0 → x = 1 → y = 1 → tl t' g true) → (cf' = 0 → w = 1 → dl (tl t') a true ∧ dl (tl t') b true) → s_U_stepAnd_78 (nI g) (nI a) (nI b) post w x y cf' ch' t' := by
    intro cf1 ch1 t1 hr e1 e2 e3
    unfold s_U_stepAnd_78
    refine br2 (fun q0 q1 => ?_) (fun q => j95 _ _ _ hr e1 e2 e3 (fun _ a b => absurd ⟨a, b⟩ q))
    refine tell_R hcf hr.1 hb false (d6 (h.2.1 _ _ (w0.1 q0)) (up (x1.1 q1))) (fun cf2 ch2 t2 r2 c2 => ?_)
    have z : cf2 = 0 → cf1 = 0 := r2.2.2.1
    exact j95 _ _ _ (uR_tr hr r2) (fun o p => r2.2.1 _ _ (e1 (z o) p)) (fun o p p' => r2.2.1 _ _ (e2 (z o) p p')) (fun o p => ⟨uR_dl r2 (e3 (z o) p).1, uR_dl r2 (e3 (z o) p).2⟩) (fun o _ _ => c2 o)
  have j60 : ∀ cf' ch' t', uR Dr Cf t cf ch t' cf' ch' → (cf' = 0 → (x = 0 ∨ y = 0) → tl t' g false) → (cf' = 0 → x = 1 → y = 1 → tl t' g true) → s_U_stepAnd_60 (nI g) (nI a) (nI b) post w x y cf' ch' t' := by
    intro cf1 ch1 t1 hr e1 e2
    unfold s_U_stepAnd_60
    refine br_c (fun q => ?_) (fun q => j78 _ _ _ hr e1 e2 (fun _ a => absurd a q))
    refine tell_R hcf hr.1 ha true (d4 (h.2.1 _ _ (w1.1 q))) (fun cf2 ch2 t2 r2 c2 => ?_)
    refine tell_R hcf r2.1 hb true (d5 (h.2.1 _ _ (w1.1 q))) (fun cf3 ch3 t3 r3 c3 => ?_)
    have z : cf3 = 0 → cf2 = 0 := r3.2.2.1
    have z2 : cf2 = 0 → cf1 = 0 := r2.2.2.1
    have r23 := uR_tr r2 r3
    exact j78 _ _ _ (uR_tr hr r23) (fun o p => r23.2.1 _ _ (e1 (z2 (z o)) p)) (fun o p p' => r23.2.1 _ _ (e2 (z2 (z o)) p p')) (fun o _ => ⟨uR_dl r3 (c2 (z o)), c3 o⟩)
  have j40 : ∀ cf' ch' t', uR Dr Cf t cf ch t' cf' ch' → (cf' = 0 → (x = 0 ∨ y = 0) → tl t' g false) → s_U_stepAnd_40 (nI g) (nI a) (nI b) post w x y cf' ch' t' := by
    intro cf1 ch1 t1 hr e1
    unfold s_U_stepAnd_40
    rw [two_nI]
    refine br2 (fun q0 q1 => ?_) (fun q => j60 _ _ _ hr e1 (fun _ a b => absurd ⟨a, b⟩ q))
    refine tell_R hcf hr.1 (by omega : 2 * g < 80) true (dl_even.2 (d3 (up (x1.1 q0)) (up (y1.1 q1)))) (fun cf2 ch2 t2 r2 c2 => ?_)
    exact j60 _ _ _ (uR_tr hr r2) (fun o p => r2.2.1 _ _ (e1 (r2.2.2.1 o) p)) (fun o _ _ => dl_even.1 (c2 o))
  have j32 : (x = 0 ∨ y = 0) → s_U_stepAnd_32 (nI g) (nI a) (nI b) post w x y cf ch t := by
    intro q
    unfold s_U_stepAnd_32
    rw [two_nI]
    refine tell_R hcf h (by omega : 2 * g < 80) false (dl_even.2 (q.elim (fun q => d1 (up (x0.1 q))) (fun q => d2 (up (y0.1 q))))) (fun cf2 ch2 t2 r2 c2 => ?_)
    exact j40 _ _ _ r2 (fun o _ => dl_even.1 (c2 o))
  exact br_c (fun q => j32 (Or.inl q)) (fun q => br_c (fun q' => j32 (Or.inr q')) (fun q' => j40 _ _ _ (uR_rf h) (fun _ p => p.elim (fun z => absurd z q) (fun z => absurd z q'))))
theorem br3 {p q T N : Prop} (f : ¬ p → ¬ q → T) (n : p ∨ q → N) : ((p → N) ∧ (¬ p → ((q → N) ∧ (¬ q → T)))) :=
  ⟨fun hp => n (Or.inl hp), fun hp => ⟨fun hq => n (Or.inr hq), fun hq => f hp hq⟩⟩
theorem stepEither_R {Dr : Nat → Bool → Prop} {Cf : Prop} (hcf : ∀ g, Dr g true → Dr g false → Cf) {t : Nat → Int32} {cf ch : Int32} (h : uS Dr Cf t cf ch) {g a b : Nat} (hg : g < 40) (ha : a < 80) (hb : b < 80) (hd : dXor Dr g a b) {post : Int32 → Int32 → (Nat → Int32) → Prop} (k : ∀ cf' ch' t', uR Dr Cf t cf ch t' cf' ch' → (cf' = 0 → ch' = 0 → dXor (tl t') g a b) → post cf' ch' t') : wp_U_stepEither cf ch t (nI g) (nI a) (nI b) post := by
  obtain ⟨d1, d2, d3⟩ := hd
  have up : ∀ {l b}, dl (tl t) l b → dl Dr l b := fun q => h.2.1 _ _ q
  unfold wp_U_stepEither
  rw [nI_clamp (by omega : g < 2 ^ 31)]
  refine ⟨vp_in_nI hg (by decide), toldOf_r h.1 ha (fun x hx x2 => toldOf_r h.1 hb (fun y hy y2 => ?_))⟩
  have hw : ∀ b, t g = bI b ↔ tl t g b := fun b => ⟨fun e => ⟨hg, e⟩, fun e => e.2⟩
  have w2 := h.1 g hg
  generalize t g = w at hw w2 ⊢
  have n2 : ∀ {b}, ¬ bI b = 2 := fun {b} => bI_ne2 b
  have fin : ∀ cf' ch' t', uR Dr Cf t cf ch t' cf' ch' → (cf' = 0 → ∀ u v, x = bI u → y = bI v → tl t' g (u ^^ v)) → (cf' = 0 → ∀ u v, w = bI u → x = bI v → dl (tl t') b (u ^^ v)) → (cf' = 0 → ∀ u v, w = bI u → y = bI v → dl (tl t') a (u ^^ v)) → post cf' ch' t' := by
    intro cf' ch' t' hr e1 e2 e3
    refine k cf' ch' t' hr (fun hc hh => ?_)
    have et : t' = t := (hr.2.2.2.1 hh).2
    subst et
    exact ⟨fun u v p q => e1 hc u v ((hx _).2 p) ((hy _).2 q), fun u v p q => e2 hc u v ((hw _).2 p) ((hx _).2 q), fun u v p q => e3 hc u v ((hw _).2 p) ((hy _).2 q)⟩
  have j68 : ∀ cf' ch' t', uR Dr Cf t cf ch t' cf' ch' → (cf' = 0 → ∀ u v, x = bI u → y = bI v → tl t' g (u ^^ v)) → (cf' = 0 → ∀ u v, w = bI u → x = bI v → dl (tl t') b (u ^^ v)) → s_U_stepEither_68 (nI g) (nI a) (nI b) post w y cf' ch' t' := by
    intro cf1 ch1 t1 hr e1 e2
    unfold s_U_stepEither_68
    refine br3 (fun p q => ?_) (fun p => fin _ _ _ hr e1 e2 (fun _ u v p1 p2 => by
      rcases p with p | p
      · exact absurd (p1.symm.trans p) n2
      · exact absurd (p2.symm.trans p) n2))
    obtain ⟨u, eu⟩ := w2.resolve_left p
    obtain ⟨v, ev⟩ := y2.resolve_left q
    rw [eu, ev, bI_xx]
    refine tell_R hcf hr.1 ha (u ^^ v) (d3 u v (h.2.1 _ _ ((hw u).1 eu)) (up ((hy v).1 ev))) (fun cf2 ch2 t2 r2 c2 => ?_)
    have z : cf2 = 0 → cf1 = 0 := r2.2.2.1
    exact fin _ _ _ (uR_tr hr r2) (fun o u v p q => r2.2.1 _ _ (e1 (z o) u v p q)) (fun o u v p q => uR_dl r2 (e2 (z o) u v p q)) (fun o u' v' p q => by
      rw [← bI_inj (eu.symm.trans p), ← bI_inj (ev.symm.trans q)]; exact c2 o)
  have j46 : ∀ cf' ch' t', uR Dr Cf t cf ch t' cf' ch' → (cf' = 0 → ∀ u v, x = bI u → y = bI v → tl t' g (u ^^ v)) → s_U_stepEither_46 (nI g) (nI a) (nI b) post w x y cf' ch' t' := by
    intro cf1 ch1 t1 hr e1
    unfold s_U_stepEither_46
    refine br3 (fun p q => ?_) (fun p => j68 _ _ _ hr e1 (fun _ u v p1 p2 => by
      rcases p with p | p
      · exact absurd (p1.symm.trans p) n2
      · exact absurd (p2.symm.trans p) n2))
    obtain ⟨u, eu⟩ := w2.resolve_left p
    obtain ⟨v, ev⟩ := x2.resolve_left q
    rw [eu, ev, bI_xx]
    refine tell_R hcf hr.1 hb (u ^^ v) (d2 u v (h.2.1 _ _ ((hw u).1 eu)) (up ((hx v).1 ev))) (fun cf2 ch2 t2 r2 c2 => ?_)
    have z : cf2 = 0 → cf1 = 0 := r2.2.2.1
    have q := j68 _ _ _ (uR_tr hr r2) (fun o u v p q => r2.2.1 _ _ (e1 (z o) u v p q)) (fun o u' v' p q => by
      rw [← bI_inj (eu.symm.trans p), ← bI_inj (ev.symm.trans q)]; exact c2 o)
    rw [eu] at q
    exact q
  refine br3 (fun p q => ?_) (fun p => j46 _ _ _ (uR_rf h) (fun _ u v p1 p2 => by
      rcases p with p | p
      · exact absurd (p1.symm.trans p) n2
      · exact absurd (p2.symm.trans p) n2))
  obtain ⟨u, eu⟩ := x2.resolve_left p
  obtain ⟨v, ev⟩ := y2.resolve_left q
  rw [two_nI, eu, ev, bI_xx]
  refine tell_R hcf h (by omega : 2 * g < 80) (u ^^ v) (dl_even.2 (d1 u v (up ((hx u).1 eu)) (up ((hy v).1 ev)))) (fun cf2 ch2 t2 r2 c2 => ?_)
  have q := j46 _ _ _ r2 (fun o u' v' p q => by
    rw [← bI_inj (eu.symm.trans p), ← bI_inj (ev.symm.trans q)]; exact dl_even.1 (c2 o))
  rw [eu, ev] at q
  exact q
theorem stepEquality_R {Dr : Nat → Bool → Prop} {Cf : Prop} (hcf : ∀ g, Dr g true → Dr g false → Cf) {t : Nat → Int32} {cf ch : Int32} (h : uS Dr Cf t cf ch) {a b : Nat} (ha : a < 80) (hb : b < 80) (hd : dEq Dr a b) {post : Int32 → Int32 → (Nat → Int32) → Prop} (k : ∀ cf' ch' t', uR Dr Cf t cf ch t' cf' ch' → (cf' = 0 → ch' = 0 → dEq (tl t') a b) → post cf' ch' t') : wp_U_stepEquality cf ch t (nI a) (nI b) post := by
  obtain ⟨d1, d2⟩ := hd
  have up : ∀ {l b}, dl (tl t) l b → dl Dr l b := fun q => h.2.1 _ _ q
  have n2 : ∀ {b}, ¬ bI b = 2 := fun {b} => bI_ne2 b
  unfold wp_U_stepEquality
  refine toldOf_r h.1 ha (fun x hx x2 => toldOf_r h.1 hb (fun y hy y2 => ?_))
  have fin : ∀ cf' ch' t', uR Dr Cf t cf ch t' cf' ch' → (cf' = 0 → ∀ u, x = bI u → dl (tl t') b u) → (cf' = 0 → ∀ u, y = bI u → dl (tl t') a u) → post cf' ch' t' := by
    intro cf' ch' t' hr e1 e2
    refine k cf' ch' t' hr (fun hc hh => ?_)
    have et : t' = t := (hr.2.2.2.1 hh).2
    subst et
    exact ⟨fun u p => e1 hc u ((hx _).2 p), fun u p => e2 hc u ((hy _).2 p)⟩
  have j24 : ∀ cf' ch' t', uR Dr Cf t cf ch t' cf' ch' → (cf' = 0 → ∀ u, x = bI u → dl (tl t') b u) → s_U_stepEquality_24 (nI a) (nI b) post y cf' ch' t' := by
    intro cf1 ch1 t1 hr e1
    unfold s_U_stepEquality_24
    refine br_c (fun p => fin _ _ _ hr e1 (fun _ u q => absurd (q.symm.trans p) n2)) (fun p => ?_)
    obtain ⟨v, ev⟩ := y2.resolve_left p
    rw [ev]
    refine tell_R hcf hr.1 ha v (d2 v (up ((hy v).1 ev))) (fun cf2 ch2 t2 r2 c2 => ?_)
    exact fin _ _ _ (uR_tr hr r2) (fun o u p => uR_dl r2 (e1 (r2.2.2.1 o) u p)) (fun o u p => by rw [← bI_inj (ev.symm.trans p)]; exact c2 o)
  refine br_c (fun p => j24 _ _ _ (uR_rf h) (fun _ u q => absurd (q.symm.trans p) n2)) (fun p => ?_)
  obtain ⟨v, ev⟩ := x2.resolve_left p
  rw [ev]
  refine tell_R hcf h hb v (d1 v (up ((hx v).1 ev))) (fun cf2 ch2 t2 r2 c2 => ?_)
  exact j24 _ _ _ r2 (fun o u p => by rw [← bI_inj (ev.symm.trans p)]; exact c2 o)
theorem litIx (j i : Nat) : nI j * 6 + nI i = nI (6 * j + i) := by
  rw [show (6 : Int32) = nI 6 from rfl, pk_mul, nI_add, Nat.mul_comm j 6]
theorem literalOf_r {T : Nat → Int32} {j i v : Nat} (hj : j < 24) (hi : i < 6) (hv : T (6 * j + i) = nI v) {post : Int32 → Prop} (k : post (nI v)) : wp_F_literalOf T (nI j) (nI i) post := by
  unfold wp_F_literalOf
  rw [litIx, nI_clamp (by omega : 6 * j + i < 2 ^ 31), hv]
  exact ⟨vp_in_nI (by omega) (by decide), k⟩
theorem stepClause_R {Dr : Nat → Bool → Prop} {Cf : Prop} (hcf : ∀ g, Dr g true → Dr g false → Cf) {t : Nat → Int32} {cf ch : Int32} (h : uS Dr Cf t cf ch) {Z T : Nat → Int32} {j z : Nat} {lt : Nat → Nat} (hj : j < 24) (hz : Z j = nI z) (hz6 : z ≤ 6) (hT : ∀ i, i < z → T (6 * j + i) = nI (lt i) ∧ lt i < 80) (hd : dCl Dr z lt) (hall : (∀ i, i < z → dl Dr (lt i) false) → Cf) {post : Int32 → Int32 → (Nat → Int32) → Prop} (k : ∀ cf' ch' t', uR Dr Cf t cf ch t' cf' ch' → (cf' = 0 → ch' = 0 → dCl (tl t') z lt ∧ ∃ i, i < z ∧ ¬ dl (tl t') (lt i) false) → post cf' ch' t') : wp_U_stepClause Z T cf ch t (nI j) post := by
  have up : ∀ {l b}, dl (tl t) l b → dl Dr l b := fun q => h.2.1 _ _ q
  unfold wp_U_stepClause
  intro C7 h7
  have loop : ∀ d i o (x3 : Int32), i + d = z → ((o = 0 ∧ ∀ i', i' < i → dl (tl t) (lt i') false) ∨ (o = 1 ∧ ∃ i0, i0 < i ∧ x3 = nI (lt i0) ∧ ¬ dl (tl t) (lt i0) false ∧ ∀ i', i' < i → i' ≠ i0 → dl (tl t) (lt i') false) ∨ (2 ≤ o ∧ o ≤ i ∧ ∃ i1 i2, i1 < i ∧ i2 < i ∧ i1 ≠ i2 ∧ ¬ dl (tl t) (lt i1) false ∧ ¬ dl (tl t) (lt i2) false)) → C7 (nI o) x3 (nI i) cf ch t := by
    intro d
    induction d with
    | zero =>
      intro i o x3 hi hp
      have ei : i = z := by omega
      subst ei
      refine h7 _ _ _ _ _ _ ?_
      unfold s_U_stepClause_7
      rw [nI_clamp (by omega : j < 2 ^ 31), hz]
      have ho : o < 7 := by rcases hp with hp | hp | hp <;> omega
      refine ⟨vp_in_nI hj (by decide), pk_le i i (fun _ => ?_) (fun q => absurd q (Nat.lt_irrefl _))⟩
      refine pk_eq o 0 (fun e => ?_) (fun e => pk_eq o 1 (fun e1 => ?_) (fun e1 => ?_))
      · have hf : ∀ i', i' < i → dl (tl t) (lt i') false := by
          rcases hp with hp | hp | hp
          · exact hp.2
          · omega
          · omega
        have hC : Cf := hall (fun i' hi' => up (hf i' hi'))
        exact k 1 ch t ⟨⟨h.1, h.2.1, isB_1, h.2.2.2.1, fun _ => hC⟩, fun _ _ q => q, fun q => absurd q (by decide), fun q => ⟨q, rfl⟩, fun q => Or.inl q, Nat.le_refl _⟩ (fun q => absurd q (by decide))
      · obtain ⟨i0, hi0, e3, hn, hf⟩ : ∃ i0, i0 < i ∧ x3 = nI (lt i0) ∧ ¬ dl (tl t) (lt i0) false ∧ ∀ i', i' < i → i' ≠ i0 → dl (tl t) (lt i') false := by
          rcases hp with hp | hp | hp
          · omega
          · exact hp.2
          · omega
        rw [e3]
        refine tell_R hcf h (hT i0 hi0).2 true (hd i0 hi0 (fun i' a b => up (hf i' a b))) (fun cf2 ch2 t2 r2 c2 => k _ _ _ r2 (fun oc oh => ?_))
        have et : t2 = t := (r2.2.2.2.1 oh).2
        subst et
        refine ⟨fun i' hi' ha => ?_, i0, hi0, hn⟩
        by_cases e4 : i' = i0
        · subst e4; exact c2 oc
        · exact absurd (ha i0 hi0 (fun q => e4 q.symm)) hn
      · obtain ⟨-, -, i1, i2, a1, a2, a3, a4, a5⟩ : 2 ≤ o ∧ o ≤ i ∧ ∃ i1 i2, i1 < i ∧ i2 < i ∧ i1 ≠ i2 ∧ ¬ dl (tl t) (lt i1) false ∧ ¬ dl (tl t) (lt i2) false := by
          rcases hp with hp | hp | hp
          · omega
          · omega
          · exact hp
        refine k cf ch t (uR_rf h) (fun _ _ => ⟨fun i' hi' ha => ?_, i1, a1, a4⟩)
        by_cases e4 : i1 = i'
        · exact absurd (ha i2 a2 (fun q => a3 (e4.trans q.symm))) a5
        · exact absurd (ha i1 a1 e4) a4
    | succ d ih =>
      intro i o x3 hi hp
      refine h7 _ _ _ _ _ _ ?_
      unfold s_U_stepClause_7
      rw [nI_clamp (by omega : j < 2 ^ 31), hz]
      refine ⟨vp_in_nI hj (by decide), pk_le z i (fun q => absurd q (by omega)) (fun _ => ?_)⟩
      refine literalOf_r hj (by omega) (hT i (by omega)).1 ?_
      refine toldOf_r h.1 (hT i (by omega)).2 (fun r hr _ => br_c (fun e => ?_) (fun e => ?_))
      · have hf : dl (tl t) (lt i) false := (hr false).1 e
        unfold s_U_stepClause_48
        rw [nI_1]
        refine ih (i + 1) o x3 (by omega) ?_
        rcases hp with ⟨a, b⟩ | ⟨a, i0, b1, b2, b3, b4⟩ | ⟨a, a', i1, i2, b1, b2, b3, b4, b5⟩
        · exact Or.inl ⟨a, lt_s b hf⟩
        · exact Or.inr (Or.inl ⟨a, i0, by omega, b2, b3, lt_s b4 (fun _ => hf)⟩)
        · exact Or.inr (Or.inr ⟨a, by omega, i1, i2, by omega, by omega, b3, b4, b5⟩)
      · have hf : ¬ dl (tl t) (lt i) false := fun q => e ((hr false).2 q)
        unfold s_U_stepClause_48
        rw [nI_1, nI_1]
        refine ih (i + 1) (o + 1) _ (by omega) ?_
        rcases hp with ⟨a, b⟩ | ⟨a, i0, b1, b2, b3, b4⟩ | ⟨a, a', i1, i2, b1, b2, b3, b4, b5⟩
        · exact Or.inr (Or.inl ⟨by omega, i, by omega, rfl, hf, fun i' q1 q2 => b i' (by omega)⟩)
        · exact Or.inr (Or.inr ⟨by omega, by omega, i0, i, by omega, by omega, by omega, b3, hf⟩)
        · exact Or.inr (Or.inr ⟨by omega, by omega, i1, i2, by omega, by omega, b3, b4, b5⟩)
  exact loop z 0 0 _ (by omega) (Or.inl ⟨rfl, fun i' q => absurd q (Nat.not_lt_zero _)⟩)
def gA (n : Nat) (kd ga gb : Nat → Nat) (gs : Int32) (K Lf Rt : Nat → Int32) : Prop := gs = nI n ∧ 0 < n ∧ n ≤ 40 ∧ ∀ g, 0 < g → g < n → K g = nI (kd g) ∧ kd g ≤ 2 ∧ (kd g ≠ 0 → Lf g = nI (ga g) ∧ ga g < 2 * g ∧ Rt g = nI (gb g) ∧ gb g < 2 * g)
def lA (n k : Nat) (lk lz : Nat → Nat) (lt : Nat → Nat → Nat) (K Z T : Nat → Int32) : Prop := ∀ j, j < k → K j = nI (lk j) ∧ lk j ≤ 1 ∧ Z j = nI (lz j) ∧ lz j ≤ 6 ∧ (lk j = 1 → lz j = 2) ∧ ∀ i, i < lz j → T (6 * j + i) = nI (lt j i) ∧ lt j i < 2 * n
def dGates (n : Nat) (kd ga gb : Nat → Nat) (m : Nat) (S : Nat → Bool → Prop) : Prop := ∀ g, 0 < g → g < m → g < n → (kd g = 1 → dAnd S g (ga g) (gb g)) ∧ (kd g = 2 → dXor S g (ga g) (gb g))
def dLines (us : Nat → Prop) (lk lz : Nat → Nat) (lt : Nat → Nat → Nat) (m : Nat) (S : Nat → Bool → Prop) : Prop := ∀ j, j < m → us j → (lk j = 1 → dEq S (lt j 0) (lt j 1)) ∧ (lk j = 0 → dCl S (lz j) (lt j) ∧ ∃ i, i < lz j ∧ ¬ dl S (lt j i) false)
theorem come_R {n k : Nat} {kd ga gb : Nat → Nat} {lk lz : Nat → Nat} {lt : Nat → Nat → Nat} {asm : Nat → Prop} {gs : Int32} {GK GL GR FK FZ FT FO : Nat → Int32} (hg : gA n kd ga gb gs GK GL GR) (hl : lA n k lk lz lt FK FZ FT) (hk : k ≤ 24) {Dr : Nat → Bool → Prop} {Cf : Prop} (eD : Dr = Der n kd ga gb (fun j => j < k ∧ FO j = 0) lk lz lt asm) (eC : Cf = Conf n kd ga gb (fun j => j < k ∧ FO j = 0) lk lz lt asm) {t : Nat → Int32} {cf ch : Int32} (h : uS Dr Cf t cf ch) (ha : cf = 0 → tl t 0 false ∧ ∀ l, asm l → dl (tl t) l true) {post : Int32 → Int32 → Int32 → (Nat → Int32) → Prop} (kk : ∀ r ch' t', isB r → isB ch' → (r = 1 → Cf) → (r = 0 → ¬ Cf ∧ ∀ g b, Dr g b ↔ tl t' g b) → tOK t' → post r r ch' t') : wp_U_comeToConflict gs GK GL GR FK FZ FT FO cf ch t (nI k) post := by
  obtain ⟨egs, hn0, hn, hgt⟩ := hg
  subst egs
  have hclo : dClo n kd ga gb (fun j => j < k ∧ FO j = 0) lk lz lt asm Dr := by rw [eD]; exact der_clo ..
  have hcf : ∀ g, Dr g true → Dr g false → Cf := by rw [eD, eC]; exact fun g a b => Or.inl ⟨g, a, b⟩
  have hcl : ∀ j, j < k → FO j = 0 → lk j = 0 → (∀ i, i < lz j → dl Dr (lt j i) false) → Cf := by rw [eD, eC]; exact fun j a b c d => Or.inr ⟨j, ⟨a, b⟩, c, d⟩
  unfold wp_U_comeToConflict
  intro C7 C34 C135 h7 h34 h135
  -- the lines of a round
  have L135 : ∀ d j r (t0 : Nat → Int32) cf' ch' t', j + d = k → uR Dr Cf t0 0 0 t' cf' ch' → (cf' = 0 → ch' = 0 → dGates n kd ga gb n (tl t') ∧ dLines (fun j => j < k ∧ FO j = 0) lk lz lt j (tl t')) → (∀ cf2 ch2 t2, uR Dr Cf t0 0 0 t2 cf2 ch2 → (cf2 = 0 → ch2 = 0 → dGates n kd ga gb n (tl t2) ∧ dLines (fun j => j < k ∧ FO j = 0) lk lz lt k (tl t2)) → C7 (nI (r + 1)) cf2 ch2 t2) → C135 (nI r) (nI j) cf' ch' t' := by
    intro d
    induction d with
    | zero =>
      intro j r t0 cf' ch' t' hj hr hc kx
      have ej : j = k := by omega
      subst ej
      refine h135 _ _ _ _ _ ?_
      unfold s_U_comeToConflict_135 s_U_comeToConflict_211
      rw [nI_1]
      exact pk_le j j (fun _ => kx _ _ _ hr hc) (fun q => absurd q (Nat.lt_irrefl _))
    | succ d ih =>
      intro j r t0 cf' ch' t' hj hr hc kx
      refine h135 _ _ _ _ _ ?_
      unfold s_U_comeToConflict_135 s_U_comeToConflict_211 s_U_comeToConflict_205
      rw [nI_1, nI_1, nI_clamp (by omega : j < 2 ^ 31)]
      refine pk_le k j (fun q => absurd q (by omega)) (fun _ => br_c (fun ec => ⟨vp_in_nI (by omega) (by decide), br_c (fun eo => ⟨vp_in_nI (by omega) (by decide), ?_⟩) (fun eo => ?_)⟩) (fun ec => ?_))
      · obtain ⟨eK, hlk, eZ, hz6, hz2, hT⟩ := hl j (by omega)
        rw [eK]
        have next : ∀ cf2 ch2 t2, uR Dr Cf t' cf' ch' t2 cf2 ch2 → (cf2 = 0 → ch2 = 0 → (lk j = 1 → dEq (tl t2) (lt j 0) (lt j 1)) ∧ (lk j = 0 → dCl (tl t2) (lz j) (lt j) ∧ ∃ i, i < lz j ∧ ¬ dl (tl t2) (lt j i) false)) → C135 (nI r) (nI (j + 1)) cf2 ch2 t2 := by
          intro cf2 ch2 t2 r2 c2
          refine ih (j + 1) r t0 cf2 ch2 t2 (by omega) (uR_tr hr r2) (fun o1 o2 => ?_) kx
          obtain ⟨e1, e2⟩ := r2.2.2.2.1 o2
          have hh := hc (r2.2.2.1 o1) e1
          subst e2
          exact ⟨hh.1, lt_s hh.2 (fun _ => c2 o1 o2)⟩
        refine pk_eq (lk j) 1 (fun e1 => ?_) (fun e1 => ?_)
        · have hz := hz2 e1
          refine literalOf_r (by omega) (by decide) (hT 0 (by omega)).1 (literalOf_r (i := 1) (by omega) (by decide) (hT 1 (by omega)).1 ?_)
          have b0 := (hT 0 (by omega)).2
          have b1 := (hT 1 (by omega)).2
          exact stepEquality_R hcf hr.1 (by omega) (by omega) (hclo.2.2.2.2.1 j ⟨by omega, eo⟩ e1) (fun cf2 ch2 t2 r2 c2 => next _ _ _ r2 (fun o1 o2 => ⟨fun _ => c2 o1 o2, fun q => by omega⟩))
        · have e0 : lk j = 0 := by omega
          exact stepClause_R hcf hr.1 (by omega) eZ hz6 (fun i hi => ⟨(hT i hi).1, by have := (hT i hi).2; omega⟩) (hclo.2.2.2.2.2 j ⟨by omega, eo⟩ e0) (hcl j (by omega) eo e0) (fun cf2 ch2 t2 r2 c2 => next _ _ _ r2 (fun o1 o2 => ⟨fun q => by omega, fun _ => c2 o1 o2⟩))
      · refine ih (j + 1) r t0 cf' ch' t' (by omega) hr (fun o1 o2 => ?_) kx
        have hh := hc o1 o2
        exact ⟨hh.1, lt_s hh.2 (fun q => absurd q.2 eo)⟩
      · exact kx _ _ _ hr (fun o1 => absurd o1 ec)
  -- the gates of a round
  have L34 : ∀ d g r (t0 : Nat → Int32) cf' ch' t', g + d = n → 0 < g → uR Dr Cf t0 0 0 t' cf' ch' → (cf' = 0 → ch' = 0 → dGates n kd ga gb g (tl t')) → (∀ cf2 ch2 t2, uR Dr Cf t0 0 0 t2 cf2 ch2 → (cf2 = 0 → ch2 = 0 → dGates n kd ga gb n (tl t2)) → C135 (nI r) (nI 0) cf2 ch2 t2) → C34 (nI r) (nI g) cf' ch' t' := by
    intro d
    induction d with
    | zero =>
      intro g r t0 cf' ch' t' hgn h0 hr hc kx
      have eg : g = n := by omega
      subst eg
      refine h34 _ _ _ _ _ ?_
      unfold s_U_comeToConflict_34 s_U_comeToConflict_133
      exact pk_le g g (fun _ => kx _ _ _ hr hc) (fun q => absurd q (Nat.lt_irrefl _))
    | succ d ih =>
      intro g r t0 cf' ch' t' hgn h0 hr hc kx
      refine h34 _ _ _ _ _ ?_
      unfold s_U_comeToConflict_34 s_U_comeToConflict_133 s_U_comeToConflict_127
      rw [nI_1, nI_clamp (by omega : g < 2 ^ 31)]
      obtain ⟨eK, hk2, hlr⟩ := hgt g h0 (by omega)
      rw [eK]
      have vin : vp_in (nI g) 40 := vp_in_nI (by omega) (by decide)
      have next : ∀ cf2 ch2 t2, uR Dr Cf t' cf' ch' t2 cf2 ch2 → (cf2 = 0 → ch2 = 0 → (kd g = 1 → dAnd (tl t2) g (ga g) (gb g)) ∧ (kd g = 2 → dXor (tl t2) g (ga g) (gb g))) → C34 (nI r) (nI (g + 1)) cf2 ch2 t2 := by
        intro cf2 ch2 t2 r2 c2
        refine ih (g + 1) r t0 cf2 ch2 t2 (by omega) (by omega) (uR_tr hr r2) (fun o1 o2 => ?_) kx
        obtain ⟨e1, e2⟩ := r2.2.2.2.1 o2
        have hh := hc (r2.2.2.1 o1) e1
        subst e2
        intro g' q0 q1 q2
        by_cases e : g' = g
        · subst e; exact c2 o1 o2
        · exact hh g' q0 (by omega) q2
      refine pk_le n g (fun q => absurd q (by omega)) (fun _ => br_c (fun ec => ⟨vin, ?_⟩) (fun ec => ?_))
      · refine pk_eq (kd g) 1 (fun e1 => ⟨vin, vin, ?_⟩) (fun e1 => ⟨vin, pk_eq (kd g) 2 (fun e2 => ⟨vin, vin, ?_⟩) (fun e2 => ?_)⟩)
        · obtain ⟨eL, hL, eR, hR⟩ := hlr (by omega)
          rw [eL, eR]
          exact stepAnd_R hcf hr.1 (by omega) (by omega) (by omega) (hclo.2.2.1 g h0 (by omega) e1) (fun cf2 ch2 t2 r2 c2 => next _ _ _ r2 (fun o1 o2 => ⟨fun _ => c2 o1 o2, fun q => by omega⟩))
        · obtain ⟨eL, hL, eR, hR⟩ := hlr (by omega)
          rw [eL, eR]
          exact stepEither_R hcf hr.1 (by omega) (by omega) (by omega) (hclo.2.2.2.1 g h0 (by omega) e2) (fun cf2 ch2 t2 r2 c2 => next _ _ _ r2 (fun o1 o2 => ⟨fun q => by omega, fun _ => c2 o1 o2⟩))
        · exact next _ _ _ (uR_rf hr.1) (fun _ _ => ⟨fun q => absurd q e1, fun q => absurd q e2⟩)
      · exact kx _ _ _ hr (fun o1 => absurd o1 ec)
  -- the rounds
  have L7 : ∀ d r cf' ch' t', r + d = 41 → uS Dr Cf t' cf' ch' → (cf' = 0 → tl t' 0 false ∧ ∀ l, asm l → dl (tl t') l true) → (ch' = 1 → r ≤ cnt t' 40) → (cf' = 0 → ch' = 0 → dGates n kd ga gb n (tl t') ∧ dLines (fun j => j < k ∧ FO j = 0) lk lz lt k (tl t')) → C7 (nI r) cf' ch' t' := by
    intro d
    have done : ∀ cf' ch' t', uS Dr Cf t' cf' ch' → (cf' = 0 → tl t' 0 false ∧ ∀ l, asm l → dl (tl t') l true) → (cf' = 0 → dGates n kd ga gb n (tl t') ∧ dLines (fun j => j < k ∧ FO j = 0) lk lz lt k (tl t')) → (isB cf' ∧ post cf' cf' ch' t') := by
      intro cf' ch' t' hs hb hc
      refine ⟨hs.2.2.1, kk cf' ch' t' hs.2.2.1 hs.2.2.2.1 hs.2.2.2.2 (fun e0 => ?_) hs.1⟩
      obtain ⟨c1, c2⟩ := hc e0
      obtain ⟨b1, b2⟩ := hb e0
      have hh := der_done (n := n) (kd := kd) (ga := ga) (gb := gb) (us := fun j => j < k ∧ FO j = 0) (lk := lk) (lz := lz) (lt := lt) (asm := asm) (S := tl t') (fun g b q => by rw [← eD]; exact hs.2.1 g b q) (fun g q1 q2 => by cases tl_fun q1 q2)
        ⟨b1, b2, fun g q0 q1 q2 => (c1 g q0 q1 q1).1 q2, fun g q0 q1 q2 => (c1 g q0 q1 q1).2 q2, fun j q1 q2 => (c2 j q1.1 q1).1 q2, fun j q1 q2 => ((c2 j q1.1 q1).2 q2).1⟩
        (fun j q1 q2 => ((c2 j q1.1 q1).2 q2).2)
      rw [eD, eC]
      exact ⟨hh.2, hh.1⟩
    induction d with
    | zero =>
      intro r cf' ch' t' hr hs hb hcn hc
      have er : r = 41 := by omega
      subst er
      refine h7 _ _ _ _ ?_
      unfold s_U_comeToConflict_7
      refine pk_lt 40 41 (fun _ => ?_) (fun q => absurd q (by omega))
      refine done cf' ch' t' hs hb (fun e0 => ?_)
      rcases hs.2.2.2.1 with e1 | e1
      · exact hc e0 e1
      · have := hcn e1
        have := cnt_le t' 40
        omega
    | succ d ih =>
      intro r cf' ch' t' hr hs hb hcn hc
      refine h7 _ _ _ _ ?_
      unfold s_U_comeToConflict_7
      refine pk_lt 40 r (fun q => absurd q (by omega)) (fun _ => br_c (fun e1 => done cf' ch' t' hs hb (fun e0 => hc e0 e1)) (fun e1 => br_c (fun e0 => ?_) (fun e0 => done cf' ch' t' hs hb (fun e2 => absurd e2 e0))))
      have ech : ch' = 1 := hs.2.2.2.1.resolve_left e1
      subst e0
      have hs0 : uS Dr Cf t' 0 0 := ⟨hs.1, hs.2.1, isB_0, isB_0, fun q => absurd q (by decide)⟩
      refine L34 (n - 1) 1 r t' 0 0 t' (by omega) (by decide) (uR_rf hs0) (fun _ _ g q0 q1 => by omega) (fun cf2 ch2 t2 r2 c2 => ?_)
      refine L135 k 0 r t' cf2 ch2 t2 (by omega) r2 (fun o1 o2 => ⟨c2 o1 o2, fun j q => absurd q (Nat.not_lt_zero _)⟩) (fun cf3 ch3 t3 r3 c3 => ?_)
      refine ih (r + 1) cf3 ch3 t3 (by omega) r3.1 (fun o => ?_) (fun o => ?_) c3
      · obtain ⟨b1, b2⟩ := hb rfl
        exact ⟨r3.2.1 _ _ b1, fun l q => uR_dl r3 (b2 l q)⟩
      · have h1 := hcn ech
        rcases r3.2.2.2.2.1 o with q | q
        · exact absurd q (by decide)
        · omega
  exact L7 41 0 cf 1 t (by omega) ⟨h.1, h.2.1, h.2.2.1, isB_1, h.2.2.2.2⟩ ha (fun _ => Nat.zero_le _) (fun _ q => absurd q (by decide))
