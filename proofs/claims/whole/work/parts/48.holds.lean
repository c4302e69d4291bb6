/-! holds of both. -/
theorem sh1 (x : Int64) (k : Nat) (hk : k < 64) : ((x.toUInt64 >>> ((nI k).toInt64.toUInt64 &&& Int64.toUInt64 63)).toInt64).toUInt64.toNat = x.toUInt64.toNat / 2 ^ k := by
  have h : ∀ k, k < 64 → ((nI k).toInt64.toUInt64 &&& Int64.toUInt64 63).toNat = k := by decide +kernel
  rw [UInt64.toUInt64_toInt64, UInt64.toNat_shiftRight, h k hk, Nat.mod_eq_of_lt hk, Nat.shiftRight_eq_div_pow]
theorem and1 (x : Int64) : (x &&& 1).toUInt64.toNat = x.toUInt64.toNat % 2 := by
  rw [Int64.toUInt64_and, UInt64.toNat_and]
  exact Nat.and_one_is_mod _
theorem and1_0 (x : Int64) : (x &&& 1 = 0) ↔ x.toUInt64.toNat % 2 = 0 := by
  rw [← and1]
  constructor
  · intro h; rw [h]; rfl
  · intro h
    have h1 : (x &&& 1).toUInt64 = 0 := UInt64.toNat_inj.1 h
    have h2 := congrArg UInt64.toInt64 h1
    rw [Int64.toInt64_toUInt64] at h2
    exact h2
theorem and1_i (x : Int64) (b : Bool) (h : x.toUInt64.toNat % 2 = if b then 1 else 0) : (x &&& 1).toInt32 = bI b := by
  have h1 : (x &&& 1).toUInt64 = if b then 1 else 0 := by
    apply UInt64.toNat_inj.1
    rw [and1, h]; cases b <;> rfl
  have h2 := congrArg UInt64.toInt64 h1
  rw [Int64.toInt64_toUInt64] at h2
  rw [h2]; cases b <;> rfl
def inp (kd : Nat → Nat) : Nat → Nat
  | 0 => 0
  | g + 1 => inp kd g + if 0 < g ∧ kd g = 0 then 1 else 0
theorem inp_y {kd : Nat → Nat} {g : Nat} (h0 : 0 < g) (h : kd g = 0) : inp kd (g + 1) = inp kd g + 1 := by
  show inp kd g + (if 0 < g ∧ kd g = 0 then 1 else 0) = _
  rw [if_pos ⟨h0, h⟩]
theorem inp_n {kd : Nat → Nat} {g : Nat} (h : kd g ≠ 0) : inp kd (g + 1) = inp kd g := by
  show inp kd g + (if 0 < g ∧ kd g = 0 then 1 else 0) = _
  rw [if_neg (fun q => h q.2)]; rfl
theorem inp_1 {kd : Nat → Nat} : inp kd 1 = 0 := by
  show 0 + (if 0 < 0 ∧ kd 0 = 0 then 1 else 0) = 0
  rw [if_neg (fun q => absurd q.1 (by decide))]
theorem inp_le {kd : Nat → Nat} : ∀ g, inp kd g ≤ g
  | 0 => Nat.le_refl 0
  | g + 1 => by
    have h := inp_le (kd := kd) g
    show inp kd g + (if 0 < g ∧ kd g = 0 then 1 else 0) ≤ _
    split <;> omega
theorem inp_same {kd kd' : Nat → Nat} : ∀ m, (∀ g, g < m → kd' g = kd g) → inp kd' m = inp kd m
  | 0, _ => rfl
  | m + 1, h => by
    show inp kd' m + (if 0 < m ∧ kd' m = 0 then 1 else 0) = inp kd m + (if 0 < m ∧ kd m = 0 then 1 else 0)
    rw [inp_same m (fun g hg => h g (by omega)), h m (by omega)]
def lv (t : Nat → Int32) (l : Nat) : Bool := decide (t (l / 2) = 1) ^^ decide (l % 2 = 1)
def gv (kd ga gb : Nat → Nat) (P : Nat) (t : Nat → Int32) (g : Nat) : Bool := if kd g = 0 then decide (P / 2 ^ inp kd g % 2 = 1) else if kd g = 1 then (lv t (ga g) && lv t (gb g)) else (lv t (ga g) ^^ lv t (gb g))
def TV (kd ga gb : Nat → Nat) (P : Nat) (t : Nat → Int32) (m : Nat) : Prop := t 0 = 0 ∧ ∀ g, 0 < g → g < m → t g = bI (gv kd ga gb P t g)
theorem TV_B {kd ga gb : Nat → Nat} {P : Nat} {t : Nat → Int32} {m : Nat} (h : TV kd ga gb P t m) {g : Nat} (hg : g < m) : isB (t g) := by
  by_cases e : g = 0
  · subst e; exact Or.inl h.1
  · rw [h.2 g (by omega) hg]; exact bI_isB _
theorem gv_cong {kd ga gb : Nat → Nat} {P : Nat} {t t' : Nat → Int32} {g : Nat} (h : ∀ q, q < g → t' q = t q) (hl : kd g ≠ 0 → ga g < 2 * g ∧ gb g < 2 * g) : gv kd ga gb P t' g = gv kd ga gb P t g := by
  unfold gv lv
  by_cases e : kd g = 0
  · rw [if_pos e, if_pos e]
  · obtain ⟨a, b⟩ := hl e
    rw [if_neg e, if_neg e, h (ga g / 2) (by omega), h (gb g / 2) (by omega)]
theorem TV_uniq {kd ga gb : Nat → Nat} {P : Nat} {t t' : Nat → Int32} {m n : Nat} (hl : ∀ g, 0 < g → g < n → kd g ≠ 0 → ga g < 2 * g ∧ gb g < 2 * g) (hm : m ≤ n) (h : TV kd ga gb P t m) (h' : TV kd ga gb P t' m) : ∀ g, g < m → t' g = t g := by
  intro g
  induction g using Nat.strongRecOn with
  | ind g ih =>
    intro hg
    by_cases e : g = 0
    · subst e; rw [h.1, h'.1]
    · rw [h.2 g (by omega) hg, h'.2 g (by omega) hg, gv_cong (fun q hq => ih q hq (by omega)) (hl g (by omega) (by omega))]
theorem TV_step {kd ga gb : Nat → Nat} {P : Nat} {t : Nat → Int32} {g n : Nat} {v : Int32} (hl : ∀ g, 0 < g → g < n → kd g ≠ 0 → ga g < 2 * g ∧ gb g < 2 * g) (h0 : 0 < g) (hg : g < n) (h : TV kd ga gb P t g) (hv : v = bI (gv kd ga gb P t g)) : TV kd ga gb P (upd t g v) (g + 1) := by
  refine ⟨by rw [pk_un (by omega)]; exact h.1, fun q q0 q1 => ?_⟩
  have c : gv kd ga gb P (upd t g v) q = gv kd ga gb P t q := gv_cong (fun x hx => pk_un (by omega)) (hl q q0 (by omega))
  rw [c]
  by_cases e : q = g
  · subst e; rw [pk_us]; exact hv
  · rw [pk_un e]; exact h.2 q q0 (by omega)
theorem truthOf_r {t : Nat → Int32} {l : Nat} (hl : l < 80) (hB : isB (t (l / 2))) {post : Int32 → Prop} (k : post (bI (lv t l))) : wp_G_truthOf t (nI l) post := by
  unfold wp_G_truthOf s_G_truthOf_20
  rw [lit_half (by omega), lit_low (by omega), nI_clamp (by omega : l / 2 < 2 ^ 31)]
  unfold lv at k
  refine ⟨vp_in_nI (by omega) (by decide), pk_eq (l % 2) 1 (fun e => ?_) (fun e => ?_)⟩ <;> rcases hB with h | h <;> rw [h] at k ⊢
  · rw [decide_eq_true e] at k; exact br_f (by decide) k
  · rw [decide_eq_true e] at k; exact br_t rfl k
  · rw [decide_eq_false e] at k; exact br_t rfl k
  · rw [decide_eq_false e] at k; exact br_f (by decide) k
theorem value2_r {t : Nat → Int32} {l : Nat} (hl : l < 80) (hB : isB (t (l / 2))) {post : Int32 → Prop} (k : post (bI (lv t l))) : wp_M_value t (nI l) post := by
  unfold wp_M_value
  rw [lit_half2 (by omega), lit_low (by omega), nI_clamp (by omega : l / 2 < 2 ^ 31)]
  unfold lv at k
  obtain ⟨b, e⟩ := isB_of hB
  rw [e] at k ⊢
  have e2 : decide (bI b = 1) = b := by cases b <;> decide
  rw [e2] at k
  refine ⟨vp_in_nI (by omega) (by decide), br_f (bI_ne2 b) ?_⟩
  rw [bI_xor]
  exact k
theorem gA_lt {n : Nat} {kd ga gb : Nat → Nat} {gs : Int32} {K L R : Nat → Int32} (h : gA n kd ga gb gs K L R) : ∀ g, 0 < g → g < n → kd g ≠ 0 → ga g < 2 * g ∧ gb g < 2 * g := fun g h0 h1 h2 => ⟨((h.2.2.2 g h0 h1).2.2 h2).2.1, ((h.2.2.2 g h0 h1).2.2 h2).2.2.2⟩
theorem holds_L {n : Nat} {kd ga gb : Nat → Nat} {gs : Int32} {GK GL GR GT : Nat → Int32} (hg : gA n kd ga gb gs GK GL GR) (h00 : GT 0 = 0) {out : Nat → Int64} {p1 : Int32} {p2 : Int64} {post : Int32 → (Nat → Int32) → (Nat → Int64) → Prop} (kx : ¬ isL n p1 → post 1 GT out) (kr : ∀ l t', l < 2 * n → p1 = nI l → TV kd ga gb p2.toUInt64.toNat t' (l / 2 + 1) → post 0 t' (vp_updL out (0 : Int32).toNatClampNeg (lB (lv t' l)))) : wp_L_holds gs GK GL GR GT out p1 p2 post := by
  have hlt := gA_lt hg
  obtain rfl : gs = nI n := hg.1
  have hn := hg.2.2.1
  unfold wp_L_holds wp_P_holds s_L_holds_17
  by_cases hp : isL n p1
  rotate_left
  · exact Or.inr (hasL_n hn hp (br_t rfl ⟨rfl, kx hp⟩))
  obtain ⟨l, hl, rfl⟩ := hp
  refine Or.inl (hasL_y hn hl (br_f (by decide) ?_))
  unfold wp_G_isTrueWith
  intro C11 h11
  rw [lit_half (by omega)]
  have loop : ∀ d g (x5 : Int64) (t : Nat → Int32), g + d = l / 2 + 1 → 0 < g → x5.toUInt64.toNat = p2.toUInt64.toNat / 2 ^ inp kd g → TV kd ga gb p2.toUInt64.toNat t g → C11 (nI (l / 2)) x5 (nI g) t := by
    intro d
    induction d with
    | zero =>
      intro g x5 t hgd h0 hx ht
      have e : g = l / 2 + 1 := by omega
      subst e
      refine h11 _ _ _ _ ?_
      unfold s_G_isTrueWith_11
      refine pk_lt (l / 2) (l / 2 + 1) (fun _ => ?_) (fun q => absurd q (by omega))
      refine truthOf_r (by omega) (TV_B ht (by omega)) ⟨bI_isB _, bI_isB _, ?_⟩
      have k := kr l t hl rfl ht
      cases e : lv t l <;> rw [e] at k
      · exact br_t rfl ⟨in01, k⟩
      · exact br_f (by decide) ⟨in01, k⟩
    | succ d ih =>
      intro g x5 t hgd h0 hx ht
      have hgn : g < n := by omega
      refine h11 _ _ _ _ ?_
      obtain ⟨eK, hk2, hlr⟩ := hg.2.2.2 g h0 hgn
      have vg : vp_in (nI g) 40 := vp_in_nI (by omega) (by decide)
      unfold s_G_isTrueWith_11 s_G_isTrueWith_48 s_G_isTrueWith_107 s_G_isTrueWith_108 s_G_isTrueWith_148 s_G_isTrueWith_149
      rw [nI_1, nI_clamp (by omega : g < 2 ^ 31), eK, show vp_nar .boolean 1 = 1 from rfl, show vp_nar .boolean 0 = 0 from rfl, lg_cmp_eq, and1_0, hx]
      refine pk_lt (l / 2) g (fun q => absurd q (by omega)) (fun _ => ⟨vg, pk_eq (kd g) 0 (fun e0 => ?_) (fun e0 => ⟨vg, pk_eq (kd g) 1 (fun e1 => ⟨vg, ?_⟩) (fun e1 => ⟨vg, ?_⟩)⟩)⟩)
      · have nx : ((x5.toUInt64 >>> ((1 : Int32).toInt64.toUInt64 &&& Int64.toUInt64 63)).toInt64).toUInt64.toNat = p2.toUInt64.toNat / 2 ^ inp kd (g + 1) := by
          have q := sh1 x5 1 (by decide)
          rw [show ((1 : Int32)) = nI 1 from rfl, q, hx, inp_y h0 e0, Nat.pow_succ 2 (inp kd g), Nat.div_div_eq_div_mul]
        have egv : gv kd ga gb p2.toUInt64.toNat t g = decide (p2.toUInt64.toNat / 2 ^ inp kd g % 2 = 1) := if_pos e0
        refine br_c (fun q => ⟨vg, ih (g + 1) _ _ (by omega) (by omega) nx (TV_step hlt h0 hgn ht ?_)⟩) (fun q => ⟨vg, ih (g + 1) _ _ (by omega) (by omega) nx (TV_step hlt h0 hgn ht ?_)⟩)
        · rw [egv, decide_eq_false (by omega)]; rfl
        · rw [egv, decide_eq_true (by omega)]; rfl
      · obtain ⟨eL, hL, eR, hR⟩ := hlr e0
        have egv : gv kd ga gb p2.toUInt64.toNat t g = (lv t (ga g) && lv t (gb g)) := by unfold gv; rw [if_neg e0, if_pos e1]
        rw [eL, eR]
        have nx : ∀ v, v = bI (lv t (ga g) && lv t (gb g)) → C11 (nI (l / 2)) x5 (nI (g + 1)) (upd t g v) := fun v hv => ih (g + 1) x5 _ (by omega) (by omega) (by rw [inp_n e0]; exact hx) (TV_step hlt h0 hgn ht (by rw [egv]; exact hv))
        refine truthOf_r (by omega) (TV_B ht (by omega)) ?_
        cases ha : lv t (ga g)
        · exact br_t rfl ⟨vg, nx _ (by rw [ha]; rfl)⟩
        · refine br_f (by decide) ⟨vg, truthOf_r (by omega) (TV_B ht (by omega)) ?_⟩
          cases hb : lv t (gb g)
          · exact br_t rfl ⟨vg, nx _ (by rw [ha, hb]; rfl)⟩
          · exact br_f (by decide) ⟨vg, nx _ (by rw [ha, hb]; rfl)⟩
      · obtain ⟨eL, hL, eR, hR⟩ := hlr e0
        have egv : gv kd ga gb p2.toUInt64.toNat t g = (lv t (ga g) ^^ lv t (gb g)) := by unfold gv; rw [if_neg e0, if_neg e1]
        rw [eL, eR]
        have nx : ∀ v, v = bI (lv t (ga g) ^^ lv t (gb g)) → C11 (nI (l / 2)) x5 (nI (g + 1)) (upd t g v) := fun v hv => ih (g + 1) x5 _ (by omega) (by omega) (by rw [inp_n e0]; exact hx) (TV_step hlt h0 hgn ht (by rw [egv]; exact hv))
        refine truthOf_r (by omega) (TV_B ht (by omega)) ⟨vg, truthOf_r (by omega) (TV_B ht (by omega)) ?_⟩
        cases ha : lv t (ga g) <;> cases hb : lv t (gb g)
        · exact br_t rfl ⟨vg, nx _ (by rw [ha, hb]; rfl)⟩
        · exact br_f (by decide) ⟨vg, nx _ (by rw [ha, hb]; rfl)⟩
        · exact br_f (by decide) ⟨vg, nx _ (by rw [ha, hb]; rfl)⟩
        · exact br_t rfl ⟨vg, nx _ (by rw [ha, hb]; rfl)⟩
  exact loop (l / 2) 1 p2 GT (by omega) (by decide) (by rw [inp_1, Nat.pow_zero, Nat.div_one]) ⟨h00, fun g a b => by omega⟩
theorem holds_M {n : Nat} {kd ga gb : Nat → Nat} {gs : Int32} {GK GL GR V : Nat → Int32} (hg : gA n kd ga gb gs GK GL GR) {th p1 : Int32} {p2 : Int64} {post : Int32 → Int32 → (Nat → Int32) → Prop} (kx : ¬ isL n p1 → post 0 1 V) (kr : ∀ l t', l < 2 * n → p1 = nI l → TV kd ga gb p2.toUInt64.toNat t' n → post (bI (lv t' l)) 0 t') : wp_M_holds th gs GK GL GR V p1 p2 post := by
  have hlt := gA_lt hg
  obtain rfl : gs = nI n := hg.1
  have hn0 := hg.2.1
  have hn := hg.2.2.1
  unfold wp_M_holds
  intro C39 h39
  unfold s_M_holds_14
  by_cases hp : isL n p1
  rotate_left
  · exact isLit_n hn hp (br_t rfl (br_f (by decide) (kx hp)))
  obtain ⟨l, hl, rfl⟩ := hp
  refine isLit_y hn hl (br_f (by decide) (br_t (by decide) ⟨vp_in_nI (n := 0) (by decide) (by decide), ?_⟩))
  have loop : ∀ d g (t : Nat → Int32), g + d = n → 0 < g → TV kd ga gb p2.toUInt64.toNat t g → C39 (nI (inp kd g)) (nI g) 0 t := by
    intro d
    induction d with
    | zero =>
      intro g t hgd h0 ht
      have e : g = n := by omega
      subst e
      refine h39 _ _ _ _ ?_
      unfold s_M_holds_39
      refine pk_le g g (fun _ => ?_) (fun q => absurd q (Nat.lt_irrefl _))
      refine value2_r (by omega) (TV_B ht (by omega)) ?_
      have k := kr l t hl rfl ht
      cases e : lv t l <;> rw [e] at k
      · exact br_f (by decide) k
      · exact br_t rfl k
    | succ d ih =>
      intro g t hgd h0 ht
      have hgn : g < n := by omega
      refine h39 _ _ _ _ ?_
      obtain ⟨eK, hk2, hlr⟩ := hg.2.2.2 g h0 hgn
      have vg : vp_in (nI g) 40 := vp_in_nI (by omega) (by decide)
      unfold s_M_holds_39 s_M_holds_144 s_M_holds_145
      rw [nI_1, nI_1, nI_clamp (by omega : g < 2 ^ 31), eK]
      refine pk_le n g (fun q => absurd q (by omega)) (fun _ => ⟨vg, pk_eq (kd g) 0 (fun e0 => ⟨vg, ?_⟩) (fun e0 => ⟨vg, pk_eq (kd g) 1 (fun e1 => ⟨vg, ?_⟩) (fun e1 => ⟨vg, ?_⟩)⟩)⟩)
      · have egv : gv kd ga gb p2.toUInt64.toNat t g = decide (p2.toUInt64.toNat / 2 ^ inp kd g % 2 = 1) := if_pos e0
        have hi := inp_le (kd := kd) g
        rw [← inp_y h0 e0]
        refine ih (g + 1) _ (by omega) (by omega) (TV_step hlt h0 hgn ht ?_)
        rw [egv]
        refine and1_i _ _ ?_
        rw [sh1 p2 (inp kd g) (by omega)]
        by_cases q : p2.toUInt64.toNat / 2 ^ inp kd g % 2 = 1
        · rw [q]; rfl
        · rw [decide_eq_false q]
          have : p2.toUInt64.toNat / 2 ^ inp kd g % 2 = 0 := by omega
          rw [this]; rfl
      · obtain ⟨eL, hL, eR, hR⟩ := hlr e0
        have egv : gv kd ga gb p2.toUInt64.toNat t g = (lv t (ga g) && lv t (gb g)) := by unfold gv; rw [if_neg e0, if_pos e1]
        rw [eL, eR]
        refine value2_r (by omega) (TV_B ht (by omega)) ⟨vg, value2_r (by omega) (TV_B ht (by omega)) ⟨vg, ?_⟩⟩
        rw [← inp_n e0]
        refine ih (g + 1) _ (by omega) (by omega) (TV_step hlt h0 hgn ht ?_)
        rw [egv]
        cases lv t (ga g) <;> cases lv t (gb g) <;> decide
      · obtain ⟨eL, hL, eR, hR⟩ := hlr e0
        have egv : gv kd ga gb p2.toUInt64.toNat t g = (lv t (ga g) ^^ lv t (gb g)) := by unfold gv; rw [if_neg e0, if_neg e1]
        rw [eL, eR]
        refine value2_r (by omega) (TV_B ht (by omega)) ⟨vg, value2_r (by omega) (TV_B ht (by omega)) ⟨vg, ?_⟩⟩
        rw [← inp_n e0]
        refine ih (g + 1) _ (by omega) (by omega) (TV_step hlt h0 hgn ht ?_)
        rw [egv, bI_xx]
  have q := loop (n - 1) 1 (upd V (0 : Int32).toNatClampNeg 0) (by omega) (by decide) ⟨pk_us, fun g a b => by omega⟩
  rw [inp_1] at q
  exact q
theorem inputs_M {n : Nat} {kd ga gb : Nat → Nat} {gs : Int32} {GK GL GR : Nat → Int32} (hg : gA n kd ga gb gs GK GL GR) {post : Int32 → Prop} (k : post (nI (inp kd n))) : wp_M_inputs gs GK post := by
  obtain rfl : gs = nI n := hg.1
  have hn0 := hg.2.1
  have hn := hg.2.2.1
  unfold wp_M_inputs
  intro C4 h4
  have loop : ∀ d g, g + d = n → 0 < g → C4 (nI (inp kd g)) (nI g) := by
    intro d
    induction d with
    | zero =>
      intro g hgd h0
      have e : g = n := by omega
      subst e
      refine h4 _ _ ?_
      unfold s_M_inputs_4
      exact pk_le g g (fun _ => k) (fun q => absurd q (Nat.lt_irrefl _))
    | succ d ih =>
      intro g hgd h0
      refine h4 _ _ ?_
      obtain ⟨eK, hk2, hlr⟩ := hg.2.2.2 g h0 (by omega)
      unfold s_M_inputs_4 s_M_inputs_28
      rw [nI_1, nI_1, nI_clamp (by omega : g < 2 ^ 31), eK]
      refine pk_le n g (fun q => absurd q (by omega)) (fun _ => ⟨vp_in_nI (by omega) (by decide), pk_eq (kd g) 0 (fun e0 => ?_) (fun e0 => ?_)⟩)
      · rw [← inp_y h0 e0]; exact ih (g + 1) (by omega) (by omega)
      · rw [← inp_n e0]; exact ih (g + 1) (by omega) (by omega)
  have q := loop (n - 1) 1 (by omega) (by decide)
  rw [inp_1] at q
  exact q
