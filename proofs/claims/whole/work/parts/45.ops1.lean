/-! check, good, implied of both. -/
theorem in01 : vp_in 0 1 := vp_in_nI (n := 0) (by decide) (by decide)
theorem one_sub (x : Int32) : 1 + (x - 1) = x := by rw [Int32.add_comm, Int32.sub_add_cancel]
def lB (b : Bool) : Int64 := if b then 1 else 0
theorem isB_of {x : Int32} (h : isB x) : ∃ b, x = bI b := by
  rcases h with h | h
  · exact ⟨false, h⟩
  · exact ⟨true, h⟩
theorem bI_1 {b : Bool} : bI b = 1 ↔ b = true := by cases b <;> decide
theorem check_L {n nl : Nat} {kd ga gb : Nat → Nat} {lk lz : Nat → Nat} {lt : Nat → Nat → Nat} {gs : Int32} {GK GL GR FK FZ FT FO : Nat → Int32} (hg : gA n kd ga gb gs GK GL GR) (hl : lA n nl lk lz lt FK FZ FT) (hk : nl ≤ 24) (hFO : ∀ j, j < 24 → FO j = 0) {cf ch : Int32} {t : Nat → Int32} (hch : isB ch) {out : Nat → Int64} {p : Int32} {post : Int32 → Int32 → Int32 → (Nat → Int32) → (Nat → Int64) → Prop} (kx : ¬ isL n p → post 1 cf ch t out) (kr : ∀ l r cf' ch' t', l < 2 * n → p = nI l → isB ch' → fbad n kd ga gb (fun _ => True) lk lz lt nl 0 l r → post 0 cf' ch' t' (vp_updL out (0 : Int32).toNatClampNeg (nI r).toInt64)) : wp_L_check gs GK GL GR (nI nl) FK FZ FT FO cf ch t out p post := by
  obtain rfl : gs = nI n := hg.1
  have hn := hg.2.2.1
  unfold wp_L_check wp_P_check
  by_cases hp : isL n p
  · obtain ⟨l, h1, rfl⟩ := hp
    refine Or.inl (hasL_y hn h1 (br_f (by decide) ?_))
    exact firstBad_R (i := 0) hg hl hk (Nat.zero_le _) (by omega) hch (fun r cf' ch' t' q0 q1 => ⟨in01, kr l r cf' ch' t' h1 rfl q0 (fbad_eq (fun j hj => ⟨fun _ => trivial, fun _ => hFO j (by omega)⟩) q1)⟩)
  · exact Or.inr (hasL_n hn hp (br_t rfl ⟨rfl, kx hp⟩))
theorem check_M {n nl : Nat} {kd ga gb : Nat → Nat} {lk lz : Nat → Nat} {lt : Nat → Nat → Nat} {gs : Int32} {GK GL GR FK FZ FT FO : Nat → Int32} (hg : gA n kd ga gb gs GK GL GR) (hl : lA n nl lk lz lt FK FZ FT) (hk : nl ≤ 24) {th cf ch : Int32} {t : Nat → Int32} (hch : isB ch) {p : Int32} {post : Int32 → Int32 → Int32 → Int32 → (Nat → Int32) → (Nat → Int32) → Prop} (kx : ¬ isL n p → post 0 1 cf ch t FO) (kr : ∀ l r cf' ch' t' o', l < 2 * n → p = nI l → isB ch' → fbad n kd ga gb (fun _ => True) lk lz lt nl 0 l r → post (nI r) 0 cf' ch' t' o') : wp_M_check th gs (nI nl) cf ch GK GL GR FK FZ FT t FO p post := by
  obtain rfl : gs = nI n := hg.1
  have hn := hg.2.2.1
  unfold wp_M_check s_M_check_14
  by_cases hp : isL n p
  · obtain ⟨l, h1, rfl⟩ := hp
    refine isLit_y hn h1 (br_f (by decide) (br_t (by decide) ?_))
    refine allThere_M (fun o' ho => ?_)
    refine bad_M hg hl hk h1 hch (fun r cf' ch' t' q0 _ q1 => ?_)
    rw [one_sub]
    exact kr l r cf' ch' t' o' h1 rfl q0 (fbad_eq (fun j hj => ⟨fun _ => trivial, fun _ => ho j (by omega)⟩) q1)
  · exact isLit_n hn hp (br_t rfl (br_f (by decide) (kx hp)))
theorem good_L {n nl : Nat} {kd ga gb : Nat → Nat} {lk lz : Nat → Nat} {lt : Nat → Nat → Nat} {gs : Int32} {GK GL GR FK FZ FT FO : Nat → Int32} (hg : gA n kd ga gb gs GK GL GR) (hl : lA n nl lk lz lt FK FZ FT) (hk : nl ≤ 24) (hFO : ∀ j, j < 24 → FO j = 0) {cf ch : Int32} {t : Nat → Int32} (hch : isB ch) {out : Nat → Int64} {p : Int32} {post : Int32 → Int32 → Int32 → (Nat → Int32) → (Nat → Int64) → Prop} (kx : ¬ isG nl p → post 1 cf ch t out) (kr : ∀ j b cf' ch' t', j < nl → p = nI j → isB ch' → (b = true ↔ lGood n kd ga gb (fun _ => True) lk lz lt j) → post 0 cf' ch' t' (vp_updL out (0 : Int32).toNatClampNeg (lB b))) : wp_L_good gs GK GL GR (nI nl) FK FZ FT FO cf ch t out p post := by
  unfold wp_L_good wp_P_good s_L_good_15
  by_cases hp : isG nl p
  · obtain ⟨j, h1, rfl⟩ := hp
    refine Or.inl (hasF_y (by omega) h1 (br_f (by decide) ?_))
    refine lineFollows_R hg hl hk h1 hch (fun r cf' ch' t' q0 q1 q2 => ⟨q0, ?_⟩)
    rw [lGood_eq (lo' := fun _ => True) (fun i hi => ⟨fun _ => trivial, fun _ => hFO i (by omega)⟩)] at q2
    obtain ⟨b, rfl⟩ := isB_of q0
    rw [bI_1] at q2
    have q := kr j b cf' ch' t' h1 rfl q1 q2
    cases b
    · exact br_t rfl ⟨in01, q⟩
    · exact br_f (by decide) ⟨in01, q⟩
  · exact Or.inr (hasF_n (by omega) hp (br_t rfl ⟨rfl, kx hp⟩))
theorem good_M {n nl : Nat} {kd ga gb : Nat → Nat} {lk lz : Nat → Nat} {lt : Nat → Nat → Nat} {gs : Int32} {GK GL GR FK FZ FT FO : Nat → Int32} (hg : gA n kd ga gb gs GK GL GR) (hl : lA n nl lk lz lt FK FZ FT) (hk : nl ≤ 24) {th cf ch : Int32} {t : Nat → Int32} (hch : isB ch) {p : Int32} {post : Int32 → Int32 → Int32 → Int32 → (Nat → Int32) → (Nat → Int32) → Prop} (kx : ¬ isG nl p → post 0 1 cf ch t FO) (kr : ∀ j b cf' ch' t' o', j < nl → p = nI j → isB ch' → (b = true ↔ lGood n kd ga gb (fun _ => True) lk lz lt j) → post (bI b) 0 cf' ch' t' o') : wp_M_good th gs (nI nl) cf ch GK GL GR FK FZ FT t FO p post := by
  unfold wp_M_good s_M_good_14
  by_cases hp : isG nl p
  · obtain ⟨j, h1, rfl⟩ := hp
    refine isLi_y (by omega) h1 (br_f (by decide) (br_t (by decide) ?_))
    refine allThere_M (fun o' ho => ?_)
    refine follows_M hg hl hk h1 hch (fun r cf' ch' t' q0 q1 q2 => ⟨q0, ?_⟩)
    rw [lGood_eq (lo' := fun _ => True) (fun i hi => ⟨fun _ => trivial, fun _ => ho i (by omega)⟩)] at q2
    obtain ⟨b, rfl⟩ := isB_of q0
    rw [bI_1] at q2
    exact kr j b cf' ch' t' o' h1 rfl q1 q2
  · exact isLi_n (by omega) hp (br_t rfl (br_f (by decide) (kx hp)))
/-- the literals that are assumed -/
def asI (a b c : Int32) : Nat → Prop := fun l => l < 80 ∧ (a = nI l ∨ b = nI l ∨ c = nI l)
def okA (n : Nat) (p : Int32) : Prop := p = -1 ∨ isL n p
theorem okA_ne {n : Nat} {p : Int32} (h : okA n p) (hne : ¬ p = -1) : isL n p := h.resolve_left hne
theorem nI_nm1 {l : Nat} (h : l < 2 ^ 31) : ¬ nI l = -1 := fun q => by
  have := nI_pos h
  rw [q] at this
  exact this (by decide)
/-- what implied answers -/
def impR (n : Nat) (kd ga gb : Nat → Nat) (lk lz : Nat → Nat) (lt : Nat → Nat → Nat) (nl : Nat) (a b c : Int32) (g : Nat) (r : Int32) : Prop :=
  (Conf n kd ga gb (fun j => j < nl ∧ True) lk lz lt (asI a b c) ∧ r = 3) ∨ (¬ Conf n kd ga gb (fun j => j < nl ∧ True) lk lz lt (asI a b c) ∧ (∀ x, r = bI x ↔ Der n kd ga gb (fun j => j < nl ∧ True) lk lz lt (asI a b c) g x) ∧ (r = 2 ∨ ∃ x, r = bI x))
theorem impR_fun {n : Nat} {kd ga gb : Nat → Nat} {lk lz : Nat → Nat} {lt : Nat → Nat → Nat} {nl : Nat} {a b c : Int32} {g : Nat} {r r' : Int32} (h : impR n kd ga gb lk lz lt nl a b c g r) (h' : impR n kd ga gb lk lz lt nl a b c g r') : r = r' := by
  rcases h with ⟨h1, h2⟩ | ⟨h1, h2, h3⟩ <;> rcases h' with ⟨k1, k2⟩ | ⟨k1, k2, k3⟩
  · rw [h2, k2]
  · exact absurd h1 k1
  · exact absurd k1 h1
  · rcases h3 with e | ⟨x, e⟩
    · rcases k3 with e' | ⟨y, e'⟩
      · rw [e, e']
      · exact absurd (e.symm.trans ((h2 y).2 ((k2 y).1 e'))).symm (bI_ne2 y)
    · rw [e]; exact ((k2 x).2 ((h2 x).1 e)).symm
theorem assume_R {n : Nat} (hn : n ≤ 40) {Dr : Nat → Bool → Prop} {Cf : Prop} (hcf : ∀ g, Dr g true → Dr g false → Cf) {t : Nat → Int32} {cf ch : Int32} (h : uS Dr Cf t cf ch) {p : Int32} (hp : okA n p) (hd : ∀ l, l < 80 → p = nI l → dl Dr l true) {post : Int32 → Int32 → (Nat → Int32) → Prop} (k : ∀ cf' ch' t', uR Dr Cf t cf ch t' cf' ch' → (cf' = 0 → ∀ l, l < 80 → p = nI l → dl (tl t') l true) → post cf' ch' t') : wp_P_assumeUnlessNone cf ch t p post := by
  unfold wp_P_assumeUnlessNone
  refine br_c (fun e => k _ _ _ (uR_rf h) (fun _ l hl q => absurd (q.symm.trans e) (nI_nm1 (by omega)))) (fun e => ?_)
  obtain ⟨l, h1, rfl⟩ := okA_ne hp e
  refine tell_R hcf h (by omega) true (hd l (by omega) rfl) (fun cf2 ch2 t2 r2 c2 => k _ _ _ r2 (fun o l' q1 q2 => ?_))
  rw [← (nI_eq (by omega) (by omega)).1 q2]
  exact c2 o
theorem isN_y {n : Nat} (hn : n ≤ 40) {p : Int32} (hp : okA n p) {post : Int32 → Prop} (k : post 1) : wp_P_isNoneOrLiteral (nI n) p post := by
  unfold wp_P_isNoneOrLiteral
  refine br_c (fun _ => k) (fun e => ?_)
  obtain ⟨l, h1, rfl⟩ := okA_ne hp e
  exact hasL_y hn h1 (br_f (by decide) k)
theorem isN_n {n : Nat} (hn : n ≤ 40) {p : Int32} (hp : ¬ okA n p) {post : Int32 → Prop} (k : post 0) : wp_P_isNoneOrLiteral (nI n) p post := by
  unfold wp_P_isNoneOrLiteral
  exact br_f (fun e => hp (Or.inl e)) (hasL_n hn (fun q => hp (Or.inr q)) (br_t rfl k))
theorem implied_L {n nl : Nat} {kd ga gb : Nat → Nat} {lk lz : Nat → Nat} {lt : Nat → Nat → Nat} {gs : Int32} {GK GL GR FK FZ FT FO : Nat → Int32} (hg : gA n kd ga gb gs GK GL GR) (hl : lA n nl lk lz lt FK FZ FT) (hk : nl ≤ 24) (hFO : ∀ j, j < 24 → FO j = 0) {cf ch : Int32} {t : Nat → Int32} (hch : isB ch) {out : Nat → Int64} {a b c p : Int32} {post : Int32 → Int32 → Int32 → (Nat → Int32) → (Nat → Int64) → Prop} (kx : ¬ (okA n a ∧ okA n b ∧ okA n c ∧ isG n p) → post 1 cf ch t out) (kr : ∀ g r cf' ch' t', okA n a ∧ okA n b ∧ okA n c ∧ isG n p → g < n → p = nI g → isB ch' → impR n kd ga gb lk lz lt nl a b c g r → post 0 cf' ch' t' (vp_updL out (0 : Int32).toNatClampNeg r.toInt64)) : wp_L_implied gs GK GL GR (nI nl) FK FZ FT FO cf ch t out a b c p post := by
  obtain rfl : gs = nI n := hg.1
  have hn := hg.2.2.1
  unfold wp_L_implied wp_P_implied
  by_cases ha : okA n a
  rotate_left
  · exact Or.inr (isN_n hn ha (br_t rfl ⟨rfl, kx (fun q => ha q.1)⟩))
  by_cases hb : okA n b
  rotate_left
  · exact Or.inr (isN_y hn ha (br_f (by decide) (isN_n hn hb (br_t rfl ⟨rfl, kx (fun q => hb q.2.1)⟩))))
  by_cases hc : okA n c
  rotate_left
  · exact Or.inr (isN_y hn ha (br_f (by decide) (isN_y hn hb (br_f (by decide) (isN_n hn hc (br_t rfl ⟨rfl, kx (fun q => hc q.2.2.1)⟩))))))
  by_cases hp : isG n p
  rotate_left
  · exact Or.inr (isN_y hn ha (br_f (by decide) (isN_y hn hb (br_f (by decide) (isN_y hn hc (br_f (by decide) (has_n hn hp (br_t rfl ⟨rfl, kx (fun q => hp q.2.2.2)⟩))))))))
  have hall : okA n a ∧ okA n b ∧ okA n c ∧ isG n p := ⟨ha, hb, hc, hp⟩
  obtain ⟨g, h1, rfl⟩ := hp
  refine Or.inl (isN_y hn ha (br_f (by decide) (isN_y hn hb (br_f (by decide) (isN_y hn hc (br_f (by decide) (has_y hn h1 (br_f (by decide) ?_))))))))
  refine begin_R (fun t1 ht1 => ?_)
  have eus : (fun j => j < nl ∧ True) = (fun j => j < nl ∧ FO j = 0) := us_eq (fun j hj => ⟨fun _ => hFO j (by omega), fun _ => trivial⟩)
  have kr' := fun r cf' ch' t' q => kr g r cf' ch' t' hall h1 rfl q
  unfold impR at kr'
  rw [eus] at kr'
  have hclo := der_clo n kd ga gb (fun j => j < nl ∧ FO j = 0) lk lz lt (asI a b c)
  have hcf : ∀ g, Der n kd ga gb (fun j => j < nl ∧ FO j = 0) lk lz lt (asI a b c) g true → Der n kd ga gb (fun j => j < nl ∧ FO j = 0) lk lz lt (asI a b c) g false → Conf n kd ga gb (fun j => j < nl ∧ FO j = 0) lk lz lt (asI a b c) := fun g p q => Or.inl ⟨g, p, q⟩
  obtain ⟨hs, hz⟩ := start_S (Cf := Conf n kd ga gb (fun j => j < nl ∧ FO j = 0) lk lz lt (asI a b c)) hclo.1 hch ht1
  refine assume_R hn hcf hs ha (fun l h1 h2 => hclo.2.1 l ⟨h1, Or.inl h2⟩) (fun cf2 ch2 t2 r2 c2 => ?_)
  refine assume_R hn hcf r2.1 hb (fun l h1 h2 => hclo.2.1 l ⟨h1, Or.inr (Or.inl h2)⟩) (fun cf3 ch3 t3 r3 c3 => ?_)
  refine assume_R hn hcf r3.1 hc (fun l h1 h2 => hclo.2.1 l ⟨h1, Or.inr (Or.inr h2)⟩) (fun cf4 ch4 t4 r4 c4 => ?_)
  refine come_R hg hl hk rfl rfl r4.1 (fun o => ⟨r4.2.1 _ _ (r3.2.1 _ _ (r2.2.1 _ _ hz)), fun l hl' => ?_⟩) (fun r ch' t' q0 q1 q2 q3 q4 => br_c (fun e => ⟨vp_in_nI (by omega) (by decide), in01, ?_⟩) (fun e => ⟨in01, ?_⟩))
  · have o3 := r4.2.2.1 o
    have o2 := r3.2.2.1 o3
    rcases hl' with ⟨h80, e | e | e⟩
    · exact uR_dl r4 (uR_dl r3 (c2 o2 l h80 e))
    · exact uR_dl r4 (c3 o3 l h80 e)
    · exact c4 o l h80 e
  · obtain ⟨n1, n2⟩ := q3 e
    rw [nI_clamp (by omega : g < 2 ^ 31)]
    exact kr' _ _ _ _ q1 (Or.inr ⟨n1, fun x => ⟨fun q => (n2 g x).2 ⟨by omega, q⟩, fun q => ((n2 g x).1 q).2⟩, q4 g (by omega)⟩)
  · exact kr' _ _ _ _ q1 (Or.inl ⟨q2 (q0.resolve_left e), rfl⟩)
theorem implied_M {n nl : Nat} {kd ga gb : Nat → Nat} {lk lz : Nat → Nat} {lt : Nat → Nat → Nat} {gs : Int32} {GK GL GR FK FZ FT FO : Nat → Int32} (hg : gA n kd ga gb gs GK GL GR) (hl : lA n nl lk lz lt FK FZ FT) (hk : nl ≤ 24) {th cf ch : Int32} {t : Nat → Int32} (hch : isB ch) {a b c p : Int32} {post : Int32 → Int32 → Int32 → Int32 → (Nat → Int32) → (Nat → Int32) → Prop} (kx : ¬ (okA n a ∧ okA n b ∧ okA n c ∧ isG n p) → post 0 1 cf ch t FO) (kr : ∀ g r cf' ch' t' o', okA n a ∧ okA n b ∧ okA n c ∧ isG n p → g < n → p = nI g → isB ch' → impR n kd ga gb lk lz lt nl a b c g r → post r 0 cf' ch' t' o') : wp_M_implied th gs (nI nl) cf ch GK GL GR FK FZ FT t FO a b c p post := by
  obtain rfl : gs = nI n := hg.1
  have hn0 := hg.2.1
  have hn := hg.2.2.1
  unfold wp_M_implied
  intro C94 h94
  have no : ¬ (okA n a ∧ okA n b ∧ okA n c ∧ isG n p) → s_M_implied_71 (nI n) (nI nl) GK GL GR FK FZ FT a b c p C94 post 1 th cf ch t FO := by
    intro q
    unfold s_M_implied_71
    exact br_f (by decide) (kx q)
  have no43 : ¬ (okA n a ∧ okA n b ∧ okA n c ∧ isG n p) → s_M_implied_43 (nI n) (nI nl) GK GL GR FK FZ FT a b c p C94 post th cf ch t FO := by
    intro q
    unfold s_M_implied_43 s_M_implied_44 s_M_implied_70
    exact br_t rfl (no q)
  have guard : ∀ {q : Int32} {N Y : Prop}, (¬ okA n q → N) → (okA n q → Y) → ((q = -1 → Y) ∧ (¬ q = -1 → wp_M_isLiteral (nI n) q (fun r => (r = 0 → N) ∧ (¬ r = 0 → Y)))) := by
    intro q N Y hN hY
    refine br_c (fun e => hY (Or.inl e)) (fun e => ?_)
    by_cases hq : isL n q
    · obtain ⟨l, h1, rfl⟩ := hq
      exact isLit_y hn h1 (br_f (by decide) (hY (Or.inr ⟨l, h1, rfl⟩)))
    · exact isLit_n hn hq (br_t rfl (hN (fun z => hq (okA_ne z e))))
  refine guard (fun q => no43 (fun z => q z.1)) (fun ha => ?_)
  unfold s_M_implied_13
  refine guard (fun q => no43 (fun z => q z.2.1)) (fun hb => ?_)
  unfold s_M_implied_26
  refine guard (fun q => no43 (fun z => q z.2.2.1)) (fun hc => ?_)
  unfold s_M_implied_39 s_M_implied_44 s_M_implied_70
  refine br_f (by decide) ?_
  by_cases hp : isG n p
  rotate_left
  · have z := no (fun q => hp q.2.2.2)
    refine br_c (fun _ => z) (fun h0 => br_c (fun _ => z) (fun h1 => ?_))
    obtain ⟨g, hg', e⟩ := nI_of h0
    subst e
    exact absurd ⟨g, Nat.lt_of_not_le (fun q => h1 (nI_le q hg')), rfl⟩ hp
  have hall : okA n a ∧ okA n b ∧ okA n c ∧ isG n p := ⟨ha, hb, hc, hp⟩
  obtain ⟨g, hgn, rfl⟩ := hp
  refine br_f (nI_pos (by omega)) (pk_le n g (fun q => absurd q (by omega)) (fun _ => ?_))
  unfold s_M_implied_71
  refine br_t (by decide) (allThere_M (fun o' ho => begin_M hn0 hn (fun t1 ht1 => ?_)))
  have eus : (fun j => j < nl ∧ True) = (fun j => j < nl ∧ o' j = 0) := us_eq (fun j hj => ⟨fun _ => ho j (by omega), fun _ => trivial⟩)
  have kr' := fun r cf' ch' t' q => kr g r cf' ch' t' o' hall hgn rfl q
  unfold impR at kr'
  rw [eus] at kr'
  have hclo := der_clo n kd ga gb (fun j => j < nl ∧ o' j = 0) lk lz lt (asI a b c)
  have hcf : ∀ g, Der n kd ga gb (fun j => j < nl ∧ o' j = 0) lk lz lt (asI a b c) g true → Der n kd ga gb (fun j => j < nl ∧ o' j = 0) lk lz lt (asI a b c) g false → Conf n kd ga gb (fun j => j < nl ∧ o' j = 0) lk lz lt (asI a b c) := fun g p q => Or.inl ⟨g, p, q⟩
  obtain ⟨hs, hz⟩ := start_S (Cf := Conf n kd ga gb (fun j => j < nl ∧ o' j = 0) lk lz lt (asI a b c)) hclo.1 hch ht1
  have as1 : ∀ {q : Int32} {x6 : Int32} {cf' ch' : Int32} {t' : Nat → Int32}, okA n q → uS (Der n kd ga gb (fun j => j < nl ∧ o' j = 0) lk lz lt (asI a b c)) (Conf n kd ga gb (fun j => j < nl ∧ o' j = 0) lk lz lt (asI a b c)) (mk n t') cf' ch' → (∀ l, l < 80 → q = nI l → asI a b c l) → (∀ cf2 ch2 t2, uR (Der n kd ga gb (fun j => j < nl ∧ o' j = 0) lk lz lt (asI a b c)) (Conf n kd ga gb (fun j => j < nl ∧ o' j = 0) lk lz lt (asI a b c)) (mk n t') cf' ch' (mk n t2) cf2 ch2 → (cf2 = 0 → ∀ l, l < 80 → q = nI l → dl (tl (mk n t2)) l true) → C94 (x6 + 1) 0 cf2 ch2 t2 o') → s_M_implied_120 (nI n) (nI nl) GK GL GR FK FZ FT a b c (nI g) C94 post q x6 0 cf' ch' t' o' := by
    intro q x6 cf' ch' t' hq hs' hin kx'
    unfold s_M_implied_120 s_M_implied_135
    refine br_c (fun e => kx' _ _ _ (uR_rf hs') (fun _ l hl q => absurd (q.symm.trans e) (nI_nm1 (by omega)))) (fun e => ?_)
    obtain ⟨l, h1, rfl⟩ := okA_ne hq e
    refine tell_M hn hcf hs' h1 true (hclo.2.1 l (hin l (by omega) rfl)) (fun cf2 ch2 t2 r2 c2 => kx' _ _ _ r2 (fun o l' q1 q2 => ?_))
    rw [← (nI_eq (by omega) (by omega)).1 q2]
    exact c2 o
  refine h94 _ _ _ _ _ _ ?_
  unfold s_M_implied_94
  refine br_f (by decide) (br_t rfl (as1 ha hs (fun l h1 h2 => ⟨h1, Or.inl h2⟩) (fun cf2 ch2 t2 r2 c2 => ?_)))
  refine h94 _ _ _ _ _ _ ?_
  unfold s_M_implied_94
  refine br_f (by decide) (br_f (by decide) (br_t rfl (as1 hb r2.1 (fun l h1 h2 => ⟨h1, Or.inr (Or.inl h2)⟩) (fun cf3 ch3 t3 r3 c3 => ?_))))
  refine h94 _ _ _ _ _ _ ?_
  unfold s_M_implied_94
  refine br_f (by decide) (br_f (by decide) (br_f (by decide) (as1 hc r3.1 (fun l h1 h2 => ⟨h1, Or.inr (Or.inr h2)⟩) (fun cf4 ch4 t4 r4 c4 => ?_))))
  refine h94 _ _ _ _ _ _ ?_
  unfold s_M_implied_94
  refine br_t (by decide) ?_
  refine steps_M hg hl hk rfl rfl r4.1 (fun o => ⟨r4.2.1 _ _ (r3.2.1 _ _ (r2.2.1 _ _ hz)), fun l hl' => ?_⟩) (fun r ch' t' q0 q1 q2 q3 q4 => br_c (fun e => ⟨vp_in_nI (by omega) (by decide), ?_⟩) (fun e => ?_))
  · have o3 := r4.2.2.1 o
    have o2 := r3.2.2.1 o3
    rcases hl' with ⟨h80, e | e | e⟩
    · exact uR_dl r4 (uR_dl r3 (c2 o2 l h80 e))
    · exact uR_dl r4 (c3 o3 l h80 e)
    · exact c4 o l h80 e
  · obtain ⟨n1, n2⟩ := q3 e
    rw [nI_clamp (by omega : g < 2 ^ 31)]
    have em : mk n t' g = t' g := mk_in hgn
    rw [← em]
    exact kr' _ _ _ _ q1 (Or.inr ⟨n1, fun x => ⟨fun q => (n2 g x).2 ⟨by omega, q⟩, fun q => ((n2 g x).1 q).2⟩, q4 g (by omega)⟩)
  · exact kr' _ _ _ _ q1 (Or.inl ⟨q2 (q0.resolve_left e), rfl⟩)
