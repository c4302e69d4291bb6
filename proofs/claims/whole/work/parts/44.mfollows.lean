/-! Which lines follow, by the reference. -/
def sg (l : Nat) (v : Bool) : Nat := if v then l else tn l
theorem dl_sg {S : Nat → Bool → Prop} {l : Nat} {v : Bool} : dl S (sg l v) true ↔ dl S l v := by
  cases v
  · exact dl_tn
  · exact Iff.rfl
theorem opposes_M {n k : Nat} {kd ga gb : Nat → Nat} {lk lz : Nat → Nat} {lt : Nat → Nat → Nat} {gs : Int32} {GK GL GR FK FZ FT FO : Nat → Int32} (hg : gA n kd ga gb gs GK GL GR) (hl : lA n k lk lz lt FK FZ FT) (hk : k ≤ 24) {cf ch : Int32} {t : Nat → Int32} (hch : isB ch) {a b : Nat} (ha : a < 2 * n) (hb : b < 2 * n) (u v : Bool) {post : Int32 → Int32 → Int32 → (Nat → Int32) → Prop} (kk : ∀ r ch' t', isB r → isB ch' → (r = 1 ↔ Conf n kd ga gb (fun j => j < k ∧ FO j = 0) lk lz lt (A2 (sg a u) (sg b v))) → post r r ch' t') : wp_M_opposes gs cf ch GK GL GR FK FZ FT t FO (nI a) (bI u) (nI b) (bI v) (nI k) post := by
  obtain rfl : gs = nI n := hg.1
  have hn0 := hg.2.1
  have hn := hg.2.2.1
  unfold wp_M_opposes
  refine begin_M hn0 hn (fun t1 h1 => ?_)
  have hclo := der_clo n kd ga gb (fun j => j < k ∧ FO j = 0) lk lz lt (A2 (sg a u) (sg b v))
  have hcf : ∀ g, Der n kd ga gb (fun j => j < k ∧ FO j = 0) lk lz lt (A2 (sg a u) (sg b v)) g true → Der n kd ga gb (fun j => j < k ∧ FO j = 0) lk lz lt (A2 (sg a u) (sg b v)) g false → Conf n kd ga gb (fun j => j < k ∧ FO j = 0) lk lz lt (A2 (sg a u) (sg b v)) := fun g p q => Or.inl ⟨g, p, q⟩
  obtain ⟨hs, hz⟩ := start_S (Cf := Conf n kd ga gb (fun j => j < k ∧ FO j = 0) lk lz lt (A2 (sg a u) (sg b v))) hclo.1 hch h1
  refine tell_M hn hcf hs ha u (dl_sg.1 (hclo.2.1 _ (Or.inl rfl))) (fun cf2 ch2 t2 r2 c2 => ?_)
  refine tell_M hn hcf r2.1 hb v (dl_sg.1 (hclo.2.1 _ (Or.inr rfl))) (fun cf3 ch3 t3 r3 c3 => ?_)
  refine steps_M hg hl hk rfl rfl r3.1 (fun o => ⟨r3.2.1 _ _ (r2.2.1 _ _ hz), fun l hl' => ?_⟩) (fun r ch' t' q0 q1 q2 q3 _ => ⟨q0, kk r ch' t' q0 q1 ⟨q2, fun q => ?_⟩⟩)
  · rcases hl' with e | e
    · rw [e]; exact dl_sg.2 (uR_dl r3 (c2 (r3.2.2.1 o)))
    · rw [e]; exact dl_sg.2 (c3 o)
  · rcases q0 with e | e
    · exact absurd q (q3 e).1
    · exact e
theorem claim_M {n k : Nat} {kd ga gb : Nat → Nat} {lk lz : Nat → Nat} {lt : Nat → Nat → Nat} {gs : Int32} {GK GL GR FK FZ FT FO : Nat → Int32} (hg : gA n kd ga gb gs GK GL GR) (hl : lA n k lk lz lt FK FZ FT) (hk : k ≤ 24) {cf ch : Int32} {t : Nat → Int32} (hch : isB ch) {a : Nat} (ha : a < 2 * n) {post : Int32 → Int32 → (Nat → Int32) → Prop} (kk : ∀ r ch' t', isB r → isB ch' → (r = 1 ↔ Conf n kd ga gb (fun j => j < k ∧ FO j = 0) lk lz lt (A1 (tn a))) → post r ch' t') : wp_M_begin gs cf t (fun cf1 t1 => wp_M_tell cf1 ch t1 (nI a) 0 (fun cf2 ch2 t2 => wp_M_steps gs cf2 ch2 GK GL GR FK FZ FT t2 FO (nI k) post)) := by
  obtain rfl : gs = nI n := hg.1
  have hn0 := hg.2.1
  have hn := hg.2.2.1
  refine begin_M hn0 hn (fun t1 h1 => ?_)
  have hclo := der_clo n kd ga gb (fun j => j < k ∧ FO j = 0) lk lz lt (A1 (tn a))
  have hcf : ∀ g, Der n kd ga gb (fun j => j < k ∧ FO j = 0) lk lz lt (A1 (tn a)) g true → Der n kd ga gb (fun j => j < k ∧ FO j = 0) lk lz lt (A1 (tn a)) g false → Conf n kd ga gb (fun j => j < k ∧ FO j = 0) lk lz lt (A1 (tn a)) := fun g p q => Or.inl ⟨g, p, q⟩
  obtain ⟨hs, hz⟩ := start_S (Cf := Conf n kd ga gb (fun j => j < k ∧ FO j = 0) lk lz lt (A1 (tn a))) hclo.1 hch h1
  refine tell_M hn hcf hs ha false (dl_tn.1 (hclo.2.1 (tn a) rfl)) (fun cf2 ch2 t2 r2 c2 => ?_)
  refine steps_M hg hl hk rfl rfl r2.1 (fun o => ⟨r2.2.1 _ _ hz, fun l hl' => ?_⟩) (fun r ch' t' q0 q1 q2 q3 _ => kk r ch' t' q0 q1 ⟨q2, fun q => ?_⟩)
  · rw [hl']; exact dl_tn.2 (c2 o)
  · rcases q0 with e | e
    · exact absurd q (q3 e).1
    · exact e
theorem follows_M {n nl j : Nat} {kd ga gb : Nat → Nat} {lk lz : Nat → Nat} {lt : Nat → Nat → Nat} {gs : Int32} {GK GL GR FK FZ FT FO : Nat → Int32} (hg : gA n kd ga gb gs GK GL GR) (hl : lA n nl lk lz lt FK FZ FT) (hk : nl ≤ 24) (hj : j < nl) {cf ch : Int32} {t : Nat → Int32} (hch : isB ch) {post : Int32 → Int32 → Int32 → (Nat → Int32) → Prop} (kk : ∀ r cf' ch' t', isB r → isB ch' → (r = 1 ↔ lGood n kd ga gb (fun i => FO i = 0) lk lz lt j) → post r cf' ch' t') : wp_M_follows gs cf ch GK GL GR FK FZ FT t FO (nI j) (nI j) post := by
  have hlj : lA n j lk lz lt FK FZ FT := fun i hi => hl i (by omega)
  obtain rfl : gs = nI n := hg.1
  have hn0 := hg.2.1
  have hn : n ≤ 40 := hg.2.2.1
  obtain ⟨eK, hlk, eZ, hz6, hz2, hT⟩ := hl j hj
  unfold wp_M_follows
  intro C75 h75
  have i0 : (6 : Int32) * nI j = nI (6 * j) := pk_mul 6 j
  rw [nI_clamp (by omega : j < 2 ^ 31), eK, i0, nI_1, nI_clamp (by omega : 6 * j < 2 ^ 31), nI_clamp (by omega : 6 * j + 1 < 2 ^ 31)]
  have v0 : vp_in (nI (6 * j)) 144 := vp_in_nI (by omega) (by decide)
  have v1 : vp_in (nI (6 * j + 1)) 144 := vp_in_nI (by omega) (by decide)
  refine ⟨vp_in_nI (by omega) (by decide), pk_eq (lk j) 0 (fun e0 => ?_) (fun e0 => ⟨v0, v1, ?_⟩)⟩
  · refine begin_M hn0 hn (fun t1 h1 => ?_)
    have hclo := der_clo n kd ga gb (fun i => i < j ∧ FO i = 0) lk lz lt (AC (lz j) (lt j))
    have hcf : ∀ g, Der n kd ga gb (fun i => i < j ∧ FO i = 0) lk lz lt (AC (lz j) (lt j)) g true → Der n kd ga gb (fun i => i < j ∧ FO i = 0) lk lz lt (AC (lz j) (lt j)) g false → Conf n kd ga gb (fun i => i < j ∧ FO i = 0) lk lz lt (AC (lz j) (lt j)) := fun g p q => Or.inl ⟨g, p, q⟩
    obtain ⟨hs, hz⟩ := start_S (Cf := Conf n kd ga gb (fun i => i < j ∧ FO i = 0) lk lz lt (AC (lz j) (lt j))) hclo.1 hch h1
    have loop : ∀ d i cf' ch' t', i + d = lz j → uR (Der n kd ga gb (fun i => i < j ∧ FO i = 0) lk lz lt (AC (lz j) (lt j))) (Conf n kd ga gb (fun i => i < j ∧ FO i = 0) lk lz lt (AC (lz j) (lt j))) (mk n t1) 0 ch (mk n t') cf' ch' → (cf' = 0 → ∀ i', i' < i → dl (tl (mk n t')) (lt j i') false) → C75 (nI (6 * j)) (nI i) cf' ch' t' := by
      intro d
      induction d with
      | zero =>
        intro i cf' ch' t' hi hr hc
        have ei : i = lz j := by omega
        subst ei
        refine h75 _ _ _ _ _ ?_
        unfold s_M_follows_75
        rw [nI_clamp (by omega : j < 2 ^ 31), eZ]
        refine ⟨vp_in_nI (by omega) (by decide), pk_le (lz j) (lz j) (fun _ => ?_) (fun q => absurd q (Nat.lt_irrefl _))⟩
        refine steps_M hg hlj (by omega) rfl rfl hr.1 (fun o => ⟨hr.2.1 _ _ hz, fun l hl' => ?_⟩) (fun r ch' t' q0 q1 q2 q3 _ => ⟨q0, kk r r ch' t' q0 q1 ⟨fun q => ⟨fun q' => by omega, fun _ => q2 q⟩, fun q => ?_⟩⟩)
        · obtain ⟨i', hi', el⟩ := hl'
          rw [el]
          exact dl_tn.2 (hc o i' hi')
        · rcases q0 with e | e
          · exact absurd (q.2 e0) (q3 e).1
          · exact e
      | succ d ih =>
        intro i cf' ch' t' hi hr hc
        refine h75 _ _ _ _ _ ?_
        unfold s_M_follows_75
        obtain ⟨ti, bi⟩ := hT i (by omega)
        rw [nI_clamp (by omega : j < 2 ^ 31), eZ, nI_add, nI_clamp (by omega : 6 * j + i < 2 ^ 31), ti]
        refine ⟨vp_in_nI (by omega) (by decide), pk_le (lz j) i (fun q => absurd q (by omega)) (fun _ => ⟨vp_in_nI (by omega) (by decide), ?_⟩)⟩
        refine tell_M hn hcf hr.1 bi false (dl_tn.1 (hclo.2.1 _ ⟨i, by omega, rfl⟩)) (fun cf2 ch2 t2 r2 c2 => ?_)
        rw [nI_1]
        exact ih (i + 1) _ _ _ (by omega) (uR_tr hr r2) (fun o => lt_s (fun i' q => uR_dl r2 (hc (r2.2.2.1 o) i' q)) (c2 o))
    exact loop (lz j) 0 0 ch t1 (by omega) (uR_rf hs) (fun _ i' q => absurd q (Nat.not_lt_zero _))
  · have e1 : lk j = 1 := by omega
    have hz := hz2 e1
    obtain ⟨t0, b0⟩ := hT 0 (by omega)
    obtain ⟨t1, b1⟩ := hT 1 (by omega)
    rw [show FT (6 * j) = nI (lt j 0) from t0, t1]
    refine opposes_M hg hlj (by omega) hch b0 b1 true false (fun r ch' t' q0 q1 q2 => br_c (fun e3 => ?_) (fun e3 => ⟨v0, v1, ?_⟩))
    · refine kk 0 r ch' t' isB_0 q1 ⟨fun q => absurd q (by decide), fun q => ?_⟩
      rw [q2.2 (q.1 e1).1] at e3
      exact absurd e3 (by decide)
    · have er : r = 1 := q0.resolve_left e3
      refine opposes_M hg hlj (by omega) q1 b0 b1 false true (fun r' ch2 t2 p0 p1 p2 => br_c (fun e4 => ?_) (fun e4 => ?_))
      · refine kk 0 _ ch2 t2 isB_0 p1 ⟨fun q => absurd q (by decide), fun q => ?_⟩
        rw [p2.2 (q.1 e1).2] at e4
        exact absurd e4 (by decide)
      · exact kk 1 _ ch2 t2 isB_1 p1 ⟨fun _ => ⟨fun _ => ⟨q2.1 er, p2.1 (p0.resolve_left e4)⟩, fun q => by omega⟩, fun _ => rfl⟩
theorem bad_M {n nl : Nat} {kd ga gb : Nat → Nat} {lk lz : Nat → Nat} {lt : Nat → Nat → Nat} {gs : Int32} {GK GL GR FK FZ FT FO : Nat → Int32} (hg : gA n kd ga gb gs GK GL GR) (hl : lA n nl lk lz lt FK FZ FT) (hk : nl ≤ 24) {claim : Nat} (hc : claim < 2 * n) {cf ch : Int32} {t : Nat → Int32} (hch : isB ch) {post : Int32 → Int32 → Int32 → (Nat → Int32) → Prop} (kk : ∀ r cf' ch' t', isB ch' → r ≤ 25 → fbad n kd ga gb (fun j => FO j = 0) lk lz lt nl 0 claim r → post (nI r - 1) cf' ch' t') : wp_M_bad gs (nI nl) cf ch GK GL GR FK FZ FT t FO (nI claim) post := by
  unfold wp_M_bad
  intro C2 h2
  have loop : ∀ d j cf' ch' t', j + d = nl → isB ch' → (∀ j', 0 ≤ j' → j' < j → FO j' = 0 → lGood n kd ga gb (fun j => FO j = 0) lk lz lt j') → C2 (nI j) cf' ch' t' := by
    intro d
    induction d with
    | zero =>
      intro j cf' ch' t' hj hc' hp
      have ej : j = nl := by omega
      subst ej
      refine h2 _ _ _ _ ?_
      unfold s_M_bad_2
      refine pk_le j j (fun _ => ?_) (fun q => absurd q (Nat.lt_irrefl _))
      refine claim_M hg hl hk hc' hc (fun r ch2 t2 q0 q1 q2 => br_c (fun e => ?_) (fun e => ?_))
      · have q := kk (1 + j) r ch2 t2 q1 (by omega) (Or.inr ⟨hp, Or.inr ⟨fun q => ?_, rfl⟩⟩)
        · rwa [Nat.add_comm, nI_pred] at q
        · rw [q2.2 q] at e
          exact absurd e (by decide)
      · exact kk 0 _ _ _ q1 (by omega) (Or.inr ⟨hp, Or.inl ⟨q2.1 (q0.resolve_left e), rfl⟩⟩)
    | succ d ih =>
      intro j cf' ch' t' hj hc' hp
      refine h2 _ _ _ _ ?_
      unfold s_M_bad_2 s_M_bad_30
      rw [nI_1, nI_clamp (by omega : j < 2 ^ 31)]
      refine pk_le nl j (fun q => absurd q (by omega)) (fun _ => ⟨vp_in_nI (by omega) (by decide), br_c (fun eo => ?_) (fun eo => ?_)⟩)
      · refine follows_M hg hl hk (by omega) hc' (fun r cf2 ch2 t2 q0 q1 q2 => br_c (fun e => ?_) (fun e => ?_))
        · have q := kk (1 + j) cf2 ch2 t2 q1 (by omega) (Or.inl ⟨j, Nat.zero_le _, by omega, eo, fun q => ?_, hp, rfl⟩)
          · rwa [Nat.add_comm, nI_pred] at q
          · rw [q2.2 q] at e
            exact absurd e (by decide)
        · refine ih (j + 1) _ _ _ (by omega) q1 (fun j' p1 p2 p3 => ?_)
          by_cases e' : j' = j
          · subst e'; exact q2.1 (q0.resolve_left e)
          · exact hp j' p1 (by omega) p3
      · refine ih (j + 1) _ _ _ (by omega) hc' (fun j' p1 p2 p3 => ?_)
        by_cases e' : j' = j
        · subst e'; exact absurd p3 eo
        · exact hp j' p1 (by omega) p3
  exact loop nl 0 cf ch t (by omega) hch (fun j' a b => absurd b (by omega))
theorem allThere_M {o : Nat → Int32} {post : (Nat → Int32) → Prop} (k : ∀ o', (∀ j, j < 24 → o' j = 0) → post o') : wp_M_allThere o post := by
  unfold wp_M_allThere
  intro C2 h2
  have loop : ∀ d i (o' : Nat → Int32), i + d = 24 → (∀ j, j < i → o' j = 0) → C2 (nI i) o' := by
    intro d
    induction d with
    | zero =>
      intro i o' hi ht
      have e : i = 24 := by omega
      subst e
      refine h2 _ _ ?_
      unfold s_M_allThere_2
      exact pk_le 24 24 (fun _ => k o' ht) (fun q => absurd q (by omega))
    | succ d ih =>
      intro i o' hi ht
      refine h2 _ _ ?_
      unfold s_M_allThere_2
      rw [nI_1, nI_clamp (by omega : i < 2 ^ 31)]
      refine pk_le 24 i (fun q => absurd q (by omega)) (fun _ => ⟨vp_in_nI (by omega) (by decide), ih (i + 1) _ (by omega) (fun g hg => ?_)⟩)
      by_cases e : g = i
      · subst e; exact pk_us
      · rw [pk_un e]; exact ht g (by omega)
  exact loop 24 0 o (by omega) (fun g q => absurd q (Nat.not_lt_zero _))
theorem us_eq {lo lo' : Nat → Prop} {k : Nat} (h : ∀ j, j < k → (lo j ↔ lo' j)) : (fun j => j < k ∧ lo j) = (fun j => j < k ∧ lo' j) := by
  funext j
  exact propext ⟨fun q => ⟨q.1, (h j q.1).1 q.2⟩, fun q => ⟨q.1, (h j q.1).2 q.2⟩⟩
theorem lGood_eq {n : Nat} {kd ga gb : Nat → Nat} {lo lo' : Nat → Prop} {lk lz : Nat → Nat} {lt : Nat → Nat → Nat} {j : Nat} (h : ∀ i, i < j → (lo i ↔ lo' i)) : lGood n kd ga gb lo lk lz lt j ↔ lGood n kd ga gb lo' lk lz lt j := by
  unfold lGood
  rw [us_eq h]
theorem fbad_eq {n : Nat} {kd ga gb : Nat → Nat} {lo lo' : Nat → Prop} {lk lz : Nat → Nat} {lt : Nat → Nat → Nat} {nl i claim r : Nat} (h : ∀ j, j < nl → (lo j ↔ lo' j)) (hb : fbad n kd ga gb lo lk lz lt nl i claim r) : fbad n kd ga gb lo' lk lz lt nl i claim r := by
  unfold fbad at hb ⊢
  rw [us_eq h] at hb
  have g : ∀ j, j < nl → (lGood n kd ga gb lo lk lz lt j ↔ lGood n kd ga gb lo' lk lz lt j) := fun j hj => lGood_eq (fun i hi => h i (by omega))
  rcases hb with ⟨j, a1, a2, a3, a4, a5, a6⟩ | ⟨a1, a2⟩
  · exact Or.inl ⟨j, a1, a2, (h j a2).1 a3, fun q => a4 ((g j a2).2 q), fun j' b1 b2 b3 => (g j' (by omega)).1 (a5 j' b1 b2 ((h j' (by omega)).2 b3)), a6⟩
  · exact Or.inr ⟨fun j' b1 b2 b3 => (g j' b2).1 (a1 j' b1 b2 ((h j' b2).2 b3)), a2⟩
/-! The guards of both. -/
def isL (n : Nat) (p : Int32) : Prop := ∃ l, l < 2 * n ∧ p = nI l
def isG (n : Nat) (p : Int32) : Prop := ∃ g, g < n ∧ p = nI g
theorem hasL_y {n l : Nat} (hn : n ≤ 40) (hl : l < 2 * n) {post : Int32 → Prop} (k : post 1) : wp_G_hasLiteral (nI n) (nI l) post := by
  unfold wp_G_hasLiteral wp_G_has
  rw [lit_half (by omega)]
  exact br_f (nI_pos (by omega)) (br_f (nI_pos (by omega)) (pk_le n (l / 2) (fun q => absurd q (by omega)) (fun _ => br_f (by decide) k)))
theorem has_y {n g : Nat} (hn : n ≤ 40) (hl : g < n) {post : Int32 → Prop} (k : post 1) : wp_G_has (nI n) (nI g) post := by
  unfold wp_G_has
  exact br_f (nI_pos (by omega)) (pk_le n g (fun q => absurd q (by omega)) (fun _ => k))
theorem has_n {n : Nat} {p : Int32} (hn : n ≤ 40) (hl : ¬ isG n p) {post : Int32 → Prop} (k : post 0) : wp_G_has (nI n) p post := by
  unfold wp_G_has
  refine br_c (fun _ => k) (fun h0 => br_c (fun _ => k) (fun h1 => ?_))
  obtain ⟨g, hg, e⟩ := nI_of h0
  subst e
  exact absurd ⟨g, Nat.lt_of_not_le (fun q => h1 (nI_le q hg)), rfl⟩ hl
theorem hasL_n {n : Nat} {p : Int32} (hn : n ≤ 40) (hl : ¬ isL n p) {post : Int32 → Prop} (k : post 0) : wp_G_hasLiteral (nI n) p post := by
  unfold wp_G_hasLiteral
  refine br_c (fun _ => k) (fun h0 => ?_)
  obtain ⟨l, hg, e⟩ := nI_of h0
  subst e
  rw [lit_half hg]
  refine has_n hn (fun ⟨g, q1, q2⟩ => hl ⟨l, ?_, rfl⟩) (br_t rfl k)
  have := (nI_eq (by omega) (by omega)).1 q2
  omega
theorem hasF_y {n g : Nat} (hn : n ≤ 40) (hl : g < n) {post : Int32 → Prop} (k : post 1) : wp_F_has (nI n) (nI g) post := has_y hn hl k
theorem hasF_n {n : Nat} {p : Int32} (hn : n ≤ 40) (hl : ¬ isG n p) {post : Int32 → Prop} (k : post 0) : wp_F_has (nI n) p post := has_n hn hl k
theorem isLi_y {n g : Nat} (hn : n ≤ 40) (hl : g < n) {post : Int32 → Prop} (k : post 1) : wp_M_isLine (nI n) (nI g) post := has_y hn hl k
theorem isLi_n {n : Nat} {p : Int32} (hn : n ≤ 40) (hl : ¬ isG n p) {post : Int32 → Prop} (k : post 0) : wp_M_isLine (nI n) p post := has_n hn hl k
theorem isLit_y {n l : Nat} (hn : n ≤ 40) (hl : l < 2 * n) {post : Int32 → Prop} (k : post 1) : wp_M_isLiteral (nI n) (nI l) post := by
  unfold wp_M_isLiteral
  rw [lit_half2 (by omega)]
  exact br_f (nI_pos (by omega)) (pk_le n (l / 2) (fun q => absurd q (by omega)) (fun _ => k))
theorem isLit_n {n : Nat} {p : Int32} (hn : n ≤ 40) (hl : ¬ isL n p) {post : Int32 → Prop} (k : post 0) : wp_M_isLiteral (nI n) p post := by
  unfold wp_M_isLiteral
  refine br_c (fun _ => k) (fun h0 => br_c (fun _ => k) (fun h1 => ?_))
  obtain ⟨l, hg, e⟩ := nI_of h0
  subst e
  rw [lit_half2 hg] at h1
  have h2 : l / 2 < n := Nat.lt_of_not_le (fun q => h1 (nI_le q (by omega)))
  exact absurd ⟨l, by omega, rfl⟩ hl
