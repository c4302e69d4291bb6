/-! Which lines follow, by the class. -/
def tn (l : Nat) : Nat := if l % 2 = 0 then l + 1 else l - 1
theorem tn_half (l : Nat) : tn l / 2 = l / 2 := by unfold tn; split <;> omega
theorem tn_mod (l : Nat) : tn l % 2 = 1 - l % 2 := by unfold tn; split <;> omega
theorem tn_lt {l n : Nat} (h : l < 2 * n) : tn l < 2 * n := by unfold tn; split <;> omega
theorem dl_tn {S : Nat → Bool → Prop} {l : Nat} {b : Bool} : dl S (tn l) b ↔ dl S l (!b) := by
  unfold dl
  rw [tn_half, tn_mod]
  rcases Nat.mod_two_eq_zero_or_one l with h | h <;> rw [h] <;> cases b <;> simp
theorem nI_tn : ∀ l, l < 80 → nI l ^^^ 1 = nI (tn l) := by decide +kernel
theorem fill_R {t : Nat → Int32} {v : Int32} {post : (Nat → Int32) → Prop} (k : ∀ t', (∀ g, g < 40 → t' g = v) → post t') : wp_A_fill t v post := by
  unfold wp_A_fill
  intro C5 h5
  have loop : ∀ d i (t' : Nat → Int32), i + d = 40 → (∀ g, g < i → t' g = v) → C5 (nI i) 40 t' := by
    intro d
    induction d with
    | zero =>
      intro i t' hi ht
      have e : i = 40 := by omega
      subst e
      refine h5 _ _ _ ?_
      unfold s_A_fill_5
      exact pk_le 40 40 (fun _ => k t' ht) (fun q => absurd q (by omega))
    | succ d ih =>
      intro i t' hi ht
      refine h5 _ _ _ ?_
      unfold s_A_fill_5
      refine pk_le 40 i (fun q => absurd q (by omega)) (fun _ => ⟨vp_in_nI (by omega) (by decide), ?_⟩)
      rw [nI_1, nI_clamp (by omega : i < 2 ^ 31)]
      refine ih (i + 1) _ (by omega) (fun g hg => ?_)
      by_cases e : g = i
      · subst e; exact pk_us
      · rw [pk_un e]; exact ht g (by omega)
  exact loop 40 0 t (by omega) (fun g q => absurd q (Nat.not_lt_zero _))
theorem begin_R {t : Nat → Int32} {cf : Int32} {post : Int32 → (Nat → Int32) → Prop} (k : ∀ t', (t' 0 = 0 ∧ ∀ g, 0 < g → g < 40 → t' g = 2) → post 0 t') : wp_U_begin cf t post := by
  unfold wp_U_begin
  refine fill_R (fun t' ht => ⟨vp_in_nI (n := 0) (by decide) (by decide), k _ ⟨pk_us, fun g h0 h1 => ?_⟩⟩)
  rw [pk_un (show g ≠ (0 : Int32).toNatClampNeg from fun q => absurd (q.trans (show (0 : Int32).toNatClampNeg = 0 from rfl)) (by omega))]
  exact ht g h1
theorem start_S {Dr : Nat → Bool → Prop} {Cf : Prop} (h0 : Dr 0 false) {t : Nat → Int32} {ch : Int32} (hch : isB ch) (ht : t 0 = 0 ∧ ∀ g, 0 < g → g < 40 → t g = 2) : uS Dr Cf t 0 ch ∧ tl t 0 false := by
  have hz : tl t 0 false := ⟨by decide, ht.1⟩
  refine ⟨⟨fun g hg => ?_, fun g b hb => ?_, isB_0, hch, fun q => absurd q (by decide)⟩, hz⟩
  · by_cases e : g = 0
    · subst e; exact Or.inr ⟨false, ht.1⟩
    · exact Or.inl (ht.2 g (by omega) hg)
  · by_cases e : g = 0
    · subst e
      rw [tl_fun hb hz]; exact h0
    · exact absurd ((ht.2 g (by omega) hb.1).symm.trans hb.2) (fun q => bI_ne2 b q.symm)
def A1 (l : Nat) : Nat → Prop := fun x => x = l
def A2 (a b : Nat) : Nat → Prop := fun x => x = a ∨ x = b
def AC (z : Nat) (t : Nat → Nat) : Nat → Prop := fun x => ∃ i, i < z ∧ x = tn (t i)
/-- line j follows from the lines before it that are not left out -/
def lGood (n : Nat) (kd ga gb : Nat → Nat) (lo : Nat → Prop) (lk lz : Nat → Nat) (lt : Nat → Nat → Nat) (j : Nat) : Prop :=
  (lk j = 1 → Conf n kd ga gb (fun i => i < j ∧ lo i) lk lz lt (A2 (lt j 0) (tn (lt j 1))) ∧ Conf n kd ga gb (fun i => i < j ∧ lo i) lk lz lt (A2 (tn (lt j 0)) (lt j 1))) ∧
  (lk j = 0 → Conf n kd ga gb (fun i => i < j ∧ lo i) lk lz lt (AC (lz j) (lt j)))
theorem both_R {n k : Nat} {kd ga gb : Nat → Nat} {lk lz : Nat → Nat} {lt : Nat → Nat → Nat} {gs : Int32} {GK GL GR FK FZ FT FO : Nat → Int32} (hg : gA n kd ga gb gs GK GL GR) (hl : lA n k lk lz lt FK FZ FT) (hk : k ≤ 24) {cf ch : Int32} {t : Nat → Int32} (hch : isB ch) {a b : Nat} (ha : a < 80) (hb : b < 80) {post : Int32 → Int32 → Int32 → (Nat → Int32) → Prop} (kk : ∀ r ch' t', isB r → isB ch' → (r = 1 ↔ Conf n kd ga gb (fun j => j < k ∧ FO j = 0) lk lz lt (A2 a b)) → post r r ch' t') : wp_U_bothConflict gs GK GL GR FK FZ FT FO cf ch t (nI a) (nI b) (nI k) post := by
  unfold wp_U_bothConflict
  refine begin_R (fun t1 h1 => ?_)
  have hclo := der_clo n kd ga gb (fun j => j < k ∧ FO j = 0) lk lz lt (A2 a b)
  have hcf : ∀ g, Der n kd ga gb (fun j => j < k ∧ FO j = 0) lk lz lt (A2 a b) g true → Der n kd ga gb (fun j => j < k ∧ FO j = 0) lk lz lt (A2 a b) g false → Conf n kd ga gb (fun j => j < k ∧ FO j = 0) lk lz lt (A2 a b) := fun g p q => Or.inl ⟨g, p, q⟩
  obtain ⟨hs, hz⟩ := start_S (Cf := Conf n kd ga gb (fun j => j < k ∧ FO j = 0) lk lz lt (A2 a b)) hclo.1 hch h1
  refine tell_R hcf hs ha true (hclo.2.1 a (Or.inl rfl)) (fun cf2 ch2 t2 r2 c2 => ?_)
  refine tell_R hcf r2.1 hb true (hclo.2.1 b (Or.inr rfl)) (fun cf3 ch3 t3 r3 c3 => ?_)
  refine come_R hg hl hk rfl rfl r3.1 (fun o => ⟨r3.2.1 _ _ (r2.2.1 _ _ hz), fun l hl' => ?_⟩) (fun r ch' t' q0 q1 q2 q3 _ => ⟨q0, kk r ch' t' q0 q1 ⟨q2, fun q => ?_⟩⟩)
  · rcases hl' with e | e
    · rw [e]; exact uR_dl r3 (c2 (r3.2.2.1 o))
    · rw [e]; exact c3 o
  · rcases q0 with e | e
    · exact absurd q (q3 e).1
    · exact e
theorem literalFollows_R {n k : Nat} {kd ga gb : Nat → Nat} {lk lz : Nat → Nat} {lt : Nat → Nat → Nat} {gs : Int32} {GK GL GR FK FZ FT FO : Nat → Int32} (hg : gA n kd ga gb gs GK GL GR) (hl : lA n k lk lz lt FK FZ FT) (hk : k ≤ 24) {cf ch : Int32} {t : Nat → Int32} (hch : isB ch) {a : Nat} (ha : a < 80) {post : Int32 → Int32 → Int32 → (Nat → Int32) → Prop} (kk : ∀ r ch' t', isB r → isB ch' → (r = 1 ↔ Conf n kd ga gb (fun j => j < k ∧ FO j = 0) lk lz lt (A1 (tn a))) → post r r ch' t') : wp_U_literalFollows gs GK GL GR (nI k) FK FZ FT FO cf ch t (nI a) post := by
  unfold wp_U_literalFollows
  refine begin_R (fun t1 h1 => ?_)
  have hclo := der_clo n kd ga gb (fun j => j < k ∧ FO j = 0) lk lz lt (A1 (tn a))
  have hcf : ∀ g, Der n kd ga gb (fun j => j < k ∧ FO j = 0) lk lz lt (A1 (tn a)) g true → Der n kd ga gb (fun j => j < k ∧ FO j = 0) lk lz lt (A1 (tn a)) g false → Conf n kd ga gb (fun j => j < k ∧ FO j = 0) lk lz lt (A1 (tn a)) := fun g p q => Or.inl ⟨g, p, q⟩
  obtain ⟨hs, hz⟩ := start_S (Cf := Conf n kd ga gb (fun j => j < k ∧ FO j = 0) lk lz lt (A1 (tn a))) hclo.1 hch h1
  refine tell_R hcf hs ha false (dl_tn.1 (hclo.2.1 (tn a) rfl)) (fun cf2 ch2 t2 r2 c2 => ?_)
  refine come_R hg hl hk rfl rfl r2.1 (fun o => ⟨r2.2.1 _ _ hz, fun l hl' => ?_⟩) (fun r ch' t' q0 q1 q2 q3 _ => ⟨q0, kk r ch' t' q0 q1 ⟨q2, fun q => ?_⟩⟩)
  · rw [hl']; exact dl_tn.2 (c2 o)
  · rcases q0 with e | e
    · exact absurd q (q3 e).1
    · exact e
theorem lineFollows_R {n nl j : Nat} {kd ga gb : Nat → Nat} {lk lz : Nat → Nat} {lt : Nat → Nat → Nat} {gs : Int32} {GK GL GR FK FZ FT FO : Nat → Int32} (hg : gA n kd ga gb gs GK GL GR) (hl : lA n nl lk lz lt FK FZ FT) (hk : nl ≤ 24) (hj : j < nl) {cf ch : Int32} {t : Nat → Int32} (hch : isB ch) {post : Int32 → Int32 → Int32 → (Nat → Int32) → Prop} (kk : ∀ r cf' ch' t', isB r → isB ch' → (r = 1 ↔ lGood n kd ga gb (fun i => FO i = 0) lk lz lt j) → post r cf' ch' t') : wp_U_lineFollows gs GK GL GR FK FZ FT FO cf ch t (nI j) post := by
  have hlj : lA n j lk lz lt FK FZ FT := fun i hi => hl i (by omega)
  have hn : n ≤ 40 := hg.2.2.1
  obtain ⟨eK, hlk, eZ, hz6, hz2, hT⟩ := hl j hj
  unfold wp_U_lineFollows
  intro C69 h69
  rw [nI_clamp (by omega : j < 2 ^ 31), eK]
  refine ⟨vp_in_nI (by omega) (by decide), pk_eq (lk j) 1 (fun e1 => ?_) (fun e1 => ?_)⟩
  · have hz := hz2 e1
    obtain ⟨t0, b0⟩ := hT 0 (by omega)
    obtain ⟨t1, b1⟩ := hT 1 (by omega)
    refine literalOf_r (i := 0) (by omega) (by decide) t0 (literalOf_r (i := 1) (by omega) (by decide) t1 ?_)
    rw [nI_tn _ (by omega), nI_tn _ (by omega)]
    refine both_R hg hlj (by omega) hch (by omega) (by have := tn_lt b1; omega) (fun r ch' t' q0 q1 q2 => br_c (fun e0 => ?_) (fun e0 => ?_))
    · refine kk 0 r ch' t' isB_0 q1 ⟨fun q => absurd q (by decide), fun q => ?_⟩
      rw [q2.2 (q.1 e1).1] at e0
      exact absurd e0 (by decide)
    · have er : r = 1 := q0.resolve_left e0
      refine both_R hg hlj (by omega) q1 (by have := tn_lt b0; omega) (by omega) (fun r' ch2 t2 p0 p1 p2 => ?_)
      first
        | exact br_c (fun e3 => kk 0 _ ch2 t2 isB_0 p1 ⟨fun q => absurd q (by decide), fun q => by rw [p2.2 (q.1 e1).2] at e3; exact absurd e3 (by decide)⟩) (fun e3 => kk 1 _ ch2 t2 isB_1 p1 ⟨fun _ => ⟨fun _ => ⟨q2.1 er, p2.1 (p0.resolve_left e3)⟩, fun q => by omega⟩, fun _ => rfl⟩)
        | exact ⟨p0, kk r' _ ch2 t2 p0 p1 ⟨fun q => ⟨fun _ => ⟨q2.1 er, p2.1 q⟩, fun q => by omega⟩, fun q => p2.2 (q.1 e1).2⟩⟩
  · have e0 : lk j = 0 := by omega
    refine begin_R (fun t1 h1 => ?_)
    have hclo := der_clo n kd ga gb (fun i => i < j ∧ FO i = 0) lk lz lt (AC (lz j) (lt j))
    have hcf : ∀ g, Der n kd ga gb (fun i => i < j ∧ FO i = 0) lk lz lt (AC (lz j) (lt j)) g true → Der n kd ga gb (fun i => i < j ∧ FO i = 0) lk lz lt (AC (lz j) (lt j)) g false → Conf n kd ga gb (fun i => i < j ∧ FO i = 0) lk lz lt (AC (lz j) (lt j)) := fun g p q => Or.inl ⟨g, p, q⟩
    obtain ⟨hs, hz⟩ := start_S (Cf := Conf n kd ga gb (fun i => i < j ∧ FO i = 0) lk lz lt (AC (lz j) (lt j))) hclo.1 hch h1
    have loop : ∀ d i cf' ch' t', i + d = lz j → uR (Der n kd ga gb (fun i => i < j ∧ FO i = 0) lk lz lt (AC (lz j) (lt j))) (Conf n kd ga gb (fun i => i < j ∧ FO i = 0) lk lz lt (AC (lz j) (lt j))) t1 0 ch t' cf' ch' → (cf' = 0 → ∀ i', i' < i → dl (tl t') (lt j i') false) → C69 (nI i) cf' ch' t' := by
      intro d
      induction d with
      | zero =>
        intro i cf' ch' t' hi hr hc
        have ei : i = lz j := by omega
        subst ei
        refine h69 _ _ _ _ ?_
        unfold s_U_lineFollows_69
        rw [nI_clamp (by omega : j < 2 ^ 31), eZ]
        refine ⟨vp_in_nI (by omega) (by decide), pk_le (lz j) (lz j) (fun _ => ?_) (fun q => absurd q (Nat.lt_irrefl _))⟩
        refine come_R hg hlj (by omega) rfl rfl hr.1 (fun o => ⟨hr.2.1 _ _ hz, fun l hl' => ?_⟩) (fun r ch' t' q0 q1 q2 q3 _ => ⟨q0, kk r r ch' t' q0 q1 ⟨fun q => ⟨fun q' => by omega, fun _ => q2 q⟩, fun q => ?_⟩⟩)
        · obtain ⟨i', hi', el⟩ := hl'
          rw [el]
          exact dl_tn.2 (hc o i' hi')
        · rcases q0 with e | e
          · exact absurd (q.2 e0) (q3 e).1
          · exact e
      | succ d ih =>
        intro i cf' ch' t' hi hr hc
        refine h69 _ _ _ _ ?_
        unfold s_U_lineFollows_69
        rw [nI_clamp (by omega : j < 2 ^ 31), eZ]
        refine ⟨vp_in_nI (by omega) (by decide), pk_le (lz j) i (fun q => absurd q (by omega)) (fun _ => ?_)⟩
        obtain ⟨ti, bi⟩ := hT i (by omega)
        refine literalOf_r (by omega) (by omega) ti ?_
        refine tell_R hcf hr.1 (by omega) false (dl_tn.1 (hclo.2.1 _ ⟨i, by omega, rfl⟩)) (fun cf2 ch2 t2 r2 c2 => ?_)
        rw [nI_1]
        exact ih (i + 1) _ _ _ (by omega) (uR_tr hr r2) (fun o => lt_s (fun i' q => uR_dl r2 (hc (r2.2.2.1 o) i' q)) (c2 o))
    exact loop (lz j) 0 0 ch t1 (by omega) (uR_rf hs) (fun _ i' q => absurd q (Nat.not_lt_zero _))
/-- what firstBad answers, from line i on -/
def fbad (n : Nat) (kd ga gb : Nat → Nat) (lo : Nat → Prop) (lk lz : Nat → Nat) (lt : Nat → Nat → Nat) (nl i claim r : Nat) : Prop :=
  (∃ j, i ≤ j ∧ j < nl ∧ lo j ∧ ¬ lGood n kd ga gb lo lk lz lt j ∧ (∀ j', i ≤ j' → j' < j → lo j' → lGood n kd ga gb lo lk lz lt j') ∧ r = 1 + j) ∨
  ((∀ j', i ≤ j' → j' < nl → lo j' → lGood n kd ga gb lo lk lz lt j') ∧ ((Conf n kd ga gb (fun j => j < nl ∧ lo j) lk lz lt (A1 (tn claim)) ∧ r = 0) ∨ (¬ Conf n kd ga gb (fun j => j < nl ∧ lo j) lk lz lt (A1 (tn claim)) ∧ r = 1 + nl)))
theorem fbad_fun {n : Nat} {kd ga gb : Nat → Nat} {lo : Nat → Prop} {lk lz : Nat → Nat} {lt : Nat → Nat → Nat} {nl i claim r r' : Nat} (h : fbad n kd ga gb lo lk lz lt nl i claim r) (h' : fbad n kd ga gb lo lk lz lt nl i claim r') : r = r' := by
  rcases h with ⟨j, a1, a2, a3, a4, a5, a6⟩ | ⟨a1, a2⟩ <;> rcases h' with ⟨j', b1, b2, b3, b4, b5, b6⟩ | ⟨b1, b2⟩
  · rcases Nat.lt_trichotomy j j' with q | q | q
    · exact absurd (b5 j a1 q a3) a4
    · omega
    · exact absurd (a5 j' b1 q b3) b4
  · exact absurd (b1 j a1 a2 a3) a4
  · exact absurd (a1 j' b1 b2 b3) b4
  · rcases a2 with ⟨x, y⟩ | ⟨x, y⟩ <;> rcases b2 with ⟨x', y'⟩ | ⟨x', y'⟩
    · omega
    · exact absurd x x'
    · exact absurd x' x
    · omega
theorem firstBad_R {n nl : Nat} {kd ga gb : Nat → Nat} {lk lz : Nat → Nat} {lt : Nat → Nat → Nat} {gs : Int32} {GK GL GR FK FZ FT FO : Nat → Int32} (hg : gA n kd ga gb gs GK GL GR) (hl : lA n nl lk lz lt FK FZ FT) (hk : nl ≤ 24) {i claim : Nat} (hi : i ≤ nl) (hc : claim < 80) {cf ch : Int32} {t : Nat → Int32} (hch : isB ch) {post : Int32 → Int32 → Int32 → (Nat → Int32) → Prop} (kk : ∀ r cf' ch' t', isB ch' → fbad n kd ga gb (fun j => FO j = 0) lk lz lt nl i claim r → post (nI r) cf' ch' t') : wp_P_firstBad gs GK GL GR (nI nl) FK FZ FT FO cf ch t (nI i) (nI claim) post := by
  unfold wp_P_firstBad
  intro C2 h2
  have loop : ∀ d j cf' ch' t', j + d = nl → i ≤ j → isB ch' → (∀ j', i ≤ j' → j' < j → FO j' = 0 → lGood n kd ga gb (fun j => FO j = 0) lk lz lt j') → C2 (nI j) cf' ch' t' := by
    intro d
    induction d with
    | zero =>
      intro j cf' ch' t' hj hij hc' hp
      have ej : j = nl := by omega
      subst ej
      refine h2 _ _ _ _ ?_
      unfold s_P_firstBad_2
      refine pk_le j j (fun _ => ?_) (fun q => absurd q (Nat.lt_irrefl _))
      refine literalFollows_R hg hl hk hc' hc (fun r ch2 t2 q0 q1 q2 => br_c (fun e => ?_) (fun e => ?_))
      · rw [show (1 : Int32) = nI 1 from rfl, nI_add]
        refine kk _ _ _ _ q1 (Or.inr ⟨hp, Or.inr ⟨fun q => ?_, rfl⟩⟩)
        rw [q2.2 q] at e
        exact absurd e (by decide)
      · exact kk 0 _ _ _ q1 (Or.inr ⟨hp, Or.inl ⟨q2.1 (q0.resolve_left e), rfl⟩⟩)
    | succ d ih =>
      intro j cf' ch' t' hj hij hc' hp
      refine h2 _ _ _ _ ?_
      unfold s_P_firstBad_2 s_P_firstBad_40
      rw [nI_1, nI_clamp (by omega : j < 2 ^ 31)]
      refine pk_le nl j (fun q => absurd q (by omega)) (fun _ => ⟨vp_in_nI (by omega) (by decide), br_c (fun eo => ?_) (fun eo => ?_)⟩)
      · refine lineFollows_R hg hl hk (by omega) hc' (fun r cf2 ch2 t2 q0 q1 q2 => br_c (fun e => ?_) (fun e => ?_))
        · rw [show (1 : Int32) = nI 1 from rfl, nI_add]
          refine kk _ _ _ _ q1 (Or.inl ⟨j, hij, by omega, eo, fun q => ?_, hp, rfl⟩)
          rw [q2.2 q] at e
          exact absurd e (by decide)
        · refine ih (j + 1) _ _ _ (by omega) (by omega) q1 (fun j' p1 p2 p3 => ?_)
          by_cases e' : j' = j
          · subst e'; exact q2.1 (q0.resolve_left e)
          · exact hp j' p1 (by omega) p3
      · refine ih (j + 1) _ _ _ (by omega) (by omega) hc' (fun j' p1 p2 p3 => ?_)
        by_cases e' : j' = j
        · subst e'; exact absurd p3 eo
        · exact hp j' p1 (by omega) p3
  exact loop (nl - i) i cf ch t (by omega) (Nat.le_refl _) hch (fun j' a b => absurd b (by omega))
