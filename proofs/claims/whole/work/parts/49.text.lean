/-! text and count of both. -/
def ll (l : Nat) : Nat := if l / 2 < 10 then 3 else 4
theorem ll_b (l : Nat) : 3 ≤ ll l ∧ ll l ≤ 4 := by unfold ll; split <;> omega
def lS (f : Nat → Nat) : Nat → Nat
  | 0 => 0
  | k + 1 => lS f k + ll (f k)
theorem lS_s (f : Nat → Nat) (k : Nat) : lS f (k + 1) = lS f k + ll (f k) := rfl
theorem lS_le (f : Nat → Nat) : ∀ k, lS f k ≤ 4 * k
  | 0 => Nat.le_refl 0
  | k + 1 => by
    have h := lS_le f k
    have h2 := ll_b (f k)
    rw [lS_s]; omega
theorem lS_mono (f : Nat → Nat) {k k' : Nat} (h : k ≤ k') : lS f k ≤ lS f k' := by
  induction k' with
  | zero => obtain rfl : k = 0 := by omega
            exact Nat.le_refl _
  | succ k' ih =>
    by_cases e : k = k' + 1
    · subst e; exact Nat.le_refl _
    · have := ih (by omega)
      rw [lS_s]; omega
def tA (lz : Nat → Nat) (lt : Nat → Nat → Nat) : Nat → Nat
  | 0 => 0
  | j + 1 => tA lz lt j + (2 + lS (lt j) (lz j))
theorem tA_s (lz : Nat → Nat) (lt : Nat → Nat → Nat) (j : Nat) : tA lz lt (j + 1) = tA lz lt j + (2 + lS (lt j) (lz j)) := rfl
theorem tA_mono (lz : Nat → Nat) (lt : Nat → Nat → Nat) {k k' : Nat} (h : k ≤ k') : tA lz lt k ≤ tA lz lt k' := by
  induction k' with
  | zero => obtain rfl : k = 0 := by omega
            exact Nat.le_refl _
  | succ k' ih =>
    by_cases e : k = k' + 1
    · subst e; exact Nat.le_refl _
    · have := ih (by omega)
      rw [tA_s]; omega
theorem tA_le {lz : Nat → Nat} {lt : Nat → Nat → Nat} : ∀ j, (∀ i, i < j → lz i ≤ 6) → tA lz lt j ≤ 26 * j
  | 0, _ => Nat.le_refl 0
  | j + 1, h => by
    have h1 := tA_le (lz := lz) (lt := lt) j (fun i hi => h i (by omega))
    have h2 := lS_le (lt j) (lz j)
    have h3 := h j (by omega)
    rw [tA_s]; omega
def litB (l d : Nat) : Nat := if d = 0 then 32 else if d = 1 then (if l % 2 = 1 then 45 else 43) else 48 + (if d + 1 = ll l then l / 2 % 10 else l / 2 / 10)
theorem litB_le {l d : Nat} (h : l < 80) : litB l d < 128 := by
  unfold litB
  split
  · decide
  · split
    · split <;> decide
    · split <;> omega
def LB (lk lz : Nat → Nat) (lt : Nat → Nat → Nat) (j r b : Nat) : Prop :=
  (r = 0 ∧ b = (if lk j = 1 then 61 else 99)) ∨ (∃ k, k < lz j ∧ 1 + lS (lt j) k ≤ r ∧ r < 1 + lS (lt j) (k + 1) ∧ b = litB (lt j k) (r - (1 + lS (lt j) k))) ∨ (r = 1 + lS (lt j) (lz j) ∧ b = 10)
theorem LB_fun {lk lz : Nat → Nat} {lt : Nat → Nat → Nat} {j r b b' : Nat} (h : LB lk lz lt j r b) (h' : LB lk lz lt j r b') : b = b' := by
  rcases h with ⟨a1, a2⟩ | ⟨k, a1, a2, a3, a4⟩ | ⟨a1, a2⟩ <;> rcases h' with ⟨b1, b2⟩ | ⟨k', b1, b2, b3, b4⟩ | ⟨b1, b2⟩
  · rw [a2, b2]
  · omega
  · omega
  · omega
  · rcases Nat.lt_trichotomy k k' with q | q | q
    · have := lS_mono (lt j) (show k + 1 ≤ k' from q)
      omega
    · subst q; rw [a4, b4]
    · have := lS_mono (lt j) (show k' + 1 ≤ k from q)
      omega
  · have := lS_mono (lt j) (show k + 1 ≤ lz j from a1)
    omega
  · omega
  · have := lS_mono (lt j) (show k' + 1 ≤ lz j from b1)
    omega
  · rw [a2, b2]
def BY (lk lz : Nat → Nat) (lt : Nat → Nat → Nat) (nl i b : Nat) : Prop := ∃ j, j < nl ∧ tA lz lt j ≤ i ∧ i < tA lz lt (j + 1) ∧ LB lk lz lt j (i - tA lz lt j) b
theorem BY_fun {lk lz : Nat → Nat} {lt : Nat → Nat → Nat} {nl i b b' : Nat} (h : BY lk lz lt nl i b) (h' : BY lk lz lt nl i b') : b = b' := by
  obtain ⟨j, a1, a2, a3, a4⟩ := h
  obtain ⟨j', b1, b2, b3, b4⟩ := h'
  rcases Nat.lt_trichotomy j j' with q | q | q
  · have := tA_mono lz lt (show j + 1 ≤ j' from q)
    omega
  · subst q; exact LB_fun a4 b4
  · have := tA_mono lz lt (show j' + 1 ≤ j from q)
    omega
theorem litLen_R {l : Nat} (hl : l < 80) {post : Int32 → Prop} (k : post (nI (ll l))) : wp_X_literalLength (nI l) post := by
  unfold wp_X_literalLength
  rw [lit_half (by omega)]
  unfold ll at k
  exact pk_le 10 (l / 2) (fun q => by rw [if_neg (by omega)] at k; exact k) (fun q => by rw [if_pos (by omega)] at k; exact k)
theorem lineLen_R {n j z : Nat} {lt : Nat → Nat} {FZ FT : Nat → Int32} (hl : lB1 n j z lt FZ FT) (hn : n ≤ 40) (hj : j < 24) {post : Int32 → Prop} (k : post (nI (2 + lS lt z))) : wp_X_lineLength FZ FT (nI j) post := by
  obtain ⟨eZ, hz6, hT⟩ := hl
  unfold wp_X_lineLength
  intro C4 h4
  have loop : ∀ d i, i + d = z → C4 (nI (2 + lS lt i)) (nI i) := by
    intro d
    induction d with
    | zero =>
      intro i hi
      have e : i = z := by omega
      subst e
      refine h4 _ _ ?_
      unfold s_X_lineLength_4
      rw [nI_clamp (by omega : j < 2 ^ 31), eZ]
      exact ⟨vp_in_nI hj (by decide), pk_le i i (fun _ => k) (fun q => absurd q (Nat.lt_irrefl _))⟩
    | succ d ih =>
      intro i hi
      refine h4 _ _ ?_
      unfold s_X_lineLength_4
      obtain ⟨ti, bi⟩ := hT i (by omega)
      rw [nI_clamp (by omega : j < 2 ^ 31), eZ, nI_1]
      refine ⟨vp_in_nI hj (by decide), pk_le z i (fun q => absurd q (by omega)) (fun _ => literalOf_r hj (by omega) ti (litLen_R (by omega) ?_))⟩
      rw [nI_add, Nat.add_assoc, ← lS_s]
      exact ih (i + 1) (by omega)
  exact loop z 0 (by omega)
theorem lengthOf_R {n nl : Nat} {lk lz : Nat → Nat} {lt : Nat → Nat → Nat} {FK FZ FT : Nat → Int32} (hl : lA n nl lk lz lt FK FZ FT) (hn : n ≤ 40) (hk : nl ≤ 24) {post : Int32 → Prop} (k : post (nI (tA lz lt nl))) : wp_X_lengthOf (nI nl) FZ FT post := by
  unfold wp_X_lengthOf
  intro C4 h4
  have loop : ∀ d j, j + d = nl → C4 (nI (tA lz lt j)) (nI j) := by
    intro d
    induction d with
    | zero =>
      intro j hj
      have e : j = nl := by omega
      subst e
      refine h4 _ _ ?_
      unfold s_X_lengthOf_4
      exact pk_le j j (fun _ => k) (fun q => absurd q (Nat.lt_irrefl _))
    | succ d ih =>
      intro j hj
      refine h4 _ _ ?_
      unfold s_X_lengthOf_4
      rw [nI_1]
      refine pk_le nl j (fun q => absurd q (by omega)) (fun _ => lineLen_R (lA_1 hl (by omega)) hn (by omega) ?_)
      rw [nI_add, ← tA_s]
      exact ih (j + 1) (by omega)
  exact loop nl 0 (by omega)
theorem litByte_R {l d : Nat} (hl : l < 80) (hd : d < ll l) {post : Int32 → Prop} (k : post (nI (litB l d))) : wp_X_literalByte (nI l) (nI d) post := by
  have hb := ll_b l
  unfold wp_X_literalByte
  rw [lit_half (by omega), lit_low (by omega)]
  unfold litB at k
  refine pk_eq d 0 (fun e => by rw [if_pos e] at k; exact k) (fun e => ?_)
  rw [if_neg e] at k
  refine pk_eq d 1 (fun e1 => ?_) (fun e1 => ?_)
  · rw [if_pos e1] at k
    exact pk_eq (l % 2) 1 (fun q => by rw [if_pos q] at k; exact k) (fun q => by rw [if_neg q] at k; exact k)
  · rw [if_neg e1] at k
    refine litLen_R hl ?_
    rw [show nI (ll l) - 1 = nI (ll l - 1) from pk_sub (a := ll l) (b := 1) (by omega)]
    refine pk_eq d (ll l - 1) (fun q => ?_) (fun q => ?_)
    · rw [if_pos (by omega)] at k
      rw [show nI (l / 2) - nI (l / 2) / 10 * 10 = nI (l / 2 % 10) from pk_rem (d := 10) (by omega) (by decide) (by decide), show (48 : Int32) = nI 48 from rfl, nI_add]
      exact k
    · rw [if_neg (by omega)] at k
      rw [show nI (l / 2) / 10 = nI (l / 2 / 10) from pk_div (d := 10) (by omega) (by decide) (by decide), show (48 : Int32) = nI 48 from rfl, nI_add]
      exact k
theorem lineByte_R {n nl j r : Nat} {lk lz : Nat → Nat} {lt : Nat → Nat → Nat} {FK FZ FT : Nat → Int32} (hl : lA n nl lk lz lt FK FZ FT) (hn : n ≤ 40) (hk : nl ≤ 24) (hj : j < nl) (hr : r < 2 + lS (lt j) (lz j)) {post : Int32 → Prop} (k : ∀ b, LB lk lz lt j r b → post (nI b)) : wp_X_lineByte FK FZ FT (nI j) (nI r) post := by
  obtain ⟨eK, hlk, eZ, hz6, hz2, hT⟩ := hl j hj
  have hS := lS_le (lt j) (lz j)
  unfold wp_X_lineByte
  intro C29 h29
  have vj : vp_in (nI j) 24 := vp_in_nI (by omega) (by decide)
  rw [nI_clamp (by omega : j < 2 ^ 31), eK]
  refine pk_eq r 0 (fun e0 => ⟨vj, pk_eq (lk j) 1 (fun e => ?_) (fun e => ?_)⟩) (fun e0 => ?_)
  · exact k 61 (Or.inl ⟨e0, by rw [if_pos e]⟩)
  · exact k 99 (Or.inl ⟨e0, by rw [if_neg e]⟩)
  · rw [show nI r - 1 = nI (r - 1) from pk_sub (a := r) (b := 1) (by omega)]
    have loop : ∀ d i, i + d = lz j → 1 + lS (lt j) i ≤ r → C29 (nI (r - (1 + lS (lt j) i))) (nI i) := by
      intro d
      induction d with
      | zero =>
        intro i hi hri
        have e : i = lz j := by omega
        subst e
        refine h29 _ _ ?_
        unfold s_X_lineByte_29
        rw [nI_clamp (by omega : j < 2 ^ 31), eZ]
        exact ⟨vj, pk_le (lz j) (lz j) (fun _ => k 10 (Or.inr (Or.inr ⟨by omega, rfl⟩))) (fun q => absurd q (Nat.lt_irrefl _))⟩
      | succ d ih =>
        intro i hi hri
        refine h29 _ _ ?_
        unfold s_X_lineByte_29
        obtain ⟨ti, bi⟩ := hT i (by omega)
        have hb := ll_b (lt j i)
        rw [nI_clamp (by omega : j < 2 ^ 31), eZ, nI_1]
        refine ⟨vj, pk_le (lz j) i (fun q => absurd q (by omega)) (fun _ => literalOf_r (by omega) (by omega) ti (litLen_R (by omega) ?_))⟩
        refine pk_le (ll (lt j i)) (r - (1 + lS (lt j) i)) (fun q => ?_) (fun q => ?_)
        · rw [pk_sub q, show r - (1 + lS (lt j) i) - ll (lt j i) = r - (1 + lS (lt j) (i + 1)) by rw [lS_s]; omega]
          exact ih (i + 1) (by omega) (by rw [lS_s]; omega)
        · exact litByte_R (by omega) q (k _ (Or.inr (Or.inl ⟨i, by omega, hri, by rw [lS_s]; omega, rfl⟩)))
    exact loop (lz j) 0 (by omega) (by show 1 + 0 ≤ r; omega)
theorem text_L {n nl : Nat} {lk lz : Nat → Nat} {lt : Nat → Nat → Nat} {FK FZ FT : Nat → Int32} (hl : lA n nl lk lz lt FK FZ FT) (hn : n ≤ 40) (hk : nl ≤ 24) {out : Nat → Int64} {p : Int32} {post : Int32 → (Nat → Int64) → Prop} (kx : ¬ isG (tA lz lt nl) p → post 1 out) (kr : ∀ q b, q < tA lz lt nl → p = nI q → BY lk lz lt nl q b → post 0 (vp_updL out (0 : Int32).toNatClampNeg (nI b).toInt64)) : wp_L_text (nI nl) FK FZ FT out p post := by
  have hA := tA_le (lz := lz) (lt := lt) nl (fun i hi => (hl i hi).2.2.2.1)
  unfold wp_L_text wp_P_text
  by_cases h0 : p < 0
  · refine Or.inr (br_t h0 ⟨rfl, kx (fun ⟨g, q1, q2⟩ => ?_)⟩)
    rw [q2] at h0
    exact nI_pos (by omega) h0
  obtain ⟨q, hq, rfl⟩ := nI_of h0
  by_cases h1 : q < tA lz lt nl
  rotate_left
  · refine Or.inr (br_f h0 (lengthOf_R hl hn hk (pk_lt q (tA lz lt nl) (fun z => absurd z h1) (fun _ => ⟨rfl, kx (fun ⟨g, q1, q2⟩ => ?_)⟩))))
    have := (nI_eq hq (by omega)).1 q2
    omega
  refine Or.inl (br_f h0 (lengthOf_R hl hn hk (pk_lt q (tA lz lt nl) (fun _ => ?_) (fun z => absurd z (by omega)))))
  unfold wp_X_byteOf
  intro C4 h4
  have loop : ∀ d j, j + d = nl → tA lz lt j ≤ q → C4 (nI (q - tA lz lt j)) (nI j) := by
    intro d
    induction d with
    | zero =>
      intro j hj hqj
      have e : j = nl := by omega
      subst e
      omega
    | succ d ih =>
      intro j hj hqj
      refine h4 _ _ ?_
      unfold s_X_byteOf_4
      have hS := lS_le (lt j) (lz j)
      have hz := (hl j (by omega)).2.2.2.1
      rw [nI_1]
      refine pk_le nl j (fun z => absurd z (by omega)) (fun _ => lineLen_R (lA_1 hl (by omega)) hn (by omega) ?_)
      refine pk_le (2 + lS (lt j) (lz j)) (q - tA lz lt j) (fun z => ?_) (fun z => ?_)
      · rw [pk_sub z, show q - tA lz lt j - (2 + lS (lt j) (lz j)) = q - tA lz lt (j + 1) by rw [tA_s]; omega]
        exact ih (j + 1) (by omega) (by rw [tA_s]; omega)
      · exact lineByte_R hl hn hk (by omega) z (fun b hb => ⟨in01, kr q b h1 rfl ⟨j, by omega, hqj, by rw [tA_s]; omega, hb⟩⟩)
  have z := loop nl 0 (by omega) (Nat.zero_le _)
  exact z
theorem byteAt_M {n nl q : Nat} {lk lz : Nat → Nat} {lt : Nat → Nat → Nat} {FK FZ FT : Nat → Int32} (hl : lA n nl lk lz lt FK FZ FT) (hn : n ≤ 40) (hk : nl ≤ 24) (hq : q < 2 ^ 31) {fo : Int32} {post : Int32 → Int32 → Prop} (kf : ∀ b f', q < tA lz lt nl → b < 128 → BY lk lz lt nl q b → post (nI b) f') (kn : tA lz lt nl ≤ q → post (-1) (nI (tA lz lt nl))) : wp_M_byteAt (nI nl) fo FK FZ FT (nI q) post := by
  have hA := tA_le (lz := lz) (lt := lt) nl (fun i hi => (hl i hi).2.2.2.1)
  unfold wp_M_byteAt
  intro C4 C40 h4 h40
  have loop : ∀ d j f', j + d = nl → tA lz lt j ≤ q → C4 (nI (tA lz lt j)) (nI j) f' := by
    intro d
    induction d with
    | zero =>
      intro j f' hj hqj
      have e : j = nl := by omega
      subst e
      refine h4 _ _ _ ?_
      unfold s_M_byteAt_4
      exact pk_le j j (fun _ => kn hqj) (fun z => absurd z (Nat.lt_irrefl _))
    | succ d ih =>
      intro j f' hj hqj
      obtain ⟨eK, hlk, eZ, hz6, hz2, hT⟩ := hl j (by omega)
      have hS := lS_le (lt j) (lz j)
      have hAj := tA_mono lz lt (show j + 1 ≤ nl by omega)
      have es := tA_s lz lt j
      have vj : vp_in (nI j) 24 := vp_in_nI (by omega) (by decide)
      refine h4 _ _ _ ?_
      unfold s_M_byteAt_4
      rw [nI_1, nI_clamp (by omega : j < 2 ^ 31), eK]
      refine pk_le nl j (fun z => absurd z (by omega)) (fun _ => pk_eq q (tA lz lt j) (fun e => ⟨vj, pk_eq (lk j) 0 (fun e0 => ?_) (fun e0 => ?_)⟩) (fun e => ?_))
      · exact kf 99 _ (by omega) (by decide) ⟨j, by omega, hqj, by omega, Or.inl ⟨by omega, by rw [if_neg (by omega)]⟩⟩
      · exact kf 61 _ (by omega) (by decide) ⟨j, by omega, hqj, by omega, Or.inl ⟨by omega, by rw [if_pos (by omega)]⟩⟩
      · have inner : ∀ d2 i f', i + d2 = lz j → tA lz lt j + 1 + lS (lt j) i ≤ q → C40 (nI (tA lz lt j + 1 + lS (lt j) i)) (nI j) (nI i) f' := by
          intro d2
          induction d2 with
          | zero =>
            intro i f' hi hqi
            have e : i = lz j := by omega
            subst e
            refine h40 _ _ _ _ ?_
            unfold s_M_byteAt_40
            rw [nI_clamp (by omega : j < 2 ^ 31), eZ, nI_1, nI_1]
            refine ⟨vj, pk_le (lz j) (lz j) (fun _ => pk_eq q (tA lz lt j + 1 + lS (lt j) (lz j)) (fun e2 => ?_) (fun e2 => ?_)) (fun z => absurd z (Nat.lt_irrefl _))⟩
            · exact kf 10 _ (by omega) (by decide) ⟨j, by omega, hqj, by omega, Or.inr (Or.inr ⟨by omega, rfl⟩)⟩
            · rw [show tA lz lt j + 1 + lS (lt j) (lz j) + 1 = tA lz lt (j + 1) by omega]
              exact ih (j + 1) _ (by omega) (by omega)
          | succ d2 ih2 =>
            intro i f' hi hqi
            obtain ⟨ti, bi⟩ := hT i (by omega)
            have hb := ll_b (lt j i)
            have hm := lS_mono (lt j) (show i + 1 ≤ lz j by omega)
            have hs := lS_s (lt j) i
            have hl80 : lt j i < 80 := by omega
            refine h40 _ _ _ _ ?_
            unfold s_M_byteAt_40
            rw [nI_clamp (by omega : j < 2 ^ 31), eZ, mul6', nI_add, nI_clamp (by omega : 6 * j + i < 2 ^ 31), ti, lit_half2 (by omega)]
            have dig : ∀ dg, ll (lt j i) = 2 + dg → (dg = 1 ∨ dg = 2) → s_M_byteAt_83 (nI nl) FK FZ FT (nI q) C4 C40 post (nI dg) (nI (tA lz lt j + 1 + lS (lt j) i)) (nI j) (nI i) (nI (lt j i)) (nI (lt j i / 2)) f' := by
              intro dg hdg h12
              unfold s_M_byteAt_83 s_M_byteAt_166 s_M_byteAt_159
              rw [pk_sub hqi, show nI (lt j i) - nI (lt j i) / 2 * 2 = nI (lt j i % 2) from pk_rem (d := 2) (by omega) (by decide) (by decide), show nI (lt j i / 2) - nI (lt j i / 2) / 10 * 10 = nI (lt j i / 2 % 10) from pk_rem (d := 10) (by omega) (by decide) (by decide), show nI (lt j i / 2) / 10 = nI (lt j i / 2 / 10) from pk_div (d := 10) (by omega) (by decide) (by decide), show (48 : Int32) = nI 48 from rfl, nI_add, nI_add, show (2 : Int32) + nI dg = nI (2 + dg) from nI_add 2 _, nI_1, show nI (tA lz lt j + 1 + lS (lt j) i) + 2 = nI (tA lz lt j + 1 + lS (lt j) i + 2) from nI_add _ 2, nI_add]
              have fin : q - (tA lz lt j + 1 + lS (lt j) i) < 2 + dg → post (nI (litB (lt j i) (q - (tA lz lt j + 1 + lS (lt j) i)))) f' := by
                intro z
                refine kf _ _ (by omega) (litB_le hl80) ⟨j, by omega, hqj, by omega, Or.inr (Or.inl ⟨i, by omega, by omega, by omega, ?_⟩)⟩
                congr 1
                omega
              have hq2 : q - (tA lz lt j + 1 + lS (lt j) i) < 2 ^ 31 := by omega
              generalize hD : q - (tA lz lt j + 1 + lS (lt j) i) = D at *
              refine br_f (nI_pos hq2) (pk_le (2 + dg) D (fun z => ?_) (fun z => ?_))
              · rw [show tA lz lt j + 1 + lS (lt j) i + 2 + dg = tA lz lt j + 1 + lS (lt j) (i + 1) by omega]
                exact ih2 (i + 1) _ (by omega) (by omega)
              · have k := fin z
                unfold litB at k
                refine pk_eq D 0 (fun e => by rw [if_pos e] at k; exact k) (fun e => ?_)
                rw [if_neg e] at k
                refine pk_eq D 1 (fun e1 => ?_) (fun e1 => ?_)
                · rw [if_pos e1] at k
                  exact pk_eq (lt j i % 2) 0 (fun z => by rw [if_neg (by omega)] at k; exact k) (fun z => by rw [if_pos (by omega)] at k; exact k)
                · rw [if_neg e1] at k
                  refine pk_eq dg 2 (fun e2 => pk_eq D 2 (fun e3 => ?_) (fun e3 => ?_)) (fun e2 => ?_)
                  · rw [if_neg (by omega)] at k; exact k
                  · rw [if_pos (by omega)] at k; exact k
                  · rw [if_pos (by omega)] at k; exact k
            have e10 : ll (lt j i) = if lt j i / 2 < 10 then 3 else 4 := rfl
            refine ⟨vj, pk_le (lz j) i (fun z => absurd z (by omega)) (fun _ => ⟨vp_in_nI (by omega) (by decide), pk_le (lt j i / 2) 9 (fun z => dig 1 (by rw [e10, if_pos (by omega)]) (Or.inl rfl)) (fun z => dig 2 (by rw [e10, if_neg (by omega)]) (Or.inr rfl))⟩)⟩
        exact inner (lz j) 0 _ (by omega) (by show tA lz lt j + 1 + 0 ≤ q; omega)
  exact loop nl 0 fo (by omega) (Nat.zero_le _)
theorem text_M {n nl : Nat} {lk lz : Nat → Nat} {lt : Nat → Nat → Nat} {FK FZ FT : Nat → Int32} (hl : lA n nl lk lz lt FK FZ FT) (hn : n ≤ 40) (hk : nl ≤ 24) {th fo p : Int32} {post : Int32 → Int32 → Int32 → Prop} (kx : ∀ f', ¬ isG (tA lz lt nl) p → post 0 1 f') (kr : ∀ q b f', q < tA lz lt nl → p = nI q → BY lk lz lt nl q b → post (nI b) 0 f') : wp_M_text th (nI nl) fo FK FZ FT p post := by
  have hA := tA_le (lz := lz) (lt := lt) nl (fun i hi => (hl i hi).2.2.2.1)
  unfold wp_M_text s_M_text_13 s_M_text_24
  refine br_c (fun h0 => ?_) (fun h0 => br_f (by decide) (br_f (by decide) (kx _ (fun ⟨g, q1, q2⟩ => ?_))))
  · have h0' : ¬ p < 0 := Int32.not_lt.2 h0
    obtain ⟨q, hq, rfl⟩ := nI_of h0'
    refine byteAt_M hl hn hk hq (fun b f' z1 z2 z3 => br_t (nI_pos' (by omega)) (br_t (nI_pos' (by omega)) (kr q b f' z1 rfl z3))) (fun z => br_f (by decide) (br_f (by decide) (kx _ (fun ⟨g, q1, q2⟩ => ?_))))
    have := (nI_eq hq (by omega)).1 q2
    omega
  · rw [q2] at h0
    exact h0 (nI_pos' (by omega))
/-- what count answers -/
def cV (n : Nat) (kd : Nat → Nat) (nl : Nat) (lz : Nat → Nat) (lt : Nat → Nat → Nat) (nt w : Nat) : Nat := if w = 0 then n else if w = 1 then inp kd n else if w = 2 then nl else if w = 3 then nt else tA lz lt nl
theorem count_L {n nl nt : Nat} {kd lk lz : Nat → Nat} {lt : Nat → Nat → Nat} {FK FZ FT : Nat → Int32} (hl : lA n nl lk lz lt FK FZ FT) (hn : n ≤ 40) (hk : nl ≤ 24) {out : Nat → Int64} {p : Int32} {post : Int32 → (Nat → Int64) → Prop} (kx : ¬ isG 5 p → post 1 out) (kr : ∀ w, w < 5 → p = nI w → post 0 (vp_updL out (0 : Int32).toNatClampNeg (nI (cV n kd nl lz lt nt w)).toInt64)) : wp_L_count (nI n) (nI (inp kd n)) (nI nl) FZ FT (nI nt) out p post := by
  unfold wp_L_count wp_P_count
  by_cases hp : isG 5 p
  · refine Or.inl ⟨fun e => ⟨in01, kr 0 (by decide) e⟩, fun e => ⟨in01, kr 1 (by decide) e⟩, fun e => ⟨in01, kr 2 (by decide) e⟩, fun e => ⟨in01, kr 3 (by decide) e⟩, fun e => lengthOf_R hl hn hk ⟨in01, kr 4 (by decide) e⟩, fun e0 e1 e2 e3 e4 => ?_⟩
    obtain ⟨w, h1, rfl⟩ := hp
    rcases (by omega : w = 0 ∨ w = 1 ∨ w = 2 ∨ w = 3 ∨ w = 4) with rfl | rfl | rfl | rfl | rfl
    · exact e0 rfl
    · exact e1 rfl
    · exact e2 rfl
    · exact e3 rfl
    · exact e4 rfl
  · exact Or.inr ⟨fun e => hp ⟨0, by decide, e⟩, fun e => hp ⟨1, by decide, e⟩, fun e => hp ⟨2, by decide, e⟩, fun e => hp ⟨3, by decide, e⟩, fun e => absurd ⟨4, by decide, e⟩ hp, fun _ _ _ _ _ => ⟨rfl, kx hp⟩⟩
theorem count_M {n nl nt : Nat} {kd ga gb : Nat → Nat} {gs : Int32} {GK GL GR : Nat → Int32} (hg : gA n kd ga gb gs GK GL GR) {lk lz : Nat → Nat} {lt : Nat → Nat → Nat} {FK FZ FT : Nat → Int32} (hl : lA n nl lk lz lt FK FZ FT) (hk : nl ≤ 24) {th fo p : Int32} {post : Int32 → Int32 → Int32 → Prop} (kx : ∀ f', ¬ isG 5 p → post 0 1 f') (kr : ∀ w f', w < 5 → p = nI w → post (nI (cV n kd nl lz lt nt w)) 0 f') : wp_M_count th gs (nI nl) (nI nt) fo GK FK FZ FT p post := by
  have hA := tA_le (lz := lz) (lt := lt) nl (fun i hi => (hl i hi).2.2.2.1)
  have hg' := hg
  obtain rfl : gs = nI n := hg.1
  have hn := hg.2.2.1
  unfold wp_M_count s_M_count_14 s_M_count_15
  refine br_c (fun h0 => br_f (by decide) (kx _ (fun ⟨g, q1, q2⟩ => ?_))) (fun h0 => br_c (fun h4 => br_f (by decide) (kx _ (fun ⟨g, q1, q2⟩ => ?_))) (fun h4 => br_t (by decide) ?_))
  · rw [q2] at h0
    exact nI_pos (by omega) h0
  · rw [q2] at h4
    exact nI_nlt (a := 4) (b := g) (by omega) (by decide) h4
  · obtain ⟨w, hw, rfl⟩ := nI_of2 (M := 4) (n := 4) (by decide) h0 (Int32.not_lt.1 h4)
    refine pk_eq w 4 (fun e4 => ?_) (fun e4 => pk_eq w 0 (fun e => ?_) (fun e => pk_eq w 1 (fun e1 => ?_) (fun e1 => pk_eq w 2 (fun e2 => ?_) (fun e2 => ?_))))
    · subst e4
      refine byteAt_M (q := 1000000) hl hn hk (by decide) (fun b f' z1 z2 z3 => by omega) (fun z => kr 4 _ (by decide) rfl)
    · subst e; exact kr 0 _ (by decide) rfl
    · subst e1; exact inputs_M hg' (kr 1 _ (by decide) rfl)
    · subst e2; exact kr 2 _ (by decide) rfl
    · obtain rfl : w = 3 := by omega
      exact kr 3 _ (by decide) rfl
