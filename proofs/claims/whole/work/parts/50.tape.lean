/-! The tape: skipping, numbers, literals, of both. -/
def tpA (nt : Nat) (tp : Nat → Nat) (B : Nat → Int32) : Prop := nt ≤ 1000 ∧ ∀ i, i < nt → B i = nI (tp i) ∧ tp i < 256
def bl (nt : Nat) (tp : Nat → Nat) (i : Nat) : Prop := i < nt ∧ (tp i = 32 ∨ tp i = 9 ∨ tp i = 13)
def dg (nt : Nat) (tp : Nat → Nat) (i : Nat) : Prop := i < nt ∧ 48 ≤ tp i ∧ tp i ≤ 57
def skB (nt : Nat) (tp : Nat → Nat) : Nat → Nat → Nat
  | 0, i => i
  | d + 1, i => if i < nt ∧ (tp i = 32 ∨ tp i = 9 ∨ tp i = 13) then skB nt tp d (i + 1) else i
def skb (nt : Nat) (tp : Nat → Nat) (i : Nat) : Nat := skB nt tp (nt - i) i
def skL (nt : Nat) (tp : Nat → Nat) : Nat → Nat → Nat
  | 0, i => i
  | d + 1, i => if i < nt ∧ (tp i = 10 ∨ tp i = 32 ∨ tp i = 9 ∨ tp i = 13) then skL nt tp d (i + 1) else i
def skl (nt : Nat) (tp : Nat → Nat) (i : Nat) : Nat := skL nt tp (nt - i) i
def deN (nt : Nat) (tp : Nat → Nat) : Nat → Nat → Nat
  | 0, i => i
  | d + 1, i => if i < nt ∧ 48 ≤ tp i ∧ tp i ≤ 57 then deN nt tp d (i + 1) else i
def den (nt : Nat) (tp : Nat → Nat) (i : Nat) : Nat := deN nt tp (nt - i) i
def vlN (nt : Nat) (tp : Nat → Nat) : Nat → Nat → Nat → Nat
  | 0, _, a => a
  | d + 1, i, a => if i < nt ∧ 48 ≤ tp i ∧ tp i ≤ 57 then vlN nt tp d (i + 1) (min (10 * a + (tp i - 48)) 40) else a
def vl (nt : Nat) (tp : Nat → Nat) (i a : Nat) : Nat := vlN nt tp (nt - i) i a
theorem skb_y {nt i : Nat} {tp : Nat → Nat} (h : bl nt tp i) : skb nt tp i = skb nt tp (i + 1) := by
  unfold skb
  have h1 := h.1
  rw [show nt - i = (nt - (i + 1)) + 1 by omega]
  exact if_pos h
theorem skb_n {nt i : Nat} {tp : Nat → Nat} (h : ¬ bl nt tp i) : skb nt tp i = i := by
  unfold skb
  cases nt - i with
  | zero => rfl
  | succ d => exact if_neg h
theorem skl_y {nt i : Nat} {tp : Nat → Nat} (h : i < nt ∧ (tp i = 10 ∨ tp i = 32 ∨ tp i = 9 ∨ tp i = 13)) : skl nt tp i = skl nt tp (i + 1) := by
  unfold skl
  have h1 := h.1
  rw [show nt - i = (nt - (i + 1)) + 1 by omega]
  exact if_pos h
theorem skl_n {nt i : Nat} {tp : Nat → Nat} (h : ¬ (i < nt ∧ (tp i = 10 ∨ tp i = 32 ∨ tp i = 9 ∨ tp i = 13))) : skl nt tp i = i := by
  unfold skl
  cases nt - i with
  | zero => rfl
  | succ d => exact if_neg h
theorem den_y {nt i : Nat} {tp : Nat → Nat} (h : dg nt tp i) : den nt tp i = den nt tp (i + 1) := by
  unfold den
  have h1 := h.1
  rw [show nt - i = (nt - (i + 1)) + 1 by omega]
  exact if_pos h
theorem den_n {nt i : Nat} {tp : Nat → Nat} (h : ¬ dg nt tp i) : den nt tp i = i := by
  unfold den
  cases nt - i with
  | zero => rfl
  | succ d => exact if_neg h
theorem vl_y {nt i a : Nat} {tp : Nat → Nat} (h : dg nt tp i) : vl nt tp i a = vl nt tp (i + 1) (min (10 * a + (tp i - 48)) 40) := by
  unfold vl
  have h1 := h.1
  rw [show nt - i = (nt - (i + 1)) + 1 by omega]
  exact if_pos h
theorem vl_n {nt i a : Nat} {tp : Nat → Nat} (h : ¬ dg nt tp i) : vl nt tp i a = a := by
  unfold vl
  cases nt - i with
  | zero => rfl
  | succ d => exact if_neg h
theorem up_ind {nt : Nat} {P : Nat → Prop} (h : ∀ i, (i < nt → P (i + 1)) → P i) : ∀ i, P i := by
  have : ∀ d i, nt - i ≤ d → P i := by
    intro d
    induction d with
    | zero => exact fun i hi => h i (fun q => by omega)
    | succ d ih => exact fun i hi => h i (fun q => ih (i + 1) (by omega))
  exact fun i => this (nt - i) i (Nat.le_refl _)
theorem skb_b {nt : Nat} {tp : Nat → Nat} : ∀ i, i ≤ skb nt tp i ∧ (i ≤ nt → skb nt tp i ≤ nt) ∧ ¬ bl nt tp (skb nt tp i) := by
  refine up_ind (nt := nt) (fun i ih => ?_)
  by_cases e : bl nt tp i
  · have q := ih e.1
    have e1 := e.1
    rw [skb_y e]
    exact ⟨by omega, fun _ => q.2.1 (by omega), q.2.2⟩
  · rw [skb_n e]
    exact ⟨Nat.le_refl _, fun h => h, e⟩
theorem skl_b {nt : Nat} {tp : Nat → Nat} : ∀ i, i ≤ skl nt tp i ∧ (i ≤ nt → skl nt tp i ≤ nt) ∧ ¬ (skl nt tp i < nt ∧ (tp (skl nt tp i) = 10 ∨ tp (skl nt tp i) = 32 ∨ tp (skl nt tp i) = 9 ∨ tp (skl nt tp i) = 13)) := by
  refine up_ind (nt := nt) (fun i ih => ?_)
  by_cases e : i < nt ∧ (tp i = 10 ∨ tp i = 32 ∨ tp i = 9 ∨ tp i = 13)
  · have q := ih e.1
    have e1 := e.1
    rw [skl_y e]
    exact ⟨by omega, fun _ => q.2.1 (by omega), q.2.2⟩
  · rw [skl_n e]
    exact ⟨Nat.le_refl _, fun h => h, e⟩
theorem den_b {nt : Nat} {tp : Nat → Nat} : ∀ i, i ≤ den nt tp i ∧ (i ≤ nt → den nt tp i ≤ nt) := by
  refine up_ind (nt := nt) (fun i ih => ?_)
  by_cases e : dg nt tp i
  · have q := ih e.1
    have e1 := e.1
    rw [den_y e]
    exact ⟨by omega, fun _ => q.2 (by omega)⟩
  · rw [den_n e]
    exact ⟨Nat.le_refl _, fun h => h⟩
theorem skl_skb {nt : Nat} {tp : Nat → Nat} : ∀ i, skl nt tp i = skl nt tp (skb nt tp i) := by
  refine up_ind (nt := nt) (fun i ih => ?_)
  by_cases e : bl nt tp i
  · rw [skb_y e, skl_y ⟨e.1, Or.inr e.2⟩]
    exact ih e.1
  · rw [skb_n e]
theorem vl_le {nt : Nat} {tp : Nat → Nat} : ∀ i a, a ≤ 40 → vl nt tp i a ≤ 40 := by
  refine up_ind (nt := nt) (fun i ih => ?_)
  intro a ha
  by_cases e : dg nt tp i
  · rw [vl_y e]; exact ih e.1 _ (by omega)
  · rw [vl_n e]; exact ha
theorem den_eq {nt i : Nat} {tp : Nat → Nat} (h : ¬ i < den nt tp i) : ¬ dg nt tp i := by
  intro e
  have := (den_b (nt := nt) (tp := tp) (i + 1)).1
  rw [den_y e] at h
  omega
theorem here_R {nt i : Nat} {tp : Nat → Nat} {B : Nat → Int32} (hB : tpA nt tp B) (hi : i < 2 ^ 31) {post : Int32 → Prop} (k0 : ¬ i < nt → post (-1)) (k1 : i < nt → post (nI (tp i))) : wp_T_here (nI nt) (nI i) B post := by
  have h1 := hB.1
  unfold wp_T_here
  rw [nI_clamp hi]
  exact pk_le nt i (fun q => k0 (by omega)) (fun q => ⟨vp_in_nI (by omega) (by decide), by rw [(hB.2 i q).1]; exact k1 q⟩)
theorem blank_R {nt i : Nat} {tp : Nat → Nat} {B : Nat → Int32} (hB : tpA nt tp B) (hi : i < 2 ^ 31) {post : Int32 → Prop} (k0 : ¬ bl nt tp i → post 0) (k1 : bl nt tp i → post 1) : wp_T_isBlankHere (nI nt) (nI i) B post := by
  unfold wp_T_isBlankHere
  refine here_R hB hi (fun q => br_f (by decide) (br_f (by decide) (br_f (by decide) (k0 (fun z => q z.1))))) (fun q => ?_)
  have h2 := (hB.2 i q).2
  exact pk_eq (tp i) 32 (fun e => k1 ⟨q, Or.inl e⟩) (fun e => pk_eq (tp i) 9 (fun e' => k1 ⟨q, Or.inr (Or.inl e')⟩) (fun e' => pk_eq (tp i) 13 (fun e2 => k1 ⟨q, Or.inr (Or.inr e2)⟩) (fun e2 => k0 (fun z => by have := z.2; omega))))
theorem skipBlanks_R {nt i : Nat} {tp : Nat → Nat} {B : Nat → Int32} (hB : tpA nt tp B) (hi : i ≤ nt) {post : Int32 → Prop} (k : post (nI (skb nt tp i))) : wp_T_skipBlanks (nI nt) (nI i) B post := by
  have h1 := hB.1
  unfold wp_T_skipBlanks
  intro C0 h0
  have loop : ∀ i, i ≤ nt → post (nI (skb nt tp i)) → C0 (nI i) := by
    refine up_ind (nt := nt) (fun i ih => ?_)
    intro hi k
    refine h0 _ ?_
    unfold s_T_skipBlanks_0
    rw [nI_1]
    refine pk_le nt i (fun q => ?_) (fun q => blank_R hB (by omega) (fun e => br_t rfl ?_) (fun e => br_f (by decide) (ih q (by omega) ?_)))
    · rw [skb_n (fun z => by have := z.1; omega)] at k; exact k
    · rw [skb_n e] at k; exact k
    · rw [skb_y e] at k; exact k
  exact loop i hi k
theorem skipToLine_R {nt i : Nat} {tp : Nat → Nat} {B : Nat → Int32} (hB : tpA nt tp B) (hi : i ≤ nt) {post : Int32 → Prop} (k : post (nI (skl nt tp i))) : wp_T_skipToLine (nI nt) (nI i) B post := by
  have h1 := hB.1
  unfold wp_T_skipToLine
  intro C0 h0
  have loop : ∀ i, i ≤ nt → post (nI (skl nt tp i)) → C0 (nI i) := by
    refine up_ind (nt := nt) (fun i ih => ?_)
    intro hi k
    refine h0 _ ?_
    unfold s_T_skipToLine_0 s_T_skipToLine_27
    rw [nI_1]
    refine pk_le nt i (fun q => ?_) (fun q => blank_R hB (by omega) (fun e => br_t rfl (here_R hB (by omega) (fun z => absurd q z) (fun _ => ?_))) (fun e => br_f (by decide) (ih q (by omega) ?_)))
    · rw [skl_n (fun z => by have := z.1; omega)] at k; exact k
    · have h2 := (hB.2 i q).2
      refine pk_eq (tp i) 10 (fun e2 => ih q (by omega) ?_) (fun e2 => ?_)
      · rw [skl_y ⟨q, Or.inl e2⟩] at k; exact k
      · rw [skl_n (fun z => z.2.elim e2 (fun z' => e ⟨q, z'⟩))] at k; exact k
    · rw [skl_y ⟨q, Or.inr e.2⟩] at k; exact k
  exact loop i hi k
theorem sign_R {nt i : Nat} {tp : Nat → Nat} {B : Nat → Int32} (hB : tpA nt tp B) (hi : i < 2 ^ 31) {post : Int32 → Prop} (k0 : ¬ (i < nt ∧ (tp i = 43 ∨ tp i = 45)) → post 0) (k1 : (i < nt ∧ (tp i = 43 ∨ tp i = 45)) → post 1) : wp_T_isSignHere (nI nt) (nI i) B post := by
  unfold wp_T_isSignHere
  refine here_R hB hi (fun q => br_f (by decide) (here_R hB hi (fun _ => br_f (by decide) (k0 (fun z => q z.1))) (fun z => absurd z q))) (fun q => ?_)
  have h2 := (hB.2 i q).2
  exact pk_eq (tp i) 43 (fun e => k1 ⟨q, Or.inl e⟩) (fun e => here_R hB hi (fun z => absurd q z) (fun _ => pk_eq (tp i) 45 (fun e' => k1 ⟨q, Or.inr e'⟩) (fun e' => k0 (fun z => z.2.elim e e'))))
theorem digit_R {nt i : Nat} {tp : Nat → Nat} {B : Nat → Int32} (hB : tpA nt tp B) (hi : i < 2 ^ 31) {post : Int32 → Prop} (k0 : ¬ dg nt tp i → post 0) (k1 : dg nt tp i → post 1) : wp_T_isDigitHere (nI nt) (nI i) B post := by
  unfold wp_T_isDigitHere
  refine here_R hB hi (fun q => br_t (by decide) (k0 (fun z => q z.1))) (fun q => ?_)
  have h2 := (hB.2 i q).2
  refine pk_lt (tp i) 48 (fun e => k0 (fun z => ?_)) (fun e => here_R hB hi (fun z => absurd q z) (fun _ => pk_lt 57 (tp i) (fun e' => k0 (fun z => ?_)) (fun e' => k1 ⟨q, e, e'⟩)))
  · have := z.2.1; omega
  · have := z.2.2; omega
theorem min40 (m : Nat) (h : m < 2 ^ 31) : (if (40 : Int32) < nI m then (40 : Int32) else nI m) = nI (min m 40) := by
  by_cases e : 40 < m
  · rw [if_pos (show (40 : Int32) < nI m from nI_lt (a := 40) e h), Nat.min_eq_right (by omega)]; rfl
  · rw [if_neg (show ¬ (40 : Int32) < nI m from nI_nlt (a := 40) (b := m) (by omega) (by decide)), Nat.min_eq_left (by omega)]
theorem readNumber_R {nt i : Nat} {tp : Nat → Nat} {B : Nat → Int32} (hB : tpA nt tp B) (hi : i ≤ nt) {post : Int32 → Int32 → Prop} (k0 : ¬ i < den nt tp i → post (-1) (nI (den nt tp i))) (k1 : i < den nt tp i → post (nI (vl nt tp i 0)) (nI (den nt tp i))) : wp_T_readNumber (nI nt) (nI i) B post := by
  have h1 := hB.1
  unfold wp_T_readNumber
  intro C2 h2
  have loop : ∀ i, ∀ (x1 : Int32) (a : Nat), i ≤ nt → a ≤ 40 → (if x1 < 0 then 0 else x1) = nI a → (¬ i < den nt tp i → post x1 (nI (den nt tp i))) → (i < den nt tp i → post (nI (vl nt tp i a)) (nI (den nt tp i))) → C2 x1 (nI i) := by
    refine up_ind (nt := nt) (fun i ih => ?_)
    intro x1 a hi ha hx k0 k1
    refine h2 _ _ ?_
    unfold s_T_readNumber_2
    rw [nI_1, hx]
    refine pk_le nt i (fun q => ?_) (fun q => digit_R hB (by omega) (fun e => br_t rfl ?_) (fun e => br_f (by decide) (here_R hB (by omega) (fun z => absurd q z) (fun _ => ?_))))
    · have e : ¬ dg nt tp i := fun z => by have := z.1; omega
      rw [den_n e] at k0
      exact k0 (Nat.lt_irrefl _)
    · rw [den_n e] at k0
      exact k0 (Nat.lt_irrefl _)
    · have h2 := (hB.2 i q).2
      have e1 := e.2.1
      have db := (den_b (nt := nt) (tp := tp) (i + 1)).1
      have en : nI a * 10 + nI (tp i) - 48 = nI (10 * a + (tp i - 48)) := by
        rw [show (10 : Int32) = nI 10 from rfl, pk_mul, nI_add, show (48 : Int32) = nI 48 from rfl, pk_sub (by omega)]
        congr 1
        omega
      rw [en, min40 _ (by omega)]
      rw [den_y e] at k0 k1
      rw [vl_y e] at k1
      refine ih q _ (min (10 * a + (tp i - 48)) 40) (by omega) (by omega) (if_neg (nI_pos (by omega))) (fun z => ?_) (fun z => k1 (by omega))
      have q1 := k1 (by omega)
      rw [vl_n (den_eq z)] at q1
      exact q1
  exact loop i (-1) 0 hi (by decide) (by decide) k0 k1
/-- the literal that stands at i -/
def rlt (nt : Nat) (tp : Nat → Nat) (i : Nat) : Nat := 2 * vl nt tp (skb nt tp (i + 1)) 0 + if tp i = 45 then 1 else 0
def rlE (nt : Nat) (tp : Nat → Nat) (i : Nat) : Nat := den nt tp (skb nt tp (i + 1))
/-- there is a number at i, and a gate of it -/
def rlO (n nt : Nat) (tp : Nat → Nat) (i : Nat) : Prop := skb nt tp (i + 1) < den nt tp (skb nt tp (i + 1)) ∧ vl nt tp (skb nt tp (i + 1)) 0 < n
def mo (k : Nat) : Nat := if k = 1 then 2 else 6
def thB (f : Nat → Nat) (l : Nat) : Nat → Bool
  | 0 => false
  | z + 1 => thB f l z || decide (f z = l)
theorem thB_iff (f : Nat → Nat) (l : Nat) : ∀ z, thB f l z = true ↔ ∃ i, i < z ∧ f i = l
  | 0 => ⟨fun h => absurd h Bool.false_ne_true, fun ⟨i, h, _⟩ => absurd h (Nat.not_lt_zero _)⟩
  | z + 1 => by
    show (thB f l z || decide (f z = l)) = true ↔ _
    rw [Bool.or_eq_true, thB_iff f l z, decide_eq_true_iff]
    constructor
    · rintro (⟨i, h1, h2⟩ | h)
      · exact ⟨i, by omega, h2⟩
      · exact ⟨z, by omega, h⟩
    · rintro ⟨i, h1, h2⟩
      by_cases e : i = z
      · subst e; exact Or.inr h2
      · exact Or.inl ⟨i, by omega, h2⟩
theorem lB1_app {n j z l : Nat} {f : Nat → Nat} {Z T : Nat → Int32} (h : lB1 n j z f Z T) (hz : z < 6) (hl : l < 2 * n) : lB1 n j (z + 1) (fset f z l) (upd Z j (Z j + 1)) (upd T (6 * j + z) (nI l)) := by
  obtain ⟨a1, a2, a3⟩ := h
  refine ⟨by rw [pk_us, a1, nI_1], by omega, fun i hi => ?_⟩
  by_cases e : i = z
  · subst e; rw [pk_us, fset_s]; exact ⟨rfl, hl⟩
  · rw [pk_un (by omega), fset_n e]; exact a3 i (by omega)
def low (j : Nat) (Z T Z' T' : Nat → Int32) : Prop := (∀ q, q < j → Z' q = Z q) ∧ ∀ q, q < 6 * j → T' q = T q
theorem low_rf {j : Nat} {Z T : Nat → Int32} : low j Z T Z T := ⟨fun _ _ => rfl, fun _ _ => rfl⟩
theorem low_app {j z : Nat} {Z T Z' T' : Nat → Int32} {x y : Int32} (h : low j Z T Z' T') : low j Z T (upd Z' j x) (upd T' (6 * j + z) y) :=
  ⟨fun q hq => by rw [pk_un (by omega)]; exact h.1 q hq, fun q hq => by rw [pk_un (by omega)]; exact h.2 q hq⟩
theorem mo_le (k : Nat) : mo k ≤ 6 := by unfold mo; split <;> omega
theorem readLiteral_R {n nt i j k z : Nat} {tp : Nat → Nat} {f : Nat → Nat} {B FK FZ FT : Nat → Int32} (hn : n ≤ 40) (hB : tpA nt tp B) (hi : i < nt) (hj : j < 24) (hK : FK j = nI k) (hk : k ≤ 1) (hl : lB1 n j z f FZ FT) {fl : Int32} {post : (Nat → Int32) → (Nat → Int32) → Int32 → Int32 → Prop} (kf : ∀ pl, pl ≤ nt → ¬ (z < mo k ∧ rlO n nt tp i) → post FZ FT (nI pl) (nI i)) (ky : z < mo k ∧ rlO n nt tp i → (k = 1 ∨ ¬ thB f (rlt nt tp i) z = true) → post (upd FZ j (FZ j + 1)) (upd FT (6 * j + z) (nI (rlt nt tp i))) (nI (skb nt tp (rlE nt tp i))) fl) (kn : z < mo k ∧ rlO n nt tp i → ¬ (k = 1 ∨ ¬ thB f (rlt nt tp i) z = true) → post FZ FT (nI (skb nt tp (rlE nt tp i))) fl) : wp_T_readLiteral (nI n) FK FZ FT (nI nt) (nI i) fl B (nI j) post := by
  have h1 := hB.1
  have hm := mo_le k
  have b1 := (skb_b (nt := nt) (tp := tp) (i + 1)).2.1 (by omega)
  have b2 := (den_b (nt := nt) (tp := tp) (skb nt tp (i + 1))).2 b1
  have b3 := (skb_b (nt := nt) (tp := tp) (rlE nt tp i)).2.1 b2
  have vle := vl_le (nt := nt) (tp := tp) (skb nt tp (i + 1)) 0 (by decide)
  have vj : vp_in (nI j) 24 := vp_in_nI hj (by decide)
  have body : ∀ s0 : Nat, s0 = (if tp i = 45 then 1 else 0) → s_T_readLiteral_19 (nI n) FK (nI nt) B (nI j) post (nI s0) (nI i) FZ FT (nI i) fl := by
    intro s0 hs0
    have es : 2 * vl nt tp (skb nt tp (i + 1)) 0 + s0 = rlt nt tp i := by rw [hs0]; rfl
    have hs1 : s0 ≤ 1 := by rw [hs0]; split <;> omega
    unfold s_T_readLiteral_19 s_T_readLiteral_67 s_T_readLiteral_107
    rw [nI_1]
    refine skipBlanks_R hB (by omega) (readNumber_R hB b1 (fun e => ?_) (fun e => ?_))
    · refine skipBlanks_R hB b2 (lineFull_R hj hK hk hl.1 hl.2.1 (fun q => br_t rfl (has_n hn (fun ⟨g, q1, q2⟩ => ?_) (br_t rfl (kf (skb nt tp (rlE nt tp i)) b3 (fun z => e z.2.1))))) (fun q => br_f (by decide) (kf (skb nt tp (rlE nt tp i)) b3 (fun z => e z.2.1))))
      exact nI_nm1 (by omega) q2.symm
    · refine skipBlanks_R hB b2 (lineFull_R hj hK hk hl.1 hl.2.1 (fun q => br_t rfl ?_) (fun q => br_f (by decide) (kf (skb nt tp (rlE nt tp i)) b3 (fun z => q z.1))))
      by_cases hv : vl nt tp (skb nt tp (i + 1)) 0 < n
      · have hO : z < mo k ∧ rlO n nt tp i := ⟨q, e, hv⟩
        have hz6 : z < 6 := Nat.lt_of_lt_of_le q hm
        have hlt : rlt nt tp i < 2 * n := by omega
        refine has_y hn hv (br_f (by decide) ⟨vj, ?_⟩)
        rw [two_nI, nI_add, es, nI_clamp (by omega : j < 2 ^ 31), hK]
        refine pk_eq k 1 (fun e1 => append_R hl hj hz6 (ky hO (Or.inl e1))) (fun e1 => contains_R hl hn hj hlt (fun q2 => br_t rfl (append_R hl hj hz6 (ky hO (Or.inr (fun z => q2 ((thB_iff _ _ _).1 z)))))) (fun q2 => br_f (by decide) (kn hO (fun z => z.elim e1 (fun z => z ((thB_iff _ _ _).2 q2))))))
      · refine has_n hn (fun ⟨g, q1, q2⟩ => hv ?_) (br_t rfl (kf (skb nt tp (rlE nt tp i)) b3 (fun z => hv z.2.2)))
        rw [(nI_eq (by omega) (by omega)).1 q2]; exact q1
  unfold wp_T_readLiteral
  refine here_R hB (by omega) (fun q => absurd hi q) (fun _ => ?_)
  have h2 := (hB.2 i hi).2
  exact pk_eq (tp i) 45 (fun e => body 1 (by rw [if_pos e])) (fun e => body 0 (by rw [if_neg e]))
theorem next_M {nt i : Nat} {tp : Nat → Nat} {B : Nat → Int32} (hB : tpA nt tp B) (hi : i ≤ nt) {post : Int32 → Int32 → Prop} (k0 : ¬ skb nt tp i < nt → post (-1) (nI (skb nt tp i))) (k1 : skb nt tp i < nt → post (nI (tp (skb nt tp i))) (nI (skb nt tp i))) : wp_M_next (nI nt) (nI i) B post := by
  have h1 := hB.1
  unfold wp_M_next
  intro C0 h0
  have loop : ∀ i, i ≤ nt → (¬ skb nt tp i < nt → post (-1) (nI (skb nt tp i))) → (skb nt tp i < nt → post (nI (tp (skb nt tp i))) (nI (skb nt tp i))) → C0 (nI i) := by
    refine up_ind (nt := nt) (fun i ih => ?_)
    intro hi k0 k1
    refine h0 _ ?_
    have fin : ¬ bl nt tp i → s_M_next_66 (nI nt) B C0 post (nI i) := by
      intro e
      rw [skb_n e] at k0 k1
      unfold s_M_next_66
      rw [nI_clamp (by omega : i < 2 ^ 31)]
      refine pk_le nt i (fun q => k0 (by omega)) (fun q => ⟨vp_in_nI (by omega) (by decide), ?_⟩)
      rw [(hB.2 i q).1]
      exact k1 q
    have step : bl nt tp i → s_M_next_53 (nI nt) B C0 post (nI i) := by
      intro e
      rw [skb_y e] at k0 k1
      have e1 := e.1
      unfold s_M_next_53
      rw [nI_1]
      exact ih e.1 (by omega) k0 k1
    unfold s_M_next_0
    rw [nI_clamp (by omega : i < 2 ^ 31)]
    refine pk_le nt i (fun q => fin (fun z => by have := z.1; omega)) (fun q => ?_)
    have vi : vp_in (nI i) 1000 := vp_in_nI (by omega) (by decide)
    have h2 := (hB.2 i q).2
    rw [(hB.2 i q).1]
    exact ⟨vi, pk_eq (tp i) 32 (fun e => step ⟨q, Or.inl e⟩) (fun e => ⟨vi, pk_eq (tp i) 9 (fun e' => step ⟨q, Or.inr (Or.inl e')⟩) (fun e' => ⟨vi, pk_eq (tp i) 13 (fun e2 => step ⟨q, Or.inr (Or.inr e2)⟩) (fun e2 => fin (fun z => by have := z.2; omega))⟩)⟩)⟩
  exact loop i hi k0 k1
theorem readLiteral_M {n nt i : Nat} {tp : Nat → Nat} {B : Nat → Int32} (hn : n ≤ 40) (hB : tpA nt tp B) (hi : i < nt) {post : Int32 → Int32 → Prop} (k0 : ¬ rlO n nt tp i → post (-1) (nI (rlE nt tp i))) (k1 : rlO n nt tp i → post (nI (rlt nt tp i)) (nI (rlE nt tp i))) : wp_M_readLiteral (nI n) (nI nt) (nI i) B post := by
  have h1 := hB.1
  have b1 := (skb_b (nt := nt) (tp := tp) (i + 1)).2.1 (by omega)
  unfold wp_M_readLiteral
  intro C40 h40
  have vi : vp_in (nI i) 1000 := vp_in_nI (by omega) (by decide)
  have body : ∀ s0 : Nat, s0 = (if tp i = 45 then 1 else 0) → s_M_readLiteral_19 (nI n) (nI nt) B C40 post (nI s0) (nI i) := by
    intro s0 hs0
    have es : 2 * vl nt tp (skb nt tp (i + 1)) 0 + s0 = rlt nt tp i := by rw [hs0]; rfl
    unfold s_M_readLiteral_19
    rw [nI_1]
    have loop : ∀ (c : Int32), (c = -1 → ¬ skb nt tp (i + 1) < nt) → ∀ q m a, skb nt tp (i + 1) ≤ q → q ≤ nt → m ≤ 10009 → min m 40 = a → vl nt tp q a = vl nt tp (skb nt tp (i + 1)) 0 → den nt tp q = rlE nt tp i → C40 (nI s0) c (nI m) (nI (q - skb nt tp (i + 1))) (nI q) := by
      intro c hc
      refine up_ind (nt := nt) (fun q ih => ?_)
      intro m a hq hqn hm hma hv hd
      refine h40 _ _ _ _ _ ?_
      have fin : ¬ dg nt tp q → s_M_readLiteral_124 (nI n) (nI nt) B C40 post (nI s0) c (nI m) (nI (q - skb nt tp (i + 1))) (nI q) := by
        intro e
        rw [vl_n e] at hv
        rw [den_n e] at hd
        unfold s_M_readLiteral_124
        rw [← hd] at k0 k1
        have hr : rlO n nt tp i ↔ (skb nt tp (i + 1) < q ∧ m < n) := by
          unfold rlO
          rw [← hv]
          show skb nt tp (i + 1) < rlE nt tp i ∧ a < n ↔ _
          rw [← hd]
          constructor
          · rintro ⟨z1, z2⟩; exact ⟨z1, by omega⟩
          · rintro ⟨z1, z2⟩; exact ⟨z1, by omega⟩
        refine br_c (fun e1 => k0 (fun z => ?_)) (fun e1 => pk_eq (q - skb nt tp (i + 1)) 0 (fun e2 => k0 (fun z => ?_)) (fun e2 => pk_lt m n (fun e3 => ?_) (fun e3 => k0 (fun z => ?_))))
        · have := (hr.1 z).1
          have := hc e1
          omega
        · have := (hr.1 z).1
          omega
        · have hO := hr.2 ⟨by omega, e3⟩
          have q1 := k1 hO
          rw [two_nI, nI_add, show 2 * m + s0 = rlt nt tp i by omega]
          exact q1
        · have := (hr.1 z).2
          omega
      unfold s_M_readLiteral_40 s_M_readLiteral_107
      rw [nI_clamp (by omega : q < 2 ^ 31)]
      refine pk_le nt q (fun z => fin (fun z2 => by have := z2.1; omega)) (fun z => ?_)
      have vq : vp_in (nI q) 1000 := vp_in_nI (by omega) (by decide)
      have h2 := (hB.2 q z).2
      rw [(hB.2 q z).1]
      refine ⟨vq, pk_lt (tp q) 48 (fun e => fin (fun z2 => by have := z2.2.1; omega)) (fun e => ⟨vq, pk_lt 57 (tp q) (fun e2 => fin (fun z2 => by have := z2.2.2; omega)) (fun e2 => ?_)⟩)⟩
      have hdg : dg nt tp q := ⟨z, e, e2⟩
      rw [vl_y hdg] at hv
      rw [den_y hdg] at hd
      have ec : nI (q - skb nt tp (i + 1)) + 1 = nI (q + 1 - skb nt tp (i + 1)) := by
        rw [nI_1]; congr 1; omega
      rw [ec, nI_1]
      refine pk_le m 1000 (fun e3 => ⟨vq, ?_⟩) (fun e3 => ?_)
      · have en : 10 * nI m + nI (tp q) - 48 = nI (10 * m + tp q - 48) := by
          rw [show (10 : Int32) = nI 10 from rfl, pk_mul, nI_add, show (48 : Int32) = nI 48 from rfl, pk_sub (by omega)]
        rw [en]
        exact ih z (10 * m + tp q - 48) _ (by omega) (by omega) (by omega) (by omega) hv hd
      · exact ih z m _ (by omega) (by omega) hm (by omega) hv hd
    refine next_M hB (by omega) (fun e => ?_) (fun e => ?_)
    · have q := loop (-1) (fun _ => e) (skb nt tp (i + 1)) 0 0 (Nat.le_refl _) b1 (by decide) rfl rfl rfl
      rw [Nat.sub_self] at q
      exact q
    · have q := loop (nI (tp (skb nt tp (i + 1)))) (fun z => absurd z (nI_nm1 (by have := (hB.2 _ e).2; omega))) (skb nt tp (i + 1)) 0 0 (Nat.le_refl _) b1 (by decide) rfl rfl rfl
      rw [Nat.sub_self] at q
      exact q
  rw [nI_clamp (by omega : i < 2 ^ 31), (hB.2 i hi).1]
  have h2 := (hB.2 i hi).2
  exact ⟨vi, pk_eq (tp i) 45 (fun e => body 1 (by rw [if_pos e])) (fun e => body 0 (by rw [if_neg e]))⟩
