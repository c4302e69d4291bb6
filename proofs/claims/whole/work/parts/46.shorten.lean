/-! shorten of both. -/
def fset {α : Type} (f : Nat → α) (c : Nat) (v : α) : Nat → α := fun j => if j = c then v else f j
theorem fset_s {α : Type} {f : Nat → α} {c : Nat} {v : α} : fset f c v c = v := if_pos rfl
theorem fset_n {α : Type} {f : Nat → α} {c j : Nat} {v : α} (h : j ≠ c) : fset f c v j = f j := if_neg h
def mc (lo : Nat → Bool) : Nat → Nat
  | 0 => 0
  | i + 1 => if lo i = true then mc lo i + 1 else mc lo i
def ms {α : Type} (lo : Nat → Bool) (f : Nat → α) : Nat → (Nat → α)
  | 0 => f
  | i + 1 => if lo i = true then fset (ms lo f i) (mc lo i) (ms lo f i i) else ms lo f i
theorem mc_y {lo : Nat → Bool} {i : Nat} (h : lo i = true) : mc lo (i + 1) = mc lo i + 1 := if_pos h
theorem mc_n {lo : Nat → Bool} {i : Nat} (h : ¬ lo i = true) : mc lo (i + 1) = mc lo i := if_neg h
theorem ms_y {α : Type} {lo : Nat → Bool} {f : Nat → α} {i : Nat} (h : lo i = true) : ms lo f (i + 1) = fset (ms lo f i) (mc lo i) (ms lo f i i) := if_pos h
theorem ms_n {α : Type} {lo : Nat → Bool} {f : Nat → α} {i : Nat} (h : ¬ lo i = true) : ms lo f (i + 1) = ms lo f i := if_neg h
theorem mc_le {lo : Nat → Bool} : ∀ i, mc lo i ≤ i
  | 0 => Nat.le_refl 0
  | i + 1 => by
    have h := mc_le (lo := lo) i
    by_cases e : lo i = true
    · rw [mc_y e]; omega
    · rw [mc_n e]; omega
theorem lA_mv {n k : Nat} {lk lz : Nat → Nat} {lt : Nat → Nat → Nat} {K Z T : Nat → Int32} (h : lA n k lk lz lt K Z T) {c i : Nat} (hi : i < k) {T' : Nat → Int32} (hT : ∀ m, m < 6 → T' (6 * c + m) = T (6 * i + m)) (hT' : ∀ q, q < 6 * c ∨ 6 * c + 6 ≤ q → T' q = T q) : lA n k (fset lk c (lk i)) (fset lz c (lz i)) (fset lt c (lt i)) (upd K c (K i)) (upd Z c (Z i)) T' := by
  intro j hj
  by_cases e : j = c
  · subst e
    obtain ⟨a1, a2, a3, a4, a5, a6⟩ := h i hi
    simp only [fset_s, pk_us]
    exact ⟨a1, a2, a3, a4, a5, fun m hm => ⟨(hT m (by omega)).trans (a6 m hm).1, (a6 m hm).2⟩⟩
  · obtain ⟨a1, a2, a3, a4, a5, a6⟩ := h j hj
    simp only [fset_n e, pk_un e]
    exact ⟨a1, a2, a3, a4, a5, fun m hm => ⟨(hT' _ (by omega)).trans (a6 m hm).1, (a6 m hm).2⟩⟩
theorem mul6 (i : Nat) : nI i * 6 = nI (6 * i) := by rw [show (6 : Int32) = nI 6 from rfl, pk_mul, Nat.mul_comm]
theorem mul6' (i : Nat) : 6 * nI i = nI (6 * i) := pk_mul 6 i
theorem moveUp_R {n nl : Nat} {lk lz : Nat → Nat} {lt : Nat → Nat → Nat} {FK FZ FT FO : Nat → Int32} (hl : lA n nl lk lz lt FK FZ FT) (hk : nl ≤ 24) {lo : Nat → Bool} (hlo : ∀ j, j < nl → (lo j = true ↔ FO j = 0)) {post : Int32 → (Nat → Int32) → (Nat → Int32) → (Nat → Int32) → (Nat → Int32) → Prop} (k : ∀ FK' FZ' FT' FO', lA n nl (ms lo lk nl) (ms lo lz nl) (ms lo lt nl) FK' FZ' FT' → (∀ j, j < nl → FO' j = 0) → (∀ j, nl ≤ j → FO' j = FO j) → post (nI (mc lo nl)) FK' FZ' FT' FO') : wp_F_moveUp (nI nl) FK FZ FT FO post := by
  unfold wp_F_moveUp
  intro C4 h4
  have loop : ∀ d i FK' FZ' FT' FO', i + d = nl → lA n nl (ms lo lk i) (ms lo lz i) (ms lo lt i) FK' FZ' FT' → (∀ j, j < i → FO' j = 0) → (∀ j, i ≤ j → FO' j = FO j) → C4 (nI (mc lo i)) (nI i) (nI nl) FK' FZ' FT' FO' := by
    intro d
    induction d with
    | zero =>
      intro i FK' FZ' FT' FO' hi h1 h2 h3
      have e : i = nl := by omega
      subst e
      refine h4 _ _ _ _ _ _ _ ?_
      unfold s_F_moveUp_4
      exact pk_le i i (fun _ => k _ _ _ _ h1 h2 h3) (fun q => absurd q (Nat.lt_irrefl _))
    | succ d ih =>
      intro i FK' FZ' FT' FO' hi h1 h2 h3
      have hc := mc_le (lo := lo) i
      refine h4 _ _ _ _ _ _ _ ?_
      unfold s_F_moveUp_4 s_F_moveUp_69
      rw [nI_1, nI_1, nI_clamp (by omega : i < 2 ^ 31), nI_clamp (by omega : mc lo i < 2 ^ 31), mul6, mul6, nI_clamp (by omega : 6 * i < 2 ^ 31), nI_clamp (by omega : 6 * mc lo i < 2 ^ 31), h3 i (Nat.le_refl _), show (6 : Int32).toNatClampNeg = 6 from rfl, show vp_nar .boolean 0 = 0 from rfl]
      have vi : vp_in (nI i) 24 := vp_in_nI (by omega) (by decide)
      have vc : vp_in (nI (mc lo i)) 24 := vp_in_nI (by omega) (by decide)
      have z2 : ∀ j, j < i + 1 → upd FO' i 0 j = 0 := fun j hj => by
        by_cases e : j = i
        · subst e; exact pk_us
        · rw [pk_un e]; exact h2 j (by omega)
      have z3 : ∀ j, i + 1 ≤ j → upd FO' i 0 j = FO j := fun j hj => by
        rw [pk_un (by omega)]; exact h3 j (by omega)
      refine pk_le nl i (fun q => absurd q (by omega)) (fun _ => ⟨vi, br_c (fun e => ⟨vi, vc, vi, vc, ?_, vi, ?_⟩) (fun e => ⟨vi, ?_⟩)⟩)
      · unfold cpOk
        rw [nI_clamp (by omega : 6 * i < 2 ^ 31), nI_clamp (by omega : 6 * mc lo i < 2 ^ 31), show (6 : Int32).toNatClampNeg = 6 from rfl]
        exact ⟨nI_pos (by omega), nI_pos (by omega), by decide, by omega, by omega⟩
      · have el : lo i = true := (hlo i (by omega)).2 e
        have q := ih (i + 1) (upd FK' (mc lo i) (FK' i)) (upd FZ' (mc lo i) (FZ' i)) (va_cpy FT' FT' (6 * i) (6 * mc lo i) 6) (upd FO' i 0) (by omega) (by
          rw [ms_y el, ms_y el, ms_y el]
          refine lA_mv h1 (by omega) (fun m hm => ?_) (fun q hq => pk_cpy_out hq)
          rw [pk_cpy_in (by omega) (by omega)]
          congr 1
          omega) z2 z3
        rw [mc_y el] at q
        exact q
      · have el : ¬ lo i = true := fun z => e ((hlo i (by omega)).1 z)
        have q := ih (i + 1) FK' FZ' FT' (upd FO' i 0) (by omega) (by rw [ms_n el, ms_n el, ms_n el]; exact h1) z2 z3
        rw [mc_n el] at q
        exact q
  exact loop nl 0 FK FZ FT FO (by omega) hl (fun j q => absurd q (Nat.not_lt_zero _)) (fun _ _ => rfl)
/-- which lines shorten keeps -/
def shS (n : Nat) (kd ga gb : Nat → Nat) (lk lz : Nat → Nat) (lt : Nat → Nat → Nat) (nl l : Nat) (lo : Nat → Bool) : Prop :=
  ∀ j, j < nl → (lo j = false ↔ fbad n kd ga gb (fun q => q < j ∨ (j < q ∧ lo q = true)) lk lz lt nl 0 l 0)
theorem fbad_le {n : Nat} {kd ga gb : Nat → Nat} {lo : Nat → Prop} {lk lz : Nat → Nat} {lt : Nat → Nat → Nat} {nl i claim r : Nat} (h : fbad n kd ga gb lo lk lz lt nl i claim r) : r ≤ 1 + nl := by
  rcases h with ⟨j, a1, a2, a3, a4, a5, a6⟩ | ⟨a1, ⟨a2, a3⟩ | ⟨a2, a3⟩⟩ <;> omega
theorem fbad_0 {n : Nat} {kd ga gb : Nat → Nat} {lo : Nat → Prop} {lk lz : Nat → Nat} {lt : Nat → Nat → Nat} {nl i claim : Nat} (h : fbad n kd ga gb lo lk lz lt nl i claim 0) : (∀ j', i ≤ j' → j' < nl → lo j' → lGood n kd ga gb lo lk lz lt j') ∧ Conf n kd ga gb (fun j => j < nl ∧ lo j) lk lz lt (A1 (tn claim)) := by
  rcases h with ⟨j, a1, a2, a3, a4, a5, a6⟩ | ⟨a1, ⟨a2, a3⟩ | ⟨a2, a3⟩⟩
  · omega
  · exact ⟨a1, a2⟩
  · omega
theorem fbad_0' {n : Nat} {kd ga gb : Nat → Nat} {lo : Nat → Prop} {lk lz : Nat → Nat} {lt : Nat → Nat → Nat} {nl i claim : Nat} (h1 : ∀ j', i ≤ j' → j' < nl → lo j' → lGood n kd ga gb lo lk lz lt j') (h2 : Conf n kd ga gb (fun j => j < nl ∧ lo j) lk lz lt (A1 (tn claim))) : fbad n kd ga gb lo lk lz lt nl i claim 0 := Or.inr ⟨h1, Or.inl ⟨h2, rfl⟩⟩
theorem sh_key {n : Nat} {kd ga gb : Nat → Nat} {lo : Nat → Prop} {lk lz : Nat → Nat} {lt : Nat → Nat → Nat} {nl i claim r : Nat} (hall : fbad n kd ga gb (fun _ => True) lk lz lt nl 0 claim 0) (h1 : ∀ q, q < i → lo q) (h2 : ¬ lo i) (h : fbad n kd ga gb lo lk lz lt nl (i + 1) claim r) : r = 0 ↔ fbad n kd ga gb lo lk lz lt nl 0 claim 0 := by
  constructor
  · intro e
    subst e
    obtain ⟨a, b⟩ := fbad_0 h
    refine fbad_0' (fun j' q1 q2 q3 => ?_) b
    by_cases e : j' < i
    · exact (lGood_eq (lo := fun _ => True) (fun q hq => ⟨fun _ => h1 q (by omega), fun _ => trivial⟩)).1 ((fbad_0 hall).1 j' (by omega) q2 trivial)
    · by_cases e' : j' = i
      · subst e'; exact absurd q3 h2
      · exact a j' (by omega) q2 q3
  · intro q
    obtain ⟨a, b⟩ := fbad_0 q
    exact fbad_fun h (fbad_0' (fun j' q1 q2 q3 => a j' (by omega) q2 q3) b)
theorem sub1 (x : Int32) : x + (-1) = x - 1 := (Int32.sub_eq_add_neg x 1).symm
theorem shorten_L {n nl : Nat} {kd ga gb : Nat → Nat} {lk lz : Nat → Nat} {lt : Nat → Nat → Nat} {gs : Int32} {GK GL GR FK FZ FT FO : Nat → Int32} (hg : gA n kd ga gb gs GK GL GR) (hl : lA n nl lk lz lt FK FZ FT) (hk : nl ≤ 24) (hFO : ∀ j, j < 24 → FO j = 0) {cf ch : Int32} {t : Nat → Int32} (hch : isB ch) {out : Nat → Int64} {p : Int32} {post : Int32 → Int32 → (Nat → Int32) → (Nat → Int32) → (Nat → Int32) → (Nat → Int32) → Int32 → Int32 → (Nat → Int32) → (Nat → Int64) → Prop} (kx : ¬ isL n p → post 1 (nI nl) FK FZ FT FO cf ch t out) (kb : ∀ l r cf' ch' t', l < 2 * n → p = nI l → isB ch' → fbad n kd ga gb (fun _ => True) lk lz lt nl 0 l r → r ≠ 0 → post 0 (nI nl) FK FZ FT FO cf' ch' t' (vp_updL out (0 : Int32).toNatClampNeg (-1 : Int32).toInt64)) (kr : ∀ l lo FK' FZ' FT' FO' cf' ch' t', l < 2 * n → p = nI l → isB ch' → fbad n kd ga gb (fun _ => True) lk lz lt nl 0 l 0 → shS n kd ga gb lk lz lt nl l lo → lA n nl (ms lo lk nl) (ms lo lz nl) (ms lo lt nl) FK' FZ' FT' → (∀ j, j < 24 → FO' j = 0) → post 0 (nI (mc lo nl)) FK' FZ' FT' FO' cf' ch' t' (vp_updL out (0 : Int32).toNatClampNeg (nI (mc lo nl)).toInt64)) : wp_L_shorten gs GK GL GR (nI nl) FK FZ FT FO cf ch t out p post := by
  obtain rfl : gs = nI n := hg.1
  have hn := hg.2.2.1
  unfold wp_L_shorten wp_P_shorten
  by_cases hp : isL n p
  · obtain ⟨l, h1, rfl⟩ := hp
    refine Or.inl (fun C42 h42 => hasL_y hn h1 (br_f (by decide) ?_))
    refine firstBad_R (i := 0) hg hl hk (Nat.zero_le _) (by omega) hch (fun r cf' ch' t' q0 q1 => ?_)
    have q1' := fbad_eq (lo' := fun _ => True) (fun j hj => ⟨fun _ => trivial, fun _ => hFO j (by omega)⟩) q1
    have hr := fbad_le q1
    refine pk_eq r 0 (fun e => ?_) (fun e => ⟨in01, kb l r cf' ch' t' h1 rfl q0 q1' e⟩)
    subst e
    have loop : ∀ i FO' cf' ch' t', i ≤ nl → isB ch' → (∀ j, j < i → FO' j = 0) → (∀ j, nl ≤ j → FO' j = FO j) → (∀ j, i ≤ j → j < nl → (¬ FO' j = 0 ↔ fbad n kd ga gb (fun q => q < j ∨ (j < q ∧ FO' q = 0)) lk lz lt nl 0 l 0)) → C42 (nI i - 1) (nI nl) FK FZ FT FO' cf' ch' t' := by
      intro i
      induction i with
      | zero =>
        intro FO' cf' ch' t' _ hc' h2 h3 h4
        refine h42 _ _ _ _ _ _ _ _ _ ?_
        unfold s_P_shorten_42
        refine br_t (by decide) ?_
        refine moveUp_R (lo := fun j => decide (FO' j = 0)) hl hk (fun j hj => decide_eq_true_iff) (fun FK' FZ' FT' FO2 a1 a2 a3 => ⟨in01, ?_⟩)
        refine kr l _ FK' FZ' FT' FO2 cf' ch' t' h1 rfl hc' q1' (fun j hj => ?_) a1 (fun j hj => ?_)
        · rw [decide_eq_false_iff_not, h4 j (Nat.zero_le _) hj]
          simp only [decide_eq_true_iff]
        · by_cases e : j < nl
          · exact a2 j e
          · rw [a3 j (by omega), h3 j (by omega)]; exact hFO j hj
      | succ i ih =>
        intro FO' cf' ch' t' hi hc' h2 h3 h4
        refine h42 _ _ _ _ _ _ _ _ _ ?_
        unfold s_P_shorten_42 s_P_shorten_80
        rw [nI_pred, sub1, nI_1, nI_clamp (by omega : i < 2 ^ 31), show vp_nar .boolean 1 = 1 from rfl, show vp_nar .boolean 0 = 0 from rfl]
        have vi : vp_in (nI i) 24 := vp_in_nI (by omega) (by decide)
        refine br_f (nI_pos (by omega)) ⟨vi, ?_⟩
        refine firstBad_R hg hl hk (by omega) (by omega) hc' (fun r cf2 ch2 t2 p0 p1 => ?_)
        have hr2 := fbad_le p1
        have key := sh_key q1' (fun q hq => by show upd FO' i 1 q = 0; rw [pk_un (by omega)]; exact h2 q (by omega)) (fun z => absurd ((pk_us (f := FO') (k := i) (x := 1)).symm.trans z) (by decide)) p1
        have fe : ∀ s0 : Int32, (fbad n kd ga gb (fun q => upd FO' i 1 q = 0) lk lz lt nl 0 l 0 ↔ fbad n kd ga gb (fun q => q < i ∨ (i < q ∧ upd (upd FO' i 1) i s0 q = 0)) lk lz lt nl 0 l 0) := by
          intro s0
          have ee : ∀ j, j < nl → (upd FO' i 1 j = 0 ↔ (j < i ∨ (i < j ∧ upd (upd FO' i 1) i s0 j = 0))) := by
            intro j hj
            by_cases e : j = i
            · subst e
              rw [pk_us]
              exact ⟨fun z => absurd z (by decide), fun z => by omega⟩
            · rw [pk_un e, pk_un e, pk_un e]
              constructor
              · intro z
                by_cases e2 : j < i
                · exact Or.inl e2
                · exact Or.inr ⟨by omega, z⟩
              · rintro (z | z)
                · exact h2 j (by omega)
                · exact z.2
          exact ⟨fbad_eq ee, fbad_eq (fun j hj => (ee j hj).symm)⟩
        have nx : ∀ s0 : Int32, (¬ s0 = 0 ↔ r = 0) → C42 (nI i - 1) (nI nl) FK FZ FT (upd (upd FO' i 1) i s0) cf2 ch2 t2 := by
          intro s0 hs0
          refine ih _ _ _ _ (by omega) p0 (fun j hj => ?_) (fun j hj => ?_) (fun j j1 j2 => ?_)
          · rw [pk_un (by omega), pk_un (by omega)]; exact h2 j (by omega)
          · rw [pk_un (by omega), pk_un (by omega)]; exact h3 j hj
          · by_cases e : j = i
            · subst e
              rw [pk_us, hs0, key]
              exact fe s0
            · rw [pk_un e, pk_un e, h4 j (by omega) j2]
              have ee : ∀ q, q < nl → ((q < j ∨ (j < q ∧ FO' q = 0)) ↔ (q < j ∨ (j < q ∧ upd (upd FO' i 1) i s0 q = 0))) := by
                intro q hq
                by_cases e3 : j < q
                · rw [pk_un (by omega), pk_un (by omega)]
                · exact ⟨fun z => z.elim Or.inl (fun z => absurd z.1 e3), fun z => z.elim Or.inl (fun z => absurd z.1 e3)⟩
              exact ⟨fbad_eq ee, fbad_eq (fun q hq => (ee q hq).symm)⟩
        exact pk_eq r 0 (fun e => ⟨vi, nx 1 ⟨fun _ => e, fun _ => by decide⟩⟩) (fun e => ⟨vi, nx 0 ⟨fun z => absurd rfl z, fun z => absurd z e⟩⟩)
    exact loop nl FO cf' ch' t' (Nat.le_refl _) q0 (fun j hj => hFO j (by omega)) (fun _ _ => rfl) (fun j j1 j2 => by omega)
  · refine Or.inr (fun C42 h42 => hasL_n hn hp (br_t rfl ⟨rfl, kx hp⟩))
theorem shorten_M {n nl : Nat} {kd ga gb : Nat → Nat} {lk lz : Nat → Nat} {lt : Nat → Nat → Nat} {gs : Int32} {GK GL GR FK FZ FT FO : Nat → Int32} (hg : gA n kd ga gb gs GK GL GR) (hl : lA n nl lk lz lt FK FZ FT) (hk : nl ≤ 24) {th cf ch : Int32} {t : Nat → Int32} (hch : isB ch) {p : Int32} {post : Int32 → Int32 → Int32 → Int32 → Int32 → (Nat → Int32) → (Nat → Int32) → (Nat → Int32) → (Nat → Int32) → (Nat → Int32) → Prop} (kx : ¬ isL n p → post 0 1 (nI nl) cf ch FK FZ FT t FO) (kb : ∀ l r cf' ch' t' o', l < 2 * n → p = nI l → isB ch' → fbad n kd ga gb (fun _ => True) lk lz lt nl 0 l r → r ≠ 0 → post (-1) 0 (nI nl) cf' ch' FK FZ FT t' o') (kr : ∀ l, l < 2 * n → p = nI l → fbad n kd ga gb (fun _ => True) lk lz lt nl 0 l 0 → ∃ lo, shS n kd ga gb lk lz lt nl l lo ∧ ∀ FK' FZ' FT' cf' ch' t' o', isB ch' → lA n nl (ms lo lk nl) (ms lo lz nl) (ms lo lt nl) FK' FZ' FT' → post (nI (mc lo nl)) 0 (nI (mc lo nl)) cf' ch' FK' FZ' FT' t' o') : wp_M_shorten th gs (nI nl) cf ch GK GL GR FK FZ FT t FO p post := by
  obtain rfl : gs = nI n := hg.1
  have hn := hg.2.2.1
  unfold wp_M_shorten
  intro C48 C89 C133 h48 h89 h133
  unfold s_M_shorten_14
  by_cases hp : isL n p
  rotate_left
  · exact isLit_n hn hp (br_t rfl (br_f (by decide) (kx hp)))
  obtain ⟨l, h1, rfl⟩ := hp
  refine isLit_y hn h1 (br_f (by decide) (br_t (by decide) ?_))
  refine allThere_M (fun o' ho => ?_)
  refine bad_M hg hl hk h1 hch (fun r cf' ch' t' q0 qr q1 => ?_)
  have q1' := fbad_eq (lo' := fun _ => True) (fun j hj => ⟨fun _ => trivial, fun _ => ho j (by omega)⟩) q1
  have m1 : ∀ {r : Nat} {A B : Prop}, r ≤ 25 → (r = 0 → A) → (r ≠ 0 → B) → ((nI r - 1 = -1 → A) ∧ (¬ nI r - 1 = -1 → B)) := by
    intro r A B hr f g
    cases r with
    | zero => exact br_t (by decide) (f rfl)
    | succ r => rw [nI_pred]; exact br_f (nI_nm1 (by omega)) (g (by omega))
  refine m1 qr (fun e => ?_) (fun e => kb l r cf' ch' t' o' h1 rfl q0 q1' e)
  subst e
  obtain ⟨lo, hlo, kr⟩ := kr l h1 rfl q1'
  have M89 : ∀ d i FK' FZ' FT' cf' ch' t' o', i + d = nl → isB ch' → (∀ j, j < nl → (lo j = true ↔ o' j = 0)) → lA n nl (ms lo lk i) (ms lo lz i) (ms lo lt i) FK' FZ' FT' → C89 (nI (mc lo i)) (nI i) 0 (nI nl) cf' ch' FK' FZ' FT' t' o' := by
    intro d
    induction d with
    | zero =>
      intro i FK' FZ' FT' cf' ch' t' o' hi hc' h2 h3
      have e : i = nl := by omega
      subst e
      refine h89 _ _ _ _ _ _ _ _ _ _ _ ?_
      unfold s_M_shorten_89
      exact pk_le i i (fun _ => kr _ _ _ _ _ _ _ hc' h3) (fun q => absurd q (Nat.lt_irrefl _))
    | succ d ih =>
      intro i FK' FZ' FT' cf' ch' t' o' hi hc' h2 h3
      have hc := mc_le (lo := lo) i
      refine h89 _ _ _ _ _ _ _ _ _ _ _ ?_
      unfold s_M_shorten_89 s_M_shorten_173
      rw [nI_1, nI_clamp (by omega : i < 2 ^ 31), nI_clamp (by omega : mc lo i < 2 ^ 31)]
      have vi : vp_in (nI i) 24 := vp_in_nI (by omega) (by decide)
      have vc : vp_in (nI (mc lo i)) 24 := vp_in_nI (by omega) (by decide)
      refine pk_le nl i (fun q => absurd q (by omega)) (fun _ => ⟨vi, br_c (fun e => ⟨vi, vc, vi, vc, ?_⟩) (fun e => ?_)⟩)
      · have el : lo i = true := (h2 i (by omega)).2 e
        have enar : vp_nar .boolean (FK' i) = FK' i := by
          obtain ⟨a1, a2, -⟩ := h3 i (by omega)
          rw [a1]
          rcases Nat.le_one_iff_eq_zero_or_eq_one.1 a2 with z | z <;> rw [z] <;> rfl
        rw [enar]
        have cp : ∀ d m (FT2 : Nat → Int32), m + d = 6 → (∀ q, q < m → FT2 (6 * mc lo i + q) = FT' (6 * i + q)) → (∀ q, q < 6 * mc lo i ∨ 6 * mc lo i + m ≤ q → FT2 q = FT' q) → C133 (nI (mc lo i)) (nI i) (nI m) 0 (nI nl) cf' ch' (upd FK' (mc lo i) (FK' i)) (upd FZ' (mc lo i) (FZ' i)) FT2 t' o' := by
          intro d
          induction d with
          | zero =>
            intro m FT2 hm a1 a2
            have e : m = 6 := by omega
            subst e
            refine h133 _ _ _ _ _ _ _ _ _ _ _ _ ?_
            unfold s_M_shorten_133 s_M_shorten_173
            rw [nI_1, nI_1]
            refine br_t (by decide) ?_
            have q := ih (i + 1) (upd FK' (mc lo i) (FK' i)) (upd FZ' (mc lo i) (FZ' i)) FT2 cf' ch' t' o' (by omega) hc' h2 (by
              rw [ms_y el, ms_y el, ms_y el]
              exact lA_mv h3 (by omega) a1 a2)
            rw [mc_y el] at q
            exact q
          | succ d ihd =>
            intro m FT2 hm a1 a2
            refine h133 _ _ _ _ _ _ _ _ _ _ _ _ ?_
            unfold s_M_shorten_133
            rw [nI_1, nI_1, mul6', mul6', nI_add, nI_add, nI_clamp (by omega : 6 * i + m < 2 ^ 31), nI_clamp (by omega : 6 * mc lo i + m < 2 ^ 31)]
            refine pk_le 6 m (fun q => absurd q (by omega)) (fun _ => ⟨vp_in_nI (by omega) (by decide), vp_in_nI (by omega) (by decide), ?_⟩)
            refine ihd (m + 1) _ (by omega) (fun q hq => ?_) (fun q hq => ?_)
            · by_cases e : q = m
              · subst e
                rw [pk_us]
                exact a2 _ (by omega)
              · rw [pk_un (by omega)]
                exact a1 q (by omega)
            · rw [pk_un (by omega)]
              exact a2 q (by omega)
        exact cp 6 0 FT' (by omega) (fun q hq => absurd hq (Nat.not_lt_zero _)) (fun _ _ => rfl)
      · have el : ¬ lo i = true := fun z => e ((h2 i (by omega)).1 z)
        have q := ih (i + 1) FK' FZ' FT' cf' ch' t' o' (by omega) hc' h2 (by rw [ms_n el, ms_n el, ms_n el]; exact h3)
        rw [mc_n el] at q
        exact q
  have M48 : ∀ i cf' ch' t' o', i ≤ nl → isB ch' → (∀ j, j < i → o' j = 0) → (∀ j, i ≤ j → j < nl → (lo j = true ↔ o' j = 0)) → C48 (nI i - 1) 0 (nI nl) cf' ch' FK FZ FT t' o' := by
    intro i
    induction i with
    | zero =>
      intro cf' ch' t' o' _ hc' h2 h3
      refine h48 _ _ _ _ _ _ _ _ _ _ ?_
      unfold s_M_shorten_48
      exact br_t (by decide) (M89 nl 0 FK FZ FT cf' ch' t' o' (by omega) hc' (fun j hj => h3 j (Nat.zero_le _) hj) hl)
    | succ i ih =>
      intro cf' ch' t' o' hi hc' h2 h3
      refine h48 _ _ _ _ _ _ _ _ _ _ ?_
      unfold s_M_shorten_48 s_M_shorten_78
      rw [nI_pred, sub1, nI_clamp (by omega : i < 2 ^ 31), show vp_nar .boolean 1 = 1 from rfl, show vp_nar .boolean 0 = 0 from rfl]
      have vi : vp_in (nI i) 24 := vp_in_nI (by omega) (by decide)
      refine br_f (nI_pos (by omega)) ⟨vi, ?_⟩
      refine bad_M hg hl hk h1 hc' (fun r cf2 ch2 t2 p0 pr p1 => ?_)
      have ee : ∀ j, j < nl → (upd o' i 1 j = 0 ↔ (j < i ∨ (i < j ∧ lo j = true))) := by
        intro j hj
        by_cases e : j = i
        · subst e
          rw [pk_us]
          exact ⟨fun z => absurd z (by decide), fun z => by omega⟩
        · rw [pk_un e]
          constructor
          · intro z
            by_cases e2 : j < i
            · exact Or.inl e2
            · exact Or.inr ⟨by omega, (h3 j (by omega) hj).2 z⟩
          · rintro (z | z)
            · exact h2 j (by omega)
            · exact (h3 j (by omega) hj).1 z.2
      have p1' := fbad_eq ee p1
      have key : lo i = false ↔ r = 0 := by
        rw [hlo i (by omega)]
        exact ⟨fun z => fbad_fun p1' z, fun z => by rw [z] at p1'; exact p1'⟩
      have nx : ∀ s0 : Int32, (s0 = 0 ↔ lo i = true) → C48 (nI i - 1) 0 (nI nl) cf2 ch2 FK FZ FT t2 (upd (upd o' i 1) i s0) := by
        intro s0 hs0
        refine ih _ _ _ _ (by omega) p0 (fun j hj => ?_) (fun j j1 j2 => ?_)
        · rw [pk_un (by omega), pk_un (by omega)]; exact h2 j (by omega)
        · by_cases e : j = i
          · subst e
            rw [pk_us, hs0]
          · rw [pk_un e, pk_un e]; exact h3 j (by omega) j2
      refine m1 pr (fun e => ⟨vi, nx 1 ?_⟩) (fun e => ⟨vi, nx 0 ?_⟩)
      · rw [key.2 e]; decide
      · have : lo i = true := by
          rcases hh : lo i with _ | _
          · exact absurd (key.1 hh) e
          · rfl
        rw [this]; exact ⟨fun _ => rfl, fun _ => rfl⟩
  exact M48 nl cf' ch' t' o' (Nat.le_refl _) q0 (fun j hj => ho j (by omega)) (fun j j1 j2 => by omega)
