/-! gate, line, literal, equalLine, lineAt of both. -/
theorem lA_mono {n n' k : Nat} {lk lz : Nat → Nat} {lt : Nat → Nat → Nat} {K Z T : Nat → Int32} (h : lA n k lk lz lt K Z T) (hn : n ≤ n') : lA n' k lk lz lt K Z T := by
  intro j hj
  obtain ⟨a1, a2, a3, a4, a5, a6⟩ := h j hj
  exact ⟨a1, a2, a3, a4, a5, fun i hi => ⟨(a6 i hi).1, by have := (a6 i hi).2; omega⟩⟩
theorem lA_less {n k k' : Nat} {lk lz : Nat → Nat} {lt : Nat → Nat → Nat} {K Z T : Nat → Int32} (h : lA n k lk lz lt K Z T) (hk : k' ≤ k) : lA n k' lk lz lt K Z T := fun j hj => h j (by omega)
theorem lA_put {n k : Nat} {lk lz : Nat → Nat} {lt : Nat → Nat → Nat} {K Z T K' Z' T' : Nat → Int32} (h : lA n k lk lz lt K Z T) (k0 z0 : Nat) (l0 : Nat → Nat) (h1 : K' k = nI k0) (h2 : k0 ≤ 1) (h3 : Z' k = nI z0) (h4 : z0 ≤ 6) (h5 : k0 = 1 → z0 = 2) (h6 : ∀ i, i < z0 → T' (6 * k + i) = nI (l0 i) ∧ l0 i < 2 * n) (hK : ∀ j, j < k → K' j = K j) (hZ : ∀ j, j < k → Z' j = Z j) (hT : ∀ q, q < 6 * k → T' q = T q) : lA n (k + 1) (fset lk k k0) (fset lz k z0) (fset lt k l0) K' Z' T' := by
  intro j hj
  by_cases e : j = k
  · subst e
    simp only [fset_s]
    exact ⟨h1, h2, h3, h4, h5, h6⟩
  · have hj' : j < k := by omega
    obtain ⟨a1, a2, a3, a4, a5, a6⟩ := h j hj'
    simp only [fset_n e]
    rw [hK j hj', hZ j hj']
    exact ⟨a1, a2, a3, a4, a5, fun i hi => ⟨(hT _ (by omega)).trans (a6 i hi).1, (a6 i hi).2⟩⟩
theorem lA_app {n k j l : Nat} {lk lz : Nat → Nat} {lt : Nat → Nat → Nat} {K Z T : Nat → Int32} (h : lA n k lk lz lt K Z T) (hj : j < k) (e0 : lk j = 0) (hz : lz j < 6) (hl : l < 2 * n) : lA n k lk (fset lz j (lz j + 1)) (fset lt j (fset (lt j) (lz j) l)) K (upd Z j (Z j + 1)) (upd T (6 * j + lz j) (nI l)) := by
  intro i hi
  by_cases e : i = j
  · subst e
    obtain ⟨a1, a2, a3, a4, a5, a6⟩ := h i hi
    simp only [fset_s, pk_us]
    rw [a3, nI_1]
    refine ⟨a1, a2, rfl, by omega, fun q => by omega, fun m hm => ?_⟩
    by_cases e2 : m = lz i
    · subst e2
      rw [pk_us, fset_s]
      exact ⟨rfl, hl⟩
    · rw [pk_un (by omega), fset_n e2]
      exact a6 m (by omega)
  · obtain ⟨a1, a2, a3, a4, a5, a6⟩ := h i hi
    simp only [fset_n e, pk_un e]
    exact ⟨a1, a2, a3, a4, a5, fun m hm => ⟨by rw [pk_un (by omega)]; exact (a6 m hm).1, (a6 m hm).2⟩⟩
theorem gA_ext {n : Nat} {kd ga gb : Nat → Nat} {gs : Int32} {K L R K' L' R' : Nat → Int32} (h : gA n kd ga gb gs K L R) (hn : n < 40) (kn an bn : Nat) (hk : kn ≤ 2) (hK : K' n = nI kn) (hab : kn ≠ 0 → L' n = nI an ∧ an < 2 * n ∧ R' n = nI bn ∧ bn < 2 * n) (eK : ∀ g, g < n → K' g = K g) (eL : ∀ g, g < n → L' g = L g) (eR : ∀ g, g < n → R' g = R g) : gA (n + 1) (fset kd n kn) (fset ga n an) (fset gb n bn) (nI (n + 1)) K' L' R' := by
  refine ⟨rfl, by omega, by omega, fun g h0 h1 => ?_⟩
  by_cases e : g = n
  · subst e
    simp only [fset_s]
    exact ⟨hK, hk, hab⟩
  · have hg : g < n := by omega
    simp only [fset_n e]
    rw [eK g hg, eL g hg, eR g hg]
    exact h.2.2.2 g h0 hg
def gcI (n : Nat) (p1 p2 p3 : Int32) : Prop := p1 = 0 ∨ (isL n p2 ∧ isL n p3)
def gcK (p1 : Int32) : Prop := ∃ kn, kn ≤ 2 ∧ p1 = nI kn
theorem gcK_3 {p1 : Int32} (h : gcK p1) : p1 = 0 ∨ p1 = 1 ∨ p1 = 2 := by
  obtain ⟨kn, h1, rfl⟩ := h
  rcases (by omega : kn = 0 ∨ kn = 1 ∨ kn = 2) with rfl | rfl | rfl
  · exact Or.inl rfl
  · exact Or.inr (Or.inl rfl)
  · exact Or.inr (Or.inr rfl)
theorem gate_L {n : Nat} {kd ga gb : Nat → Nat} {gs gi : Int32} {GK GL GR : Nat → Int32} (hg : gA n kd ga gb gs GK GL GR) {out : Nat → Int64} {p1 p2 p3 : Int32} {post : Int32 → Int32 → Int32 → (Nat → Int32) → (Nat → Int32) → (Nat → Int32) → (Nat → Int64) → Prop} (kx1 : ¬ gcI n p1 p2 p3 → post 1 gs gi GK GL GR out) (kx2 : gcI n p1 p2 p3 → ¬ gcK p1 → post 2 gs gi GK GL GR out) (kx3 : gcI n p1 p2 p3 → gcK p1 → ¬ n < 40 → post 3 gs gi GK GL GR out) (kr : ∀ gi' GK' GL' GR', gcI n p1 p2 p3 → gcK p1 → n < 40 → gA (n + 1) (fset kd n p1.toNatClampNeg) (fset ga n p2.toNatClampNeg) (fset gb n p3.toNatClampNeg) (nI (n + 1)) GK' GL' GR' → (p1.toNatClampNeg = 0 → gi' = gi + 1) → (p1.toNatClampNeg ≠ 0 → gi' = gi) → post 0 (nI (n + 1)) gi' GK' GL' GR' (vp_updL out (0 : Int32).toNatClampNeg (nI n).toInt64)) : wp_L_gate gs gi GK GL GR out p1 p2 p3 post := by
  obtain rfl : gs = nI n := hg.1
  have hn := hg.2.2.1
  have hn0 := hg.2.1
  unfold wp_L_gate wp_P_gate
  have go : ∀ {A : Int32 → Int32 → Int32 → (Nat → Int32) → (Nat → Int32) → (Nat → Int32) → Prop} {B : Nat → Int32 → Int32 → (Nat → Int32) → (Nat → Int32) → (Nat → Int32) → Prop}, gcI n p1 p2 p3 → s_P_gate_36 p1 p2 p3 A B (nI n) gi GK GL GR → ((p1 = 0 → s_P_gate_36 p1 p2 p3 A B (nI n) gi GK GL GR) ∧ (¬ p1 = 0 → wp_G_hasLiteral (nI n) p2 (fun r9 => ((r9 = 0 → B 0 (nI n) gi GK GL GR) ∧ (¬ r9 = 0 → wp_G_hasLiteral (nI n) p3 (fun r20 => ((r20 = 0 → B 0 (nI n) gi GK GL GR) ∧ (¬ r20 = 0 → s_P_gate_36 p1 p2 p3 A B (nI n) gi GK GL GR)))))))) := by
    intro A B h1 h2
    refine br_c (fun _ => h2) (fun e => ?_)
    obtain ⟨⟨a, ha, rfl⟩, b, hb, rfl⟩ := h1.resolve_left e
    exact hasL_y hn ha (br_f (by decide) (hasL_y hn hb (br_f (by decide) h2)))
  by_cases hI : gcI n p1 p2 p3
  rotate_left
  · refine Or.inr (br_f (fun e => hI (Or.inl e)) ?_)
    by_cases ha : isL n p2
    · have hb : ¬ isL n p3 := fun q => hI (Or.inr ⟨ha, q⟩)
      obtain ⟨a, ha, rfl⟩ := ha
      exact hasL_y hn ha (br_f (by decide) (hasL_n hn hb (br_t rfl (Or.inl ⟨rfl, kx1 hI⟩))))
    · exact hasL_n hn ha (br_t rfl (Or.inl ⟨rfl, kx1 hI⟩))
  by_cases hK : gcK p1
  rotate_left
  · refine Or.inr (go hI ?_)
    unfold s_P_gate_36
    exact br_f (fun e => hK ⟨0, by decide, e⟩) (br_f (fun e => hK ⟨1, by decide, e⟩) (br_f (fun e => hK ⟨2, by decide, e⟩) (Or.inr (Or.inl ⟨rfl, kx2 hI hK⟩))))
  by_cases h40 : n < 40
  rotate_left
  · refine Or.inr (go hI ?_)
    unfold s_P_gate_36 s_P_gate_60
    have z : ((nI n < 40 → wp_G_add (nI n) gi GK GL GR p1 p2 p3 (fun _ _ _ _ _ _ => False)) ∧ (¬ nI n < 40 → ((2 = 0 ∧ post 1 (nI n) gi GK GL GR out) ∨ (2 = 1 ∧ post 2 (nI n) gi GK GL GR out) ∨ (2 = 2 ∧ post 3 (nI n) gi GK GL GR out)))) := pk_lt n 40 (fun q => absurd q h40) (fun _ => Or.inr (Or.inr ⟨rfl, kx3 hI hK h40⟩))
    rcases gcK_3 hK with e | e | e
    · exact br_t e z
    · exact br_f (by rw [e]; decide) (br_t e z)
    · exact br_f (by rw [e]; decide) (br_f (by rw [e]; decide) (br_t e z))
  refine Or.inl (go hI ?_)
  have z : s_P_gate_60 p1 p2 p3 (fun r7 G_size_7 G_inputs_7 G_kinds_7 G_lefts_7 G_rights_7 => (vp_in 0 1 ∧ post 0 G_size_7 G_inputs_7 G_kinds_7 G_lefts_7 G_rights_7 (vp_updL out (0 : Int32).toNatClampNeg r7.toInt64))) (fun _ _ _ _ _ _ => False) (nI n) gi GK GL GR := by
    unfold s_P_gate_60
    refine pk_lt n 40 (fun _ => ?_) (fun q => absurd q (by omega))
    unfold wp_G_add s_G_add_47
    have vi : vp_in (nI n) 40 := vp_in_nI h40 (by decide)
    rw [nI_1, nI_clamp (by omega : n < 2 ^ 31)]
    obtain ⟨kn, hk2, e⟩ := id hK
    have ek : p1.toNatClampNeg = kn := by rw [e, nI_clamp (by omega)]
    refine ⟨vi, br_c (fun e0 => ⟨in01, ?_⟩) (fun e0 => ⟨vi, vi, in01, ?_⟩)⟩
    · have ek0 : kn = 0 := by
        have := e.symm.trans e0
        exact (nI_eq (by omega) (by decide : 0 < 2 ^ 31)).1 this
      refine kr _ _ _ _ hI hK h40 (gA_ext hg h40 _ _ _ (by omega) (by rw [pk_us, ek]; exact e) (fun q => absurd (ek.trans ek0) q) (fun g hg => pk_un (by omega)) (fun _ _ => rfl) (fun _ _ => rfl)) (fun _ => rfl) (fun q => absurd (ek.trans ek0) q)
    · obtain ⟨⟨a, ha, ea⟩, b, hb, eb⟩ := hI.resolve_left e0
      have ea' : p2.toNatClampNeg = a := by rw [ea, nI_clamp (by omega)]
      have eb' : p3.toNatClampNeg = b := by rw [eb, nI_clamp (by omega)]
      refine kr _ _ _ _ hI hK h40 (gA_ext hg h40 _ _ _ (by omega) (by rw [pk_us, ek]; exact e) (fun _ => ⟨by rw [pk_us, ea', ea], by omega, by rw [pk_us, eb', eb], by omega⟩) (fun g hg => pk_un (by omega)) (fun g hg => pk_un (by omega)) (fun g hg => pk_un (by omega))) (fun q => ?_) (fun _ => rfl)
      rw [ek] at q
      rw [q] at e
      exact absurd e e0
  unfold s_P_gate_36
  rcases gcK_3 hK with e | e | e
  · exact br_t e z
  · exact br_f (by rw [e]; decide) (br_t e z)
  · exact br_f (by rw [e]; decide) (br_f (by rw [e]; decide) (br_t e z))
theorem gate_M {n : Nat} {kd ga gb : Nat → Nat} {gs th : Int32} {GK GL GR : Nat → Int32} (hg : gA n kd ga gb gs GK GL GR) {p1 p2 p3 : Int32} {post : Int32 → Int32 → Int32 → (Nat → Int32) → (Nat → Int32) → (Nat → Int32) → Prop} (kx1 : ¬ gcI n p1 p2 p3 → post 0 1 gs GK GL GR) (kx2 : gcI n p1 p2 p3 → ¬ gcK p1 → post 0 2 gs GK GL GR) (kx3 : gcI n p1 p2 p3 → gcK p1 → ¬ n < 40 → post 0 3 gs GK GL GR) (kr : ∀ GK' GL' GR', gcI n p1 p2 p3 → gcK p1 → n < 40 → gA (n + 1) (fset kd n p1.toNatClampNeg) (fset ga n p2.toNatClampNeg) (fset gb n p3.toNatClampNeg) (nI (n + 1)) GK' GL' GR' → post (nI n) 0 (nI (n + 1)) GK' GL' GR') : wp_M_gate th gs GK GL GR p1 p2 p3 post := by
  obtain rfl : gs = nI n := hg.1
  have hn := hg.2.2.1
  have hn0 := hg.2.1
  have no : ¬ gcI n p1 p2 p3 → s_M_gate_24 p1 p2 p3 post th (nI n) GK GL GR := by
    intro q
    unfold s_M_gate_24 s_M_gate_25 s_M_gate_64
    exact br_t rfl (br_f (by decide) (kx1 q))
  have yes : gcI n p1 p2 p3 → s_M_gate_20 p1 p2 p3 post th (nI n) GK GL GR := by
    intro hI
    unfold s_M_gate_20 s_M_gate_25 s_M_gate_46
    refine br_f (by decide) ?_
    have no2 : ¬ gcK p1 → s_M_gate_64 p1 p2 p3 post 2 th (nI n) GK GL GR := by
      intro q
      unfold s_M_gate_64
      exact br_f (by decide) (kx2 hI q)
    refine br_c (fun h0 => no2 (fun ⟨kn, q1, q2⟩ => ?_)) (fun h0 => br_c (fun h2 => ?_) (fun h2 => no2 (fun ⟨kn, q1, q2⟩ => ?_)))
    · rw [q2] at h0
      exact nI_pos (by omega) h0
    · obtain ⟨kn, hk2, e⟩ := nI_of2 (M := 2) (n := 2) (by decide) h0 h2
      have hK : gcK p1 := ⟨kn, hk2, e⟩
      have ek : p1.toNatClampNeg = kn := by rw [e, nI_clamp (by omega)]
      unfold s_M_gate_64
      refine pk_eq n 40 (fun e40 => br_f (by decide) (kx3 hI hK (by omega))) (fun e40 => br_t (by decide) ?_)
      have h40 : n < 40 := by omega
      have vi : vp_in (nI n) 40 := vp_in_nI h40 (by decide)
      unfold s_M_gate_103 s_M_gate_121
      rw [nI_1, nI_pred, nI_clamp (by omega : n < 2 ^ 31)]
      refine ⟨vi, br_c (fun e0 => ⟨vi, br_t e0 ⟨vi, ?_⟩⟩) (fun e0 => ⟨vi, br_f e0 ⟨vi, ?_⟩⟩)⟩
      · have ek0 : kn = 0 := by
          have := e.symm.trans e0
          exact (nI_eq (by omega) (by decide : 0 < 2 ^ 31)).1 this
        exact kr _ _ _ hI hK h40 (gA_ext hg h40 _ _ _ (by omega) (by rw [pk_us, ek]; exact e) (fun q => absurd (ek.trans ek0) q) (fun g hg => pk_un (by omega)) (fun g hg => pk_un (by omega)) (fun g hg => pk_un (by omega)))
      · obtain ⟨⟨a, ha, ea⟩, b, hb, eb⟩ := hI.resolve_left e0
        have ea' : p2.toNatClampNeg = a := by rw [ea, nI_clamp (by omega)]
        have eb' : p3.toNatClampNeg = b := by rw [eb, nI_clamp (by omega)]
        exact kr _ _ _ hI hK h40 (gA_ext hg h40 _ _ _ (by omega) (by rw [pk_us, ek]; exact e) (fun _ => ⟨by rw [pk_us, ea', ea], by omega, by rw [pk_us, eb', eb], by omega⟩) (fun g hg => pk_un (by omega)) (fun g hg => pk_un (by omega)) (fun g hg => pk_un (by omega)))
    · rw [q2] at h2
      exact h2 (nI_le (a := kn) (b := 2) q1 (by decide))
  unfold wp_M_gate
  refine br_c (fun e => yes (Or.inl e)) (fun e => ?_)
  by_cases ha : isL n p2
  · by_cases hb : isL n p3
    · have hI : gcI n p1 p2 p3 := Or.inr ⟨ha, hb⟩
      have y := yes hI
      obtain ⟨a, ha, rfl⟩ := ha
      obtain ⟨b, hb, rfl⟩ := hb
      exact isLit_y hn ha (br_f (by decide) (isLit_y hn hb (br_f (by decide) y)))
    · have y := no (fun q => hb (q.resolve_left e).2)
      obtain ⟨a, ha, rfl⟩ := ha
      exact isLit_y hn ha (br_f (by decide) (isLit_n hn hb (br_t rfl y)))
  · exact isLit_n hn ha (br_t rfl (no (fun q => ha (q.resolve_left e).1)))
theorem add_R {n nl k0 : Nat} {lk lz : Nat → Nat} {lt : Nat → Nat → Nat} {FK FZ FT : Nat → Int32} (hl : lA n nl lk lz lt FK FZ FT) (h24 : nl < 24) {post : Int32 → Int32 → (Nat → Int32) → (Nat → Int32) → Prop} (k : ∀ FK' FZ', FK' nl = nI k0 → FZ' nl = nI 0 → (∀ j, j < nl → FK' j = FK j) → (∀ j, j < nl → FZ' j = FZ j) → post (nI nl) (nI (nl + 1)) FK' FZ') : wp_F_add (nI nl) FK FZ (nI k0) post := by
  unfold wp_F_add
  have vi : vp_in (nI nl) 24 := vp_in_nI h24 (by decide)
  rw [nI_1, nI_clamp (by omega : nl < 2 ^ 31)]
  exact ⟨vi, vi, k _ _ pk_us pk_us (fun j hj => pk_un (by omega)) (fun j hj => pk_un (by omega))⟩
theorem full_R {nl : Nat} (hk : nl ≤ 24) {post : Int32 → Prop} (k0 : nl < 24 → post 0) (k1 : ¬ nl < 24 → post 1) : wp_F_isFull (nI nl) post := by
  unfold wp_F_isFull
  exact pk_lt nl 24 k0 (fun q => k1 (by omega))
theorem line_L {n nl : Nat} {lk lz : Nat → Nat} {lt : Nat → Nat → Nat} {FK FZ FT : Nat → Int32} (hl : lA n nl lk lz lt FK FZ FT) (hk : nl ≤ 24) {out : Nat → Int64} {post : Int32 → Int32 → (Nat → Int32) → (Nat → Int32) → (Nat → Int64) → Prop} (kx : ¬ nl < 24 → post 1 (nI nl) FK FZ out) (kr : ∀ FK' FZ', nl < 24 → lA n (nl + 1) (fset lk nl 0) (fset lz nl 0) lt FK' FZ' FT → post 0 (nI (nl + 1)) FK' FZ' (vp_updL out (0 : Int32).toNatClampNeg (nI nl).toInt64)) : wp_L_line (nI nl) FK FZ out post := by
  unfold wp_L_line wp_P_line
  by_cases h : nl < 24
  · refine Or.inl (full_R hk (fun _ => br_t rfl ?_) (fun q => absurd h q))
    refine add_R (k0 := 0) hl h (fun FK' FZ' a1 a2 a3 a4 => ⟨in01, kr _ _ h ?_⟩)
    have q := lA_put hl 0 0 (lt nl) a1 (by decide) a2 (by decide) (by decide) (fun i hi => absurd hi (Nat.not_lt_zero _)) a3 a4 (fun _ _ => rfl)
    have e : fset lt nl (lt nl) = lt := by
      funext j
      by_cases e : j = nl
      · subst e; exact fset_s
      · exact fset_n e
    rw [e] at q
    exact q
  · exact Or.inr (full_R hk (fun q => absurd q h) (fun _ => br_f (by decide) ⟨rfl, kx h⟩))
theorem line_M {n nl : Nat} {lk lz : Nat → Nat} {lt : Nat → Nat → Nat} {FK FZ FT : Nat → Int32} (hl : lA n nl lk lz lt FK FZ FT) (hk : nl ≤ 24) {th : Int32} {post : Int32 → Int32 → Int32 → (Nat → Int32) → (Nat → Int32) → Prop} (kx : ¬ nl < 24 → post 0 1 (nI nl) FK FZ) (kr : ∀ FK' FZ', nl < 24 → lA n (nl + 1) (fset lk nl 0) (fset lz nl 0) lt FK' FZ' FT → post (nI nl) 0 (nI (nl + 1)) FK' FZ') : wp_M_line th (nI nl) FK FZ post := by
  unfold wp_M_line s_M_line_15
  refine pk_eq nl 24 (fun e => br_f (by decide) (kx (by omega))) (fun e => br_t (by decide) ?_)
  have vi : vp_in (nI nl) 24 := vp_in_nI (by omega) (by decide)
  rw [nI_1, nI_pred, nI_clamp (by omega : nl < 2 ^ 31), show vp_nar .boolean 0 = 0 from rfl]
  refine ⟨vi, vi, kr _ _ (by omega) ?_⟩
  have q := lA_put hl 0 0 (lt nl) (K' := upd FK nl 0) (Z' := upd FZ nl 0) pk_us (by decide) pk_us (by decide) (by decide) (fun i hi => absurd hi (Nat.not_lt_zero _)) (fun j hj => pk_un (by omega)) (fun j hj => pk_un (by omega)) (fun _ _ => rfl)
  have e : fset lt nl (lt nl) = lt := by
    funext j
    by_cases e : j = nl
    · subst e; exact fset_s
    · exact fset_n e
  rw [e] at q
  exact q
def there (lz : Nat → Nat) (lt : Nat → Nat → Nat) (j l : Nat) : Prop := ∃ i, i < lz j ∧ lt j i = l
/-- a line, also one that is not yet done -/
def lB1 (n j : Nat) (lz : Nat) (lt : Nat → Nat) (Z T : Nat → Int32) : Prop := Z j = nI lz ∧ lz ≤ 6 ∧ ∀ i, i < lz → T (6 * j + i) = nI (lt i) ∧ lt i < 2 * n
theorem contains_R {n j l z : Nat} {lt : Nat → Nat} {FZ FT : Nat → Int32} (hl : lB1 n j z lt FZ FT) (hn : n ≤ 40) (hj : j < 24) (hb : l < 2 * n) {post : Int32 → Prop} (k0 : (¬ ∃ i, i < z ∧ lt i = l) → post 0) (k1 : (∃ i, i < z ∧ lt i = l) → post 1) : wp_F_contains FZ FT (nI j) (nI l) post := by
  obtain ⟨eZ, hz6, hT⟩ := hl
  unfold wp_F_contains
  intro C2 h2
  have loop : ∀ d i, i + d = z → (∀ i', i' < i → lt i' ≠ l) → C2 (nI i) := by
    intro d
    induction d with
    | zero =>
      intro i hi hp
      have e : i = z := by omega
      subst e
      refine h2 _ ?_
      unfold s_F_contains_2
      rw [nI_clamp (by omega : j < 2 ^ 31), eZ]
      exact ⟨vp_in_nI hj (by decide), pk_le i i (fun _ => k0 (fun ⟨q, q1, q2⟩ => hp q q1 q2)) (fun q => absurd q (Nat.lt_irrefl _))⟩
    | succ d ih =>
      intro i hi hp
      refine h2 _ ?_
      unfold s_F_contains_2
      obtain ⟨ti, bi⟩ := hT i (by omega)
      rw [nI_clamp (by omega : j < 2 ^ 31), eZ, nI_1]
      refine ⟨vp_in_nI hj (by decide), pk_le z i (fun q => absurd q (by omega)) (fun _ => literalOf_r hj (by omega) ti ?_)⟩
      exact pk_eq (lt i) l (fun e => k1 ⟨i, by omega, e⟩) (fun e => ih (i + 1) (by omega) (lt_s hp e))
  exact loop z 0 (by omega) (fun i' q => absurd q (Nat.not_lt_zero _))
theorem isThere_M {n j l z : Nat} {lt : Nat → Nat} {FZ FT : Nat → Int32} (hl : lB1 n j z lt FZ FT) (hn : n ≤ 40) (hj : j < 24) (hb : l < 2 * n) {post : Int32 → Prop} (k0 : (¬ ∃ i, i < z ∧ lt i = l) → post 0) (k1 : (∃ i, i < z ∧ lt i = l) → post 1) : wp_M_isThere FZ FT (nI j) (nI l) post := by
  obtain ⟨eZ, hz6, hT⟩ := hl
  unfold wp_M_isThere
  intro C5 h5
  have loop : ∀ d i (b : Bool), i + d = z → (b = true ↔ ∃ i', i' < i ∧ lt i' = l) → C5 (bI b) (nI i) := by
    intro d
    induction d with
    | zero =>
      intro i b hi hp
      have e : i = z := by omega
      subst e
      refine h5 _ _ ?_
      unfold s_M_isThere_5
      rw [nI_clamp (by omega : j < 2 ^ 31), eZ]
      refine ⟨vp_in_nI hj (by decide), pk_le i i (fun _ => ⟨bI_isB b, ?_⟩) (fun q => absurd q (Nat.lt_irrefl _))⟩
      cases b
      · exact k0 (fun q => absurd (hp.2 q) (by decide))
      · exact k1 (hp.1 rfl)
    | succ d ih =>
      intro i b hi hp
      refine h5 _ _ ?_
      unfold s_M_isThere_5 s_M_isThere_36 s_M_isThere_41
      obtain ⟨ti, bi⟩ := hT i (by omega)
      rw [nI_clamp (by omega : j < 2 ^ 31), eZ, nI_1, mul6', nI_add, nI_clamp (by omega : 6 * j + i < 2 ^ 31), ti]
      refine ⟨vp_in_nI hj (by decide), pk_le z i (fun q => absurd q (by omega)) (fun _ => ?_)⟩
      have y : (∃ i', i' < i + 1 ∧ lt i' = l) → C5 1 (nI (i + 1)) := fun q => ih (i + 1) true (by omega) ⟨fun _ => q, fun _ => rfl⟩
      cases b
      · refine br_t rfl ⟨vp_in_nI (by omega) (by decide), pk_eq (lt i) l (fun e => y ⟨i, by omega, e⟩) (fun e => ?_)⟩
        refine ih (i + 1) false (by omega) ⟨fun q => absurd q (by decide), fun ⟨i', q1, q2⟩ => ?_⟩
        by_cases e' : i' = i
        · subst e'; exact absurd q2 e
        · exact hp.2 ⟨i', by omega, q2⟩
      · obtain ⟨i', q1, q2⟩ := hp.1 rfl
        exact br_f (by decide) (y ⟨i', by omega, q2⟩)
  exact loop z 0 false (by omega) ⟨fun q => absurd q (by decide), fun ⟨i', q, _⟩ => absurd q (Nat.not_lt_zero _)⟩
theorem lA_1 {n k j : Nat} {lk lz : Nat → Nat} {lt : Nat → Nat → Nat} {K Z T : Nat → Int32} (h : lA n k lk lz lt K Z T) (hj : j < k) : lB1 n j (lz j) (lt j) Z T := by
  obtain ⟨a1, a2, a3, a4, a5, a6⟩ := h j hj
  exact ⟨a3, a4, a6⟩
theorem append_R {n j l z : Nat} {lt : Nat → Nat} {FZ FT : Nat → Int32} (hl : lB1 n j z lt FZ FT) (hj : j < 24) (hz : z < 6) {post : (Nat → Int32) → (Nat → Int32) → Prop} (k : post (upd FZ j (FZ j + 1)) (upd FT (6 * j + z) (nI l))) : wp_F_append FZ FT (nI j) (nI l) post := by
  unfold wp_F_append
  have vj : vp_in (nI j) 24 := vp_in_nI hj (by decide)
  rw [nI_clamp (by omega : j < 2 ^ 31)]
  have e := hl.1
  rw [show nI j * 6 + FZ j = nI (6 * j + z) by rw [e, mul6, nI_add], nI_clamp (by omega : 6 * j + z < 2 ^ 31)]
  exact ⟨vj, vp_in_nI (by omega) (by decide), vj, vj, k⟩
theorem add_M {n j l z : Nat} {lt : Nat → Nat} {FZ FT : Nat → Int32} (hl : lB1 n j z lt FZ FT) (hj : j < 24) (hz : z < 6) {post : (Nat → Int32) → (Nat → Int32) → Prop} (k : post (upd FZ j (FZ j + 1)) (upd FT (6 * j + z) (nI l))) : wp_M_add FZ FT (nI j) (nI l) post := by
  unfold wp_M_add
  have vj : vp_in (nI j) 24 := vp_in_nI hj (by decide)
  rw [nI_clamp (by omega : j < 2 ^ 31)]
  have e := hl.1
  rw [show 6 * nI j + FZ j = nI (6 * j + z) by rw [e, mul6', nI_add], nI_clamp (by omega : 6 * j + z < 2 ^ 31)]
  exact ⟨vj, vp_in_nI (by omega) (by decide), vj, vj, k⟩
theorem lineFull_R {j k z : Nat} {FK FZ : Nat → Int32} (hj : j < 24) (hK : FK j = nI k) (hk : k ≤ 1) (hZ : FZ j = nI z) (hz : z ≤ 6) {post : Int32 → Prop} (k0 : z < (if k = 1 then 2 else 6) → post 0) (k1 : ¬ z < (if k = 1 then 2 else 6) → post 1) : wp_F_isLineFull FK FZ (nI j) post := by
  unfold wp_F_isLineFull s_F_isLineFull_22
  have vj : vp_in (nI j) 24 := vp_in_nI hj (by decide)
  rw [nI_clamp (by omega : j < 2 ^ 31), hK, hZ]
  refine ⟨vj, vj, pk_eq k 1 (fun e => pk_lt z 2 (fun q => k0 (by rw [if_pos e]; exact q)) (fun q => k1 (by rw [if_pos e]; omega))) (fun e => pk_lt z 6 (fun q => k0 (by rw [if_neg e]; exact q)) (fun q => k1 (by rw [if_neg e]; omega)))⟩
theorem literal_L {n nl : Nat} {lk lz : Nat → Nat} {lt : Nat → Nat → Nat} {FK FZ FT : Nat → Int32} (hl : lA n nl lk lz lt FK FZ FT) (hn : n ≤ 40) (hk : nl ≤ 24) {out : Nat → Int64} {p1 p2 : Int32} {post : Int32 → (Nat → Int32) → (Nat → Int32) → (Nat → Int64) → Prop} (kx1 : ¬ (isG nl p1 ∧ isL n p2) → post 1 FZ FT out) (kx2 : ∀ j l, j < nl → l < 2 * n → p1 = nI j → p2 = nI l → lk j = 1 → post 2 FZ FT out) (kf : ∀ j l, j < nl → l < 2 * n → p1 = nI j → p2 = nI l → lk j = 0 → there lz lt j l → post 0 FZ FT (vp_updL out (0 : Int32).toNatClampNeg (lB false))) (kx3 : ∀ j l, j < nl → l < 2 * n → p1 = nI j → p2 = nI l → lk j = 0 → ¬ there lz lt j l → ¬ lz j < 6 → post 3 FZ FT out) (kt : ∀ j l FZ' FT', j < nl → l < 2 * n → p1 = nI j → p2 = nI l → lk j = 0 → ¬ there lz lt j l → lz j < 6 → lA n nl lk (fset lz j (lz j + 1)) (fset lt j (fset (lt j) (lz j) l)) FK FZ' FT' → post 0 FZ' FT' (vp_updL out (0 : Int32).toNatClampNeg (lB true))) : wp_L_literal (nI n) (nI nl) FK FZ FT out p1 p2 post := by

  unfold wp_L_literal wp_P_literal s_L_literal_16
  by_cases h1 : isG nl p1
  rotate_left
  · exact Or.inr (hasF_n (by omega) h1 (br_t rfl (Or.inl ⟨rfl, kx1 (fun q => h1 q.1)⟩)))
  by_cases h2 : isL n p2
  rotate_left
  · have z := kx1 (fun q => h2 q.2)
    obtain ⟨j, hj, rfl⟩ := h1
    exact Or.inr (hasF_y (by omega) hj (br_f (by decide) (hasL_n hn h2 (br_t rfl (Or.inl ⟨rfl, z⟩)))))
  obtain ⟨j, hj, rfl⟩ := h1
  obtain ⟨l, hl2, rfl⟩ := h2
  have vj : vp_in (nI j) 24 := vp_in_nI (by omega) (by decide)
  have h1 := lA_1 hl hj
  obtain ⟨eK, hlk, eZ, hz6, hz2, hT⟩ := hl j hj
  have cl := nI_clamp (by omega : j < 2 ^ 31)
  by_cases e1 : lk j = 1
  · refine Or.inr (hasF_y (by omega) hj (br_f (by decide) (hasL_y hn hl2 (br_f (by decide) ⟨vj, ?_⟩))))
    rw [cl, eK]
    exact pk_eq (lk j) 1 (fun _ => Or.inr (Or.inl ⟨rfl, kx2 j l hj hl2 rfl rfl e1⟩)) (fun q => absurd e1 q)
  have e0 : lk j = 0 := by omega
  have en1 : ¬ FK (nI j).toNatClampNeg = 1 := by
    rw [cl, eK, e0]; decide
  by_cases ht : there lz lt j l
  · refine Or.inl (hasF_y (by omega) hj (br_f (by decide) (hasL_y hn hl2 (br_f (by decide) ⟨vj, br_f en1 ?_⟩))))
    exact contains_R h1 hn (by omega) hl2 (fun q => absurd ht q) (fun _ => br_f (by decide) (br_t rfl ⟨in01, kf j l hj hl2 rfl rfl e0 ht⟩))
  by_cases h6 : lz j < 6
  · refine Or.inl (hasF_y (by omega) hj (br_f (by decide) (hasL_y hn hl2 (br_f (by decide) ⟨vj, br_f en1 ?_⟩))))
    refine contains_R h1 hn (by omega) hl2 (fun _ => br_t rfl ?_) (fun q => absurd q ht)
    refine lineFull_R (by omega) eK hlk eZ hz6 (fun _ => br_t rfl ?_) (fun q => absurd (by rw [if_neg e1]; exact h6) q)
    refine append_R h1 (by omega) h6 (br_f (by decide) ⟨in01, kt j l _ _ hj hl2 rfl rfl e0 ht h6 (lA_app hl hj e0 h6 hl2)⟩)
  · refine Or.inr (hasF_y (by omega) hj (br_f (by decide) (hasL_y hn hl2 (br_f (by decide) ⟨vj, br_f en1 ?_⟩))))
    refine contains_R h1 hn (by omega) hl2 (fun _ => br_t rfl ?_) (fun q => absurd q ht)
    exact lineFull_R (by omega) eK hlk eZ hz6 (fun q => absurd (by rw [if_neg e1] at q; exact q) h6) (fun _ => br_f (by decide) (Or.inr (Or.inr ⟨rfl, kx3 j l hj hl2 rfl rfl e0 ht h6⟩)))
theorem literal_M {n nl : Nat} {lk lz : Nat → Nat} {lt : Nat → Nat → Nat} {FK FZ FT : Nat → Int32} (hl : lA n nl lk lz lt FK FZ FT) (hn : n ≤ 40) (hk : nl ≤ 24) {th p1 p2 : Int32} {post : Int32 → Int32 → (Nat → Int32) → (Nat → Int32) → Prop} (kx1 : ¬ (isG nl p1 ∧ isL n p2) → post 0 1 FZ FT) (kx2 : ∀ j l, j < nl → l < 2 * n → p1 = nI j → p2 = nI l → lk j = 1 → post 0 2 FZ FT) (kf : ∀ j l, j < nl → l < 2 * n → p1 = nI j → p2 = nI l → lk j = 0 → there lz lt j l → post 0 0 FZ FT) (kx3 : ∀ j l, j < nl → l < 2 * n → p1 = nI j → p2 = nI l → lk j = 0 → ¬ there lz lt j l → ¬ lz j < 6 → post 0 3 FZ FT) (kt : ∀ j l FZ' FT', j < nl → l < 2 * n → p1 = nI j → p2 = nI l → lk j = 0 → ¬ there lz lt j l → lz j < 6 → lA n nl lk (fset lz j (lz j + 1)) (fset lt j (fset (lt j) (lz j) l)) FK FZ' FT' → post 1 0 FZ' FT') : wp_M_literal th (nI n) (nI nl) FK FZ FT p1 p2 post := by
  unfold wp_M_literal
  have no : ¬ (isG nl p1 ∧ isL n p2) → s_M_literal_20 (nI n) (nI nl) FK p1 p2 post th FZ FT := by
    intro q
    unfold s_M_literal_20 s_M_literal_21 s_M_literal_48 s_M_literal_49 s_M_literal_94
    exact br_t rfl (br_t rfl (br_t (by decide) (kx1 q)))
  by_cases h1 : isG nl p1
  rotate_left
  · exact isLi_n (by omega) h1 (br_t rfl (no (fun q => h1 q.1)))
  by_cases h2 : isL n p2
  rotate_left
  · have z := no (fun q => h2 q.2)
    obtain ⟨j, hj, rfl⟩ := h1
    exact isLi_y (by omega) hj (br_f (by decide) (isLit_n hn h2 (br_t rfl z)))
  obtain ⟨j, hj, rfl⟩ := h1
  obtain ⟨l, hl2, rfl⟩ := h2
  refine isLi_y (by omega) hj (br_f (by decide) (isLit_y hn hl2 (br_f (by decide) ?_)))
  have vj : vp_in (nI j) 24 := vp_in_nI (by omega) (by decide)
  have h1 := lA_1 hl hj
  obtain ⟨eK, hlk, eZ, hz6, hz2, hT⟩ := hl j hj
  have cl := nI_clamp (by omega : j < 2 ^ 31)
  unfold s_M_literal_21 s_M_literal_48 s_M_literal_49 s_M_literal_93 s_M_literal_94
  rw [cl, eK, eZ]
  refine br_f (by decide) ⟨vj, pk_eq (lk j) 0 (fun e0 => ?_) (fun e0 => br_f (by decide) ⟨vj, pk_eq (lk j) 0 (fun q => absurd q e0) (fun _ => br_t (by decide) (kx2 j l hj hl2 rfl rfl (by omega)))⟩)⟩
  refine isThere_M h1 hn (by omega) hl2 (fun ht => br_t rfl ?_) (fun ht => br_f (by decide) ?_)
  · refine br_f (by decide) ⟨vj, pk_eq (lk j) 0 (fun _ => br_t rfl ⟨vj, pk_eq (lz j) 6 (fun e6 => br_t (by decide) (kx3 j l hj hl2 rfl rfl e0 ht (by omega))) (fun e6 => br_f (by decide) (br_t rfl ?_))⟩) (fun q => absurd e0 q)⟩
    have h6 : lz j < 6 := by omega
    exact add_M h1 (by omega) h6 (kt j l _ _ hj hl2 rfl rfl e0 ht h6 (lA_app hl hj e0 h6 hl2))
  · exact br_f (by decide) ⟨vj, pk_eq (lk j) 0 (fun _ => br_f (by decide) (br_f (by decide) (br_f (by decide) (kf j l hj hl2 rfl rfl e0 ht)))) (fun q => absurd e0 q)⟩
def two (a b : Nat) : Nat → Nat := fun i => if i = 0 then a else b
theorem equalLine_L {n nl : Nat} {lk lz : Nat → Nat} {lt : Nat → Nat → Nat} {FK FZ FT : Nat → Int32} (hl : lA n nl lk lz lt FK FZ FT) (hn : n ≤ 40) (hk : nl ≤ 24) {out : Nat → Int64} {p1 p2 : Int32} {post : Int32 → Int32 → (Nat → Int32) → (Nat → Int32) → (Nat → Int32) → (Nat → Int64) → Prop} (kx1 : ¬ (isL n p1 ∧ isL n p2) → post 1 (nI nl) FK FZ FT out) (kx2 : isL n p1 ∧ isL n p2 → ¬ nl < 24 → post 2 (nI nl) FK FZ FT out) (kr : ∀ a b FK' FZ' FT', a < 2 * n → b < 2 * n → p1 = nI a → p2 = nI b → nl < 24 → lA n (nl + 1) (fset lk nl 1) (fset lz nl 2) (fset lt nl (two a b)) FK' FZ' FT' → post 0 (nI (nl + 1)) FK' FZ' FT' (vp_updL out (0 : Int32).toNatClampNeg (nI nl).toInt64)) : wp_L_equalLine (nI n) (nI nl) FK FZ FT out p1 p2 post := by
  unfold wp_L_equalLine wp_P_equalLine
  by_cases h1 : isL n p1
  rotate_left
  · exact Or.inr (hasL_n hn h1 (br_t rfl (Or.inl ⟨rfl, kx1 (fun q => h1 q.1)⟩)))
  by_cases h2 : isL n p2
  rotate_left
  · have z := kx1 (fun q => h2 q.2)
    obtain ⟨a, ha, rfl⟩ := h1
    exact Or.inr (hasL_y hn ha (br_f (by decide) (hasL_n hn h2 (br_t rfl (Or.inl ⟨rfl, z⟩)))))
  have z := kx2 ⟨h1, h2⟩
  obtain ⟨a, ha, rfl⟩ := h1
  obtain ⟨b, hb, rfl⟩ := h2
  by_cases h24 : nl < 24
  rotate_left
  · exact Or.inr (hasL_y hn ha (br_f (by decide) (hasL_y hn hb (br_f (by decide) (full_R hk (fun q => absurd q h24) (fun _ => br_f (by decide) (Or.inr ⟨rfl, z h24⟩)))))))
  refine Or.inl (hasL_y hn ha (br_f (by decide) (hasL_y hn hb (br_f (by decide) (full_R hk (fun _ => br_t rfl ?_) (fun q => absurd h24 q))))))
  refine add_R (k0 := 1) hl h24 (fun FK' FZ' a1 a2 a3 a4 => ?_)
  have b0 : lB1 n nl 0 (two a b) FZ' FT := ⟨a2, by decide, fun i hi => absurd hi (Nat.not_lt_zero _)⟩
  refine append_R b0 h24 (by decide) ?_
  have b1 : lB1 n nl 1 (two a b) (upd FZ' nl (FZ' nl + 1)) (upd FT (6 * nl + 0) (nI a)) := ⟨by rw [pk_us, a2, nI_1], by decide, fun i hi => by
    obtain rfl : i = 0 := by omega
    rw [pk_us]
    exact ⟨rfl, ha⟩⟩
  refine append_R b1 h24 (by decide) ⟨in01, kr a b _ _ _ ha hb rfl rfl h24 (lA_put hl 1 2 (two a b) a1 (by decide) (by rw [pk_us, pk_us, a2, nI_1, nI_1]) (by decide) (fun _ => rfl) (fun i hi => ?_) a3 (fun j hj => by rw [pk_un (by omega), pk_un (by omega)]; exact a4 j hj) (fun q hq => by rw [pk_un (by omega), pk_un (by omega)]))⟩
  rcases (by omega : i = 0 ∨ i = 1) with rfl | rfl
  · rw [pk_un (by omega), pk_us]
    exact ⟨rfl, ha⟩
  · rw [pk_us]
    exact ⟨rfl, hb⟩
theorem equalLine_M {n nl : Nat} {lk lz : Nat → Nat} {lt : Nat → Nat → Nat} {FK FZ FT : Nat → Int32} (hl : lA n nl lk lz lt FK FZ FT) (hn : n ≤ 40) (hk : nl ≤ 24) {th p1 p2 : Int32} {post : Int32 → Int32 → Int32 → (Nat → Int32) → (Nat → Int32) → (Nat → Int32) → Prop} (kx1 : ¬ (isL n p1 ∧ isL n p2) → post 0 1 (nI nl) FK FZ FT) (kx2 : isL n p1 ∧ isL n p2 → ¬ nl < 24 → post 0 2 (nI nl) FK FZ FT) (kr : ∀ a b FK' FZ' FT', a < 2 * n → b < 2 * n → p1 = nI a → p2 = nI b → nl < 24 → lA n (nl + 1) (fset lk nl 1) (fset lz nl 2) (fset lt nl (two a b)) FK' FZ' FT' → post (nI nl) 0 (nI (nl + 1)) FK' FZ' FT') : wp_M_equalLine th (nI n) (nI nl) FK FZ FT p1 p2 post := by
  have no : ¬ (isL n p1 ∧ isL n p2) → s_M_equalLine_17 (nI n) p1 p2 post th (nI nl) FK FZ FT := by
    intro q
    unfold s_M_equalLine_17 s_M_equalLine_35
    exact br_f (by decide) (kx1 q)
  unfold wp_M_equalLine
  by_cases h1 : isL n p1
  rotate_left
  · exact isLit_n hn h1 (br_t rfl (no (fun q => h1 q.1)))
  by_cases h2 : isL n p2
  rotate_left
  · have z := no (fun q => h2 q.2)
    obtain ⟨a, ha, rfl⟩ := h1
    exact isLit_y hn ha (br_f (by decide) (isLit_n hn h2 (br_t rfl z)))
  have z := kx2 ⟨h1, h2⟩
  obtain ⟨a, ha, rfl⟩ := h1
  obtain ⟨b, hb, rfl⟩ := h2
  refine isLit_y hn ha (br_f (by decide) (isLit_y hn hb (br_f (by decide) ?_)))
  unfold s_M_equalLine_35
  refine pk_eq nl 24 (fun e => br_f (by decide) (z (by omega))) (fun e => br_t (by decide) ?_)
  have h24 : nl < 24 := by omega
  have vi : vp_in (nI nl) 24 := vp_in_nI h24 (by decide)
  rw [nI_1, nI_pred, nI_clamp (by omega : nl < 2 ^ 31), show vp_nar .boolean 1 = 1 from rfl]
  refine ⟨vi, vi, ?_⟩
  have a2 : upd FZ nl 0 nl = nI 0 := pk_us
  have b0 : lB1 n nl 0 (two a b) (upd FZ nl 0) FT := ⟨a2, by decide, fun i hi => absurd hi (Nat.not_lt_zero _)⟩
  refine add_M b0 h24 (by decide) ?_
  have b1 : lB1 n nl 1 (two a b) (upd (upd FZ nl 0) nl (upd FZ nl 0 nl + 1)) (upd FT (6 * nl + 0) (nI a)) := ⟨by rw [pk_us, a2, nI_1], by decide, fun i hi => by
    obtain rfl : i = 0 := by omega
    rw [pk_us]
    exact ⟨rfl, ha⟩⟩
  refine add_M b1 h24 (by decide) (kr a b _ _ _ ha hb rfl rfl h24 (lA_put hl 1 2 (two a b) pk_us (by decide) (by rw [pk_us, pk_us, a2, nI_1, nI_1]) (by decide) (fun _ => rfl) (fun i hi => ?_) (fun j hj => pk_un (by omega)) (fun j hj => by rw [pk_un (by omega), pk_un (by omega), pk_un (by omega)]) (fun q hq => by rw [pk_un (by omega), pk_un (by omega)])))
  rcases (by omega : i = 0 ∨ i = 1) with rfl | rfl
  · rw [pk_un (by omega), pk_us]
    exact ⟨rfl, ha⟩
  · rw [pk_us]
    exact ⟨rfl, hb⟩
/-- what lineAt answers -/
def atR (lk lz : Nat → Nat) (lt : Nat → Nat → Nat) (j i : Nat) : Nat := if i = 0 then lk j else if i = 1 then lz j else lt j (i - 2)
def atOK (nl : Nat) (lz : Nat → Nat) (p1 p2 : Int32) : Prop := ∃ j i, j < nl ∧ p1 = nI j ∧ i < 2 + lz j ∧ p2 = nI i
theorem lineAt_L {n nl : Nat} {lk lz : Nat → Nat} {lt : Nat → Nat → Nat} {FK FZ FT : Nat → Int32} (hl : lA n nl lk lz lt FK FZ FT) (hk : nl ≤ 24) {out : Nat → Int64} {p1 p2 : Int32} {post : Int32 → (Nat → Int64) → Prop} (kx : ¬ atOK nl lz p1 p2 → post 1 out) (kr : ∀ j i, j < nl → p1 = nI j → i < 2 + lz j → p2 = nI i → post 0 (vp_updL out (0 : Int32).toNatClampNeg (nI (atR lk lz lt j i)).toInt64)) : wp_L_lineAt (nI nl) FK FZ FT out p1 p2 post := by
  unfold wp_L_lineAt wp_P_lineAt
  by_cases h1 : isG nl p1
  rotate_left
  · exact Or.inr (hasF_n (by omega) h1 (br_t rfl ⟨rfl, kx (fun ⟨j, i, a, b, _⟩ => h1 ⟨j, a, b⟩)⟩))
  obtain ⟨j, hj, rfl⟩ := h1
  have vj : vp_in (nI j) 24 := vp_in_nI (by omega) (by decide)
  obtain ⟨eK, hlk, eZ, hz6, hz2, hT⟩ := hl j hj
  have cl := nI_clamp (by omega : j < 2 ^ 31)
  rw [cl, eZ, eK, show (2 : Int32) + nI (lz j) = nI (2 + lz j) from nI_add 2 _]
  by_cases h0 : p2 < 0
  · refine Or.inr (hasF_y (by omega) hj (br_f (by decide) (br_t h0 ⟨rfl, kx (fun ⟨j', i, a, b, c, d⟩ => ?_)⟩)))
    have ejj := (nI_eq (by omega) (by omega)).1 b
    subst ejj
    rw [d] at h0
    exact nI_pos (by omega) h0
  obtain ⟨i, hi, rfl⟩ := nI_of h0
  by_cases h2 : i < 2 + lz j
  · refine Or.inl (hasF_y (by omega) hj (br_f (by decide) (br_f h0 ⟨vj, pk_lt i (2 + lz j) (fun _ => ?_) (fun q => absurd q (by omega))⟩)))
    have q := kr j i hj rfl h2 rfl
    unfold atR at q
    refine pk_eq i 0 (fun e => ⟨vj, in01, by rwa [if_pos e] at q⟩) (fun e => pk_eq i 1 (fun e1 => ⟨vj, in01, by rwa [if_neg e, if_pos e1] at q⟩) (fun e1 => ?_))
    rw [if_neg e, if_neg e1] at q
    rw [show nI i - 2 = nI (i - 2) from pk_sub (a := i) (b := 2) (by omega)]
    exact literalOf_r (by omega) (by omega) (hT (i - 2) (by omega)).1 ⟨in01, q⟩
  · refine Or.inr (hasF_y (by omega) hj (br_f (by decide) (br_f h0 ⟨vj, pk_lt i (2 + lz j) (fun q => absurd q h2) (fun _ => ⟨rfl, kx (fun ⟨j', i', a, b, c, d⟩ => ?_)⟩)⟩)))
    have ejj := (nI_eq (by omega) (by omega)).1 b
    subst ejj
    have eii := (nI_eq hi (by omega)).1 d
    omega
theorem lineAt_M {n nl : Nat} {lk lz : Nat → Nat} {lt : Nat → Nat → Nat} {FK FZ FT : Nat → Int32} (hl : lA n nl lk lz lt FK FZ FT) (hk : nl ≤ 24) {th p1 p2 : Int32} {post : Int32 → Int32 → Prop} (kx : ¬ atOK nl lz p1 p2 → post 0 1) (kr : ∀ j i, j < nl → p1 = nI j → i < 2 + lz j → p2 = nI i → post (nI (atR lk lz lt j i)) 0) : wp_M_lineAt th (nI nl) FK FZ FT p1 p2 post := by
  have no : ¬ atOK nl lz p1 p2 → s_M_lineAt_29 (nI nl) FK FZ FT p1 p2 post th := by
    intro q
    unfold s_M_lineAt_29 s_M_lineAt_30
    exact br_f (by decide) (kx q)
  unfold wp_M_lineAt
  by_cases h1 : isG nl p1
  rotate_left
  · exact isLi_n (by omega) h1 (br_t rfl (no (fun ⟨j, i, a, b, _⟩ => h1 ⟨j, a, b⟩)))
  obtain ⟨j, hj, rfl⟩ := h1
  have vj : vp_in (nI j) 24 := vp_in_nI (by omega) (by decide)
  obtain ⟨eK, hlk, eZ, hz6, hz2, hT⟩ := hl j hj
  have cl := nI_clamp (by omega : j < 2 ^ 31)
  rw [cl, eZ, show nI (lz j) + 2 = nI (lz j + 2) from nI_add _ 2]
  refine isLi_y (by omega) hj (br_f (by decide) (br_c (fun h0 => no (fun ⟨j', i, a, b, c, d⟩ => ?_)) (fun h0 => ⟨vj, ?_⟩)))
  · have ejj := (nI_eq (by omega) (by omega)).1 b
    subst ejj
    rw [d] at h0
    exact nI_pos (by omega) h0
  obtain ⟨i, hi, rfl⟩ := nI_of h0
  refine pk_le (lz j + 2) i (fun h2 => no (fun ⟨j', i', a, b, c, d⟩ => ?_)) (fun h2 => ?_)
  · have ejj := (nI_eq (by omega) (by omega)).1 b
    subst ejj
    have eii := (nI_eq hi (by omega)).1 d
    omega
  have q := kr j i hj rfl (by omega) rfl
  unfold atR at q
  unfold s_M_lineAt_30
  rw [cl, eZ, eK, mul6', nI_add]
  refine br_t (by decide) (pk_eq i 0 (fun e => ⟨vj, ?_⟩) (fun e => pk_eq i 1 (fun e1 => ⟨vj, by rwa [if_neg e, if_pos e1] at q⟩) (fun e1 => ?_)))
  · rw [if_pos e] at q
    refine pk_eq (lk j) 0 (fun e0 => by rw [e0] at q; exact q) (fun e0 => ?_)
    have e1 : lk j = 1 := by omega
    rw [e1] at q
    exact q
  · rw [if_neg e, if_neg e1] at q
    rw [show nI (6 * j + i) - 2 = nI (6 * j + i - 2) from pk_sub (a := 6 * j + i) (b := 2) (by omega), show 6 * j + i - 2 = 6 * j + (i - 2) by omega, nI_clamp (by omega : 6 * j + (i - 2) < 2 ^ 31), (hT (i - 2) (by omega)).1]
    exact ⟨vp_in_nI (by omega) (by decide), q⟩
