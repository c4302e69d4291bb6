/-! read, unit of both. -/
/-- what reading the literals of a line comes to -/
def rdL (n nt : Nat) (tp : Nat → Nat) (k : Nat) : Nat → Nat → Nat → (Nat → Nat) → Option Nat × Nat × Nat × (Nat → Nat)
  | 0, i, z, f => (none, i, z, f)
  | d + 1, i, z, f =>
    if i < nt ∧ (tp i = 43 ∨ tp i = 45) then
      if z < mo k ∧ skb nt tp (i + 1) < den nt tp (skb nt tp (i + 1)) ∧ vl nt tp (skb nt tp (i + 1)) 0 < n then
        if k = 1 ∨ ¬ thB f (rlt nt tp i) z = true then rdL n nt tp k d (skb nt tp (rlE nt tp i)) (z + 1) (fset f z (rlt nt tp i))
        else rdL n nt tp k d (skb nt tp (rlE nt tp i)) z f
      else (some i, i, z, f)
    else if (i < nt ∧ ¬ tp i = 10) ∨ (k = 1 ∧ z < 2) then (some i, i, z, f) else (none, i, z, f)
theorem rdL_y {n nt k d i z : Nat} {tp f : Nat → Nat} (h1 : i < nt ∧ (tp i = 43 ∨ tp i = 45)) (h2 : z < mo k ∧ rlO n nt tp i) (h3 : k = 1 ∨ ¬ thB f (rlt nt tp i) z = true) : rdL n nt tp k (d + 1) i z f = rdL n nt tp k d (skb nt tp (rlE nt tp i)) (z + 1) (fset f z (rlt nt tp i)) := by
  conv => lhs; unfold rdL
  rw [if_pos h1, if_pos (show z < mo k ∧ skb nt tp (i + 1) < den nt tp (skb nt tp (i + 1)) ∧ vl nt tp (skb nt tp (i + 1)) 0 < n from h2), if_pos h3]
theorem rdL_s {n nt k d i z : Nat} {tp f : Nat → Nat} (h1 : i < nt ∧ (tp i = 43 ∨ tp i = 45)) (h2 : z < mo k ∧ rlO n nt tp i) (h3 : ¬ (k = 1 ∨ ¬ thB f (rlt nt tp i) z = true)) : rdL n nt tp k (d + 1) i z f = rdL n nt tp k d (skb nt tp (rlE nt tp i)) z f := by
  conv => lhs; unfold rdL
  rw [if_pos h1, if_pos (show z < mo k ∧ skb nt tp (i + 1) < den nt tp (skb nt tp (i + 1)) ∧ vl nt tp (skb nt tp (i + 1)) 0 < n from h2), if_neg h3]
theorem rdL_f {n nt k d i z : Nat} {tp f : Nat → Nat} (h1 : i < nt ∧ (tp i = 43 ∨ tp i = 45)) (h2 : ¬ (z < mo k ∧ rlO n nt tp i)) : rdL n nt tp k (d + 1) i z f = (some i, i, z, f) := by
  unfold rdL
  rw [if_pos h1, if_neg (show ¬ (z < mo k ∧ skb nt tp (i + 1) < den nt tp (skb nt tp (i + 1)) ∧ vl nt tp (skb nt tp (i + 1)) 0 < n) from h2)]
theorem rdL_e {n nt k d i z : Nat} {tp f : Nat → Nat} (h1 : ¬ (i < nt ∧ (tp i = 43 ∨ tp i = 45))) (h2 : (i < nt ∧ ¬ tp i = 10) ∨ (k = 1 ∧ z < 2)) : rdL n nt tp k (d + 1) i z f = (some i, i, z, f) := by
  unfold rdL
  rw [if_neg h1, if_pos h2]
theorem rdL_d {n nt k d i z : Nat} {tp f : Nat → Nat} (h1 : ¬ (i < nt ∧ (tp i = 43 ∨ tp i = 45))) (h2 : ¬ ((i < nt ∧ ¬ tp i = 10) ∨ (k = 1 ∧ z < 2))) : rdL n nt tp k (d + 1) i z f = (none, i, z, f) := by
  unfold rdL
  rw [if_neg h1, if_neg h2]
/-- a line that was read well -/
def rdK (nt k : Nat) (r : Option Nat × Nat × Nat × (Nat → Nat)) : Prop := r.1 = none → r.2.1 ≤ nt ∧ (k = 1 → r.2.2.1 = 2)
theorem readLine_R {n nt j k : Nat} {tp : Nat → Nat} {B FK FZ0 FT0 : Nat → Int32} (hn : n ≤ 40) (hB : tpA nt tp B) (hj : j < 24) (hK : FK j = nI k) (hk : k ≤ 1) {C71 : Int32 → Int32 → Int32 → (Nat → Int32) → (Nat → Int32) → (Nat → Int32) → Int32 → Int32 → Prop} {post : Int32 → (Nat → Int32) → (Nat → Int32) → (Nat → Int32) → Int32 → Int32 → Prop} (h71 : ∀ (x2 x3 F_size : Int32) (F_kinds F_sizes F_literals : Nat → Int32) (T_place T_fault : Int32), s_T_readLine_71 (nI n) (nI nt) B C71 post x2 x3 F_size F_kinds F_sizes F_literals T_place T_fault → C71 x2 x3 F_size F_kinds F_sizes F_literals T_place T_fault) : ∀ d i r z f FZ FT, nt < i + d → i ≤ nt → r + 1 ≤ i → z ≤ mo k → lB1 n j z f FZ FT → low j FZ0 FT0 FZ FT → (∀ q FZ' FT' pl, pl ≤ nt → (rdL n nt tp k d i z f).1 = some q → q < nt + 1 → low j FZ0 FT0 FZ' FT' → post (nI (j + 1)) FK FZ' FT' (nI pl) (nI q)) → (∀ FZ' FT', (rdL n nt tp k d i z f).1 = none → (rdL n nt tp k d i z f).2.1 ≤ nt → (k = 1 → (rdL n nt tp k d i z f).2.2.1 = 2) → lB1 n j (rdL n nt tp k d i z f).2.2.1 (rdL n nt tp k d i z f).2.2.2 FZ' FT' → low j FZ0 FT0 FZ' FT' → post (nI (j + 1)) FK FZ' FT' (nI (rdL n nt tp k d i z f).2.1) (-1)) → C71 (nI j) (nI r) (nI (j + 1)) FK FZ FT (nI i) (-1) := by
  have h1 := hB.1
  have hm := mo_le k
  have cl := nI_clamp (by omega : j < 2 ^ 31)
  have vj : vp_in (nI j) 24 := vp_in_nI hj (by decide)
  intro d
  induction d with
  | zero => intro i r z f FZ FT a1 a2; omega
  | succ d ih =>
    intro i r z f FZ FT a1 a2 a3 a4 a5 a6 kf kd
    refine h71 _ _ _ _ _ _ _ _ ?_
    unfold s_T_readLine_71
    rw [nI_1]
    refine pk_le 1000 r (fun q => absurd q (by omega)) (fun _ => sign_R hB (by omega) (fun e => br_t rfl ?_) (fun e => br_f (by decide) (br_t rfl ?_)))
    · -- no sign: the line's end
      unfold s_T_readLine_104 wp_T_endLine
      refine br_t rfl ⟨vj, ?_⟩
      have fin : ∀ te : Bool, (te = true ↔ (k = 1 ∧ z < 2)) → s_T_endLine_29 FK FZ (nI nt) (nI i) B (nI j) (fun T_fault_114 => post (nI (j + 1)) FK FZ FT (nI i) T_fault_114) (bI te) (-1) := by
        intro te hte
        unfold s_T_endLine_29 s_T_endLine_50 s_T_endLine_55 s_T_endLine_64
        have bad : ((i < nt ∧ ¬ tp i = 10) ∨ (k = 1 ∧ z < 2)) → post (nI (j + 1)) FK FZ FT (nI i) (nI i) := fun q => kf i FZ FT i a2 (by rw [rdL_e e q]) (by omega) a6
        have good : ¬ ((i < nt ∧ ¬ tp i = 10) ∨ (k = 1 ∧ z < 2)) → post (nI (j + 1)) FK FZ FT (nI i) (-1) := by
          intro q
          rw [rdL_d e q] at kd
          refine kd FZ FT rfl a2 (fun e1 => ?_) a5 a6
          have : mo k = 2 := if_pos e1
          have : ¬ z < 2 := fun z2 => q (Or.inr ⟨e1, z2⟩)
          show z = 2
          omega
        cases te
        · have hne : ¬ (k = 1 ∧ z < 2) := fun q => absurd (hte.2 q) (by decide)
          refine pk_le nt i (fun q => br_t rfl (br_f (by decide) (good (fun w => w.elim (fun w => by omega) hne)))) (fun q => here_R hB (by omega) (fun w => absurd q w) (fun _ => ?_))
          have h2 := (hB.2 i q).2
          exact pk_eq (tp i) 10 (fun e10 => br_t rfl (br_f (by decide) (good (fun w => w.elim (fun w => w.2 e10) hne)))) (fun e10 => br_t rfl (br_t rfl (bad (Or.inl ⟨q, e10⟩))))
        · have hne := bad (Or.inr (hte.1 rfl))
          refine pk_le nt i (fun q => br_f (by decide) hne) (fun q => here_R hB (by omega) (fun w => absurd q w) (fun _ => ?_))
          have h2 := (hB.2 i q).2
          exact pk_eq (tp i) 10 (fun e10 => br_f (by decide) hne) (fun e10 => br_f (by decide) hne)
      rw [cl, hK]
      unfold s_T_endLine_28
      refine pk_eq k 1 (fun e1 => lineFull_R hj hK hk a5.1 a5.2.1 (fun q => br_t rfl (fin true ⟨fun _ => ⟨e1, ?_⟩, fun _ => rfl⟩)) (fun q => br_f (by decide) (fin false ⟨fun w => absurd w (by decide), fun w => ?_⟩))) (fun e1 => fin false ⟨fun w => absurd w (by decide), fun w => absurd w.1 e1⟩)
      · rw [if_pos e1] at q; exact q
      · rw [if_pos e1] at q; exact absurd w.2 q
    · -- a literal
      have b1 := skb_b (nt := nt) (tp := tp) (i + 1)
      have b2 := den_b (nt := nt) (tp := tp) (skb nt tp (i + 1))
      have b3 := skb_b (nt := nt) (tp := tp) (rlE nt tp i)
      have eE : rlE nt tp i = den nt tp (skb nt tp (i + 1)) := rfl
      have hpos : i + 1 ≤ skb nt tp (rlE nt tp i) := by omega
      have hpos2 : skb nt tp (rlE nt tp i) ≤ nt := b3.2.1 (by rw [eE]; exact b2.2 (b1.2.1 (by omega)))
      refine readLiteral_R (f := f) (z := z) (k := k) hn hB e.1 hj hK hk a5 (fun pl hpl q => ?_) (fun q1 q2 => ?_) (fun q1 q2 => ?_)
      · refine h71 _ _ _ _ _ _ _ _ ?_
        unfold s_T_readLine_71 s_T_readLine_104
        have ei := e.1
        have hne : ¬ nI i = -1 := nI_nm1 (by omega)
        have X := kf i FZ FT pl hpl (by rw [rdL_f e q]) (by omega) a6
        exact pk_le 1000 (r + 1) (fun q => absurd q (by omega)) (fun _ => sign_R hB (by omega) (fun _ => br_t rfl (br_f hne X)) (fun _ => br_f (by decide) (br_f hne (br_f hne X))))
      · rw [rdL_y e q1 q2] at kf kd
        have hz6 : z < 6 := Nat.lt_of_lt_of_le q1.1 hm
        have hlt : rlt nt tp i < 2 * n := by
          have h4 := q1.2.2
          have e2 : rlt nt tp i = 2 * vl nt tp (skb nt tp (i + 1)) 0 + if tp i = 45 then 1 else 0 := rfl
          rw [e2]
          split <;> omega
        exact ih _ (r + 1) (z + 1) _ _ _ (by omega) hpos2 (by omega) (by omega) (lB1_app a5 hz6 hlt) (low_app a6) kf kd
      · rw [rdL_s e q1 q2] at kf kd
        exact ih _ (r + 1) z _ _ _ (by omega) hpos2 (by omega) a4 a5 a6 kf kd
theorem readLine_M {n nt j k : Nat} {tp : Nat → Nat} {B FK FZ0 FT0 : Nat → Int32} (hn : n ≤ 40) (hB : tpA nt tp B) (hj : j < 24) (hK : FK j = nI k) (hk : k ≤ 1) {C5 : Int32 → Int32 → (Nat → Int32) → (Nat → Int32) → Prop} {post : Int32 → Int32 → (Nat → Int32) → (Nat → Int32) → Prop} (h5 : ∀ (x2 M_place : Int32) (M_counts M_literals : Nat → Int32), s_M_readLine_5 (nI n) (nI nt) FK B (nI j) C5 post x2 M_place M_counts M_literals → C5 x2 M_place M_counts M_literals) : ∀ d i z f FZ FT, nt < i + d → i ≤ nt → z ≤ mo k → lB1 n j z f FZ FT → low j FZ0 FT0 FZ FT → (∀ q FZ' FT' pl, pl ≤ nt → (rdL n nt tp k d i z f).1 = some q → q < nt + 1 → low j FZ0 FT0 FZ' FT' → post (nI q) (nI pl) FZ' FT') → (∀ FZ' FT', (rdL n nt tp k d i z f).1 = none → (rdL n nt tp k d i z f).2.1 ≤ nt → (k = 1 → (rdL n nt tp k d i z f).2.2.1 = 2) → lB1 n j (rdL n nt tp k d i z f).2.2.1 (rdL n nt tp k d i z f).2.2.2 FZ' FT' → low j FZ0 FT0 FZ' FT' → post (-1) (nI (rdL n nt tp k d i z f).2.1) FZ' FT') → (¬ i < nt → C5 (-1) (nI i) FZ FT) ∧ (i < nt → C5 (nI (tp i)) (nI i) FZ FT) := by
  have h1 := hB.1
  have hm := mo_le k
  have cl := nI_clamp (by omega : j < 2 ^ 31)
  have vj : vp_in (nI j) 24 := vp_in_nI hj (by decide)
  intro d
  induction d with
  | zero => intro i z f FZ FT a1 a2; omega
  | succ d ih =>
    intro i z f FZ FT a1 a2 a4 a5 a6 kf kd
    have b1 := skb_b (nt := nt) (tp := tp) (i + 1)
    have b2 := den_b (nt := nt) (tp := tp) (skb nt tp (i + 1))
    have b3 := skb_b (nt := nt) (tp := tp) (rlE nt tp i)
    have eE : rlE nt tp i = den nt tp (skb nt tp (i + 1)) := rfl
    -- the line's end
    have fin : ∀ en : Bool, (en = true ↔ (i < nt → tp i = 10)) → ¬ (i < nt ∧ (tp i = 43 ∨ tp i = 45)) → s_M_readLine_114 (nI n) (nI nt) FK B (nI j) C5 post (bI en) (nI i) FZ FT := by
      intro en hen e
      have bad : ((i < nt ∧ ¬ tp i = 10) ∨ (k = 1 ∧ z < 2)) → post (nI i) (nI i) FZ FT := fun q => kf i FZ FT i a2 (by rw [rdL_e e q]) (by omega) a6
      have good : ¬ ((i < nt ∧ ¬ tp i = 10) ∨ (k = 1 ∧ z < 2)) → post (-1) (nI i) FZ FT := by
        intro q
        rw [rdL_d e q] at kd
        refine kd FZ FT rfl a2 (fun e1 => ?_) a5 a6
        have : mo k = 2 := if_pos e1
        have : ¬ z < 2 := fun z2 => q (Or.inr ⟨e1, z2⟩)
        show z = 2
        omega
      unfold s_M_readLine_114
      rw [cl, hK, a5.1]
      cases en
      · refine br_t rfl (bad (Or.inl ?_))
        have : ¬ (i < nt → tp i = 10) := fun q => absurd (hen.2 q) (by decide)
        by_cases hi : i < nt
        · exact ⟨hi, fun q => this (fun _ => q)⟩
        · exact absurd (fun q => absurd q hi) this
      · have h10 := hen.1 rfl
        refine br_f (by decide) ⟨vj, pk_eq k 0 (fun e0 => good (fun q => q.elim (fun q => q.2 (h10 q.1)) (fun q => by omega))) (fun e0 => ⟨vj, ?_⟩)⟩
        have e1 : k = 1 := by omega
        have m2 : mo k = 2 := if_pos e1
        exact pk_eq z 2 (fun e2 => good (fun q => q.elim (fun q => q.2 (h10 q.1)) (fun q => by omega))) (fun e2 => bad (Or.inr ⟨e1, by omega⟩))
    refine ⟨fun hi => ?_, fun hi => ?_⟩
    · refine h5 _ _ _ _ ?_
      unfold s_M_readLine_5 s_M_readLine_109
      exact br_f (by decide) (br_f (by decide) (br_t rfl (fin true ⟨fun _ q => absurd q hi, fun _ => rfl⟩ (fun q => hi q.1))))
    · have h2 := (hB.2 i hi).2
      have hpos : i + 1 ≤ skb nt tp (rlE nt tp i) := by omega
      have hposE : rlE nt tp i ≤ nt := by rw [eE]; exact b2.2 (b1.2.1 (by omega))
      have hpos2 : skb nt tp (rlE nt tp i) ≤ nt := b3.2.1 hposE
      have lit : (tp i = 43 ∨ tp i = 45) → s_M_readLine_17 (nI n) (nI nt) FK B (nI j) C5 post (nI i) FZ FT := by
        intro e'
        have e : i < nt ∧ (tp i = 43 ∨ tp i = 45) := ⟨hi, e'⟩
        have body : s_M_readLine_37 (nI n) (nI nt) FK B (nI j) C5 post (nI (mo k)) (nI i) (nI i) FZ FT := by
          unfold s_M_readLine_37
          have bad : ¬ (z < mo k ∧ rlO n nt tp i) → post (nI i) (nI (rlE nt tp i)) FZ FT := fun q => kf i FZ FT _ hposE (by rw [rdL_f e q]) (by omega) a6
          refine readLiteral_M hn hB hi (fun q => br_t rfl (bad (fun w => q w.2))) (fun q => ?_)
          have hlt : rlt nt tp i < 2 * n := by
            have h4 := q.2
            have e2 : rlt nt tp i = 2 * vl nt tp (skb nt tp (i + 1)) 0 + if tp i = 45 then 1 else 0 := rfl
            rw [e2]
            split <;> omega
          refine br_f (nI_nm1 (by omega)) ⟨vj, ?_⟩
          rw [cl, a5.1, hK]
          refine pk_eq z (mo k) (fun ez => bad (fun w => by omega)) (fun ez => ⟨vj, ?_⟩)
          have q1 : z < mo k ∧ rlO n nt tp i := ⟨by omega, q⟩
          have hz6 : z < 6 := by omega
          have ap : (k = 1 ∨ ¬ thB f (rlt nt tp i) z = true) → s_M_readLine_83 (nI n) (nI nt) FK B (nI j) C5 post (nI (rlt nt tp i)) (nI (rlE nt tp i)) FZ FT := by
            intro q2
            unfold s_M_readLine_83 s_M_readLine_90
            rw [rdL_y e q1 q2] at kf kd
            have ih' := ih _ (z + 1) _ _ _ (by omega) hpos2 (by omega) (lB1_app a5 hz6 hlt) (low_app a6) kf kd
            exact add_M a5 hj hz6 (next_M hB hposE ih'.1 ih'.2)
          refine pk_eq k 0 (fun e0 => isThere_M a5 hn hj hlt (fun w => br_t rfl (ap (Or.inr (fun w2 => w ((thB_iff _ _ _).1 w2))))) (fun w => br_f (by decide) ?_)) (fun e0 => ap (Or.inl (by omega)))
          unfold s_M_readLine_90
          rw [rdL_s e q1 (fun w2 => w2.elim (fun w3 => by omega) (fun w3 => w3 ((thB_iff _ _ _).2 w)))] at kf kd
          have ih' := ih _ z _ _ _ (by omega) hpos2 a4 a5 a6 kf kd
          exact next_M hB hposE ih'.1 ih'.2
        unfold s_M_readLine_17
        rw [cl, hK]
        unfold mo at body
        refine ⟨vj, pk_eq k 0 (fun e0 => ?_) (fun e0 => ?_)⟩
        · rw [if_neg (by omega)] at body; exact body
        · rw [if_pos (by omega)] at body; exact body
      refine h5 _ _ _ _ ?_
      unfold s_M_readLine_5 s_M_readLine_109
      refine pk_eq (tp i) 43 (fun e => lit (Or.inl e)) (fun e => pk_eq (tp i) 45 (fun e2 => lit (Or.inr e2)) (fun e2 => br_f (nI_nm1 (by omega)) ?_))
      have hns : ¬ (i < nt ∧ (tp i = 43 ∨ tp i = 45)) := fun q => q.2.elim e e2
      exact pk_eq (tp i) 10 (fun e3 => fin true ⟨fun _ _ => e3, fun _ => rfl⟩ hns) (fun e3 => fin false ⟨fun q => absurd q (by decide), fun q => absurd (q hi) e3⟩ hns)
/-- what reading all lines comes to -/
def kdL (tp : Nat → Nat) (i : Nat) : Nat := if tp i = 61 then 1 else 0
def rdR (n nt : Nat) (tp : Nat → Nat) (i : Nat) : Option Nat × Nat × Nat × (Nat → Nat) := rdL n nt tp (kdL tp i) 1001 (skb nt tp (i + 1)) 0 (fun _ => 0)
def rdA (n nt : Nat) (tp : Nat → Nat) : Nat → Nat → Nat → (Nat → Nat) → (Nat → Nat) → (Nat → Nat → Nat) → Option Nat × Nat × (Nat → Nat) × (Nat → Nat) × (Nat → Nat → Nat)
  | 0, _, nl, lk, lz, lt => (none, nl, lk, lz, lt)
  | d + 1, i, nl, lk, lz, lt =>
    if i < nt then
      if (tp i = 99 ∨ tp i = 61) ∧ nl < 24 then
        if (rdR n nt tp i).1 = none then rdA n nt tp d (skl nt tp (rdR n nt tp i).2.1) (nl + 1) (fset lk nl (kdL tp i)) (fset lz nl (rdR n nt tp i).2.2.1) (fset lt nl (rdR n nt tp i).2.2.2)
        else ((rdR n nt tp i).1, nl, lk, lz, lt)
      else (some i, nl, lk, lz, lt)
    else (none, nl, lk, lz, lt)
theorem rdA_d {n nt d i nl : Nat} {tp lk lz : Nat → Nat} {lt : Nat → Nat → Nat} (h : ¬ i < nt) : rdA n nt tp (d + 1) i nl lk lz lt = (none, nl, lk, lz, lt) := by
  unfold rdA
  rw [if_neg h]
theorem rdA_f {n nt d i nl : Nat} {tp lk lz : Nat → Nat} {lt : Nat → Nat → Nat} (h : i < nt) (h2 : ¬ ((tp i = 99 ∨ tp i = 61) ∧ nl < 24)) : rdA n nt tp (d + 1) i nl lk lz lt = (some i, nl, lk, lz, lt) := by
  unfold rdA
  rw [if_pos h, if_neg h2]
theorem rdA_l {n nt d i nl : Nat} {tp lk lz : Nat → Nat} {lt : Nat → Nat → Nat} (h : i < nt) (h2 : (tp i = 99 ∨ tp i = 61) ∧ nl < 24) (h3 : (rdR n nt tp i).1 = none) : rdA n nt tp (d + 1) i nl lk lz lt = rdA n nt tp d (skl nt tp (rdR n nt tp i).2.1) (nl + 1) (fset lk nl (kdL tp i)) (fset lz nl (rdR n nt tp i).2.2.1) (fset lt nl (rdR n nt tp i).2.2.2) := by
  conv => lhs; unfold rdA
  rw [if_pos h, if_pos h2, if_pos h3]
theorem rdA_g {n nt d i nl q : Nat} {tp lk lz : Nat → Nat} {lt : Nat → Nat → Nat} (h : i < nt) (h2 : (tp i = 99 ∨ tp i = 61) ∧ nl < 24) (h3 : (rdR n nt tp i).1 = some q) : rdA n nt tp (d + 1) i nl lk lz lt = (some q, nl, lk, lz, lt) := by
  conv => lhs; unfold rdA
  rw [if_pos h, if_pos h2, if_neg (by rw [h3]; exact fun w => by cases w), h3]
theorem lA_low {n k j : Nat} {lk lz : Nat → Nat} {lt : Nat → Nat → Nat} {K Z T K' Z' T' : Nat → Int32} (h : lA n k lk lz lt K Z T) (hk : k ≤ j) (hK : ∀ q, q < j → K' q = K q) (hl : low j Z T Z' T') : lA n k lk lz lt K' Z' T' := by
  intro i hi
  obtain ⟨a1, a2, a3, a4, a5, a6⟩ := h i hi
  rw [hK i (by omega), hl.1 i (by omega)]
  exact ⟨a1, a2, a3, a4, a5, fun m hm => ⟨(hl.2 _ (by omega)).trans (a6 m hm).1, (a6 m hm).2⟩⟩
theorem kdL_le (tp : Nat → Nat) (i : Nat) : kdL tp i ≤ 1 := by unfold kdL; split <;> omega
theorem readAll_R {n nt nl0 : Nat} {tp : Nat → Nat} {lk0 lz0 : Nat → Nat} {lt0 : Nat → Nat → Nat} {B : Nat → Int32} (hn : n ≤ 40) (hB : tpA nt tp B) {C16 : Int32 → Int32 → (Nat → Int32) → (Nat → Int32) → (Nat → Int32) → Int32 → Int32 → Int32 → Prop} {post : Int32 → Int32 → (Nat → Int32) → (Nat → Int32) → (Nat → Int32) → Int32 → Int32 → Int32 → Prop} (h16 : ∀ (x1 F_size : Int32) (F_kinds F_sizes F_literals : Nat → Int32) (T_size T_place T_fault : Int32), s_T_readAll_16 (nI n) B C16 post x1 F_size F_kinds F_sizes F_literals T_size T_place T_fault → C16 x1 F_size F_kinds F_sizes F_literals T_size T_place T_fault) : ∀ d r i nl lk lz lt FK FZ FT, d + r = 25 → r ≤ nl → nl0 ≤ nl → nl ≤ 24 → i ≤ nt → lA n nl lk lz lt FK FZ FT → lA n nl0 lk0 lz0 lt0 FK FZ FT → (∀ q FS FK' FZ' FT' pl, (rdA n nt tp d i nl lk lz lt).1 = some q → q ≤ nt → lA n nl0 lk0 lz0 lt0 FK' FZ' FT' → post (nI q) FS FK' FZ' FT' 0 pl (nI q)) → (∀ FK' FZ' FT' pl, (rdA n nt tp d i nl lk lz lt).1 = none → (rdA n nt tp d i nl lk lz lt).2.1 ≤ 24 → lA n (rdA n nt tp d i nl lk lz lt).2.1 (rdA n nt tp d i nl lk lz lt).2.2.1 (rdA n nt tp d i nl lk lz lt).2.2.2.1 (rdA n nt tp d i nl lk lz lt).2.2.2.2 FK' FZ' FT' → post (-1) (nI (rdA n nt tp d i nl lk lz lt).2.1) FK' FZ' FT' 0 pl (-1)) → C16 (nI r) (nI nl) FK FZ FT (nI nt) (nI i) (-1) := by
  have h1 := hB.1
  intro d
  induction d with
  | zero => intro r i nl lk lz lt FK FZ FT a1 a2 a3 a4; omega
  | succ d ih =>
    intro r i nl lk lz lt FK FZ FT a1 a2 a3 a4 a5 a6 a7 kf kd
    refine h16 _ _ _ _ _ _ _ _ ?_
    unfold s_T_readAll_16 s_T_readAll_55
    rw [nI_1]
    refine pk_lt 24 r (fun q => absurd q (by omega)) (fun _ => pk_le nt i (fun q => ?_) (fun q => br_t rfl ?_))
    · rw [rdA_d (by omega)] at kd
      exact kd _ _ _ _ rfl a4 a6
    · have stop : ∀ q' FS FK' FZ' FT' (pl : Nat), pl ≤ nt → (rdA n nt tp (d + 1) i nl lk lz lt).1 = some q' → q' ≤ nt → lA n nl0 lk0 lz0 lt0 FK' FZ' FT' → wp_T_skipToLine (nI nt) (nI pl) B (fun T_place_46 => C16 (nI (r + 1)) FS FK' FZ' FT' (nI nt) T_place_46 (nI q')) := by
        intro q' FS FK' FZ' FT' pl hpl e1 e2 e3
        refine skipToLine_R hB hpl (h16 _ _ _ _ _ _ _ _ ?_)
        have X := fun pl => kf q' FS FK' FZ' FT' pl e1 e2 e3
        unfold s_T_readAll_16 s_T_readAll_55
        exact br_c (fun _ => X _) (fun _ => br_c (fun _ => X _) (fun _ => br_f (nI_nm1 (by omega)) (X _)))
      unfold wp_T_readLine
      intro C71 h71
      refine here_R hB (by omega) (fun w => absurd q w) (fun _ => ?_)
      have h2 := (hB.2 i q).2
      have nope : ¬ ((tp i = 99 ∨ tp i = 61) ∧ nl < 24) → s_T_readLine_27 (nI n) (nI nt) B C71 (fun F_size_42 F_kinds_42 F_sizes_42 F_literals_42 T_place_42 T_fault_42 => wp_T_skipToLine (nI nt) T_place_42 B (fun T_place_46 => C16 (nI (r + 1)) F_size_42 F_kinds_42 F_sizes_42 F_literals_42 (nI nt) T_place_46 T_fault_42)) (nI nl) FK FZ FT (nI i) (-1) := by
        intro w
        unfold s_T_readLine_27
        exact stop i _ _ _ _ i a5 (by rw [rdA_f q w]) a5 a7
      have line : ∀ k, k = kdL tp i → (tp i = 99 ∨ tp i = 61) ∧ nl < 24 → s_T_readLine_51 (nI n) (nI nt) B C71 (fun F_size_42 F_kinds_42 F_sizes_42 F_literals_42 T_place_42 T_fault_42 => wp_T_skipToLine (nI nt) T_place_42 B (fun T_place_46 => C16 (nI (r + 1)) F_size_42 F_kinds_42 F_sizes_42 F_literals_42 (nI nt) T_place_46 T_fault_42)) (nI k) (nI nl) FK FZ FT (nI i) (-1) := by
        intro k ek w
        have hk1 : k ≤ 1 := by rw [ek]; exact kdL_le _ _
        unfold s_T_readLine_51
        refine add_R a6 w.2 (fun FK1 FZ1 c1 c2 c3 c4 => ?_)
        rw [nI_1]
        refine skipBlanks_R hB (by omega) ?_
        have b1 := skb_b (nt := nt) (tp := tp) (i + 1)
        have lo1 : low nl FZ FT FZ1 FT := ⟨c4, fun _ _ => rfl⟩
        have eR : rdR n nt tp i = rdL n nt tp k 1001 (skb nt tp (i + 1)) 0 (fun _ => 0) := by rw [ek]; rfl
        refine readLine_R (FZ0 := FZ) (FT0 := FT) hn hB w.2 c1 hk1 h71 1001 (skb nt tp (i + 1)) 0 0 (fun _ => 0) FZ1 FT (by omega) (b1.2.1 (by omega)) (by omega) (Nat.zero_le _) ⟨c2, by decide, fun i hi => absurd hi (Nat.not_lt_zero _)⟩ lo1 (fun q' FZ' FT' pl p0 p1 p2 p3 => ?_) (fun FZ' FT' p1 p2 p3 p4 p5 => ?_)
        · rw [← eR] at p1
          exact stop q' _ _ _ _ pl p0 (by rw [rdA_g q w p1]) (by omega) (lA_low a7 a3 c3 p3)
        · rw [← eR] at p1 p2 p3 p4 ⊢
          rw [rdA_l q w p1] at kf kd
          refine skipToLine_R hB p2 ?_
          refine ih (r + 1) _ (nl + 1) _ _ _ FK1 FZ' FT' (by omega) (by omega) (by omega) (by omega) ((skl_b _).2.1 p2) ?_ (lA_low a7 a3 c3 p5) kf kd
          have hk0 : kdL tp i = k := ek.symm
          rw [hk0]
          exact lA_put a6 k _ _ c1 hk1 p4.1 p4.2.1 p3 p4.2.2 c3 p5.1 p5.2
      have go : (tp i = 99 ∨ tp i = 61) → s_T_readLine_17 (nI n) (nI nt) B C71 (fun F_size_42 F_kinds_42 F_sizes_42 F_literals_42 T_place_42 T_fault_42 => wp_T_skipToLine (nI nt) T_place_42 B (fun T_place_46 => C16 (nI (r + 1)) F_size_42 F_kinds_42 F_sizes_42 F_literals_42 (nI nt) T_place_46 T_fault_42)) (nI (tp i)) (nI nl) FK FZ FT (nI i) (-1) := by
        intro w
        unfold s_T_readLine_17
        refine full_R a4 (fun w2 => br_t rfl (pk_eq (tp i) 61 (fun e => ?_) (fun e => ?_))) (fun w2 => br_f (by decide) (nope (fun w3 => w2 w3.2)))
        · exact line 1 (by unfold kdL; rw [if_pos e]) ⟨w, w2⟩
        · exact line 0 (by unfold kdL; rw [if_neg e]) ⟨w, w2⟩
      exact pk_eq (tp i) 99 (fun e => go (Or.inl e)) (fun e => pk_eq (tp i) 61 (fun e2 => go (Or.inr e2)) (fun e2 => nope (fun w => w.1.elim e e2)))
theorem read_P {n nt nl : Nat} {tp : Nat → Nat} {lk lz : Nat → Nat} {lt : Nat → Nat → Nat} {B FK FZ FT : Nat → Int32} (hn : n ≤ 40) (hB : tpA nt tp B) (hk : nl ≤ 24) (hl : lA n nl lk lz lt FK FZ FT) {tpl tfl : Int32} {post : Int32 → Int32 → (Nat → Int32) → (Nat → Int32) → (Nat → Int32) → Int32 → Int32 → Int32 → Prop} (kf : ∀ q FK' FZ' FT' pl fl, (rdA n nt tp 25 (skl nt tp 0) nl lk lz lt).1 = some q → q ≤ nt → lA n nl lk lz lt FK' FZ' FT' → post ((-1) - nI q) (nI nl) FK' FZ' FT' 0 pl fl) (kd : ∀ FK' FZ' FT' pl fl, (rdA n nt tp 25 (skl nt tp 0) nl lk lz lt).1 = none → (rdA n nt tp 25 (skl nt tp 0) nl lk lz lt).2.1 ≤ 24 → lA n (rdA n nt tp 25 (skl nt tp 0) nl lk lz lt).2.1 (rdA n nt tp 25 (skl nt tp 0) nl lk lz lt).2.2.1 (rdA n nt tp 25 (skl nt tp 0) nl lk lz lt).2.2.2.1 (rdA n nt tp 25 (skl nt tp 0) nl lk lz lt).2.2.2.2 FK' FZ' FT' → post (nI (rdA n nt tp 25 (skl nt tp 0) nl lk lz lt).2.1) (nI (rdA n nt tp 25 (skl nt tp 0) nl lk lz lt).2.1) FK' FZ' FT' 0 pl fl) : wp_P_read (nI n) (nI nl) FK FZ FT (nI nt) tpl tfl B post := by
  have h1 := hB.1
  unfold wp_P_read wp_T_readAll
  intro C16 h16
  refine skipToLine_R (i := 0) hB (Nat.zero_le _) ?_
  refine readAll_R (nl0 := nl) (lk0 := lk) (lz0 := lz) (lt0 := lt) hn hB h16 25 0 (skl nt tp 0) nl lk lz lt FK FZ FT (by decide) (Nat.zero_le _) (Nat.le_refl _) hk ((skl_b 0).2.1 (Nat.zero_le _)) hl hl (fun q FS FK' FZ' FT' pl p1 p2 p3 => br_f (nI_nm1 (by omega)) (kf q FK' FZ' FT' pl _ p1 p2 p3)) (fun FK' FZ' FT' pl p1 p2 p3 => br_t rfl (kd FK' FZ' FT' pl _ p1 p2 p3))
theorem up_strong {nt : Nat} {P : Nat → Prop} (h : ∀ i, i ≤ nt → (∀ i', i < i' → i' ≤ nt → P i') → P i) : ∀ i, i ≤ nt → P i := by
  have : ∀ d i, nt - i ≤ d → i ≤ nt → P i := by
    intro d
    induction d with
    | zero => exact fun i hi hn => h i hn (fun i' a b => by omega)
    | succ d ih => exact fun i hi hn => h i hn (fun i' a b => ih i' (by omega) b)
  exact fun i hn => this (nt - i) i (Nat.le_refl _) hn
theorem readAll_M {n nt nl0 : Nat} {tp : Nat → Nat} {lk0 lz0 : Nat → Nat} {lt0 : Nat → Nat → Nat} {B : Nat → Int32} (hn : n ≤ 40) (hB : tpA nt tp B) {C17 : Int32 → Int32 → Int32 → Int32 → Int32 → Int32 → (Nat → Int32) → (Nat → Int32) → (Nat → Int32) → Prop} {post : Int32 → Int32 → Int32 → Int32 → Int32 → (Nat → Int32) → (Nat → Int32) → (Nat → Int32) → Prop} (h17 : ∀ (x1 x2 M_thrown M_lines M_tapeSize M_place : Int32) (M_equals M_counts M_literals : Nat → Int32), s_M_read_17 (nI n) B C17 post x1 x2 M_thrown M_lines M_tapeSize M_place M_equals M_counts M_literals → C17 x1 x2 M_thrown M_lines M_tapeSize M_place M_equals M_counts M_literals) : ∀ d i nl lk lz lt FK FZ FT, 24 < nl + d → nl0 ≤ nl → nl ≤ 24 → i ≤ nt → lA n nl lk lz lt FK FZ FT → lA n nl0 lk0 lz0 lt0 FK FZ FT → (∀ q FK' FZ' FT' pl, (rdA n nt tp d (skl nt tp i) nl lk lz lt).1 = some q → q ≤ nt → lA n nl0 lk0 lz0 lt0 FK' FZ' FT' → post ((-1) - nI q) 0 (nI nl0) 0 pl FK' FZ' FT') → (∀ FK' FZ' FT' pl, (rdA n nt tp d (skl nt tp i) nl lk lz lt).1 = none → (rdA n nt tp d (skl nt tp i) nl lk lz lt).2.1 ≤ 24 → lA n (rdA n nt tp d (skl nt tp i) nl lk lz lt).2.1 (rdA n nt tp d (skl nt tp i) nl lk lz lt).2.2.1 (rdA n nt tp d (skl nt tp i) nl lk lz lt).2.2.2.1 (rdA n nt tp d (skl nt tp i) nl lk lz lt).2.2.2.2 FK' FZ' FT' → post (nI (rdA n nt tp d (skl nt tp i) nl lk lz lt).2.1) 0 (nI (rdA n nt tp d (skl nt tp i) nl lk lz lt).2.1) 0 pl FK' FZ' FT') → C17 (nI nl0) (-1) 0 (nI nl) (nI nt) (nI i) FK FZ FT := by
  have h1 := hB.1
  -- a fault ends it
  have stop : ∀ q (FS pl : Int32) FK' FZ' FT', q ≤ nt → (∀ pl, post ((-1) - nI q) 0 (nI nl0) 0 pl FK' FZ' FT') → C17 (nI nl0) (nI q) 0 FS (nI nt) pl FK' FZ' FT' := by
    intro q FS pl FK' FZ' FT' hq X
    refine h17 _ _ _ _ _ _ _ _ _ ?_
    unfold s_M_read_17 s_M_read_151
    exact br_t (nI_pos' (by omega)) (br_f (nI_pos (by omega)) (X _))
  intro d
  induction d with
  | zero => intro i nl lk lz lt FK FZ FT a1 a2 a3; omega
  | succ d ih =>
    intro i nl lk lz lt FK FZ FT a1 a3 a4 a5 a6 a7 kf kd
    have go : ∀ i, i ≤ nt → (∀ q FK' FZ' FT' pl, (rdA n nt tp (d + 1) (skl nt tp i) nl lk lz lt).1 = some q → q ≤ nt → lA n nl0 lk0 lz0 lt0 FK' FZ' FT' → post ((-1) - nI q) 0 (nI nl0) 0 pl FK' FZ' FT') → (∀ FK' FZ' FT' pl, (rdA n nt tp (d + 1) (skl nt tp i) nl lk lz lt).1 = none → (rdA n nt tp (d + 1) (skl nt tp i) nl lk lz lt).2.1 ≤ 24 → lA n (rdA n nt tp (d + 1) (skl nt tp i) nl lk lz lt).2.1 (rdA n nt tp (d + 1) (skl nt tp i) nl lk lz lt).2.2.1 (rdA n nt tp (d + 1) (skl nt tp i) nl lk lz lt).2.2.2.1 (rdA n nt tp (d + 1) (skl nt tp i) nl lk lz lt).2.2.2.2 FK' FZ' FT' → post (nI (rdA n nt tp (d + 1) (skl nt tp i) nl lk lz lt).2.1) 0 (nI (rdA n nt tp (d + 1) (skl nt tp i) nl lk lz lt).2.1) 0 pl FK' FZ' FT') → C17 (nI nl0) (-1) 0 (nI nl) (nI nt) (nI i) FK FZ FT := by
      refine up_strong ?_
      intro i a5 ihi kf kd
      have b0 := skb_b (nt := nt) (tp := tp) i
      rw [skl_skb i] at kf kd
      refine h17 _ _ _ _ _ _ _ _ _ ?_
      unfold s_M_read_17 s_M_read_148 s_M_read_151
      refine br_f (by decide) (next_M hB a5 (fun q => br_t rfl ?_) (fun q => ?_))
      · rw [skl_n (fun w => q w.1), rdA_d q] at kd
        exact br_t (by decide) (kd _ _ _ _ rfl a4 a6)
      · have b0' := b0.1
        have b0n := b0.2.2
        generalize skb nt tp i = i1 at *
        have h2 := (hB.2 i1 q).2
        refine br_f (nI_nm1 (by omega)) ⟨vp_in_nI (by omega) (by decide), ?_⟩
        rw [nI_clamp (by omega : i1 < 2 ^ 31), (hB.2 i1 q).1, nI_1]
        refine pk_eq (tp i1) 10 (fun e10 => ?_) (fun e10 => ?_)
        · rw [skl_y ⟨q, Or.inl e10⟩] at kf kd
          exact ihi (i1 + 1) (by omega) (by omega) kf kd
        · rw [skl_n (fun w => w.2.elim e10 (fun w2 => b0n ⟨q, w2⟩))] at kf kd
          have nope : ¬ ((tp i1 = 99 ∨ tp i1 = 61) ∧ nl < 24) → s_M_read_79 (nI n) B C17 post (nI nl0) 0 (nI nl) (nI nt) (nI i1) FK FZ FT := by
            intro w
            unfold s_M_read_79 s_M_read_148
            exact stop i1 _ _ _ _ _ (by omega) (fun pl => kf i1 _ _ _ _ (by rw [rdA_f q w]) (by omega) a7)
          have go2 : (tp i1 = 99 ∨ tp i1 = 61) → s_M_read_70 (nI n) B C17 post (nI nl0) (nI (tp i1)) 0 (nI nl) (nI nt) (nI i1) FK FZ FT := by
            intro w
            unfold s_M_read_70
            refine pk_eq nl 24 (fun e => nope (fun w2 => by omega)) (fun e => ?_)
            have w' : (tp i1 = 99 ∨ tp i1 = 61) ∧ nl < 24 := ⟨w, by omega⟩
            have line : ∀ (k : Nat) (s0 : Int32), k = kdL tp i1 → vp_nar .boolean s0 = nI k → s_M_read_116 (nI n) B C17 post s0 (nI nl) (nI nl0) 0 (nI nl) (nI nt) (nI i1 + 1) FK FZ FT := by
              intro k s0 ek es
              have hk1 : k ≤ 1 := by rw [ek]; exact kdL_le _ _
              have vl' : vp_in (nI nl) 24 := vp_in_nI w'.2 (by decide)
              unfold s_M_read_116 s_M_read_148
              rw [es, nI_1, nI_1, nI_pred, nI_clamp (by omega : nl < 2 ^ 31)]
              refine ⟨vl', vl', ?_⟩
              unfold wp_M_readLine
              intro C5 h5
              have b1 := skb_b (nt := nt) (tp := tp) (i1 + 1)
              have c3 : ∀ j, j < nl → upd FK nl (nI k) j = FK j := fun j hj => pk_un (by omega)
              have lo1 : low nl FZ FT (upd FZ nl 0) FT := ⟨fun j hj => pk_un (by omega), fun _ _ => rfl⟩
              have eR : rdR n nt tp i1 = rdL n nt tp k 1001 (skb nt tp (i1 + 1)) 0 (fun _ => 0) := by rw [ek]; rfl
              have X := readLine_M (FZ0 := FZ) (FT0 := FT) (FK := upd FK nl (nI k)) hn hB w'.2 pk_us hk1 h5 1001 (skb nt tp (i1 + 1)) 0 (fun _ => 0) (upd FZ nl 0) FT (by omega) (b1.2.1 (by omega)) (Nat.zero_le _) ⟨pk_us, by decide, fun i hi => absurd hi (Nat.not_lt_zero _)⟩ lo1 (fun q' FZ' FT' pl p0 p1 p2 p3 => by
                  rw [← eR] at p1
                  exact stop q' _ _ _ _ _ (by omega) (fun pl => kf q' _ _ _ _ (by rw [rdA_g q w' p1]) (by omega) (lA_low a7 a3 c3 p3))) (fun FZ' FT' p1 p2 p3 p4 p5 => by
                  rw [← eR] at p1 p2 p3 p4 ⊢
                  rw [rdA_l q w' p1] at kf kd
                  refine ih _ (nl + 1) _ _ _ _ FZ' FT' (by omega) (by omega) (by omega) p2 ?_ (lA_low a7 a3 c3 p5) kf kd
                  have hk0 : kdL tp i1 = k := ek.symm
                  rw [hk0]
                  exact lA_put a6 k _ _ pk_us hk1 p4.1 p4.2.1 p3 p4.2.2 c3 p5.1 p5.2)
              exact next_M hB (by omega) X.1 X.2
            refine pk_eq (tp i1) 61 (fun e2 => ?_) (fun e2 => ?_)
            · exact line 1 1 (by unfold kdL; rw [if_pos e2]) rfl
            · exact line 0 0 (by unfold kdL; rw [if_neg e2]) rfl
          exact pk_eq (tp i1) 99 (fun e => go2 (Or.inl e)) (fun e => pk_eq (tp i1) 61 (fun e2 => go2 (Or.inr e2)) (fun e2 => nope (fun w => w.1.elim e e2)))
    exact go i a5 kf kd
theorem read_M {n nt nl : Nat} {tp : Nat → Nat} {lk lz : Nat → Nat} {lt : Nat → Nat → Nat} {B FK FZ FT : Nat → Int32} (hn : n ≤ 40) (hB : tpA nt tp B) (hk : nl ≤ 24) (hl : lA n nl lk lz lt FK FZ FT) {th tpl : Int32} {post : Int32 → Int32 → Int32 → Int32 → Int32 → (Nat → Int32) → (Nat → Int32) → (Nat → Int32) → Prop} (kf : ∀ q FK' FZ' FT' pl, (rdA n nt tp 25 (skl nt tp 0) nl lk lz lt).1 = some q → q ≤ nt → lA n nl lk lz lt FK' FZ' FT' → post ((-1) - nI q) 0 (nI nl) 0 pl FK' FZ' FT') (kd : ∀ FK' FZ' FT' pl, (rdA n nt tp 25 (skl nt tp 0) nl lk lz lt).1 = none → (rdA n nt tp 25 (skl nt tp 0) nl lk lz lt).2.1 ≤ 24 → lA n (rdA n nt tp 25 (skl nt tp 0) nl lk lz lt).2.1 (rdA n nt tp 25 (skl nt tp 0) nl lk lz lt).2.2.1 (rdA n nt tp 25 (skl nt tp 0) nl lk lz lt).2.2.2.1 (rdA n nt tp 25 (skl nt tp 0) nl lk lz lt).2.2.2.2 FK' FZ' FT' → post (nI (rdA n nt tp 25 (skl nt tp 0) nl lk lz lt).2.1) 0 (nI (rdA n nt tp 25 (skl nt tp 0) nl lk lz lt).2.1) 0 pl FK' FZ' FT') : wp_M_read th (nI n) (nI nl) (nI nt) tpl FK FZ FT B post := by
  unfold wp_M_read
  intro C17 h17
  exact readAll_M (nl0 := nl) (lk0 := lk) (lz0 := lz) (lt0 := lt) hn hB h17 25 0 nl lk lz lt FK FZ FT (by omega) (Nat.le_refl _) hk (Nat.zero_le _) hl hl kf kd
theorem byte_R (x : Int32) : ∃ b, b < 256 ∧ x &&& 255 = nI b := pk_andE x 8 (by decide)
theorem tpA_app {nt b : Nat} {tp : Nat → Nat} {B : Nat → Int32} (h : tpA nt tp B) (hn : nt < 1000) (hb : b < 256) : tpA (nt + 1) (fset tp nt b) (upd B nt (nI b)) := by
  refine ⟨by omega, fun i hi => ?_⟩
  by_cases e : i = nt
  · subst e; rw [pk_us, fset_s]; exact ⟨rfl, hb⟩
  · rw [pk_un e, fset_n e]; exact h.2 i (by omega)
theorem unit_P {nt : Nat} {tp : Nat → Nat} {B : Nat → Int32} (hB : tpA nt tp B) {p : Int32} {post : Int32 → Int32 → (Nat → Int32) → Prop} (k0 : ¬ nt < 1000 → post 0 (nI nt) B) (k1 : nt < 1000 → post 1 (nI (nt + 1)) (upd B nt (p &&& 255))) : wp_P_unit (nI nt) B p post := by
  have h1 := hB.1
  unfold wp_P_unit wp_T_append
  rw [nI_1, nI_clamp (by omega : nt < 2 ^ 31)]
  exact pk_lt nt 1000 (fun q => ⟨vp_in_nI q (by decide), isB_1, k1 q⟩) (fun q => ⟨isB_0, k0 (by omega)⟩)
theorem unit_M {nt : Nat} {tp : Nat → Nat} {B : Nat → Int32} (hB : tpA nt tp B) {th p : Int32} {post : Int32 → Int32 → Int32 → (Nat → Int32) → Prop} (k0 : ¬ nt < 1000 → post 0 0 (nI nt) B) (k1 : nt < 1000 → post 1 0 (nI (nt + 1)) (upd B nt (p &&& 255))) : wp_M_unit th (nI nt) B p post := by
  have h1 := hB.1
  unfold wp_M_unit s_M_unit_20
  rw [nI_1, nI_clamp (by omega : nt < 2 ^ 31)]
  exact pk_le 1000 nt (fun q => br_t rfl ⟨isB_0, k0 (by omega)⟩) (fun q => br_f (by decide) ⟨vp_in_nI q (by decide), isB_1, k1 q⟩)
