/-! Unit steps as mathematics: what comes of assumed literals, and when that is a conflict. -/
/-- literal l is b by S -/
def dl (S : Nat → Bool → Prop) (l : Nat) (b : Bool) : Prop := S (l / 2) (b ^^ decide (l % 2 = 1))
/-- what an and, an either asks of S -/
def dAnd (S : Nat → Bool → Prop) (g a b : Nat) : Prop :=
  (dl S a false → S g false) ∧ (dl S b false → S g false) ∧ (dl S a true → dl S b true → S g true) ∧ (S g true → dl S a true) ∧ (S g true → dl S b true) ∧ (S g false → dl S a true → dl S b false) ∧ (S g false → dl S b true → dl S a false)
def dXor (S : Nat → Bool → Prop) (g a b : Nat) : Prop :=
  (∀ x y, dl S a x → dl S b y → S g (x ^^ y)) ∧ (∀ x y, S g x → dl S a y → dl S b (x ^^ y)) ∧ (∀ x y, S g x → dl S b y → dl S a (x ^^ y))
def dEq (S : Nat → Bool → Prop) (a b : Nat) : Prop := (∀ x, dl S a x → dl S b x) ∧ (∀ x, dl S b x → dl S a x)
def dCl (S : Nat → Bool → Prop) (z : Nat) (t : Nat → Nat) : Prop := ∀ i, i < z → (∀ j, j < z → j ≠ i → dl S (t j) false) → dl S (t i) true
/-- a set of told gates that is closed under all steps -/
def dClo (n : Nat) (kd ga gb : Nat → Nat) (us : Nat → Prop) (lk lz : Nat → Nat) (lt : Nat → Nat → Nat) (asm : Nat → Prop) (S : Nat → Bool → Prop) : Prop :=
  S 0 false ∧ (∀ l, asm l → dl S l true) ∧ (∀ g, 0 < g → g < n → kd g = 1 → dAnd S g (ga g) (gb g)) ∧ (∀ g, 0 < g → g < n → kd g = 2 → dXor S g (ga g) (gb g)) ∧
  (∀ j, us j → lk j = 1 → dEq S (lt j 0) (lt j 1)) ∧ (∀ j, us j → lk j = 0 → dCl S (lz j) (lt j))
def Der (n : Nat) (kd ga gb : Nat → Nat) (us : Nat → Prop) (lk lz : Nat → Nat) (lt : Nat → Nat → Nat) (asm : Nat → Prop) (g : Nat) (b : Bool) : Prop := ∀ S, dClo n kd ga gb us lk lz lt asm S → S g b
def Conf (n : Nat) (kd ga gb : Nat → Nat) (us : Nat → Prop) (lk lz : Nat → Nat) (lt : Nat → Nat → Nat) (asm : Nat → Prop) : Prop :=
  (∃ g, Der n kd ga gb us lk lz lt asm g true ∧ Der n kd ga gb us lk lz lt asm g false) ∨ ∃ j, us j ∧ lk j = 0 ∧ ∀ i, i < lz j → dl (Der n kd ga gb us lk lz lt asm) (lt j i) false
theorem der_clo (n : Nat) (kd ga gb : Nat → Nat) (us : Nat → Prop) (lk lz : Nat → Nat) (lt : Nat → Nat → Nat) (asm : Nat → Prop) : dClo n kd ga gb us lk lz lt asm (Der n kd ga gb us lk lz lt asm) := by
  have up : ∀ {l b S}, dClo n kd ga gb us lk lz lt asm S → dl (Der n kd ga gb us lk lz lt asm) l b → dl S l b := fun hS h => h _ hS
  refine ⟨fun S h => h.1, fun l hl S h => h.2.1 l hl, fun g h0 hn hk => ⟨?_, ?_, ?_, ?_, ?_, ?_, ?_⟩, fun g h0 hn hk => ⟨?_, ?_, ?_⟩, fun j hj hk => ⟨?_, ?_⟩, fun j hj hk i hi hc => ?_⟩
  · intro a S h; exact (h.2.2.1 g h0 hn hk).1 (up h a)
  · intro a S h; exact (h.2.2.1 g h0 hn hk).2.1 (up h a)
  · intro a b S h; exact (h.2.2.1 g h0 hn hk).2.2.1 (up h a) (up h b)
  · intro a S h; exact (h.2.2.1 g h0 hn hk).2.2.2.1 (a S h)
  · intro a S h; exact (h.2.2.1 g h0 hn hk).2.2.2.2.1 (a S h)
  · intro a b S h; exact (h.2.2.1 g h0 hn hk).2.2.2.2.2.1 (a S h) (up h b)
  · intro a b S h; exact (h.2.2.1 g h0 hn hk).2.2.2.2.2.2 (a S h) (up h b)
  · intro x y a b S h; exact (h.2.2.2.1 g h0 hn hk).1 x y (up h a) (up h b)
  · intro x y a b S h; exact (h.2.2.2.1 g h0 hn hk).2.1 x y (a S h) (up h b)
  · intro x y a b S h; exact (h.2.2.2.1 g h0 hn hk).2.2 x y (a S h) (up h b)
  · intro x a S h; exact (h.2.2.2.2.1 j hj hk).1 x (up h a)
  · intro x a S h; exact (h.2.2.2.2.1 j hj hk).2 x (up h a)
  · intro S h; exact h.2.2.2.2.2 j hj hk i hi (fun j' h1 h2 => up h (hc j' h1 h2))
/-- a set of told gates that is sound, a function, closed, and has no clause all false: it is what comes, and there is no conflict -/
theorem der_done {n : Nat} {kd ga gb : Nat → Nat} {us : Nat → Prop} {lk lz : Nat → Nat} {lt : Nat → Nat → Nat} {asm : Nat → Prop} {S : Nat → Bool → Prop} (hs : ∀ g b, S g b → Der n kd ga gb us lk lz lt asm g b) (hfun : ∀ g, S g true → S g false → False) (hc : dClo n kd ga gb us lk lz lt asm S) (hf : ∀ j, us j → lk j = 0 → ∃ i, i < lz j ∧ ¬ dl S (lt j i) false) :
    (∀ g b, Der n kd ga gb us lk lz lt asm g b ↔ S g b) ∧ ¬ Conf n kd ga gb us lk lz lt asm := by
  have e : ∀ g b, Der n kd ga gb us lk lz lt asm g b ↔ S g b := fun g b => ⟨fun h => h _ hc, hs g b⟩
  refine ⟨e, ?_⟩
  rintro (⟨g, h1, h2⟩ | ⟨j, hj, hk, hall⟩)
  · exact hfun g ((e g true).1 h1) ((e g false).1 h2)
  · obtain ⟨i, hi, hn⟩ := hf j hj hk
    exact hn ((e _ _).1 (hall i hi))
