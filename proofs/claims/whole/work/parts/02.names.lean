def R_P : String := "ProofLines"
def R_G : String := "ProofLines$Gates"
def R_F : String := "ProofLines$Proof"
def R_U : String := "ProofLines$UnitSteps"
def R_T : String := "ProofLines$Tape"
def R_X : String := "ProofLines$Text"
def R_M : String := "ProofLinesModel"
def R_A : String := "java/util/Arrays"
def R_L : String := "ProofLinesLaw"
def gw : List Cond := lw_tbl.filter goodWord
theorem gmem {w : Cond} (i : Nat) (h : tables_1[i]? = some w) (hg : goodWord w = true) : w ∈ gw := List.mem_filter.mpr ⟨List.mem_append_right _ (List.mem_of_getElem? h), hg⟩
theorem gmemS {w : Cond} (i : Nat) (h : (k2_sels lw_privs)[i]? = some w) (hg : goodWord w = true) : w ∈ gw := List.mem_filter.mpr ⟨List.mem_append_left _ (List.mem_of_getElem? h), hg⟩
theorem gw_good {w : Cond} (h : w ∈ gw) : (w.onTables && w.keeps) = true ∨ ∃ ty, w = .arrayClass ty := good_of_word (List.mem_filter.mp h).2
theorem gin {a b : Cond} (hb : b ∈ gw) : GoodIn (a :: gw) (b :: gw) := fun w h => (List.mem_cons.mp h).elim (fun e => by rw [e]; exact ⟨List.mem_cons_of_mem _ hb, gw_good hb⟩) (fun h => ⟨List.mem_cons_of_mem _ h, gw_good h⟩)
theorem ginV {a b : Cond} {own C : String} {idx : Nat} {y : MethodName} (h1 : Cond.methodLink own idx y ∈ gw) (h2 : Cond.instanceMethod y ∈ gw) (h3 : Cond.selects C y y ∈ gw) (h4 : Cond.initialized C ∈ gw) (hb : b ∈ gw) : GoodIn (a :: gw) (wsV own idx C y (b :: gw)) := by
  intro w h
  rcases List.mem_append.mp h with h | h
  · have e : ∀ {v : Cond}, v ∈ gw → w = v → w ∈ a :: gw ∧ ((w.onTables && w.keeps) = true ∨ ∃ ty, w = .arrayClass ty) := fun hv e => by rw [e]; exact ⟨List.mem_cons_of_mem _ hv, gw_good hv⟩
    rcases List.mem_cons.mp h with h | h
    · exact e h1 h
    · rcases List.mem_cons.mp h with h | h
      · exact e h2 h
      · rcases List.mem_cons.mp h with h | h
        · exact e h3 h
        · exact e h4 (List.mem_singleton.mp h)
  · exact gin hb w h
theorem ginS {a b : Cond} {own : String} {idx : Nat} {y : MethodName} (h1 : Cond.methodLink own idx y ∈ gw) (h2 : Cond.static y ∈ gw) (h4 : Cond.initialized y.cls ∈ gw) (hb : b ∈ gw) : GoodIn (a :: gw) (va_wsS own idx y (b :: gw)) := by
  intro w h
  rcases List.mem_append.mp h with h | h
  · have e : ∀ {v : Cond}, v ∈ gw → w = v → w ∈ a :: gw ∧ ((w.onTables && w.keeps) = true ∨ ∃ ty, w = .arrayClass ty) := fun hv e => by rw [e]; exact ⟨List.mem_cons_of_mem _ hv, gw_good hv⟩
    rcases List.mem_cons.mp h with h | h
    · exact e h1 h
    · rcases List.mem_cons.mp h with h | h
      · exact e h2 h
      · exact e h4 (List.mem_singleton.mp h)
  · exact gin hb w h
def isNest (w : Cond) : Bool := match w with
  | .fieldLinkNest _ _ _ _ _ _ => true
  | .methodLinkNest _ _ _ _ => true
  | .castable _ _ => true
  | .declares _ => true
  | _ => false
def nestWs : List Cond := tables_1.filter isNest
theorem nmem {w : Cond} (i : Nat) (h : tables_1[i]? = some w) (hn : isNest w = true) : w ∈ nestWs := List.mem_filter.mpr ⟨List.mem_of_getElem? h, hn⟩
theorem nest_tab (w : Cond) (hw : w ∈ nestWs) : w.onTables = true := by
  have h := (List.mem_filter.mp hw).2
  unfold isNest at h
  split at h <;> first | rfl | cases h
theorem nest_warm (w : Cond) (hw : w ∈ nestWs) {s U : State} (hW : s.WarmedH U.vm) (hz : va_Nw w s) : va_Nw w U := by
  have h := (List.mem_filter.mp hw).2
  unfold isNest at h
  split at h
  · exact va_Nw.warmF hW hz
  · exact va_Nw.warmM hW hz
  · exact va_Nw.warmC hW hz
  · exact va_Nw.warmD hW hz
  · cases h
def T_P : u_T := fun k => match k with
  | 0 => ("ProofLines", "gates", "LProofLines$Gates;", true)
  | 1 => ("ProofLines", "proof", "LProofLines$Proof;", true)
  | 2 => ("ProofLines", "steps", "LProofLines$UnitSteps;", true)
  | _ => ("ProofLines", "tape", "LProofLines$Tape;", true)
def ty_P : Nat → FieldType := fun k => match k with
  | 0 => .object "ProofLines$Gates"
  | 1 => .object "ProofLines$Proof"
  | 2 => .object "ProofLines$UnitSteps"
  | _ => .object "ProofLines$Tape"
theorem nm_P : ∀ a, a < 4 → ∀ b, b < 4 → a ≠ b → (T_P a).2.1 ≠ (T_P b).2.1 := by decide +kernel
theorem tyok_P : ∀ k, k < 4 → parseFieldDescriptor (T_P k).2.2.1 = some (ty_P k) := by decide +kernel
theorem iwt_P : ∀ w ∈ u_ws R_P T_P 4, w ∈ tables_1 := by decide +kernel
theorem iwg_P : ∀ w ∈ u_ws R_P T_P 4, goodWord w = true := by decide +kernel
theorem iw_P : ∀ w ∈ u_ws R_P T_P 4, w ∈ gw := fun w h => List.mem_filter.mpr ⟨List.mem_append_right _ (iwt_P w h), iwg_P w h⟩
def T_G : u_T := fun k => match k with
  | 0 => ("ProofLines$Gates", "kinds", "[I", true)
  | 1 => ("ProofLines$Gates", "lefts", "[I", true)
  | 2 => ("ProofLines$Gates", "rights", "[I", true)
  | 3 => ("ProofLines$Gates", "truths", "[Z", true)
  | 4 => ("ProofLines$Gates", "size", "I", false)
  | _ => ("ProofLines$Gates", "inputs", "I", false)
def ty_G : Nat → FieldType := fun k => match k with
  | 0 => .array .int
  | 1 => .array .int
  | 2 => .array .int
  | 3 => .array .boolean
  | 4 => .int
  | _ => .int
theorem nm_G : ∀ a, a < 6 → ∀ b, b < 6 → a ≠ b → (T_G a).2.1 ≠ (T_G b).2.1 := by decide +kernel
theorem tyok_G : ∀ k, k < 6 → parseFieldDescriptor (T_G k).2.2.1 = some (ty_G k) := by decide +kernel
theorem iwt_G : ∀ w ∈ u_ws R_G T_G 6, w ∈ tables_1 := by decide +kernel
theorem iwg_G : ∀ w ∈ u_ws R_G T_G 6, goodWord w = true := by decide +kernel
theorem iw_G : ∀ w ∈ u_ws R_G T_G 6, w ∈ gw := fun w h => List.mem_filter.mpr ⟨List.mem_append_right _ (iwt_G w h), iwg_G w h⟩
def T_F : u_T := fun k => match k with
  | 0 => ("ProofLines$Proof", "kinds", "[I", true)
  | 1 => ("ProofLines$Proof", "sizes", "[I", true)
  | 2 => ("ProofLines$Proof", "literals", "[I", true)
  | 3 => ("ProofLines$Proof", "leftOut", "[Z", true)
  | _ => ("ProofLines$Proof", "size", "I", false)
def ty_F : Nat → FieldType := fun k => match k with
  | 0 => .array .int
  | 1 => .array .int
  | 2 => .array .int
  | 3 => .array .boolean
  | _ => .int
theorem nm_F : ∀ a, a < 5 → ∀ b, b < 5 → a ≠ b → (T_F a).2.1 ≠ (T_F b).2.1 := by decide +kernel
theorem tyok_F : ∀ k, k < 5 → parseFieldDescriptor (T_F k).2.2.1 = some (ty_F k) := by decide +kernel
theorem iwt_F : ∀ w ∈ u_ws R_F T_F 5, w ∈ tables_1 := by decide +kernel
theorem iwg_F : ∀ w ∈ u_ws R_F T_F 5, goodWord w = true := by decide +kernel
theorem iw_F : ∀ w ∈ u_ws R_F T_F 5, w ∈ gw := fun w h => List.mem_filter.mpr ⟨List.mem_append_right _ (iwt_F w h), iwg_F w h⟩
def T_U : u_T := fun k => match k with
  | 0 => ("ProofLines$UnitSteps", "gates", "LProofLines$Gates;", true)
  | 1 => ("ProofLines$UnitSteps", "proof", "LProofLines$Proof;", true)
  | 2 => ("ProofLines$UnitSteps", "told", "[I", true)
  | 3 => ("ProofLines$UnitSteps", "conflict", "Z", false)
  | _ => ("ProofLines$UnitSteps", "changed", "Z", false)
def ty_U : Nat → FieldType := fun k => match k with
  | 0 => .object "ProofLines$Gates"
  | 1 => .object "ProofLines$Proof"
  | 2 => .array .int
  | 3 => .boolean
  | _ => .boolean
theorem nm_U : ∀ a, a < 5 → ∀ b, b < 5 → a ≠ b → (T_U a).2.1 ≠ (T_U b).2.1 := by decide +kernel
theorem tyok_U : ∀ k, k < 5 → parseFieldDescriptor (T_U k).2.2.1 = some (ty_U k) := by decide +kernel
theorem iwt_U : ∀ w ∈ u_ws R_U T_U 5, w ∈ tables_1 := by decide +kernel
theorem iwg_U : ∀ w ∈ u_ws R_U T_U 5, goodWord w = true := by decide +kernel
theorem iw_U : ∀ w ∈ u_ws R_U T_U 5, w ∈ gw := fun w h => List.mem_filter.mpr ⟨List.mem_append_right _ (iwt_U w h), iwg_U w h⟩
def T_T : u_T := fun k => match k with
  | 0 => ("ProofLines$Tape", "gates", "LProofLines$Gates;", true)
  | 1 => ("ProofLines$Tape", "proof", "LProofLines$Proof;", true)
  | 2 => ("ProofLines$Tape", "bytes", "[I", true)
  | 3 => ("ProofLines$Tape", "size", "I", false)
  | 4 => ("ProofLines$Tape", "place", "I", false)
  | _ => ("ProofLines$Tape", "fault", "I", false)
def ty_T : Nat → FieldType := fun k => match k with
  | 0 => .object "ProofLines$Gates"
  | 1 => .object "ProofLines$Proof"
  | 2 => .array .int
  | 3 => .int
  | 4 => .int
  | _ => .int
theorem nm_T : ∀ a, a < 6 → ∀ b, b < 6 → a ≠ b → (T_T a).2.1 ≠ (T_T b).2.1 := by decide +kernel
theorem tyok_T : ∀ k, k < 6 → parseFieldDescriptor (T_T k).2.2.1 = some (ty_T k) := by decide +kernel
theorem iwt_T : ∀ w ∈ u_ws R_T T_T 6, w ∈ tables_1 := by decide +kernel
theorem iwg_T : ∀ w ∈ u_ws R_T T_T 6, goodWord w = true := by decide +kernel
theorem iw_T : ∀ w ∈ u_ws R_T T_T 6, w ∈ gw := fun w h => List.mem_filter.mpr ⟨List.mem_append_right _ (iwt_T w h), iwg_T w h⟩
def T_M : u_T := fun k => match k with
  | 0 => ("ProofLinesModel", "thrown", "I", false)
  | 1 => ("ProofLinesModel", "kinds", "[I", true)
  | 2 => ("ProofLinesModel", "ones", "[I", true)
  | 3 => ("ProofLinesModel", "twos", "[I", true)
  | 4 => ("ProofLinesModel", "gates", "I", false)
  | 5 => ("ProofLinesModel", "equals", "[Z", true)
  | 6 => ("ProofLinesModel", "counts", "[I", true)
  | 7 => ("ProofLinesModel", "literals", "[I", true)
  | 8 => ("ProofLinesModel", "lines", "I", false)
  | 9 => ("ProofLinesModel", "values", "[I", true)
  | 10 => ("ProofLinesModel", "conflict", "Z", false)
  | 11 => ("ProofLinesModel", "moved", "Z", false)
  | 12 => ("ProofLinesModel", "tape", "[I", true)
  | 13 => ("ProofLinesModel", "tapeSize", "I", false)
  | 14 => ("ProofLinesModel", "place", "I", false)
  | 15 => ("ProofLinesModel", "told", "[Z", true)
  | 16 => ("ProofLinesModel", "out", "[Z", true)
  | _ => ("ProofLinesModel", "found", "I", false)
def ty_M : Nat → FieldType := fun k => match k with
  | 0 => .int
  | 1 => .array .int
  | 2 => .array .int
  | 3 => .array .int
  | 4 => .int
  | 5 => .array .boolean
  | 6 => .array .int
  | 7 => .array .int
  | 8 => .int
  | 9 => .array .int
  | 10 => .boolean
  | 11 => .boolean
  | 12 => .array .int
  | 13 => .int
  | 14 => .int
  | 15 => .array .boolean
  | 16 => .array .boolean
  | _ => .int
theorem nm_M : ∀ a, a < 18 → ∀ b, b < 18 → a ≠ b → (T_M a).2.1 ≠ (T_M b).2.1 := by decide +kernel
theorem tyok_M : ∀ k, k < 18 → parseFieldDescriptor (T_M k).2.2.1 = some (ty_M k) := by decide +kernel
theorem iwt_M : ∀ w ∈ u_ws R_M T_M 18, w ∈ tables_1 := by decide +kernel
theorem iwg_M : ∀ w ∈ u_ws R_M T_M 18, goodWord w = true := by decide +kernel
theorem iw_M : ∀ w ∈ u_ws R_M T_M 18, w ∈ gw := fun w h => List.mem_filter.mpr ⟨List.mem_append_right _ (iwt_M w h), iwg_M w h⟩
abbrev vwCl : List vw_C := [(R_P, T_P, 4), (R_G, T_G, 6), (R_F, T_F, 5), (R_U, T_U, 5), (R_T, T_T, 6), (R_M, T_M, 18)]
abbrev b_G_has : ByteArray := prog_2_method_2_code
def y_G_has : MethodName := ⟨R_G, "has", "(I)Z"⟩
def w_G_has : List Cond := Cond.code y_G_has b_G_has 2 (some .boolean) :: gw
abbrev b_G_hasLiteral : ByteArray := prog_2_method_3_code
def y_G_hasLiteral : MethodName := ⟨R_G, "hasLiteral", "(I)Z"⟩
def w_G_hasLiteral : List Cond := Cond.code y_G_hasLiteral b_G_hasLiteral 2 (some .boolean) :: gw
abbrev b_G_add : ByteArray := prog_2_method_4_code
def y_G_add : MethodName := ⟨R_G, "add", "(III)I"⟩
def w_G_add : List Cond := Cond.code y_G_add b_G_add 5 (some .int) :: gw
abbrev b_P_gate : ByteArray := prog_1_method_2_code
def y_P_gate : MethodName := ⟨R_P, "gate", "(III)I"⟩
def w_P_gate : List Cond := Cond.code y_P_gate b_P_gate 4 (some .int) :: gw
abbrev b_F_isFull : ByteArray := prog_3_method_3_code
def y_F_isFull : MethodName := ⟨R_F, "isFull", "()Z"⟩
def w_F_isFull : List Cond := Cond.code y_F_isFull b_F_isFull 1 (some .boolean) :: gw
abbrev b_F_add : ByteArray := prog_3_method_5_code
def y_F_add : MethodName := ⟨R_F, "add", "(I)I"⟩
def w_F_add : List Cond := Cond.code y_F_add b_F_add 3 (some .int) :: gw
abbrev b_P_line : ByteArray := prog_1_method_3_code
def y_P_line : MethodName := ⟨R_P, "line", "()I"⟩
def w_P_line : List Cond := Cond.code y_P_line b_P_line 1 (some .int) :: gw
abbrev b_F_has : ByteArray := prog_3_method_2_code
def y_F_has : MethodName := ⟨R_F, "has", "(I)Z"⟩
def w_F_has : List Cond := Cond.code y_F_has b_F_has 2 (some .boolean) :: gw
abbrev b_F_literalOf : ByteArray := prog_3_method_7_code
def y_F_literalOf : MethodName := ⟨R_F, "literalOf", "(II)I"⟩
def w_F_literalOf : List Cond := Cond.code y_F_literalOf b_F_literalOf 3 (some .int) :: gw
abbrev b_F_contains : ByteArray := prog_3_method_8_code
def y_F_contains : MethodName := ⟨R_F, "contains", "(II)Z"⟩
def w_F_contains : List Cond := Cond.code y_F_contains b_F_contains 4 (some .boolean) :: gw
abbrev b_F_isLineFull : ByteArray := prog_3_method_4_code
def y_F_isLineFull : MethodName := ⟨R_F, "isLineFull", "(I)Z"⟩
def w_F_isLineFull : List Cond := Cond.code y_F_isLineFull b_F_isLineFull 2 (some .boolean) :: gw
abbrev b_F_append : ByteArray := prog_3_method_6_code
def y_F_append : MethodName := ⟨R_F, "append", "(II)V"⟩
def w_F_append : List Cond := Cond.code y_F_append b_F_append 3 none :: gw
abbrev b_P_literal : ByteArray := prog_1_method_4_code
def y_P_literal : MethodName := ⟨R_P, "literal", "(II)Z"⟩
def w_P_literal : List Cond := Cond.code y_P_literal b_P_literal 3 (some .boolean) :: gw
abbrev b_P_equalLine : ByteArray := prog_1_method_5_code
def y_P_equalLine : MethodName := ⟨R_P, "equalLine", "(II)I"⟩
def w_P_equalLine : List Cond := Cond.code y_P_equalLine b_P_equalLine 4 (some .int) :: gw
abbrev b_A_fill : ByteArray := prog_18_method_103_code
def y_A_fill : MethodName := ⟨R_A, "fill", "([II)V"⟩
def w_A_fill : List Cond := Cond.code y_A_fill b_A_fill 4 none :: gw
abbrev b_U_begin : ByteArray := prog_6_method_5_code
def y_U_begin : MethodName := ⟨R_U, "begin", "()V"⟩
def w_U_begin : List Cond := Cond.code y_U_begin b_U_begin 1 none :: gw
abbrev b_U_tell : ByteArray := prog_6_method_12_code
def y_U_tell : MethodName := ⟨R_U, "tell", "(II)V"⟩
def w_U_tell : List Cond := Cond.code y_U_tell b_U_tell 5 none :: gw
abbrev b_U_toldOf : ByteArray := prog_6_method_11_code
def y_U_toldOf : MethodName := ⟨R_U, "toldOf", "(I)I"⟩
def w_U_toldOf : List Cond := Cond.code y_U_toldOf b_U_toldOf 3 (some .int) :: gw
abbrev b_U_stepEither : ByteArray := prog_6_method_8_code
def y_U_stepEither : MethodName := ⟨R_U, "stepEither", "(III)V"⟩
def w_U_stepEither : List Cond := Cond.code y_U_stepEither b_U_stepEither 7 none :: gw
abbrev b_U_stepAnd : ByteArray := prog_6_method_7_code
def y_U_stepAnd : MethodName := ⟨R_U, "stepAnd", "(III)V"⟩
def w_U_stepAnd : List Cond := Cond.code y_U_stepAnd b_U_stepAnd 7 none :: gw
abbrev b_U_stepClause : ByteArray := prog_6_method_10_code
def y_U_stepClause : MethodName := ⟨R_U, "stepClause", "(I)V"⟩
def w_U_stepClause : List Cond := Cond.code y_U_stepClause b_U_stepClause 6 none :: gw
abbrev b_U_stepEquality : ByteArray := prog_6_method_9_code
def y_U_stepEquality : MethodName := ⟨R_U, "stepEquality", "(II)V"⟩
def w_U_stepEquality : List Cond := Cond.code y_U_stepEquality b_U_stepEquality 5 none :: gw
abbrev b_U_comeToConflict : ByteArray := prog_6_method_6_code
def y_U_comeToConflict : MethodName := ⟨R_U, "comeToConflict", "(I)Z"⟩
def w_U_comeToConflict : List Cond := Cond.code y_U_comeToConflict b_U_comeToConflict 4 (some .boolean) :: gw
abbrev b_U_literalFollows : ByteArray := prog_6_method_3_code
def y_U_literalFollows : MethodName := ⟨R_U, "literalFollows", "(I)Z"⟩
def w_U_literalFollows : List Cond := Cond.code y_U_literalFollows b_U_literalFollows 2 (some .boolean) :: gw
abbrev b_U_bothConflict : ByteArray := prog_6_method_4_code
def y_U_bothConflict : MethodName := ⟨R_U, "bothConflict", "(III)Z"⟩
def w_U_bothConflict : List Cond := Cond.code y_U_bothConflict b_U_bothConflict 4 (some .boolean) :: gw
abbrev b_U_lineFollows : ByteArray := prog_6_method_2_code
def y_U_lineFollows : MethodName := ⟨R_U, "lineFollows", "(I)Z"⟩
def w_U_lineFollows : List Cond := Cond.code y_U_lineFollows b_U_lineFollows 4 (some .boolean) :: gw
abbrev b_P_firstBad : ByteArray := prog_1_method_17_code
def y_P_firstBad : MethodName := ⟨R_P, "firstBad", "(II)I"⟩
def w_P_firstBad : List Cond := Cond.code y_P_firstBad b_P_firstBad 4 (some .int) :: gw
abbrev b_P_check : ByteArray := prog_1_method_6_code
def y_P_check : MethodName := ⟨R_P, "check", "(I)I"⟩
def w_P_check : List Cond := Cond.code y_P_check b_P_check 2 (some .int) :: gw
abbrev b_P_good : ByteArray := prog_1_method_7_code
def y_P_good : MethodName := ⟨R_P, "good", "(I)Z"⟩
def w_P_good : List Cond := Cond.code y_P_good b_P_good 2 (some .boolean) :: gw
abbrev b_P_lineAt : ByteArray := prog_1_method_8_code
def y_P_lineAt : MethodName := ⟨R_P, "lineAt", "(II)I"⟩
def w_P_lineAt : List Cond := Cond.code y_P_lineAt b_P_lineAt 3 (some .int) :: gw
abbrev b_P_isNoneOrLiteral : ByteArray := prog_1_method_18_code
def y_P_isNoneOrLiteral : MethodName := ⟨R_P, "isNoneOrLiteral", "(I)Z"⟩
def w_P_isNoneOrLiteral : List Cond := Cond.code y_P_isNoneOrLiteral b_P_isNoneOrLiteral 2 (some .boolean) :: gw
abbrev b_P_assumeUnlessNone : ByteArray := prog_1_method_19_code
def y_P_assumeUnlessNone : MethodName := ⟨R_P, "assumeUnlessNone", "(I)V"⟩
def w_P_assumeUnlessNone : List Cond := Cond.code y_P_assumeUnlessNone b_P_assumeUnlessNone 2 none :: gw
abbrev b_P_implied : ByteArray := prog_1_method_9_code
def y_P_implied : MethodName := ⟨R_P, "implied", "(IIII)I"⟩
def w_P_implied : List Cond := Cond.code y_P_implied b_P_implied 5 (some .int) :: gw
abbrev b_F_moveUp : ByteArray := prog_3_method_9_code
def y_F_moveUp : MethodName := ⟨R_F, "moveUp", "()V"⟩
def w_F_moveUp : List Cond := Cond.code y_F_moveUp b_F_moveUp 3 none :: gw
abbrev b_P_shorten : ByteArray := prog_1_method_10_code
def y_P_shorten : MethodName := ⟨R_P, "shorten", "(I)I"⟩
def w_P_shorten : List Cond := Cond.code y_P_shorten b_P_shorten 3 (some .int) :: gw
abbrev b_G_truthOf : ByteArray := prog_2_method_6_code
def y_G_truthOf : MethodName := ⟨R_G, "truthOf", "(I)Z"⟩
def w_G_truthOf : List Cond := Cond.code y_G_truthOf b_G_truthOf 2 (some .boolean) :: gw
abbrev b_G_isTrueWith : ByteArray := prog_2_method_5_code
def y_G_isTrueWith : MethodName := ⟨R_G, "isTrueWith", "(IJ)Z"⟩
def w_G_isTrueWith : List Cond := Cond.code y_G_isTrueWith b_G_isTrueWith 8 (some .boolean) :: gw
abbrev b_P_holds : ByteArray := prog_1_method_11_code
def y_P_holds : MethodName := ⟨R_P, "holds", "(IJ)Z"⟩
def w_P_holds : List Cond := Cond.code y_P_holds b_P_holds 4 (some .boolean) :: gw
abbrev b_X_literalLength : ByteArray := prog_5_method_6_code
def y_X_literalLength : MethodName := ⟨R_X, "literalLength", "(I)I"⟩
def w_X_literalLength : List Cond := Cond.code y_X_literalLength b_X_literalLength 1 (some .int) :: gw
abbrev b_X_lineLength : ByteArray := prog_5_method_4_code
def y_X_lineLength : MethodName := ⟨R_X, "lineLength", "(LProofLines$Proof;I)I"⟩
def w_X_lineLength : List Cond := Cond.code y_X_lineLength b_X_lineLength 4 (some .int) :: gw
abbrev b_X_lengthOf : ByteArray := prog_5_method_2_code
def y_X_lengthOf : MethodName := ⟨R_X, "lengthOf", "(LProofLines$Proof;)I"⟩
def w_X_lengthOf : List Cond := Cond.code y_X_lengthOf b_X_lengthOf 3 (some .int) :: gw
abbrev b_X_literalByte : ByteArray := prog_5_method_7_code
def y_X_literalByte : MethodName := ⟨R_X, "literalByte", "(II)I"⟩
def w_X_literalByte : List Cond := Cond.code y_X_literalByte b_X_literalByte 3 (some .int) :: gw
abbrev b_X_lineByte : ByteArray := prog_5_method_5_code
def y_X_lineByte : MethodName := ⟨R_X, "lineByte", "(LProofLines$Proof;II)I"⟩
def w_X_lineByte : List Cond := Cond.code y_X_lineByte b_X_lineByte 7 (some .int) :: gw
abbrev b_X_byteOf : ByteArray := prog_5_method_3_code
def y_X_byteOf : MethodName := ⟨R_X, "byteOf", "(LProofLines$Proof;I)I"⟩
def w_X_byteOf : List Cond := Cond.code y_X_byteOf b_X_byteOf 5 (some .int) :: gw
abbrev b_P_text : ByteArray := prog_1_method_12_code
def y_P_text : MethodName := ⟨R_P, "text", "(I)I"⟩
def w_P_text : List Cond := Cond.code y_P_text b_P_text 2 (some .int) :: gw
abbrev b_T_append : ByteArray := prog_4_method_2_code
def y_T_append : MethodName := ⟨R_T, "append", "(I)Z"⟩
def w_T_append : List Cond := Cond.code y_T_append b_T_append 2 (some .boolean) :: gw
abbrev b_P_unit : ByteArray := prog_1_method_13_code
def y_P_unit : MethodName := ⟨R_P, "unit", "(I)Z"⟩
def w_P_unit : List Cond := Cond.code y_P_unit b_P_unit 2 (some .boolean) :: gw
abbrev b_T_here : ByteArray := prog_4_method_13_code
def y_T_here : MethodName := ⟨R_T, "here", "()I"⟩
def w_T_here : List Cond := Cond.code y_T_here b_T_here 1 (some .int) :: gw
abbrev b_T_isBlankHere : ByteArray := prog_4_method_10_code
def y_T_isBlankHere : MethodName := ⟨R_T, "isBlankHere", "()Z"⟩
def w_T_isBlankHere : List Cond := Cond.code y_T_isBlankHere b_T_isBlankHere 2 (some .boolean) :: gw
abbrev b_T_skipToLine : ByteArray := prog_4_method_9_code
def y_T_skipToLine : MethodName := ⟨R_T, "skipToLine", "()V"⟩
def w_T_skipToLine : List Cond := Cond.code y_T_skipToLine b_T_skipToLine 1 none :: gw
abbrev b_T_skipBlanks : ByteArray := prog_4_method_8_code
def y_T_skipBlanks : MethodName := ⟨R_T, "skipBlanks", "()V"⟩
def w_T_skipBlanks : List Cond := Cond.code y_T_skipBlanks b_T_skipBlanks 1 none :: gw
abbrev b_T_isSignHere : ByteArray := prog_4_method_11_code
def y_T_isSignHere : MethodName := ⟨R_T, "isSignHere", "()Z"⟩
def w_T_isSignHere : List Cond := Cond.code y_T_isSignHere b_T_isSignHere 1 (some .boolean) :: gw
abbrev b_T_isDigitHere : ByteArray := prog_4_method_12_code
def y_T_isDigitHere : MethodName := ⟨R_T, "isDigitHere", "()Z"⟩
def w_T_isDigitHere : List Cond := Cond.code y_T_isDigitHere b_T_isDigitHere 1 (some .boolean) :: gw
abbrev b_T_readNumber : ByteArray := prog_4_method_6_code
def y_T_readNumber : MethodName := ⟨R_T, "readNumber", "()I"⟩
def w_T_readNumber : List Cond := Cond.code y_T_readNumber b_T_readNumber 2 (some .int) :: gw
abbrev b_T_readLiteral : ByteArray := prog_4_method_5_code
def y_T_readLiteral : MethodName := ⟨R_T, "readLiteral", "(I)V"⟩
def w_T_readLiteral : List Cond := Cond.code y_T_readLiteral b_T_readLiteral 6 none :: gw
abbrev b_T_endLine : ByteArray := prog_4_method_7_code
def y_T_endLine : MethodName := ⟨R_T, "endLine", "(I)V"⟩
def w_T_endLine : List Cond := Cond.code y_T_endLine b_T_endLine 4 none :: gw
abbrev b_T_readLine : ByteArray := prog_4_method_4_code
def y_T_readLine : MethodName := ⟨R_T, "readLine", "()V"⟩
def w_T_readLine : List Cond := Cond.code y_T_readLine b_T_readLine 4 none :: gw
abbrev b_T_readAll : ByteArray := prog_4_method_3_code
def y_T_readAll : MethodName := ⟨R_T, "readAll", "()I"⟩
def w_T_readAll : List Cond := Cond.code y_T_readAll b_T_readAll 2 (some .int) :: gw
abbrev b_P_read : ByteArray := prog_1_method_14_code
def y_P_read : MethodName := ⟨R_P, "read", "()I"⟩
def w_P_read : List Cond := Cond.code y_P_read b_P_read 3 (some .int) :: gw
abbrev b_P_count : ByteArray := prog_1_method_15_code
def y_P_count : MethodName := ⟨R_P, "count", "(I)I"⟩
def w_P_count : List Cond := Cond.code y_P_count b_P_count 2 (some .int) :: gw
abbrev b_P_clear : ByteArray := prog_1_method_16_code
def y_P_clear : MethodName := ⟨R_P, "clear", "()V"⟩
def w_P_clear : List Cond := Cond.code y_P_clear b_P_clear 1 none :: gw
abbrev b_M_thrown : ByteArray := prog_8_method_2_code
def y_M_thrown : MethodName := ⟨R_M, "thrown", "()I"⟩
def w_M_thrown : List Cond := Cond.code y_M_thrown b_M_thrown 1 (some .int) :: gw
abbrev b_M_isLiteral : ByteArray := prog_8_method_3_code
def y_M_isLiteral : MethodName := ⟨R_M, "isLiteral", "(I)Z"⟩
def w_M_isLiteral : List Cond := Cond.code y_M_isLiteral b_M_isLiteral 2 (some .boolean) :: gw
abbrev b_M_isLine : ByteArray := prog_8_method_4_code
def y_M_isLine : MethodName := ⟨R_M, "isLine", "(I)Z"⟩
def w_M_isLine : List Cond := Cond.code y_M_isLine b_M_isLine 2 (some .boolean) :: gw
abbrev b_M_gate : ByteArray := prog_8_method_5_code
def y_M_gate : MethodName := ⟨R_M, "gate", "(III)I"⟩
def w_M_gate : List Cond := Cond.code y_M_gate b_M_gate 5 (some .int) :: gw
abbrev b_M_line : ByteArray := prog_8_method_6_code
def y_M_line : MethodName := ⟨R_M, "line", "()I"⟩
def w_M_line : List Cond := Cond.code y_M_line b_M_line 1 (some .int) :: gw
abbrev b_M_isThere : ByteArray := prog_8_method_7_code
def y_M_isThere : MethodName := ⟨R_M, "isThere", "(II)Z"⟩
def w_M_isThere : List Cond := Cond.code y_M_isThere b_M_isThere 5 (some .boolean) :: gw
abbrev b_M_add : ByteArray := prog_8_method_8_code
def y_M_add : MethodName := ⟨R_M, "add", "(II)V"⟩
def w_M_add : List Cond := Cond.code y_M_add b_M_add 3 none :: gw
abbrev b_M_literal : ByteArray := prog_8_method_9_code
def y_M_literal : MethodName := ⟨R_M, "literal", "(II)Z"⟩
def w_M_literal : List Cond := Cond.code y_M_literal b_M_literal 5 (some .boolean) :: gw
abbrev b_M_equalLine : ByteArray := prog_8_method_10_code
def y_M_equalLine : MethodName := ⟨R_M, "equalLine", "(II)I"⟩
def w_M_equalLine : List Cond := Cond.code y_M_equalLine b_M_equalLine 3 (some .int) :: gw
abbrev b_M_value : ByteArray := prog_8_method_11_code
def y_M_value : MethodName := ⟨R_M, "value", "(I)I"⟩
def w_M_value : List Cond := Cond.code y_M_value b_M_value 3 (some .int) :: gw
abbrev b_M_tell : ByteArray := prog_8_method_12_code
def y_M_tell : MethodName := ⟨R_M, "tell", "(II)V"⟩
def w_M_tell : List Cond := Cond.code y_M_tell b_M_tell 4 none :: gw
abbrev b_M_and : ByteArray := prog_8_method_13_code
def y_M_and : MethodName := ⟨R_M, "and", "(I)V"⟩
def w_M_and : List Cond := Cond.code y_M_and b_M_and 5 none :: gw
abbrev b_M_either : ByteArray := prog_8_method_14_code
def y_M_either : MethodName := ⟨R_M, "either", "(I)V"⟩
def w_M_either : List Cond := Cond.code y_M_either b_M_either 5 none :: gw
abbrev b_M_clause : ByteArray := prog_8_method_15_code
def y_M_clause : MethodName := ⟨R_M, "clause", "(I)V"⟩
def w_M_clause : List Cond := Cond.code y_M_clause b_M_clause 6 none :: gw
abbrev b_M_equality : ByteArray := prog_8_method_16_code
def y_M_equality : MethodName := ⟨R_M, "equality", "(I)V"⟩
def w_M_equality : List Cond := Cond.code y_M_equality b_M_equality 4 none :: gw
abbrev b_M_begin : ByteArray := prog_8_method_17_code
def y_M_begin : MethodName := ⟨R_M, "begin", "()V"⟩
def w_M_begin : List Cond := Cond.code y_M_begin b_M_begin 2 none :: gw
abbrev b_M_steps : ByteArray := prog_8_method_18_code
def y_M_steps : MethodName := ⟨R_M, "steps", "(I)V"⟩
def w_M_steps : List Cond := Cond.code y_M_steps b_M_steps 3 none :: gw
abbrev b_M_opposes : ByteArray := prog_8_method_19_code
def y_M_opposes : MethodName := ⟨R_M, "opposes", "(IIIII)Z"⟩
def w_M_opposes : List Cond := Cond.code y_M_opposes b_M_opposes 6 (some .boolean) :: gw
abbrev b_M_follows : ByteArray := prog_8_method_20_code
def y_M_follows : MethodName := ⟨R_M, "follows", "(II)Z"⟩
def w_M_follows : List Cond := Cond.code y_M_follows b_M_follows 5 (some .boolean) :: gw
abbrev b_M_bad : ByteArray := prog_8_method_21_code
def y_M_bad : MethodName := ⟨R_M, "bad", "(I)I"⟩
def w_M_bad : List Cond := Cond.code y_M_bad b_M_bad 3 (some .int) :: gw
abbrev b_M_allThere : ByteArray := prog_8_method_22_code
def y_M_allThere : MethodName := ⟨R_M, "allThere", "()V"⟩
def w_M_allThere : List Cond := Cond.code y_M_allThere b_M_allThere 2 none :: gw
abbrev b_M_check : ByteArray := prog_8_method_23_code
def y_M_check : MethodName := ⟨R_M, "check", "(I)I"⟩
def w_M_check : List Cond := Cond.code y_M_check b_M_check 2 (some .int) :: gw
abbrev b_M_good : ByteArray := prog_8_method_24_code
def y_M_good : MethodName := ⟨R_M, "good", "(I)Z"⟩
def w_M_good : List Cond := Cond.code y_M_good b_M_good 2 (some .boolean) :: gw
abbrev b_M_implied : ByteArray := prog_8_method_25_code
def y_M_implied : MethodName := ⟨R_M, "implied", "(IIII)I"⟩
def w_M_implied : List Cond := Cond.code y_M_implied b_M_implied 8 (some .int) :: gw
abbrev b_M_shorten : ByteArray := prog_8_method_26_code
def y_M_shorten : MethodName := ⟨R_M, "shorten", "(I)I"⟩
def w_M_shorten : List Cond := Cond.code y_M_shorten b_M_shorten 5 (some .int) :: gw
abbrev b_M_lineAt : ByteArray := prog_8_method_27_code
def y_M_lineAt : MethodName := ⟨R_M, "lineAt", "(II)I"⟩
def w_M_lineAt : List Cond := Cond.code y_M_lineAt b_M_lineAt 3 (some .int) :: gw
abbrev b_M_holds : ByteArray := prog_8_method_28_code
def y_M_holds : MethodName := ⟨R_M, "holds", "(IJ)Z"⟩
def w_M_holds : List Cond := Cond.code y_M_holds b_M_holds 6 (some .boolean) :: gw
abbrev b_M_inputs : ByteArray := prog_8_method_29_code
def y_M_inputs : MethodName := ⟨R_M, "inputs", "()I"⟩
def w_M_inputs : List Cond := Cond.code y_M_inputs b_M_inputs 3 (some .int) :: gw
abbrev b_M_byteAt : ByteArray := prog_8_method_30_code
def y_M_byteAt : MethodName := ⟨R_M, "byteAt", "(I)I"⟩
def w_M_byteAt : List Cond := Cond.code y_M_byteAt b_M_byteAt 9 (some .int) :: gw
abbrev b_M_text : ByteArray := prog_8_method_31_code
def y_M_text : MethodName := ⟨R_M, "text", "(I)I"⟩
def w_M_text : List Cond := Cond.code y_M_text b_M_text 3 (some .int) :: gw
abbrev b_M_count : ByteArray := prog_8_method_32_code
def y_M_count : MethodName := ⟨R_M, "count", "(I)I"⟩
def w_M_count : List Cond := Cond.code y_M_count b_M_count 2 (some .int) :: gw
abbrev b_M_clear : ByteArray := prog_8_method_33_code
def y_M_clear : MethodName := ⟨R_M, "clear", "()V"⟩
def w_M_clear : List Cond := Cond.code y_M_clear b_M_clear 1 none :: gw
abbrev b_M_unit : ByteArray := prog_8_method_34_code
def y_M_unit : MethodName := ⟨R_M, "unit", "(I)Z"⟩
def w_M_unit : List Cond := Cond.code y_M_unit b_M_unit 3 (some .boolean) :: gw
abbrev b_M_next : ByteArray := prog_8_method_35_code
def y_M_next : MethodName := ⟨R_M, "next", "()I"⟩
def w_M_next : List Cond := Cond.code y_M_next b_M_next 1 (some .int) :: gw
abbrev b_M_readLiteral : ByteArray := prog_8_method_36_code
def y_M_readLiteral : MethodName := ⟨R_M, "readLiteral", "()I"⟩
def w_M_readLiteral : List Cond := Cond.code y_M_readLiteral b_M_readLiteral 5 (some .int) :: gw
abbrev b_M_readLine : ByteArray := prog_8_method_37_code
def y_M_readLine : MethodName := ⟨R_M, "readLine", "(I)I"⟩
def w_M_readLine : List Cond := Cond.code y_M_readLine b_M_readLine 6 (some .int) :: gw
abbrev b_M_read : ByteArray := prog_8_method_38_code
def y_M_read : MethodName := ⟨R_M, "read", "()I"⟩
def w_M_read : List Cond := Cond.code y_M_read b_M_read 4 (some .int) :: gw
abbrev b_L_gate : ByteArray := method_3_code
def y_L_gate : MethodName := ⟨R_L, "gate", "(LProofLines;III[J)I"⟩
def w_L_gate : List Cond := Cond.codeWith y_L_gate b_L_gate 6 (some .int) [(0, 12, 15, 13), (0, 12, 19, 15), (0, 12, 23, 17)] :: gw
abbrev b_L_line : ByteArray := method_4_code
def y_L_line : MethodName := ⟨R_L, "line", "(LProofLines;[J)I"⟩
def w_L_line : List Cond := Cond.codeWith y_L_line b_L_line 3 (some .int) [(0, 8, 11, 17)] :: gw
abbrev b_L_literal : ByteArray := method_5_code
def y_L_literal : MethodName := ⟨R_L, "literal", "(LProofLines;II[J)I"⟩
def w_L_literal : List Cond := Cond.codeWith y_L_literal b_L_literal 5 (some .int) [(0, 17, 20, 13), (0, 17, 24, 15), (0, 17, 28, 17)] :: gw
abbrev b_L_equalLine : ByteArray := method_6_code
def y_L_equalLine : MethodName := ⟨R_L, "equalLine", "(LProofLines;II[J)I"⟩
def w_L_equalLine : List Cond := Cond.codeWith y_L_equalLine b_L_equalLine 5 (some .int) [(0, 10, 13, 13), (0, 10, 17, 17)] :: gw
abbrev b_L_check : ByteArray := method_7_code
def y_L_check : MethodName := ⟨R_L, "check", "(LProofLines;I[J)I"⟩
def w_L_check : List Cond := Cond.codeWith y_L_check b_L_check 4 (some .int) [(0, 9, 12, 13)] :: gw
abbrev b_L_good : ByteArray := method_8_code
def y_L_good : MethodName := ⟨R_L, "good", "(LProofLines;I[J)I"⟩
def w_L_good : List Cond := Cond.codeWith y_L_good b_L_good 4 (some .int) [(0, 16, 19, 13)] :: gw
abbrev b_L_lineAt : ByteArray := method_9_code
def y_L_lineAt : MethodName := ⟨R_L, "lineAt", "(LProofLines;II[J)I"⟩
def w_L_lineAt : List Cond := Cond.codeWith y_L_lineAt b_L_lineAt 5 (some .int) [(0, 10, 13, 13)] :: gw
abbrev b_L_implied : ByteArray := method_10_code
def y_L_implied : MethodName := ⟨R_L, "implied", "(LProofLines;IIII[J)I"⟩
def w_L_implied : List Cond := Cond.codeWith y_L_implied b_L_implied 7 (some .int) [(0, 14, 17, 13)] :: gw
abbrev b_L_shorten : ByteArray := method_11_code
def y_L_shorten : MethodName := ⟨R_L, "shorten", "(LProofLines;I[J)I"⟩
def w_L_shorten : List Cond := Cond.codeWith y_L_shorten b_L_shorten 4 (some .int) [(0, 9, 12, 13)] :: gw
abbrev b_L_holds : ByteArray := method_12_code
def y_L_holds : MethodName := ⟨R_L, "holds", "(LProofLines;IJ[J)I"⟩
def w_L_holds : List Cond := Cond.codeWith y_L_holds b_L_holds 6 (some .int) [(0, 18, 21, 13)] :: gw
abbrev b_L_text : ByteArray := method_13_code
def y_L_text : MethodName := ⟨R_L, "text", "(LProofLines;I[J)I"⟩
def w_L_text : List Cond := Cond.codeWith y_L_text b_L_text 4 (some .int) [(0, 9, 12, 13)] :: gw
abbrev b_L_count : ByteArray := method_14_code
def y_L_count : MethodName := ⟨R_L, "count", "(LProofLines;I[J)I"⟩
def w_L_count : List Cond := Cond.codeWith y_L_count b_L_count 4 (some .int) [(0, 9, 12, 13)] :: gw
abbrev b_P_new : ByteArray := prog_1_method_1_code
def y_P_new : MethodName := ⟨R_P, "<init>", "()V"⟩
def w_P_new : List Cond := Cond.code y_P_new b_P_new 1 none :: gw
abbrev b_G_new : ByteArray := prog_2_method_1_code
def y_G_new : MethodName := ⟨R_G, "<init>", "()V"⟩
def w_G_new : List Cond := Cond.code y_G_new b_G_new 1 none :: gw
abbrev b_F_new : ByteArray := prog_3_method_1_code
def y_F_new : MethodName := ⟨R_F, "<init>", "()V"⟩
def w_F_new : List Cond := Cond.code y_F_new b_F_new 1 none :: gw
abbrev b_U_new : ByteArray := prog_6_method_1_code
def y_U_new : MethodName := ⟨R_U, "<init>", "(LProofLines$Gates;LProofLines$Proof;)V"⟩
def w_U_new : List Cond := Cond.code y_U_new b_U_new 3 none :: gw
abbrev b_T_new : ByteArray := prog_4_method_1_code
def y_T_new : MethodName := ⟨R_T, "<init>", "(LProofLines$Gates;LProofLines$Proof;)V"⟩
def w_T_new : List Cond := Cond.code y_T_new b_T_new 3 none :: gw
abbrev b_M_new : ByteArray := prog_8_method_1_code
def y_M_new : MethodName := ⟨R_M, "<init>", "()V"⟩
def w_M_new : List Cond := Cond.code y_M_new b_M_new 1 none :: gw
