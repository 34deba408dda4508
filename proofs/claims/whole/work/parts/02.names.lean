/-- the tables' good words; the nest mates' links -/
def TBG : List Cond := lw_tbl.filter goodWord
def isNest : Cond → Bool
  | .fieldLinkNest _ _ _ _ _ _ => true
  | .methodLinkNest _ _ _ _ => true
  | _ => false
theorem tbg_good {w : Cond} (h : w ∈ TBG) : goodWord w = true := (List.mem_filter.mp h).2
theorem tbg_in {w : Cond} (h : w ∈ TBG) : w ∈ lw_tbl := (List.mem_filter.mp h).1
theorem tbm (i : Nat) {w : Cond} (h : tables_1[i]? = some w) (g : goodWord w = true) : w ∈ TBG := List.mem_filter.mpr ⟨List.mem_append_right _ (List.mem_of_getElem? h), g⟩
theorem tbs {q : MethodName × Nat} (i : Nat) (h : lw_privs[i]? = some q) : Cond.selects q.1.cls q.1 q.1 ∈ TBG := List.mem_filter.mpr ⟨List.mem_append_left _ (List.mem_map.mpr ⟨q, List.mem_of_getElem? h, rfl⟩), rfl⟩
theorem gTB {c c' : Cond} (h : c' ∈ TBG) : GoodIn (c :: TBG) (c' :: TBG) := fun w hw => (List.mem_cons.mp hw).elim (fun e => by subst e; exact ⟨List.mem_cons_of_mem _ h, good_of_word (tbg_good h)⟩) (fun h2 => ⟨List.mem_cons_of_mem _ h2, good_of_word (tbg_good h2)⟩)
def R_P : String := "RosterSolve$Plan"
def F_P : u_T := fun k => match k with
  | 0 => ("RosterSolve$Plan", "persons", "I", false)
  | 1 => ("RosterSolve$Plan", "days", "I", false)
  | 2 => ("RosterSolve$Plan", "rest", "I", false)
  | 3 => ("RosterSolve$Plan", "most", "I", false)
  | 4 => ("RosterSolve$Plan", "nights", "I", false)
  | 5 => ("RosterSolve$Plan", "wishes", "I", false)
  | 6 => ("RosterSolve$Plan", "skills", "[I", true)
  | 7 => ("RosterSolve$Plan", "rates", "[I", true)
  | 8 => ("RosterSolve$Plan", "needPersons", "[I", true)
  | 9 => ("RosterSolve$Plan", "needSkills", "[I", true)
  | 10 => ("RosterSolve$Plan", "barred", "[Z", true)
  | _ => ("RosterSolve$Plan", "missed", "[I", true)
def t_P : Nat → FieldType := fun k => match k with
  | 0 => .int
  | 1 => .int
  | 2 => .int
  | 3 => .int
  | 4 => .int
  | 5 => .int
  | 6 => .array .int
  | 7 => .array .int
  | 8 => .array .int
  | 9 => .array .int
  | 10 => .array .boolean
  | _ => .array .int
theorem n_P : ∀ a, a < 12 → ∀ b, b < 12 → a ≠ b → (F_P a).2.1 ≠ (F_P b).2.1 := by decide +kernel
theorem t_P_ok : ∀ k, k < 12 → parseFieldDescriptor (F_P k).2.2.1 = some (t_P k) := by decide +kernel
theorem u_P : ∀ w ∈ u_ws R_P F_P 12, w ∈ TBG := by
  have e : u_ws R_P F_P 12 = ([50, 52, 54, 56, 58, 60, 62, 64, 66, 68, 70, 72] : List Nat).filterMap (fun i => tables_1[i]?) := by decide +kernel
  intro w hw
  have g : goodWord w = true := List.all_eq_true.mp (show (u_ws R_P F_P 12).all goodWord = true by decide +kernel) w hw
  rw [e] at hw
  obtain ⟨i, -, hi⟩ := List.mem_filterMap.mp hw
  exact tbm i hi g
def R_S : String := "RosterSolve$Search"
def F_S : u_T := fun k => match k with
  | 0 => ("RosterSolve$Search", "plan", "LRosterSolve$Plan;", true)
  | 1 => ("RosterSolve$Search", "best", "[I", true)
  | 2 => ("RosterSolve$Search", "trial", "[I", true)
  | 3 => ("RosterSolve$Search", "nextShift", "[I", true)
  | 4 => ("RosterSolve$Search", "lastShift", "[I", true)
  | 5 => ("RosterSolve$Search", "shiftsHad", "[I", true)
  | 6 => ("RosterSolve$Search", "nightsHad", "[I", true)
  | 7 => ("RosterSolve$Search", "unmetHad", "[I", true)
  | 8 => ("RosterSolve$Search", "limit", "I", false)
  | 9 => ("RosterSolve$Search", "frozenDays", "I", false)
  | 10 => ("RosterSolve$Search", "steps", "I", false)
  | 11 => ("RosterSolve$Search", "rightOnes", "I", false)
  | 12 => ("RosterSolve$Search", "bestUnmet", "I", false)
  | 13 => ("RosterSolve$Search", "stopped", "Z", false)
  | _ => ("RosterSolve$Search", "exact", "Z", false)
def t_S : Nat → FieldType := fun k => match k with
  | 0 => .object "RosterSolve$Plan"
  | 1 => .array .int
  | 2 => .array .int
  | 3 => .array .int
  | 4 => .array .int
  | 5 => .array .int
  | 6 => .array .int
  | 7 => .array .int
  | 8 => .int
  | 9 => .int
  | 10 => .int
  | 11 => .int
  | 12 => .int
  | 13 => .boolean
  | _ => .boolean
theorem n_S : ∀ a, a < 15 → ∀ b, b < 15 → a ≠ b → (F_S a).2.1 ≠ (F_S b).2.1 := by decide +kernel
theorem t_S_ok : ∀ k, k < 15 → parseFieldDescriptor (F_S k).2.2.1 = some (t_S k) := by decide +kernel
theorem u_S : ∀ w ∈ u_ws R_S F_S 15, w ∈ TBG := by
  have e : u_ws R_S F_S 15 = ([103, 105, 107, 109, 111, 113, 115, 117, 119, 121, 123, 125, 127, 129, 131] : List Nat).filterMap (fun i => tables_1[i]?) := by decide +kernel
  intro w hw
  have g : goodWord w = true := List.all_eq_true.mp (show (u_ws R_S F_S 15).all goodWord = true by decide +kernel) w hw
  rw [e] at hw
  obtain ⟨i, -, hi⟩ := List.mem_filterMap.mp hw
  exact tbm i hi g
def R_R : String := "RosterSolve"
def F_R : u_T := fun k => match k with
  | 0 => ("RosterSolve", "plan", "LRosterSolve$Plan;", true)
  | 1 => ("RosterSolve", "search", "LRosterSolve$Search;", true)
  | 2 => ("RosterSolve", "roster", "[I", true)
  | 3 => ("RosterSolve", "published", "[I", true)
  | 4 => ("RosterSolve", "frozen", "I", false)
  | _ => ("RosterSolve", "editions", "I", false)
def t_R : Nat → FieldType := fun k => match k with
  | 0 => .object "RosterSolve$Plan"
  | 1 => .object "RosterSolve$Search"
  | 2 => .array .int
  | 3 => .array .int
  | 4 => .int
  | _ => .int
theorem n_R : ∀ a, a < 6 → ∀ b, b < 6 → a ≠ b → (F_R a).2.1 ≠ (F_R b).2.1 := by decide +kernel
theorem t_R_ok : ∀ k, k < 6 → parseFieldDescriptor (F_R k).2.2.1 = some (t_R k) := by decide +kernel
theorem u_R : ∀ w ∈ u_ws R_R F_R 6, w ∈ TBG := by
  have e : u_ws R_R F_R 6 = ([140, 142, 144, 146, 148, 150] : List Nat).filterMap (fun i => tables_1[i]?) := by decide +kernel
  intro w hw
  have g : goodWord w = true := List.all_eq_true.mp (show (u_ws R_R F_R 6).all goodWord = true by decide +kernel) w hw
  rw [e] at hw
  obtain ⟨i, -, hi⟩ := List.mem_filterMap.mp hw
  exact tbm i hi g
def R_M : String := "RosterSolveModel"
def F_M : u_T := fun k => match k with
  | 0 => ("RosterSolveModel", "thrown", "I", false)
  | 1 => ("RosterSolveModel", "persons", "I", false)
  | 2 => ("RosterSolveModel", "days", "I", false)
  | 3 => ("RosterSolveModel", "frozen", "I", false)
  | 4 => ("RosterSolveModel", "skills", "[I", true)
  | 5 => ("RosterSolveModel", "rate", "[I", true)
  | 6 => ("RosterSolveModel", "roster", "[I", true)
  | 7 => ("RosterSolveModel", "tried", "[I", true)
  | 8 => ("RosterSolveModel", "best", "[I", true)
  | 9 => ("RosterSolveModel", "published", "[I", true)
  | 10 => ("RosterSolveModel", "editions", "I", false)
  | 11 => ("RosterSolveModel", "needs", "[I", true)
  | 12 => ("RosterSolveModel", "needSkills", "[I", true)
  | 13 => ("RosterSolveModel", "bars", "[Z", true)
  | 14 => ("RosterSolveModel", "rest", "I", false)
  | 15 => ("RosterSolveModel", "most", "I", false)
  | 16 => ("RosterSolveModel", "nights", "I", false)
  | 17 => ("RosterSolveModel", "wishes", "I", false)
  | 18 => ("RosterSolveModel", "wishPerson", "[I", true)
  | 19 => ("RosterSolveModel", "wishDay", "[I", true)
  | 20 => ("RosterSolveModel", "wishShift", "[I", true)
  | 21 => ("RosterSolveModel", "wishWants", "[Z", true)
  | 22 => ("RosterSolveModel", "weight", "[I", true)
  | 23 => ("RosterSolveModel", "exact", "Z", false)
  | 24 => ("RosterSolveModel", "steps", "I", false)
  | _ => ("RosterSolveModel", "rights", "I", false)
def t_M : Nat → FieldType := fun k => match k with
  | 0 => .int
  | 1 => .int
  | 2 => .int
  | 3 => .int
  | 4 => .array .int
  | 5 => .array .int
  | 6 => .array .int
  | 7 => .array .int
  | 8 => .array .int
  | 9 => .array .int
  | 10 => .int
  | 11 => .array .int
  | 12 => .array .int
  | 13 => .array .boolean
  | 14 => .int
  | 15 => .int
  | 16 => .int
  | 17 => .int
  | 18 => .array .int
  | 19 => .array .int
  | 20 => .array .int
  | 21 => .array .boolean
  | 22 => .array .int
  | 23 => .boolean
  | 24 => .int
  | _ => .int
theorem n_M : ∀ a, a < 26 → ∀ b, b < 26 → a ≠ b → (F_M a).2.1 ≠ (F_M b).2.1 := by decide +kernel
theorem t_M_ok : ∀ k, k < 26 → parseFieldDescriptor (F_M k).2.2.1 = some (t_M k) := by decide +kernel
theorem u_M : ∀ w ∈ u_ws R_M F_M 26, w ∈ TBG := by
  have e : u_ws R_M F_M 26 = ([605, 607, 609, 611, 613, 615, 617, 619, 621, 623, 625, 627, 629, 631, 633, 635, 637, 639, 641, 643, 645, 647, 649, 651, 653, 655] : List Nat).filterMap (fun i => tables_1[i]?) := by decide +kernel
  intro w hw
  have g : goodWord w = true := List.all_eq_true.mp (show (u_ws R_M F_M 26).all goodWord = true by decide +kernel) w hw
  rw [e] at hw
  obtain ⟨i, -, hi⟩ := List.mem_filterMap.mp hw
  exact tbm i hi g
def R_L : String := "RosterSolveLaw"
abbrev cls : List vw_C := [(R_P, F_P, 12), (R_S, F_S, 15), (R_R, F_R, 6), (R_M, F_M, 26)]
abbrev b_R_init : ByteArray := prog_1_method_1_code
def y_R_init : MethodName := ⟨R_R, "<init>", "()V"⟩
set_option maxRecDepth 100000 in
theorem q_R_init : (Cond.code y_R_init b_R_init 1 none) ∈ TBG := tbm 18 rfl rfl
def w_R_init : List Cond := .code y_R_init b_R_init 1 none :: TBG
abbrev b_P_init : ByteArray := prog_2_method_1_code
def y_P_init : MethodName := ⟨R_P, "<init>", "()V"⟩
set_option maxRecDepth 100000 in
theorem q_P_init : (Cond.code y_P_init b_P_init 1 none) ∈ TBG := tbm 26 rfl rfl
def w_P_init : List Cond := .code y_P_init b_P_init 1 none :: TBG
abbrev b_S_init : ByteArray := prog_3_method_1_code
def y_S_init : MethodName := ⟨R_S, "<init>", "(LRosterSolve$Plan;)V"⟩
set_option maxRecDepth 100000 in
theorem q_S_init : (Cond.code y_S_init b_S_init 2 none) ∈ TBG := tbm 81 rfl rfl
def w_S_init : List Cond := .code y_S_init b_S_init 2 none :: TBG
abbrev b_R_wrong : ByteArray := prog_1_method_14_code
def y_R_wrong : MethodName := ⟨R_R, "wrong", "()I"⟩
set_option maxRecDepth 100000 in
theorem q_R_wrong : (Cond.code y_R_wrong b_R_wrong 1 (some .int)) ∈ TBG := tbm 156 rfl rfl
def w_R_wrong : List Cond := .code y_R_wrong b_R_wrong 1 (some .int) :: TBG
abbrev b_P_firstFault : ByteArray := prog_2_method_7_code
def y_P_firstFault : MethodName := ⟨R_P, "firstFault", "([I)I"⟩
set_option maxRecDepth 100000 in
theorem q_P_firstFault : (Cond.code y_P_firstFault b_P_firstFault 3 (some .int)) ∈ TBG := tbm 160 rfl rfl
def w_P_firstFault : List Cond := .code y_P_firstFault b_P_firstFault 3 (some .int) :: TBG
abbrev b_P_firstNeedFault : ByteArray := prog_2_method_8_code
def y_P_firstNeedFault : MethodName := ⟨R_P, "firstNeedFault", "([I)I"⟩
set_option maxRecDepth 100000 in
theorem q_P_firstNeedFault : (Cond.code y_P_firstNeedFault b_P_firstNeedFault 4 (some .int)) ∈ TBG := tbm 164 rfl rfl
def w_P_firstNeedFault : List Cond := .code y_P_firstNeedFault b_P_firstNeedFault 4 (some .int) :: TBG
abbrev b_P_firstNeedUnmet : ByteArray := prog_2_method_9_code
def y_P_firstNeedUnmet : MethodName := ⟨R_P, "firstNeedUnmet", "([II)I"⟩
set_option maxRecDepth 100000 in
theorem q_P_firstNeedUnmet : (Cond.code y_P_firstNeedUnmet b_P_firstNeedUnmet 4 (some .int)) ∈ TBG := tbm 168 rfl rfl
def w_P_firstNeedUnmet : List Cond := .code y_P_firstNeedUnmet b_P_firstNeedUnmet 4 (some .int) :: TBG
abbrev b_P_meetsNeed : ByteArray := prog_2_method_10_code
def y_P_meetsNeed : MethodName := ⟨R_P, "meetsNeed", "([III)Z"⟩
set_option maxRecDepth 100000 in
theorem q_P_meetsNeed : (Cond.code y_P_meetsNeed b_P_meetsNeed 7 (some .boolean)) ∈ TBG := tbm 172 rfl rfl
def w_P_meetsNeed : List Cond := .code y_P_meetsNeed b_P_meetsNeed 7 (some .boolean) :: TBG
abbrev b_R_cell : ByteArray := prog_1_method_28_code
def y_R_cell : MethodName := ⟨R_R, "cell", "(II)I"⟩
set_option maxRecDepth 100000 in
theorem q_R_cell : (Cond.code y_R_cell b_R_cell 2 (some .int)) ∈ TBG := tbm 175 rfl rfl
def w_R_cell : List Cond := .code y_R_cell b_R_cell 2 (some .int) :: TBG
abbrev b_R_slot : ByteArray := prog_1_method_30_code
def y_R_slot : MethodName := ⟨R_R, "slot", "(II)I"⟩
set_option maxRecDepth 100000 in
theorem q_R_slot : (Cond.code y_R_slot b_R_slot 2 (some .int)) ∈ TBG := tbm 178 rfl rfl
def w_R_slot : List Cond := .code y_R_slot b_R_slot 2 (some .int) :: TBG
abbrev b_P_faultNumber : ByteArray := prog_2_method_17_code
def y_P_faultNumber : MethodName := ⟨R_P, "faultNumber", "(III)I"⟩
set_option maxRecDepth 100000 in
theorem q_P_faultNumber : (Cond.code y_P_faultNumber b_P_faultNumber 3 (some .int)) ∈ TBG := tbm 181 rfl rfl
def w_P_faultNumber : List Cond := .code y_P_faultNumber b_P_faultNumber 3 (some .int) :: TBG
abbrev b_P_firstRestFault : ByteArray := prog_2_method_11_code
def y_P_firstRestFault : MethodName := ⟨R_P, "firstRestFault", "([I)I"⟩
set_option maxRecDepth 100000 in
theorem q_P_firstRestFault : (Cond.code y_P_firstRestFault b_P_firstRestFault 4 (some .int)) ∈ TBG := tbm 185 rfl rfl
def w_P_firstRestFault : List Cond := .code y_P_firstRestFault b_P_firstRestFault 4 (some .int) :: TBG
abbrev b_P_breaksRest : ByteArray := prog_2_method_12_code
def y_P_breaksRest : MethodName := ⟨R_P, "breaksRest", "(II)Z"⟩
set_option maxRecDepth 100000 in
theorem q_P_breaksRest : (Cond.code y_P_breaksRest b_P_breaksRest 3 (some .boolean)) ∈ TBG := tbm 189 rfl rfl
def w_P_breaksRest : List Cond := .code y_P_breaksRest b_P_breaksRest 3 (some .boolean) :: TBG
abbrev b_P_hoursBetween : ByteArray := prog_2_method_13_code
def y_P_hoursBetween : MethodName := ⟨R_P, "hoursBetween", "(II)I"⟩
set_option maxRecDepth 100000 in
theorem q_P_hoursBetween : (Cond.code y_P_hoursBetween b_P_hoursBetween 2 (some .int)) ∈ TBG := tbm 192 rfl rfl
def w_P_hoursBetween : List Cond := .code y_P_hoursBetween b_P_hoursBetween 2 (some .int) :: TBG
abbrev b_P_firstMostFault : ByteArray := prog_2_method_14_code
def y_P_firstMostFault : MethodName := ⟨R_P, "firstMostFault", "([I)I"⟩
set_option maxRecDepth 100000 in
theorem q_P_firstMostFault : (Cond.code y_P_firstMostFault b_P_firstMostFault 6 (some .int)) ∈ TBG := tbm 196 rfl rfl
def w_P_firstMostFault : List Cond := .code y_P_firstMostFault b_P_firstMostFault 6 (some .int) :: TBG
abbrev b_P_firstNightsFault : ByteArray := prog_2_method_15_code
def y_P_firstNightsFault : MethodName := ⟨R_P, "firstNightsFault", "([I)I"⟩
set_option maxRecDepth 100000 in
theorem q_P_firstNightsFault : (Cond.code y_P_firstNightsFault b_P_firstNightsFault 5 (some .int)) ∈ TBG := tbm 200 rfl rfl
def w_P_firstNightsFault : List Cond := .code y_P_firstNightsFault b_P_firstNightsFault 5 (some .int) :: TBG
abbrev b_P_firstBarFault : ByteArray := prog_2_method_16_code
def y_P_firstBarFault : MethodName := ⟨R_P, "firstBarFault", "([I)I"⟩
set_option maxRecDepth 100000 in
theorem q_P_firstBarFault : (Cond.code y_P_firstBarFault b_P_firstBarFault 4 (some .int)) ∈ TBG := tbm 204 rfl rfl
def w_P_firstBarFault : List Cond := .code y_P_firstBarFault b_P_firstBarFault 4 (some .int) :: TBG
abbrev b_R_choice : ByteArray := prog_1_method_29_code
def y_R_choice : MethodName := ⟨R_R, "choice", "(III)I"⟩
set_option maxRecDepth 100000 in
theorem q_R_choice : (Cond.code y_R_choice b_R_choice 3 (some .int)) ∈ TBG := tbm 207 rfl rfl
def w_R_choice : List Cond := .code y_R_choice b_R_choice 3 (some .int) :: TBG
abbrev b_R_unmet : ByteArray := prog_1_method_15_code
def y_R_unmet : MethodName := ⟨R_R, "unmet", "()I"⟩
set_option maxRecDepth 100000 in
theorem q_R_unmet : (Cond.code y_R_unmet b_R_unmet 1 (some .int)) ∈ TBG := tbm 212 rfl rfl
def w_R_unmet : List Cond := .code y_R_unmet b_R_unmet 1 (some .int) :: TBG
abbrev b_P_unmetSum : ByteArray := prog_2_method_18_code
def y_P_unmetSum : MethodName := ⟨R_P, "unmetSum", "([I)I"⟩
set_option maxRecDepth 100000 in
theorem q_P_unmetSum : (Cond.code y_P_unmetSum b_P_unmetSum 5 (some .int)) ∈ TBG := tbm 216 rfl rfl
def w_P_unmetSum : List Cond := .code y_P_unmetSum b_P_unmetSum 5 (some .int) :: TBG
abbrev b_R_cost : ByteArray := prog_1_method_16_code
def y_R_cost : MethodName := ⟨R_R, "cost", "()I"⟩
set_option maxRecDepth 100000 in
theorem q_R_cost : (Cond.code y_R_cost b_R_cost 1 (some .int)) ∈ TBG := tbm 220 rfl rfl
def w_R_cost : List Cond := .code y_R_cost b_R_cost 1 (some .int) :: TBG
abbrev b_P_costOfAll : ByteArray := prog_2_method_19_code
def y_P_costOfAll : MethodName := ⟨R_P, "costOfAll", "([I)I"⟩
set_option maxRecDepth 100000 in
theorem q_P_costOfAll : (Cond.code y_P_costOfAll b_P_costOfAll 4 (some .int)) ∈ TBG := tbm 224 rfl rfl
def w_P_costOfAll : List Cond := .code y_P_costOfAll b_P_costOfAll 4 (some .int) :: TBG
abbrev b_P_costOfOne : ByteArray := prog_2_method_20_code
def y_P_costOfOne : MethodName := ⟨R_P, "costOfOne", "([II)I"⟩
set_option maxRecDepth 100000 in
theorem q_P_costOfOne : (Cond.code y_P_costOfOne b_P_costOfOne 5 (some .int)) ∈ TBG := tbm 228 rfl rfl
def w_P_costOfOne : List Cond := .code y_P_costOfOne b_P_costOfOne 5 (some .int) :: TBG
abbrev b_R_publish : ByteArray := prog_1_method_18_code
def y_R_publish : MethodName := ⟨R_R, "publish", "()I"⟩
set_option maxRecDepth 100000 in
theorem q_R_publish : (Cond.code y_R_publish b_R_publish 5 (some .int)) ∈ TBG := tbm 232 rfl rfl
def w_R_publish : List Cond := .code y_R_publish b_R_publish 5 (some .int) :: TBG
abbrev b_L_days : ByteArray := method_3_code
def y_L_days : MethodName := ⟨R_L, "days", "(LRosterSolve;I)I"⟩
set_option maxRecDepth 100000 in
theorem q_L_days : (Cond.codeWith y_L_days b_L_days 3 (some .int) [(0, 5, 8, 13)]) ∈ TBG := tbm 238 rfl rfl
def w_L_days : List Cond := .codeWith y_L_days b_L_days 3 (some .int) [(0, 5, 8, 13)] :: TBG
abbrev b_R_days : ByteArray := prog_1_method_2_code
def y_R_days : MethodName := ⟨R_R, "days", "(I)V"⟩
set_option maxRecDepth 100000 in
theorem q_R_days : (Cond.code y_R_days b_R_days 2 none) ∈ TBG := tbm 243 rfl rfl
def w_R_days : List Cond := .code y_R_days b_R_days 2 none :: TBG
abbrev b_R_refuseOutside : ByteArray := prog_1_method_26_code
def y_R_refuseOutside : MethodName := ⟨R_R, "refuseOutside", "(III)V"⟩
set_option maxRecDepth 100000 in
theorem q_R_refuseOutside : (Cond.code y_R_refuseOutside b_R_refuseOutside 3 none) ∈ TBG := tbm 246 rfl rfl
def w_R_refuseOutside : List Cond := .code y_R_refuseOutside b_R_refuseOutside 3 none :: TBG
abbrev b_P_startDays : ByteArray := prog_2_method_2_code
def y_P_startDays : MethodName := ⟨R_P, "startDays", "(I)V"⟩
set_option maxRecDepth 100000 in
theorem q_P_startDays : (Cond.code y_P_startDays b_P_startDays 3 none) ∈ TBG := tbm 320 rfl rfl
def w_P_startDays : List Cond := .code y_P_startDays b_P_startDays 3 none :: TBG
abbrev b_R_clearRow : ByteArray := prog_1_method_31_code
def y_R_clearRow : MethodName := ⟨R_R, "clearRow", "([I)V"⟩
set_option maxRecDepth 100000 in
theorem q_R_clearRow : (Cond.code y_R_clearRow b_R_clearRow 2 none) ∈ TBG := tbm 323 rfl rfl
def w_R_clearRow : List Cond := .code y_R_clearRow b_R_clearRow 2 none :: TBG
abbrev b_L_person : ByteArray := method_4_code
def y_L_person : MethodName := ⟨R_L, "person", "(LRosterSolve;II[J)I"⟩
set_option maxRecDepth 100000 in
theorem q_L_person : (Cond.codeWith y_L_person b_L_person 5 (some .int) [(0, 10, 13, 13), (0, 10, 17, 19)]) ∈ TBG := tbm 327 rfl rfl
def w_L_person : List Cond := .codeWith y_L_person b_L_person 5 (some .int) [(0, 10, 13, 13), (0, 10, 17, 19)] :: TBG
abbrev b_R_person : ByteArray := prog_1_method_3_code
def y_R_person : MethodName := ⟨R_R, "person", "(II)I"⟩
set_option maxRecDepth 100000 in
theorem q_R_person : (Cond.code y_R_person b_R_person 3 (some .int)) ∈ TBG := tbm 332 rfl rfl
def w_R_person : List Cond := .code y_R_person b_R_person 3 (some .int) :: TBG
abbrev b_R_refuseFull : ByteArray := prog_1_method_27_code
def y_R_refuseFull : MethodName := ⟨R_R, "refuseFull", "(II)V"⟩
set_option maxRecDepth 100000 in
theorem q_R_refuseFull : (Cond.code y_R_refuseFull b_R_refuseFull 2 none) ∈ TBG := tbm 335 rfl rfl
def w_R_refuseFull : List Cond := .code y_R_refuseFull b_R_refuseFull 2 none :: TBG
abbrev b_P_addPerson : ByteArray := prog_2_method_3_code
def y_P_addPerson : MethodName := ⟨R_P, "addPerson", "(II)I"⟩
set_option maxRecDepth 100000 in
theorem q_P_addPerson : (Cond.code y_P_addPerson b_P_addPerson 4 (some .int)) ∈ TBG := tbm 355 rfl rfl
def w_P_addPerson : List Cond := .code y_P_addPerson b_P_addPerson 4 (some .int) :: TBG
abbrev b_L_need : ByteArray := method_5_code
def y_L_need : MethodName := ⟨R_L, "need", "(LRosterSolve;IIII)I"⟩
set_option maxRecDepth 100000 in
theorem q_L_need : (Cond.codeWith y_L_need b_L_need 6 (some .int) [(0, 9, 12, 25), (0, 9, 16, 13)]) ∈ TBG := tbm 358 rfl rfl
def w_L_need : List Cond := .codeWith y_L_need b_L_need 6 (some .int) [(0, 9, 12, 25), (0, 9, 16, 13)] :: TBG
abbrev b_R_need : ByteArray := prog_1_method_4_code
def y_R_need : MethodName := ⟨R_R, "need", "(IIII)V"⟩
set_option maxRecDepth 100000 in
theorem q_R_need : (Cond.code y_R_need b_R_need 5 none) ∈ TBG := tbm 363 rfl rfl
def w_R_need : List Cond := .code y_R_need b_R_need 5 none :: TBG
abbrev b_R_refuseUnknownDay : ByteArray := prog_1_method_22_code
def y_R_refuseUnknownDay : MethodName := ⟨R_R, "refuseUnknownDay", "(I)V"⟩
set_option maxRecDepth 100000 in
theorem q_R_refuseUnknownDay : (Cond.code y_R_refuseUnknownDay b_R_refuseUnknownDay 2 none) ∈ TBG := tbm 367 rfl rfl
def w_R_refuseUnknownDay : List Cond := .code y_R_refuseUnknownDay b_R_refuseUnknownDay 2 none :: TBG
abbrev b_R_refuseUnknown : ByteArray := prog_1_method_24_code
def y_R_refuseUnknown : MethodName := ⟨R_R, "refuseUnknown", "(III)V"⟩
set_option maxRecDepth 100000 in
theorem q_R_refuseUnknown : (Cond.code y_R_refuseUnknown b_R_refuseUnknown 3 none) ∈ TBG := tbm 370 rfl rfl
def w_R_refuseUnknown : List Cond := .code y_R_refuseUnknown b_R_refuseUnknown 3 none :: TBG
abbrev b_P_putNeed : ByteArray := prog_2_method_4_code
def y_P_putNeed : MethodName := ⟨R_P, "putNeed", "(IIII)V"⟩
set_option maxRecDepth 100000 in
theorem q_P_putNeed : (Cond.code y_P_putNeed b_P_putNeed 5 none) ∈ TBG := tbm 390 rfl rfl
def w_P_putNeed : List Cond := .code y_P_putNeed b_P_putNeed 5 none :: TBG
abbrev b_L_rules : ByteArray := method_6_code
def y_L_rules : MethodName := ⟨R_L, "rules", "(LRosterSolve;III)I"⟩
set_option maxRecDepth 100000 in
theorem q_L_rules : (Cond.codeWith y_L_rules b_L_rules 5 (some .int) [(0, 7, 10, 13)]) ∈ TBG := tbm 393 rfl rfl
def w_L_rules : List Cond := .codeWith y_L_rules b_L_rules 5 (some .int) [(0, 7, 10, 13)] :: TBG
abbrev b_R_rules : ByteArray := prog_1_method_5_code
def y_R_rules : MethodName := ⟨R_R, "rules", "(III)V"⟩
set_option maxRecDepth 100000 in
theorem q_R_rules : (Cond.code y_R_rules b_R_rules 4 none) ∈ TBG := tbm 397 rfl rfl
def w_R_rules : List Cond := .code y_R_rules b_R_rules 4 none :: TBG
abbrev b_P_putRules : ByteArray := prog_2_method_5_code
def y_P_putRules : MethodName := ⟨R_P, "putRules", "(III)V"⟩
set_option maxRecDepth 100000 in
theorem q_P_putRules : (Cond.code y_P_putRules b_P_putRules 4 none) ∈ TBG := tbm 401 rfl rfl
def w_P_putRules : List Cond := .code y_P_putRules b_P_putRules 4 none :: TBG
abbrev b_L_bar : ByteArray := method_7_code
def y_L_bar : MethodName := ⟨R_L, "bar", "(LRosterSolve;IIIZ)I"⟩
set_option maxRecDepth 100000 in
theorem q_L_bar : (Cond.codeWith y_L_bar b_L_bar 6 (some .int) [(0, 9, 12, 25)]) ∈ TBG := tbm 404 rfl rfl
def w_L_bar : List Cond := .codeWith y_L_bar b_L_bar 6 (some .int) [(0, 9, 12, 25)] :: TBG
abbrev b_R_bar : ByteArray := prog_1_method_6_code
def y_R_bar : MethodName := ⟨R_R, "bar", "(IIIZ)V"⟩
set_option maxRecDepth 100000 in
theorem q_R_bar : (Cond.code y_R_bar b_R_bar 5 none) ∈ TBG := tbm 408 rfl rfl
def w_R_bar : List Cond := .code y_R_bar b_R_bar 5 none :: TBG
abbrev b_R_refuseUnknownPerson : ByteArray := prog_1_method_21_code
def y_R_refuseUnknownPerson : MethodName := ⟨R_R, "refuseUnknownPerson", "(I)V"⟩
set_option maxRecDepth 100000 in
theorem q_R_refuseUnknownPerson : (Cond.code y_R_refuseUnknownPerson b_R_refuseUnknownPerson 2 none) ∈ TBG := tbm 412 rfl rfl
def w_R_refuseUnknownPerson : List Cond := .code y_R_refuseUnknownPerson b_R_refuseUnknownPerson 2 none :: TBG
abbrev b_L_wish : ByteArray := method_8_code
def y_L_wish : MethodName := ⟨R_L, "wish", "(LRosterSolve;IIIZI[J)I"⟩
set_option maxRecDepth 100000 in
theorem q_L_wish : (Cond.codeWith y_L_wish b_L_wish 8 (some .int) [(0, 16, 19, 25), (0, 16, 23, 13), (0, 16, 27, 39), (0, 16, 31, 19)]) ∈ TBG := tbm 416 rfl rfl
def w_L_wish : List Cond := .codeWith y_L_wish b_L_wish 8 (some .int) [(0, 16, 19, 25), (0, 16, 23, 13), (0, 16, 27, 39), (0, 16, 31, 19)] :: TBG
abbrev b_R_wish : ByteArray := prog_1_method_7_code
def y_R_wish : MethodName := ⟨R_R, "wish", "(IIIZI)I"⟩
set_option maxRecDepth 100000 in
theorem q_R_wish : (Cond.code y_R_wish b_R_wish 6 (some .int)) ∈ TBG := tbm 421 rfl rfl
def w_R_wish : List Cond := .code y_R_wish b_R_wish 6 (some .int) :: TBG
abbrev b_R_refuseFrozen : ByteArray := prog_1_method_23_code
def y_R_refuseFrozen : MethodName := ⟨R_R, "refuseFrozen", "(I)V"⟩
set_option maxRecDepth 100000 in
theorem q_R_refuseFrozen : (Cond.code y_R_refuseFrozen b_R_refuseFrozen 2 none) ∈ TBG := tbm 425 rfl rfl
def w_R_refuseFrozen : List Cond := .code y_R_refuseFrozen b_R_refuseFrozen 2 none :: TBG
abbrev b_P_addWish : ByteArray := prog_2_method_6_code
def y_P_addWish : MethodName := ⟨R_P, "addWish", "(IIZI)I"⟩
set_option maxRecDepth 100000 in
theorem q_P_addWish : (Cond.code y_P_addWish b_P_addWish 7 (some .int)) ∈ TBG := tbm 445 rfl rfl
def w_P_addWish : List Cond := .code y_P_addWish b_P_addWish 7 (some .int) :: TBG
abbrev b_L_freeze : ByteArray := method_9_code
def y_L_freeze : MethodName := ⟨R_L, "freeze", "(LRosterSolve;I)I"⟩
set_option maxRecDepth 100000 in
theorem q_L_freeze : (Cond.codeWith y_L_freeze b_L_freeze 3 (some .int) [(0, 5, 8, 13)]) ∈ TBG := tbm 448 rfl rfl
def w_L_freeze : List Cond := .codeWith y_L_freeze b_L_freeze 3 (some .int) [(0, 5, 8, 13)] :: TBG
abbrev b_R_freeze : ByteArray := prog_1_method_8_code
def y_R_freeze : MethodName := ⟨R_R, "freeze", "(I)V"⟩
set_option maxRecDepth 100000 in
theorem q_R_freeze : (Cond.code y_R_freeze b_R_freeze 2 none) ∈ TBG := tbm 452 rfl rfl
def w_R_freeze : List Cond := .code y_R_freeze b_R_freeze 2 none :: TBG
abbrev b_L_set : ByteArray := method_10_code
def y_L_set : MethodName := ⟨R_L, "set", "(LRosterSolve;III)I"⟩
set_option maxRecDepth 100000 in
theorem q_L_set : (Cond.codeWith y_L_set b_L_set 5 (some .int) [(0, 7, 10, 25), (0, 7, 14, 39)]) ∈ TBG := tbm 455 rfl rfl
def w_L_set : List Cond := .codeWith y_L_set b_L_set 5 (some .int) [(0, 7, 10, 25), (0, 7, 14, 39)] :: TBG
abbrev b_R_set : ByteArray := prog_1_method_9_code
def y_R_set : MethodName := ⟨R_R, "set", "(III)V"⟩
set_option maxRecDepth 100000 in
theorem q_R_set : (Cond.code y_R_set b_R_set 4 none) ∈ TBG := tbm 459 rfl rfl
def w_R_set : List Cond := .code y_R_set b_R_set 4 none :: TBG
abbrev b_L_solve : ByteArray := method_11_code
def y_L_solve : MethodName := ⟨R_L, "solve", "(LRosterSolve;I[J)I"⟩
set_option maxRecDepth 100000 in
theorem q_L_solve : (Cond.codeWith y_L_solve b_L_solve 4 (some .int) [(0, 9, 12, 13)]) ∈ TBG := tbm 462 rfl rfl
def w_L_solve : List Cond := .codeWith y_L_solve b_L_solve 4 (some .int) [(0, 9, 12, 13)] :: TBG
abbrev b_R_solve : ByteArray := prog_1_method_10_code
def y_R_solve : MethodName := ⟨R_R, "solve", "(I)I"⟩
set_option maxRecDepth 100000 in
theorem q_R_solve : (Cond.code y_R_solve b_R_solve 2 (some .int)) ∈ TBG := tbm 466 rfl rfl
def w_R_solve : List Cond := .code y_R_solve b_R_solve 2 (some .int) :: TBG
abbrev b_S_run : ByteArray := prog_3_method_2_code
def y_S_run : MethodName := ⟨R_S, "run", "([III)V"⟩
set_option maxRecDepth 100000 in
theorem q_S_run : (Cond.code y_S_run b_S_run 4 none) ∈ TBG := tbm 470 rfl rfl
def w_S_run : List Cond := .code y_S_run b_S_run 4 none :: TBG
abbrev b_S_takeOnlyRoster : ByteArray := prog_3_method_3_code
def y_S_takeOnlyRoster : MethodName := ⟨R_S, "takeOnlyRoster", "()V"⟩
set_option maxRecDepth 100000 in
theorem q_S_takeOnlyRoster : (Cond.code y_S_takeOnlyRoster b_S_takeOnlyRoster 1 none) ∈ TBG := tbm 475 rfl rfl
def w_S_takeOnlyRoster : List Cond := .code y_S_takeOnlyRoster b_S_takeOnlyRoster 1 none :: TBG
abbrev b_S_keepTrial : ByteArray := prog_3_method_10_code
def y_S_keepTrial : MethodName := ⟨R_S, "keepTrial", "(I)V"⟩
set_option maxRecDepth 100000 in
theorem q_S_keepTrial : (Cond.code y_S_keepTrial b_S_keepTrial 2 none) ∈ TBG := tbm 480 rfl rfl
def w_S_keepTrial : List Cond := .code y_S_keepTrial b_S_keepTrial 2 none :: TBG
abbrev b_S_goThrough : ByteArray := prog_3_method_4_code
def y_S_goThrough : MethodName := ⟨R_S, "goThrough", "([I)V"⟩
set_option maxRecDepth 100000 in
theorem q_S_goThrough : (Cond.code y_S_goThrough b_S_goThrough 7 none) ∈ TBG := tbm 484 rfl rfl
def w_S_goThrough : List Cond := .code y_S_goThrough b_S_goThrough 7 none :: TBG
abbrev b_S_open : ByteArray := prog_3_method_5_code
def y_S_open : MethodName := ⟨R_S, "open", "([III)V"⟩
set_option maxRecDepth 100000 in
theorem q_S_open : (Cond.code y_S_open b_S_open 6 none) ∈ TBG := tbm 488 rfl rfl
def w_S_open : List Cond := .code y_S_open b_S_open 6 none :: TBG
abbrev b_S_standsNext : ByteArray := prog_3_method_6_code
def y_S_standsNext : MethodName := ⟨R_S, "standsNext", "(II)Z"⟩
set_option maxRecDepth 100000 in
theorem q_S_standsNext : (Cond.code y_S_standsNext b_S_standsNext 5 (some .boolean)) ∈ TBG := tbm 494 rfl rfl
def w_S_standsNext : List Cond := .code y_S_standsNext b_S_standsNext 5 (some .boolean) :: TBG
abbrev b_S_keepsRules : ByteArray := prog_3_method_7_code
def y_S_keepsRules : MethodName := ⟨R_S, "keepsRules", "(III)Z"⟩
set_option maxRecDepth 100000 in
theorem q_S_keepsRules : (Cond.code y_S_keepsRules b_S_keepsRules 9 (some .boolean)) ∈ TBG := tbm 498 rfl rfl
def w_S_keepsRules : List Cond := .code y_S_keepsRules b_S_keepsRules 9 (some .boolean) :: TBG
abbrev b_S_staysBelowBest : ByteArray := prog_3_method_8_code
def y_S_staysBelowBest : MethodName := ⟨R_S, "staysBelowBest", "(III)Z"⟩
set_option maxRecDepth 100000 in
theorem q_S_staysBelowBest : (Cond.code y_S_staysBelowBest b_S_staysBelowBest 5 (some .boolean)) ∈ TBG := tbm 504 rfl rfl
def w_S_staysBelowBest : List Cond := .code y_S_staysBelowBest b_S_staysBelowBest 5 (some .boolean) :: TBG
abbrev b_S_unmetBefore : ByteArray := prog_3_method_9_code
def y_S_unmetBefore : MethodName := ⟨R_S, "unmetBefore", "(II)I"⟩
set_option maxRecDepth 100000 in
theorem q_S_unmetBefore : (Cond.code y_S_unmetBefore b_S_unmetBefore 3 (some .int)) ∈ TBG := tbm 508 rfl rfl
def w_S_unmetBefore : List Cond := .code y_S_unmetBefore b_S_unmetBefore 3 (some .int) :: TBG
abbrev b_L_solved : ByteArray := method_12_code
def y_L_solved : MethodName := ⟨R_L, "solved", "(LRosterSolve;I[J)I"⟩
set_option maxRecDepth 100000 in
theorem q_L_solved : (Cond.codeWith y_L_solved b_L_solved 4 (some .int) [(0, 9, 12, 25)]) ∈ TBG := tbm 512 rfl rfl
def w_L_solved : List Cond := .codeWith y_L_solved b_L_solved 4 (some .int) [(0, 9, 12, 25)] :: TBG
abbrev b_R_solved : ByteArray := prog_1_method_11_code
def y_R_solved : MethodName := ⟨R_R, "solved", "(I)I"⟩
set_option maxRecDepth 100000 in
theorem q_R_solved : (Cond.code y_R_solved b_R_solved 2 (some .int)) ∈ TBG := tbm 516 rfl rfl
def w_R_solved : List Cond := .code y_R_solved b_R_solved 2 (some .int) :: TBG
abbrev b_L_swap : ByteArray := method_13_code
def y_L_swap : MethodName := ⟨R_L, "swap", "(LRosterSolve;III)I"⟩
set_option maxRecDepth 100000 in
theorem q_L_swap : (Cond.codeWith y_L_swap b_L_swap 5 (some .int) [(0, 7, 10, 25), (0, 7, 14, 39)]) ∈ TBG := tbm 519 rfl rfl
def w_L_swap : List Cond := .codeWith y_L_swap b_L_swap 5 (some .int) [(0, 7, 10, 25), (0, 7, 14, 39)] :: TBG
abbrev b_R_swap : ByteArray := prog_1_method_12_code
def y_R_swap : MethodName := ⟨R_R, "swap", "(III)V"⟩
set_option maxRecDepth 100000 in
theorem q_R_swap : (Cond.code y_R_swap b_R_swap 4 none) ∈ TBG := tbm 523 rfl rfl
def w_R_swap : List Cond := .code y_R_swap b_R_swap 4 none :: TBG
abbrev b_R_refuseSame : ByteArray := prog_1_method_25_code
def y_R_refuseSame : MethodName := ⟨R_R, "refuseSame", "(II)V"⟩
set_option maxRecDepth 100000 in
theorem q_R_refuseSame : (Cond.code y_R_refuseSame b_R_refuseSame 2 none) ∈ TBG := tbm 526 rfl rfl
def w_R_refuseSame : List Cond := .code y_R_refuseSame b_R_refuseSame 2 none :: TBG
abbrev b_R_exchange : ByteArray := prog_1_method_20_code
def y_R_exchange : MethodName := ⟨R_R, "exchange", "(II)V"⟩
set_option maxRecDepth 100000 in
theorem q_R_exchange : (Cond.code y_R_exchange b_R_exchange 4 none) ∈ TBG := tbm 531 rfl rfl
def w_R_exchange : List Cond := .code y_R_exchange b_R_exchange 4 none :: TBG
abbrev b_L_shift : ByteArray := method_14_code
def y_L_shift : MethodName := ⟨R_L, "shift", "(LRosterSolve;II[J)I"⟩
set_option maxRecDepth 100000 in
theorem q_L_shift : (Cond.codeWith y_L_shift b_L_shift 5 (some .int) [(0, 10, 13, 25)]) ∈ TBG := tbm 535 rfl rfl
def w_L_shift : List Cond := .codeWith y_L_shift b_L_shift 5 (some .int) [(0, 10, 13, 25)] :: TBG
abbrev b_R_shift : ByteArray := prog_1_method_13_code
def y_R_shift : MethodName := ⟨R_R, "shift", "(II)I"⟩
set_option maxRecDepth 100000 in
theorem q_R_shift : (Cond.code y_R_shift b_R_shift 3 (some .int)) ∈ TBG := tbm 539 rfl rfl
def w_R_shift : List Cond := .code y_R_shift b_R_shift 3 (some .int) :: TBG
abbrev b_L_share : ByteArray := method_15_code
def y_L_share : MethodName := ⟨R_L, "share", "(LRosterSolve;I[J)I"⟩
set_option maxRecDepth 100000 in
theorem q_L_share : (Cond.codeWith y_L_share b_L_share 4 (some .int) [(0, 9, 12, 25), (0, 9, 15, 63)]) ∈ TBG := tbm 542 rfl rfl
def w_L_share : List Cond := .codeWith y_L_share b_L_share 4 (some .int) [(0, 9, 12, 25), (0, 9, 15, 63)] :: TBG
abbrev b_R_share : ByteArray := prog_1_method_17_code
def y_R_share : MethodName := ⟨R_R, "share", "(I)I"⟩
set_option maxRecDepth 100000 in
theorem q_R_share : (Cond.code y_R_share b_R_share 3 (some .int)) ∈ TBG := tbm 547 rfl rfl
def w_R_share : List Cond := .code y_R_share b_R_share 3 (some .int) :: TBG
abbrev b_L_count : ByteArray := method_16_code
def y_L_count : MethodName := ⟨R_L, "count", "(LRosterSolve;I[J)I"⟩
set_option maxRecDepth 100000 in
theorem q_L_count : (Cond.codeWith y_L_count b_L_count 4 (some .int) [(0, 9, 12, 25)]) ∈ TBG := tbm 568 rfl rfl
def w_L_count : List Cond := .codeWith y_L_count b_L_count 4 (some .int) [(0, 9, 12, 25)] :: TBG
abbrev b_R_count : ByteArray := prog_1_method_19_code
def y_R_count : MethodName := ⟨R_R, "count", "(I)I"⟩
set_option maxRecDepth 100000 in
theorem q_R_count : (Cond.code y_R_count b_R_count 2 (some .int)) ∈ TBG := tbm 572 rfl rfl
def w_R_count : List Cond := .code y_R_count b_R_count 2 (some .int) :: TBG
abbrev b_M_init : ByteArray := prog_5_method_1_code
def y_M_init : MethodName := ⟨R_M, "<init>", "()V"⟩
set_option maxRecDepth 100000 in
theorem q_M_init : (Cond.code y_M_init b_M_init 1 none) ∈ TBG := tbm 577 rfl rfl
def w_M_init : List Cond := .code y_M_init b_M_init 1 none :: TBG
abbrev b_M_thrown : ByteArray := prog_5_method_2_code
def y_M_thrown : MethodName := ⟨R_M, "thrown", "()I"⟩
set_option maxRecDepth 100000 in
theorem q_M_thrown : (Cond.code y_M_thrown b_M_thrown 1 (some .int)) ∈ TBG := tbm 661 rfl rfl
def w_M_thrown : List Cond := .code y_M_thrown b_M_thrown 1 (some .int) :: TBG
abbrev b_M_days : ByteArray := prog_5_method_7_code
def y_M_days : MethodName := ⟨R_M, "days", "(I)V"⟩
set_option maxRecDepth 100000 in
theorem q_M_days : (Cond.code y_M_days b_M_days 3 none) ∈ TBG := tbm 665 rfl rfl
def w_M_days : List Cond := .code y_M_days b_M_days 3 none :: TBG
abbrev b_M_in : ByteArray := prog_5_method_4_code
def y_M_in : MethodName := ⟨R_M, "in", "(III)Z"⟩
set_option maxRecDepth 100000 in
theorem q_M_in : (Cond.code y_M_in b_M_in 3 (some .boolean)) ∈ TBG := tbm 668 rfl rfl
def w_M_in : List Cond := .code y_M_in b_M_in 3 (some .boolean) :: TBG
abbrev b_M_throwing : ByteArray := prog_5_method_3_code
def y_M_throwing : MethodName := ⟨R_M, "throwing", "(ZZZZ)Z"⟩
set_option maxRecDepth 100000 in
theorem q_M_throwing : (Cond.code y_M_throwing b_M_throwing 5 (some .boolean)) ∈ TBG := tbm 672 rfl rfl
def w_M_throwing : List Cond := .code y_M_throwing b_M_throwing 5 (some .boolean) :: TBG
abbrev b_M_person : ByteArray := prog_5_method_8_code
def y_M_person : MethodName := ⟨R_M, "person", "(II)I"⟩
set_option maxRecDepth 100000 in
theorem q_M_person : (Cond.code y_M_person b_M_person 3 (some .int)) ∈ TBG := tbm 676 rfl rfl
def w_M_person : List Cond := .code y_M_person b_M_person 3 (some .int) :: TBG
abbrev b_M_need : ByteArray := prog_5_method_9_code
def y_M_need : MethodName := ⟨R_M, "need", "(IIII)V"⟩
set_option maxRecDepth 100000 in
theorem q_M_need : (Cond.code y_M_need b_M_need 5 none) ∈ TBG := tbm 680 rfl rfl
def w_M_need : List Cond := .code y_M_need b_M_need 5 none :: TBG
abbrev b_M_isDay : ByteArray := prog_5_method_6_code
def y_M_isDay : MethodName := ⟨R_M, "isDay", "(I)Z"⟩
set_option maxRecDepth 100000 in
theorem q_M_isDay : (Cond.code y_M_isDay b_M_isDay 2 (some .boolean)) ∈ TBG := tbm 684 rfl rfl
def w_M_isDay : List Cond := .code y_M_isDay b_M_isDay 2 (some .boolean) :: TBG
abbrev b_M_rules : ByteArray := prog_5_method_10_code
def y_M_rules : MethodName := ⟨R_M, "rules", "(III)V"⟩
set_option maxRecDepth 100000 in
theorem q_M_rules : (Cond.code y_M_rules b_M_rules 4 none) ∈ TBG := tbm 688 rfl rfl
def w_M_rules : List Cond := .code y_M_rules b_M_rules 4 none :: TBG
abbrev b_M_bar : ByteArray := prog_5_method_11_code
def y_M_bar : MethodName := ⟨R_M, "bar", "(IIIZ)V"⟩
set_option maxRecDepth 100000 in
theorem q_M_bar : (Cond.code y_M_bar b_M_bar 5 none) ∈ TBG := tbm 692 rfl rfl
def w_M_bar : List Cond := .code y_M_bar b_M_bar 5 none :: TBG
abbrev b_M_isPerson : ByteArray := prog_5_method_5_code
def y_M_isPerson : MethodName := ⟨R_M, "isPerson", "(I)Z"⟩
set_option maxRecDepth 100000 in
theorem q_M_isPerson : (Cond.code y_M_isPerson b_M_isPerson 2 (some .boolean)) ∈ TBG := tbm 696 rfl rfl
def w_M_isPerson : List Cond := .code y_M_isPerson b_M_isPerson 2 (some .boolean) :: TBG
abbrev b_M_wish : ByteArray := prog_5_method_12_code
def y_M_wish : MethodName := ⟨R_M, "wish", "(IIIZI)I"⟩
set_option maxRecDepth 100000 in
theorem q_M_wish : (Cond.code y_M_wish b_M_wish 7 (some .int)) ∈ TBG := tbm 700 rfl rfl
def w_M_wish : List Cond := .code y_M_wish b_M_wish 7 (some .int) :: TBG
abbrev b_M_freeze : ByteArray := prog_5_method_13_code
def y_M_freeze : MethodName := ⟨R_M, "freeze", "(I)V"⟩
set_option maxRecDepth 100000 in
theorem q_M_freeze : (Cond.code y_M_freeze b_M_freeze 2 none) ∈ TBG := tbm 704 rfl rfl
def w_M_freeze : List Cond := .code y_M_freeze b_M_freeze 2 none :: TBG
abbrev b_M_set : ByteArray := prog_5_method_14_code
def y_M_set : MethodName := ⟨R_M, "set", "(III)V"⟩
set_option maxRecDepth 100000 in
theorem q_M_set : (Cond.code y_M_set b_M_set 5 none) ∈ TBG := tbm 708 rfl rfl
def w_M_set : List Cond := .code y_M_set b_M_set 5 none :: TBG
abbrev b_M_solve : ByteArray := prog_5_method_25_code
def y_M_solve : MethodName := ⟨R_M, "solve", "(I)I"⟩
set_option maxRecDepth 100000 in
theorem q_M_solve : (Cond.code y_M_solve b_M_solve 4 (some .int)) ∈ TBG := tbm 712 rfl rfl
def w_M_solve : List Cond := .code y_M_solve b_M_solve 4 (some .int) :: TBG
abbrev b_M_areMet : ByteArray := prog_5_method_20_code
def y_M_areMet : MethodName := ⟨R_M, "areMet", "([II)Z"⟩
set_option maxRecDepth 100000 in
theorem q_M_areMet : (Cond.code y_M_areMet b_M_areMet 3 (some .boolean)) ∈ TBG := tbm 716 rfl rfl
def w_M_areMet : List Cond := .code y_M_areMet b_M_areMet 3 (some .boolean) :: TBG
abbrev b_M_isMet : ByteArray := prog_5_method_19_code
def y_M_isMet : MethodName := ⟨R_M, "isMet", "([III)Z"⟩
set_option maxRecDepth 100000 in
theorem q_M_isMet : (Cond.code y_M_isMet b_M_isMet 7 (some .boolean)) ∈ TBG := tbm 720 rfl rfl
def w_M_isMet : List Cond := .code y_M_isMet b_M_isMet 7 (some .boolean) :: TBG
abbrev b_M_search : ByteArray := prog_5_method_24_code
def y_M_search : MethodName := ⟨R_M, "search", "(I)I"⟩
set_option maxRecDepth 100000 in
theorem q_M_search : (Cond.code y_M_search b_M_search 10 (some .int)) ∈ TBG := tbm 724 rfl rfl
def w_M_search : List Cond := .code y_M_search b_M_search 10 (some .int) :: TBG
abbrev b_M_givesUp : ByteArray := prog_5_method_23_code
def y_M_givesUp : MethodName := ⟨R_M, "givesUp", "(II)Z"⟩
set_option maxRecDepth 100000 in
theorem q_M_givesUp : (Cond.code y_M_givesUp b_M_givesUp 6 (some .boolean)) ∈ TBG := tbm 728 rfl rfl
def w_M_givesUp : List Cond := .code y_M_givesUp b_M_givesUp 6 (some .boolean) :: TBG
abbrev b_M_isTired : ByteArray := prog_5_method_16_code
def y_M_isTired : MethodName := ⟨R_M, "isTired", "([III)Z"⟩
set_option maxRecDepth 100000 in
theorem q_M_isTired : (Cond.code y_M_isTired b_M_isTired 6 (some .boolean)) ∈ TBG := tbm 732 rfl rfl
def w_M_isTired : List Cond := .code y_M_isTired b_M_isTired 6 (some .boolean) :: TBG
abbrev b_M_between : ByteArray := prog_5_method_15_code
def y_M_between : MethodName := ⟨R_M, "between", "(II)I"⟩
set_option maxRecDepth 100000 in
theorem q_M_between : (Cond.code y_M_between b_M_between 2 (some .int)) ∈ TBG := tbm 735 rfl rfl
def w_M_between : List Cond := .code y_M_between b_M_between 2 (some .int) :: TBG
abbrev b_M_many : ByteArray := prog_5_method_17_code
def y_M_many : MethodName := ⟨R_M, "many", "([III)I"⟩
set_option maxRecDepth 100000 in
theorem q_M_many : (Cond.code y_M_many b_M_many 5 (some .int)) ∈ TBG := tbm 738 rfl rfl
def w_M_many : List Cond := .code y_M_many b_M_many 5 (some .int) :: TBG
abbrev b_M_nightsTo : ByteArray := prog_5_method_18_code
def y_M_nightsTo : MethodName := ⟨R_M, "nightsTo", "([III)I"⟩
set_option maxRecDepth 100000 in
theorem q_M_nightsTo : (Cond.code y_M_nightsTo b_M_nightsTo 5 (some .int)) ∈ TBG := tbm 741 rfl rfl
def w_M_nightsTo : List Cond := .code y_M_nightsTo b_M_nightsTo 5 (some .int) :: TBG
abbrev b_M_unmetTo : ByteArray := prog_5_method_21_code
def y_M_unmetTo : MethodName := ⟨R_M, "unmetTo", "([II)I"⟩
set_option maxRecDepth 100000 in
theorem q_M_unmetTo : (Cond.code y_M_unmetTo b_M_unmetTo 6 (some .int)) ∈ TBG := tbm 745 rfl rfl
def w_M_unmetTo : List Cond := .code y_M_unmetTo b_M_unmetTo 6 (some .int) :: TBG
abbrev b_M_solved : ByteArray := prog_5_method_26_code
def y_M_solved : MethodName := ⟨R_M, "solved", "(I)I"⟩
set_option maxRecDepth 100000 in
theorem q_M_solved : (Cond.code y_M_solved b_M_solved 2 (some .int)) ∈ TBG := tbm 749 rfl rfl
def w_M_solved : List Cond := .code y_M_solved b_M_solved 2 (some .int) :: TBG
abbrev b_M_swap : ByteArray := prog_5_method_27_code
def y_M_swap : MethodName := ⟨R_M, "swap", "(III)V"⟩
set_option maxRecDepth 100000 in
theorem q_M_swap : (Cond.code y_M_swap b_M_swap 7 none) ∈ TBG := tbm 753 rfl rfl
def w_M_swap : List Cond := .code y_M_swap b_M_swap 7 none :: TBG
abbrev b_M_wrongWith : ByteArray := prog_5_method_22_code
def y_M_wrongWith : MethodName := ⟨R_M, "wrongWith", "([I)I"⟩
set_option maxRecDepth 100000 in
theorem q_M_wrongWith : (Cond.code y_M_wrongWith b_M_wrongWith 8 (some .int)) ∈ TBG := tbm 757 rfl rfl
def w_M_wrongWith : List Cond := .code y_M_wrongWith b_M_wrongWith 8 (some .int) :: TBG
abbrev b_M_shift : ByteArray := prog_5_method_28_code
def y_M_shift : MethodName := ⟨R_M, "shift", "(II)I"⟩
set_option maxRecDepth 100000 in
theorem q_M_shift : (Cond.code y_M_shift b_M_shift 3 (some .int)) ∈ TBG := tbm 761 rfl rfl
def w_M_shift : List Cond := .code y_M_shift b_M_shift 3 (some .int) :: TBG
abbrev b_M_wrong : ByteArray := prog_5_method_29_code
def y_M_wrong : MethodName := ⟨R_M, "wrong", "()I"⟩
set_option maxRecDepth 100000 in
theorem q_M_wrong : (Cond.code y_M_wrong b_M_wrong 1 (some .int)) ∈ TBG := tbm 765 rfl rfl
def w_M_wrong : List Cond := .code y_M_wrong b_M_wrong 1 (some .int) :: TBG
abbrev b_M_unmet : ByteArray := prog_5_method_30_code
def y_M_unmet : MethodName := ⟨R_M, "unmet", "()I"⟩
set_option maxRecDepth 100000 in
theorem q_M_unmet : (Cond.code y_M_unmet b_M_unmet 1 (some .int)) ∈ TBG := tbm 769 rfl rfl
def w_M_unmet : List Cond := .code y_M_unmet b_M_unmet 1 (some .int) :: TBG
abbrev b_M_cost : ByteArray := prog_5_method_32_code
def y_M_cost : MethodName := ⟨R_M, "cost", "()I"⟩
set_option maxRecDepth 100000 in
theorem q_M_cost : (Cond.code y_M_cost b_M_cost 3 (some .int)) ∈ TBG := tbm 773 rfl rfl
def w_M_cost : List Cond := .code y_M_cost b_M_cost 3 (some .int) :: TBG
abbrev b_M_costOf : ByteArray := prog_5_method_31_code
def y_M_costOf : MethodName := ⟨R_M, "costOf", "(I)I"⟩
set_option maxRecDepth 100000 in
theorem q_M_costOf : (Cond.code y_M_costOf b_M_costOf 2 (some .int)) ∈ TBG := tbm 777 rfl rfl
def w_M_costOf : List Cond := .code y_M_costOf b_M_costOf 2 (some .int) :: TBG
abbrev b_M_share : ByteArray := prog_5_method_33_code
def y_M_share : MethodName := ⟨R_M, "share", "(I)I"⟩
set_option maxRecDepth 100000 in
theorem q_M_share : (Cond.code y_M_share b_M_share 4 (some .int)) ∈ TBG := tbm 781 rfl rfl
def w_M_share : List Cond := .code y_M_share b_M_share 4 (some .int) :: TBG
abbrev b_M_publish : ByteArray := prog_5_method_34_code
def y_M_publish : MethodName := ⟨R_M, "publish", "()I"⟩
set_option maxRecDepth 100000 in
theorem q_M_publish : (Cond.code y_M_publish b_M_publish 4 (some .int)) ∈ TBG := tbm 787 rfl rfl
def w_M_publish : List Cond := .code y_M_publish b_M_publish 4 (some .int) :: TBG
abbrev b_M_count : ByteArray := prog_5_method_35_code
def y_M_count : MethodName := ⟨R_M, "count", "(I)I"⟩
set_option maxRecDepth 100000 in
theorem q_M_count : (Cond.code y_M_count b_M_count 2 (some .int)) ∈ TBG := tbm 791 rfl rfl
def w_M_count : List Cond := .code y_M_count b_M_count 2 (some .int) :: TBG
abbrev b_L_law : ByteArray := code
def y_L_law : MethodName := ⟨R_L, "law", "([I)Z"⟩
