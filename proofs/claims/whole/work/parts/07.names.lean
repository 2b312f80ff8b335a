/-! NAMES: classes, fields, methods, words (made by wip/whole/tools/names.py out of the claim's own listing) -/
def bigW : List Cond := lw_tbl.filter goodWord
def nwW : List Cond := lw_tbl.filter isNest
theorem inB {w : Cond} (i : Nat) (h : lw_tbl[i]? = some w) (hg : goodWord w = true) : w ∈ bigW := List.mem_filter.mpr ⟨List.mem_of_getElem? h, hg⟩
theorem inN {w : Cond} (i : Nat) (h : lw_tbl[i]? = some w) (hg : isNest w = true) : w ∈ nwW := List.mem_filter.mpr ⟨List.mem_of_getElem? h, hg⟩
theorem bigW_good {w : Cond} (h : w ∈ bigW) : (w.onTables && w.keeps) = true ∨ ∃ ty, w = .arrayClass ty := good_of_word (List.mem_filter.mp h).2
def RB : String := "CranePlan$Bays"
def FB : u_T := fun k => match k with
  | 0 => ("CranePlan$Bays", "hatch", "[I", true)
  | 1 => ("CranePlan$Bays", "work", "[I", true)
  | _ => ("CranePlan$Bays", "total", "I", false)
def tB : Nat → FieldType := fun k => match k with
  | 0 => (.array .int)
  | 1 => (.array .int)
  | _ => .int
abbrev NB : Nat := 3
def RK : String := "CranePlan$Cranes"
def FK : u_T := fun k => match k with
  | 0 => ("CranePlan$Cranes", "total", "I", true)
  | 1 => ("CranePlan$Cranes", "gap", "I", true)
  | 2 => ("CranePlan$Cranes", "moves", "[I", true)
  | 3 => ("CranePlan$Cranes", "minutes", "[I", true)
  | 4 => ("CranePlan$Cranes", "out", "[Z", true)
  | _ => ("CranePlan$Cranes", "stepMinutes", "I", false)
def tK : Nat → FieldType := fun k => match k with
  | 0 => .int
  | 1 => .int
  | 2 => (.array .int)
  | 3 => (.array .int)
  | 4 => (.array .boolean)
  | _ => .int
abbrev NK : Nat := 6
def RS : String := "CranePlan$Search"
def FS : u_T := fun k => match k with
  | 0 => ("CranePlan$Search", "bays", "LCranePlan$Bays;", true)
  | 1 => ("CranePlan$Search", "cranes", "LCranePlan$Cranes;", true)
  | 2 => ("CranePlan$Search", "timetable", "LCranePlan$Timetable;", true)
  | 3 => ("CranePlan$Search", "busy", "[I", true)
  | 4 => ("CranePlan$Search", "able", "[I", true)
  | 5 => ("CranePlan$Search", "choice", "[I", true)
  | 6 => ("CranePlan$Search", "best", "[I", true)
  | 7 => ("CranePlan$Search", "busyBays", "I", false)
  | _ => ("CranePlan$Search", "ableCranes", "I", false)
def tS : Nat → FieldType := fun k => match k with
  | 0 => (.object "CranePlan$Bays")
  | 1 => (.object "CranePlan$Cranes")
  | 2 => (.object "CranePlan$Timetable")
  | 3 => (.array .int)
  | 4 => (.array .int)
  | 5 => (.array .int)
  | 6 => (.array .int)
  | 7 => .int
  | _ => .int
abbrev NS : Nat := 9
def RT : String := "CranePlan$Timetable"
def FT : u_T := fun k => match k with
  | 0 => ("CranePlan$Timetable", "bays", "LCranePlan$Bays;", true)
  | 1 => ("CranePlan$Timetable", "cranes", "LCranePlan$Cranes;", true)
  | 2 => ("CranePlan$Timetable", "craneOf", "[I", true)
  | 3 => ("CranePlan$Timetable", "begin", "[I", true)
  | 4 => ("CranePlan$Timetable", "end", "[I", true)
  | 5 => ("CranePlan$Timetable", "first", "[I", true)
  | 6 => ("CranePlan$Timetable", "last", "[I", true)
  | 7 => ("CranePlan$Timetable", "came", "[[I", true)
  | 8 => ("CranePlan$Timetable", "bayOfRow", "[I", true)
  | 9 => ("CranePlan$Timetable", "rows", "I", false)
  | 10 => ("CranePlan$Timetable", "finish", "I", false)
  | _ => ("CranePlan$Timetable", "steps", "I", false)
def tT : Nat → FieldType := fun k => match k with
  | 0 => (.object "CranePlan$Bays")
  | 1 => (.object "CranePlan$Cranes")
  | 2 => (.array .int)
  | 3 => (.array .int)
  | 4 => (.array .int)
  | 5 => (.array .int)
  | 6 => (.array .int)
  | 7 => (.array (.array .int))
  | 8 => (.array .int)
  | 9 => .int
  | 10 => .int
  | _ => .int
abbrev NT : Nat := 12
def RP : String := "CranePlan"
def FP : u_T := fun k => match k with
  | 0 => ("CranePlan", "bays", "LCranePlan$Bays;", true)
  | 1 => ("CranePlan", "cranes", "LCranePlan$Cranes;", true)
  | 2 => ("CranePlan", "timetable", "LCranePlan$Timetable;", true)
  | 3 => ("CranePlan", "search", "LCranePlan$Search;", true)
  | _ => ("CranePlan", "planned", "Z", false)
def tP : Nat → FieldType := fun k => match k with
  | 0 => (.object "CranePlan$Bays")
  | 1 => (.object "CranePlan$Cranes")
  | 2 => (.object "CranePlan$Timetable")
  | 3 => (.object "CranePlan$Search")
  | _ => .boolean
abbrev NP : Nat := 5
def RM : String := "CranePlanModel"
def FM : u_T := fun k => match k with
  | 0 => ("CranePlanModel", "thrown", "I", false)
  | 1 => ("CranePlanModel", "cranes", "I", true)
  | 2 => ("CranePlanModel", "gap", "I", true)
  | 3 => ("CranePlanModel", "bays", "I", false)
  | 4 => ("CranePlanModel", "hatch", "[I", true)
  | 5 => ("CranePlanModel", "work", "[I", true)
  | 6 => ("CranePlanModel", "moves", "[I", true)
  | 7 => ("CranePlanModel", "minutes", "[I", true)
  | 8 => ("CranePlanModel", "out", "[Z", true)
  | 9 => ("CranePlanModel", "step", "I", false)
  | 10 => ("CranePlanModel", "planned", "Z", false)
  | 11 => ("CranePlanModel", "tried", "[I", true)
  | 12 => ("CranePlanModel", "best", "[I", true)
  | 13 => ("CranePlanModel", "come", "[I", true)
  | 14 => ("CranePlanModel", "first", "[I", true)
  | _ => ("CranePlanModel", "last", "[I", true)
def tM : Nat → FieldType := fun k => match k with
  | 0 => .int
  | 1 => .int
  | 2 => .int
  | 3 => .int
  | 4 => (.array .int)
  | 5 => (.array .int)
  | 6 => (.array .int)
  | 7 => (.array .int)
  | 8 => (.array .boolean)
  | 9 => .int
  | 10 => .boolean
  | 11 => (.array .int)
  | 12 => (.array .int)
  | 13 => (.array .int)
  | 14 => (.array .int)
  | _ => (.array .int)
abbrev NM : Nat := 16
def RL : String := "CranePlanLaw"
abbrev vCl : List vw_C := [(RB, FB, NB), (RK, FK, NK), (RS, FS, NS), (RT, FT, NT), (RP, FP, NP), (RM, FM, NM)]
theorem nB_ok : ∀ a, a < NB → ∀ b, b < NB → a ≠ b → (FB a).2.1 ≠ (FB b).2.1 := by decide +kernel
theorem tB_ok : ∀ k, k < NB → parseFieldDescriptor (FB k).2.2.1 = some (tB k) := by decide +kernel
theorem iB_ok : ∀ w ∈ u_ws RB FB NB, w ∈ bigW := by decide +kernel
theorem nK_ok : ∀ a, a < NK → ∀ b, b < NK → a ≠ b → (FK a).2.1 ≠ (FK b).2.1 := by decide +kernel
theorem tK_ok : ∀ k, k < NK → parseFieldDescriptor (FK k).2.2.1 = some (tK k) := by decide +kernel
theorem iK_ok : ∀ w ∈ u_ws RK FK NK, w ∈ bigW := by decide +kernel
theorem nS_ok : ∀ a, a < NS → ∀ b, b < NS → a ≠ b → (FS a).2.1 ≠ (FS b).2.1 := by decide +kernel
theorem tS_ok : ∀ k, k < NS → parseFieldDescriptor (FS k).2.2.1 = some (tS k) := by decide +kernel
theorem iS_ok : ∀ w ∈ u_ws RS FS NS, w ∈ bigW := by decide +kernel
theorem nT_ok : ∀ a, a < NT → ∀ b, b < NT → a ≠ b → (FT a).2.1 ≠ (FT b).2.1 := by decide +kernel
theorem tT_ok : ∀ k, k < NT → parseFieldDescriptor (FT k).2.2.1 = some (tT k) := by decide +kernel
theorem iT_ok : ∀ w ∈ u_ws RT FT NT, w ∈ bigW := by decide +kernel
theorem nP_ok : ∀ a, a < NP → ∀ b, b < NP → a ≠ b → (FP a).2.1 ≠ (FP b).2.1 := by decide +kernel
theorem tP_ok : ∀ k, k < NP → parseFieldDescriptor (FP k).2.2.1 = some (tP k) := by decide +kernel
theorem iP_ok : ∀ w ∈ u_ws RP FP NP, w ∈ bigW := by decide +kernel
theorem nM_ok : ∀ a, a < NM → ∀ b, b < NM → a ≠ b → (FM a).2.1 ≠ (FM b).2.1 := by decide +kernel
theorem tM_ok : ∀ k, k < NM → parseFieldDescriptor (FM k).2.2.1 = some (tM k) := by decide +kernel
theorem iM_ok : ∀ w ∈ u_ws RM FM NM, w ∈ bigW := by decide +kernel
abbrev bP_init : ByteArray := prog_1_method_1_code
def yP_init : MethodName := ⟨RP, "<init>", "(II)V"⟩
abbrev bP_bay : ByteArray := prog_1_method_2_code
def yP_bay : MethodName := ⟨RP, "bay", "(II)I"⟩
abbrev bP_rate : ByteArray := prog_1_method_3_code
def yP_rate : MethodName := ⟨RP, "rate", "(III)Z"⟩
abbrev bP_step : ByteArray := prog_1_method_4_code
def yP_step : MethodName := ⟨RP, "step", "(I)Z"⟩
abbrev bP_plan : ByteArray := prog_1_method_5_code
def yP_plan : MethodName := ⟨RP, "plan", "()I"⟩
abbrev bP_works : ByteArray := prog_1_method_6_code
def yP_works : MethodName := ⟨RP, "works", "(II)I"⟩
abbrev bP_where : ByteArray := prog_1_method_7_code
def yP_where : MethodName := ⟨RP, "where", "(II)I"⟩
abbrev bP_fails : ByteArray := prog_1_method_8_code
def yP_fails : MethodName := ⟨RP, "fails", "(II)I"⟩
abbrev bP_bound : ByteArray := prog_1_method_9_code
def yP_bound : MethodName := ⟨RP, "bound", "()I"⟩
abbrev bP_row : ByteArray := prog_1_method_10_code
def yP_row : MethodName := ⟨RP, "row", "(II)I"⟩
abbrev bP_look : ByteArray := prog_1_method_11_code
def yP_look : MethodName := ⟨RP, "look", "(II)I"⟩
abbrev bP_count : ByteArray := prog_1_method_12_code
def yP_count : MethodName := ⟨RP, "count", "(I)I"⟩
abbrev bP_within : ByteArray := prog_1_method_13_code
def yP_within : MethodName := ⟨RP, "within", "(III)Z"⟩
abbrev bP_held : ByteArray := prog_1_method_14_code
def yP_held : MethodName := ⟨RP, "held", "(III)I"⟩
abbrev bP_dividedUp : ByteArray := prog_1_method_15_code
def yP_dividedUp : MethodName := ⟨RP, "dividedUp", "(JJ)J"⟩
abbrev bB_init : ByteArray := prog_2_method_1_code
def yB_init : MethodName := ⟨RB, "<init>", "()V"⟩
abbrev bB_has : ByteArray := prog_2_method_2_code
def yB_has : MethodName := ⟨RB, "has", "(I)Z"⟩
abbrev bB_isFull : ByteArray := prog_2_method_3_code
def yB_isFull : MethodName := ⟨RB, "isFull", "()Z"⟩
abbrev bB_add : ByteArray := prog_2_method_4_code
def yB_add : MethodName := ⟨RB, "add", "(II)I"⟩
abbrev bB_movesOf : ByteArray := prog_2_method_5_code
def yB_movesOf : MethodName := ⟨RB, "movesOf", "(I)I"⟩
abbrev bB_allMoves : ByteArray := prog_2_method_6_code
def yB_allMoves : MethodName := ⟨RB, "allMoves", "()I"⟩
abbrev bB_takeOff : ByteArray := prog_2_method_7_code
def yB_takeOff : MethodName := ⟨RB, "takeOff", "(II)V"⟩
abbrev bK_init : ByteArray := prog_3_method_1_code
def yK_init : MethodName := ⟨RK, "<init>", "(II)V"⟩
abbrev bK_has : ByteArray := prog_3_method_2_code
def yK_has : MethodName := ⟨RK, "has", "(I)Z"⟩
abbrev bK_isOut : ByteArray := prog_3_method_3_code
def yK_isOut : MethodName := ⟨RK, "isOut", "(I)Z"⟩
abbrev bK_putOut : ByteArray := prog_3_method_4_code
def yK_putOut : MethodName := ⟨RK, "putOut", "(I)V"⟩
abbrev bK_setRate : ByteArray := prog_3_method_5_code
def yK_setRate : MethodName := ⟨RK, "setRate", "(III)V"⟩
abbrev bK_able : ByteArray := prog_3_method_6_code
def yK_able : MethodName := ⟨RK, "able", "()I"⟩
abbrev bK_timeFor : ByteArray := prog_3_method_7_code
def yK_timeFor : MethodName := ⟨RK, "timeFor", "(II)I"⟩
abbrev bK_movesIn : ByteArray := prog_3_method_8_code
def yK_movesIn : MethodName := ⟨RK, "movesIn", "(II)I"⟩
abbrev bK_leastTime : ByteArray := prog_3_method_9_code
def yK_leastTime : MethodName := ⟨RK, "leastTime", "(I)I"⟩
abbrev bK_timeTogether : ByteArray := prog_3_method_10_code
def yK_timeTogether : MethodName := ⟨RK, "timeTogether", "(I)I"⟩
abbrev bS_init : ByteArray := prog_4_method_1_code
def yS_init : MethodName := ⟨RS, "<init>", "(LCranePlan$Bays;LCranePlan$Cranes;LCranePlan$Timetable;)V"⟩
abbrev bS_makeBest : ByteArray := prog_4_method_2_code
def yS_makeBest : MethodName := ⟨RS, "makeBest", "()Z"⟩
abbrev bS_gather : ByteArray := prog_4_method_3_code
def yS_gather : MethodName := ⟨RS, "gather", "()V"⟩
abbrev bS_share : ByteArray := prog_4_method_4_code
def yS_share : MethodName := ⟨RS, "share", "([I)V"⟩
abbrev bS_nextChoice : ByteArray := prog_4_method_5_code
def yS_nextChoice : MethodName := ⟨RS, "nextChoice", "()Z"⟩
abbrev bT_init : ByteArray := prog_5_method_1_code
def yT_init : MethodName := ⟨RT, "<init>", "(LCranePlan$Bays;LCranePlan$Cranes;)V"⟩
abbrev bT_clear : ByteArray := prog_5_method_2_code
def yT_clear : MethodName := ⟨RT, "clear", "()V"⟩
abbrev bT_give : ByteArray := prog_5_method_3_code
def yT_give : MethodName := ⟨RT, "give", "(II)V"⟩
abbrev bT_keepsApart : ByteArray := prog_5_method_4_code
def yT_keepsApart : MethodName := ⟨RT, "keepsApart", "()Z"⟩
abbrev bT_tooNear : ByteArray := prog_5_method_5_code
def yT_tooNear : MethodName := ⟨RT, "tooNear", "(II)Z"⟩
abbrev bT_setTimes : ByteArray := prog_5_method_6_code
def yT_setTimes : MethodName := ⟨RT, "setTimes", "()V"⟩
abbrev bT_setTimesOf : ByteArray := prog_5_method_7_code
def yT_setTimesOf : MethodName := ⟨RT, "setTimesOf", "(II)V"⟩
abbrev bT_whenCame : ByteArray := prog_5_method_8_code
def yT_whenCame : MethodName := ⟨RT, "whenCame", "(II)I"⟩
abbrev bT_isBetterThan : ByteArray := prog_5_method_9_code
def yT_isBetterThan : MethodName := ⟨RT, "isBetterThan", "(II)Z"⟩
abbrev bT_sortRows : ByteArray := prog_5_method_10_code
def yT_sortRows : MethodName := ⟨RT, "sortRows", "()V"⟩
abbrev bT_beginsAhead : ByteArray := prog_5_method_11_code
def yT_beginsAhead : MethodName := ⟨RT, "beginsAhead", "(II)Z"⟩
abbrev bT_ofRow : ByteArray := prog_5_method_12_code
def yT_ofRow : MethodName := ⟨RT, "ofRow", "(II)I"⟩
abbrev bT_bayWorkedAt : ByteArray := prog_5_method_13_code
def yT_bayWorkedAt : MethodName := ⟨RT, "bayWorkedAt", "(II)I"⟩
abbrev bT_bayCameTo : ByteArray := prog_5_method_14_code
def yT_bayCameTo : MethodName := ⟨RT, "bayCameTo", "(II)I"⟩
abbrev bT_doneBy : ByteArray := prog_5_method_15_code
def yT_doneBy : MethodName := ⟨RT, "doneBy", "(II)I"⟩
abbrev bM_init : ByteArray := prog_7_method_1_code
def yM_init : MethodName := ⟨RM, "<init>", "(II)V"⟩
abbrev bM_thrown : ByteArray := prog_7_method_2_code
def yM_thrown : MethodName := ⟨RM, "thrown", "()I"⟩
abbrev bM_refuse : ByteArray := prog_7_method_3_code
def yM_refuse : MethodName := ⟨RM, "refuse", "(I)I"⟩
abbrev bM_in : ByteArray := prog_7_method_4_code
def yM_in : MethodName := ⟨RM, "in", "(III)Z"⟩
abbrev bM_isCrane : ByteArray := prog_7_method_5_code
def yM_isCrane : MethodName := ⟨RM, "isCrane", "(I)Z"⟩
abbrev bM_bay : ByteArray := prog_7_method_6_code
def yM_bay : MethodName := ⟨RM, "bay", "(II)I"⟩
abbrev bM_rate : ByteArray := prog_7_method_7_code
def yM_rate : MethodName := ⟨RM, "rate", "(III)Z"⟩
abbrev bM_step : ByteArray := prog_7_method_8_code
def yM_step : MethodName := ⟨RM, "step", "(I)Z"⟩
abbrev bM_all : ByteArray := prog_7_method_9_code
def yM_all : MethodName := ⟨RM, "all", "(I)I"⟩
abbrev bM_takes : ByteArray := prog_7_method_10_code
def yM_takes : MethodName := ⟨RM, "takes", "(II)I"⟩
abbrev bM_spans : ByteArray := prog_7_method_11_code
def yM_spans : MethodName := ⟨RM, "spans", "()Z"⟩
abbrev bM_times : ByteArray := prog_7_method_12_code
def yM_times : MethodName := ⟨RM, "times", "()I"⟩
abbrev bM_steps : ByteArray := prog_7_method_13_code
def yM_steps : MethodName := ⟨RM, "steps", "()I"⟩
abbrev bM_goesOn : ByteArray := prog_7_method_14_code
def yM_goesOn : MethodName := ⟨RM, "goesOn", "()Z"⟩
abbrev bM_isAllowed : ByteArray := prog_7_method_15_code
def yM_isAllowed : MethodName := ⟨RM, "isAllowed", "()Z"⟩
abbrev bM_search : ByteArray := prog_7_method_16_code
def yM_search : MethodName := ⟨RM, "search", "()I"⟩
abbrev bM_plan : ByteArray := prog_7_method_17_code
def yM_plan : MethodName := ⟨RM, "plan", "()I"⟩
abbrev bM_lays : ByteArray := prog_7_method_18_code
def yM_lays : MethodName := ⟨RM, "lays", "()I"⟩
abbrev bM_works : ByteArray := prog_7_method_19_code
def yM_works : MethodName := ⟨RM, "works", "(II)I"⟩
abbrev bM_where : ByteArray := prog_7_method_20_code
def yM_where : MethodName := ⟨RM, "where", "(II)I"⟩
abbrev bM_fails : ByteArray := prog_7_method_21_code
def yM_fails : MethodName := ⟨RM, "fails", "(II)I"⟩
abbrev bM_working : ByteArray := prog_7_method_22_code
def yM_working : MethodName := ⟨RM, "working", "()I"⟩
abbrev bM_bound : ByteArray := prog_7_method_23_code
def yM_bound : MethodName := ⟨RM, "bound", "()I"⟩
abbrev bM_row : ByteArray := prog_7_method_24_code
def yM_row : MethodName := ⟨RM, "row", "(II)I"⟩
abbrev bM_ahead : ByteArray := prog_7_method_25_code
def yM_ahead : MethodName := ⟨RM, "ahead", "(I)I"⟩
abbrev bM_look : ByteArray := prog_7_method_26_code
def yM_look : MethodName := ⟨RM, "look", "(II)I"⟩
abbrev bM_count : ByteArray := prog_7_method_27_code
def yM_count : MethodName := ⟨RM, "count", "(I)I"⟩
abbrev bL_cell : ByteArray := method_2_code
def yL_cell : MethodName := ⟨RL, "cell", "([II)I"⟩
abbrev bL_bay : ByteArray := method_3_code
def yL_bay : MethodName := ⟨RL, "bay", "(LCranePlan;II[J)I"⟩
abbrev bL_rate : ByteArray := method_4_code
def yL_rate : MethodName := ⟨RL, "rate", "(LCranePlan;III[J)I"⟩
abbrev bL_works : ByteArray := method_5_code
def yL_works : MethodName := ⟨RL, "works", "(LCranePlan;II[J)I"⟩
abbrev bL_where : ByteArray := method_6_code
def yL_where : MethodName := ⟨RL, "where", "(LCranePlan;II[J)I"⟩
abbrev bL_fails : ByteArray := method_7_code
def yL_fails : MethodName := ⟨RL, "fails", "(LCranePlan;II[J)I"⟩
abbrev bL_row : ByteArray := method_8_code
def yL_row : MethodName := ⟨RL, "row", "(LCranePlan;II[J)I"⟩
abbrev bL_look : ByteArray := method_9_code
def yL_look : MethodName := ⟨RL, "look", "(LCranePlan;II[J)I"⟩
theorem wd_47 : (Jvm.Cond.initialized "CranePlanLaw") ∈ bigW := inB 47 (by decide +kernel) rfl
theorem wd_48 : (Jvm.Cond.initialized "CranePlan") ∈ bigW := inB 48 (by decide +kernel) rfl
theorem wd_49 : (Jvm.Cond.initialized "CranePlan$Bays") ∈ bigW := inB 49 (by decide +kernel) rfl
theorem wd_50 : (Jvm.Cond.initialized "CranePlan$Cranes") ∈ bigW := inB 50 (by decide +kernel) rfl
theorem wd_51 : (Jvm.Cond.initialized "java/lang/Math") ∈ bigW := inB 51 (by decide +kernel) rfl
theorem wd_52 : (Jvm.Cond.initialized "java/util/Arrays") ∈ bigW := inB 52 (by decide +kernel) rfl
theorem wd_53 : (Jvm.Cond.initialized "CranePlan$Timetable") ∈ bigW := inB 53 (by decide +kernel) rfl
theorem wd_54 : (Jvm.Cond.initialized "CranePlan$Search") ∈ bigW := inB 54 (by decide +kernel) rfl
theorem wd_55 : (Jvm.Cond.initialized "CranePlanModel") ∈ bigW := inB 55 (by decide +kernel) rfl
theorem wd_56 : (Jvm.Cond.initialized "java/lang/Throwable") ∈ bigW := inB 56 (by decide +kernel) rfl
theorem wd_57 : (Jvm.Cond.initialized "java/lang/Exception") ∈ bigW := inB 57 (by decide +kernel) rfl
theorem wd_58 : (Jvm.Cond.initialized "java/lang/RuntimeException") ∈ bigW := inB 58 (by decide +kernel) rfl
theorem wd_59 : (Jvm.Cond.initialized "java/lang/IllegalArgumentException") ∈ bigW := inB 59 (by decide +kernel) rfl
theorem wd_60 : (Jvm.Cond.initialized "java/lang/IllegalStateException") ∈ bigW := inB 60 (by decide +kernel) rfl
theorem wd_61 : (Jvm.Cond.initialized "java/lang/ArithmeticException") ∈ bigW := inB 61 (by decide +kernel) rfl
theorem wd_62 : (Jvm.Cond.initialized "java/lang/System") ∈ bigW := inB 62 (by decide +kernel) rfl
theorem wd_63 : (Jvm.Cond.initialized "java/lang/IndexOutOfBoundsException") ∈ bigW := inB 63 (by decide +kernel) rfl
theorem wd_64 : (Jvm.Cond.classLink "CranePlanLaw" (8 : Nat) "CranePlan") ∈ bigW := inB 64 (by decide +kernel) rfl
theorem wd_65 : (Jvm.Cond.instantiable "CranePlan" (5 : Nat)) ∈ bigW := inB 65 (by decide +kernel) rfl
theorem wd_66 : (Jvm.Cond.methodLink "CranePlanLaw" (46 : Nat) ({ cls := "CranePlan", name := "<init>", desc := "(II)V" } : Jvm.MethodName)) ∈ bigW := inB 66 (by decide +kernel) rfl
theorem wd_67 : (Jvm.Cond.instanceMethod ({ cls := "CranePlan", name := "<init>", desc := "(II)V" } : Jvm.MethodName)) ∈ bigW := inB 67 (by decide +kernel) rfl
theorem wd_68 : (Jvm.Cond.code ({ cls := "CranePlan", name := "<init>", desc := "(II)V" } : Jvm.MethodName) prog_1_method_1_code (3 : Nat) (Option.none : Option Jvm.ClassFile.FieldType)) ∈ bigW := inB 68 (by decide +kernel) rfl
theorem wd_69 : (Jvm.Cond.methodLink "CranePlan" (1 : Nat) ({ cls := "java/lang/Object", name := "<init>", desc := "()V" } : Jvm.MethodName)) ∈ bigW := inB 69 (by decide +kernel) rfl
theorem wd_70 : (Jvm.Cond.instanceMethod ({ cls := "java/lang/Object", name := "<init>", desc := "()V" } : Jvm.MethodName)) ∈ bigW := inB 70 (by decide +kernel) rfl
theorem wd_71 : (Jvm.Cond.code ({ cls := "java/lang/Object", name := "<init>", desc := "()V" } : Jvm.MethodName) object_method_1_code (1 : Nat) (Option.none : Option Jvm.ClassFile.FieldType)) ∈ bigW := inB 71 (by decide +kernel) rfl
theorem wd_72 : (Jvm.Cond.classLink "CranePlan" (7 : Nat) "CranePlan$Bays") ∈ bigW := inB 72 (by decide +kernel) rfl
theorem wd_73 : (Jvm.Cond.instantiable "CranePlan$Bays" (3 : Nat)) ∈ bigW := inB 73 (by decide +kernel) rfl
theorem nd_74 : (Jvm.Cond.methodLinkNest "CranePlan" (9 : Nat) ({ cls := "CranePlan$Bays", name := "<init>", desc := "()V" } : Jvm.MethodName) "CranePlan") ∈ nwW := inN 74 (by decide +kernel) rfl
theorem wd_75 : (Jvm.Cond.instanceMethod ({ cls := "CranePlan$Bays", name := "<init>", desc := "()V" } : Jvm.MethodName)) ∈ bigW := inB 75 (by decide +kernel) rfl
theorem wd_76 : (Jvm.Cond.code ({ cls := "CranePlan$Bays", name := "<init>", desc := "()V" } : Jvm.MethodName) prog_2_method_1_code (1 : Nat) (Option.none : Option Jvm.ClassFile.FieldType)) ∈ bigW := inB 76 (by decide +kernel) rfl
theorem wd_77 : (Jvm.Cond.methodLink "CranePlan$Bays" (3 : Nat) ({ cls := "java/lang/Object", name := "<init>", desc := "()V" } : Jvm.MethodName)) ∈ bigW := inB 77 (by decide +kernel) rfl
theorem wd_78 : (Jvm.Cond.fieldLink "CranePlan$Bays" (9 : Nat) "CranePlan$Bays" "hatch" "[I") ∈ bigW := inB 78 (by decide +kernel) rfl
theorem nd_79 : (Jvm.Cond.fieldLinkNest "CranePlan" (169 : Nat) "CranePlan$Bays" "hatch" "[I" "CranePlan") ∈ nwW := inN 79 (by decide +kernel) rfl
theorem wd_80 : (Jvm.Cond.fieldLink "CranePlan$Bays" (15 : Nat) "CranePlan$Bays" "work" "[I") ∈ bigW := inB 80 (by decide +kernel) rfl
theorem nd_81 : (Jvm.Cond.fieldLinkNest "CranePlan" (173 : Nat) "CranePlan$Bays" "work" "[I" "CranePlan") ∈ nwW := inN 81 (by decide +kernel) rfl
theorem wd_82 : (Jvm.Cond.fieldLink "CranePlan$Bays" (18 : Nat) "CranePlan$Bays" "total" "I") ∈ bigW := inB 82 (by decide +kernel) rfl
theorem nd_83 : (Jvm.Cond.fieldLinkNest "CranePlan" (120 : Nat) "CranePlan$Bays" "total" "I" "CranePlan") ∈ nwW := inN 83 (by decide +kernel) rfl
theorem wd_91 : (Jvm.Cond.arrayClass Jvm.ClassFile.FieldType.int) ∈ bigW := inB 91 (by decide +kernel) rfl
theorem wd_92 : (Jvm.Cond.classLink "CranePlan" (16 : Nat) "CranePlan$Cranes") ∈ bigW := inB 92 (by decide +kernel) rfl
theorem wd_93 : (Jvm.Cond.instantiable "CranePlan$Cranes" (6 : Nat)) ∈ bigW := inB 93 (by decide +kernel) rfl
theorem wd_94 : (Jvm.Cond.methodLink "CranePlan" (18 : Nat) ({ cls := "CranePlan", name := "held", desc := "(III)I" } : Jvm.MethodName)) ∈ bigW := inB 94 (by decide +kernel) rfl
theorem wd_95 : (Jvm.Cond.static ({ cls := "CranePlan", name := "held", desc := "(III)I" } : Jvm.MethodName)) ∈ bigW := inB 95 (by decide +kernel) rfl
theorem wd_96 : (Jvm.Cond.code ({ cls := "CranePlan", name := "held", desc := "(III)I" } : Jvm.MethodName) prog_1_method_14_code (3 : Nat) (Option.some Jvm.ClassFile.FieldType.int)) ∈ bigW := inB 96 (by decide +kernel) rfl
theorem wd_97 : (Jvm.Cond.methodLink "CranePlan" (182 : Nat) ({ cls := "java/lang/Math", name := "min", desc := "(II)I" } : Jvm.MethodName)) ∈ bigW := inB 97 (by decide +kernel) rfl
theorem wd_98 : (Jvm.Cond.static ({ cls := "java/lang/Math", name := "min", desc := "(II)I" } : Jvm.MethodName)) ∈ bigW := inB 98 (by decide +kernel) rfl
theorem wd_99 : (Jvm.Cond.code ({ cls := "java/lang/Math", name := "min", desc := "(II)I" } : Jvm.MethodName) prog_13_method_69_code (2 : Nat) (Option.some Jvm.ClassFile.FieldType.int)) ∈ bigW := inB 99 (by decide +kernel) rfl
theorem wd_100 : (Jvm.Cond.methodLink "CranePlan" (153 : Nat) ({ cls := "java/lang/Math", name := "max", desc := "(II)I" } : Jvm.MethodName)) ∈ bigW := inB 100 (by decide +kernel) rfl
theorem wd_101 : (Jvm.Cond.static ({ cls := "java/lang/Math", name := "max", desc := "(II)I" } : Jvm.MethodName)) ∈ bigW := inB 101 (by decide +kernel) rfl
theorem wd_102 : (Jvm.Cond.code ({ cls := "java/lang/Math", name := "max", desc := "(II)I" } : Jvm.MethodName) prog_13_method_65_code (2 : Nat) (Option.some Jvm.ClassFile.FieldType.int)) ∈ bigW := inB 102 (by decide +kernel) rfl
theorem nd_103 : (Jvm.Cond.methodLinkNest "CranePlan" (22 : Nat) ({ cls := "CranePlan$Cranes", name := "<init>", desc := "(II)V" } : Jvm.MethodName) "CranePlan") ∈ nwW := inN 103 (by decide +kernel) rfl
theorem wd_104 : (Jvm.Cond.instanceMethod ({ cls := "CranePlan$Cranes", name := "<init>", desc := "(II)V" } : Jvm.MethodName)) ∈ bigW := inB 104 (by decide +kernel) rfl
theorem wd_105 : (Jvm.Cond.code ({ cls := "CranePlan$Cranes", name := "<init>", desc := "(II)V" } : Jvm.MethodName) prog_3_method_1_code (3 : Nat) (Option.none : Option Jvm.ClassFile.FieldType)) ∈ bigW := inB 105 (by decide +kernel) rfl
theorem wd_106 : (Jvm.Cond.methodLink "CranePlan$Cranes" (3 : Nat) ({ cls := "java/lang/Object", name := "<init>", desc := "()V" } : Jvm.MethodName)) ∈ bigW := inB 106 (by decide +kernel) rfl
theorem wd_107 : (Jvm.Cond.methodLink "CranePlan$Cranes" (32 : Nat) ({ cls := "java/util/Arrays", name := "fill", desc := "([II)V" } : Jvm.MethodName)) ∈ bigW := inB 107 (by decide +kernel) rfl
theorem wd_108 : (Jvm.Cond.static ({ cls := "java/util/Arrays", name := "fill", desc := "([II)V" } : Jvm.MethodName)) ∈ bigW := inB 108 (by decide +kernel) rfl
theorem wd_109 : (Jvm.Cond.code ({ cls := "java/util/Arrays", name := "fill", desc := "([II)V" } : Jvm.MethodName) prog_18_method_103_code (4 : Nat) (Option.none : Option Jvm.ClassFile.FieldType)) ∈ bigW := inB 109 (by decide +kernel) rfl
theorem wd_110 : (Jvm.Cond.fieldLink "CranePlan$Cranes" (26 : Nat) "CranePlan$Cranes" "total" "I") ∈ bigW := inB 110 (by decide +kernel) rfl
theorem wd_111 : (Jvm.Cond.fieldLink "CranePlan$Cranes" (29 : Nat) "CranePlan$Cranes" "gap" "I") ∈ bigW := inB 111 (by decide +kernel) rfl
theorem nd_112 : (Jvm.Cond.fieldLinkNest "CranePlan$Timetable" (72 : Nat) "CranePlan$Cranes" "gap" "I" "CranePlan") ∈ nwW := inN 112 (by decide +kernel) rfl
theorem wd_113 : (Jvm.Cond.fieldLink "CranePlan$Cranes" (9 : Nat) "CranePlan$Cranes" "moves" "[I") ∈ bigW := inB 113 (by decide +kernel) rfl
theorem wd_114 : (Jvm.Cond.fieldLink "CranePlan$Cranes" (15 : Nat) "CranePlan$Cranes" "minutes" "[I") ∈ bigW := inB 114 (by decide +kernel) rfl
theorem wd_115 : (Jvm.Cond.fieldLink "CranePlan$Cranes" (18 : Nat) "CranePlan$Cranes" "out" "[Z") ∈ bigW := inB 115 (by decide +kernel) rfl
theorem wd_116 : (Jvm.Cond.fieldLink "CranePlan$Cranes" (22 : Nat) "CranePlan$Cranes" "stepMinutes" "I") ∈ bigW := inB 116 (by decide +kernel) rfl
theorem nd_117 : (Jvm.Cond.fieldLinkNest "CranePlan" (92 : Nat) "CranePlan$Cranes" "stepMinutes" "I" "CranePlan") ∈ nwW := inN 117 (by decide +kernel) rfl
theorem nd_118 : (Jvm.Cond.fieldLinkNest "CranePlan$Timetable" (95 : Nat) "CranePlan$Cranes" "stepMinutes" "I" "CranePlan") ∈ nwW := inN 118 (by decide +kernel) rfl
theorem wd_132 : (Jvm.Cond.arrayClass Jvm.ClassFile.FieldType.boolean) ∈ bigW := inB 132 (by decide +kernel) rfl
theorem wd_133 : (Jvm.Cond.classLink "CranePlan" (29 : Nat) "CranePlan$Timetable") ∈ bigW := inB 133 (by decide +kernel) rfl
theorem wd_134 : (Jvm.Cond.instantiable "CranePlan$Timetable" (12 : Nat)) ∈ bigW := inB 134 (by decide +kernel) rfl
theorem nd_135 : (Jvm.Cond.methodLinkNest "CranePlan" (31 : Nat) ({ cls := "CranePlan$Timetable", name := "<init>", desc := "(LCranePlan$Bays;LCranePlan$Cranes;)V" } : Jvm.MethodName) "CranePlan") ∈ nwW := inN 135 (by decide +kernel) rfl
theorem wd_136 : (Jvm.Cond.instanceMethod ({ cls := "CranePlan$Timetable", name := "<init>", desc := "(LCranePlan$Bays;LCranePlan$Cranes;)V" } : Jvm.MethodName)) ∈ bigW := inB 136 (by decide +kernel) rfl
theorem wd_137 : (Jvm.Cond.code ({ cls := "CranePlan$Timetable", name := "<init>", desc := "(LCranePlan$Bays;LCranePlan$Cranes;)V" } : Jvm.MethodName) prog_5_method_1_code (3 : Nat) (Option.none : Option Jvm.ClassFile.FieldType)) ∈ bigW := inB 137 (by decide +kernel) rfl
theorem wd_138 : (Jvm.Cond.methodLink "CranePlan$Timetable" (3 : Nat) ({ cls := "java/lang/Object", name := "<init>", desc := "()V" } : Jvm.MethodName)) ∈ bigW := inB 138 (by decide +kernel) rfl
theorem wd_139 : (Jvm.Cond.classLink "CranePlan$Timetable" (27 : Nat) "[[I") ∈ bigW := inB 139 (by decide +kernel) rfl
theorem wd_141 : (Jvm.Cond.fieldLink "CranePlan$Timetable" (45 : Nat) "CranePlan$Timetable" "bays" "LCranePlan$Bays;") ∈ bigW := inB 141 (by decide +kernel) rfl
theorem wd_142 : (Jvm.Cond.fieldLink "CranePlan$Timetable" (49 : Nat) "CranePlan$Timetable" "cranes" "LCranePlan$Cranes;") ∈ bigW := inB 142 (by decide +kernel) rfl
theorem wd_143 : (Jvm.Cond.fieldLink "CranePlan$Timetable" (9 : Nat) "CranePlan$Timetable" "craneOf" "[I") ∈ bigW := inB 143 (by decide +kernel) rfl
theorem nd_144 : (Jvm.Cond.fieldLinkNest "CranePlan" (176 : Nat) "CranePlan$Timetable" "craneOf" "[I" "CranePlan") ∈ nwW := inN 144 (by decide +kernel) rfl
theorem wd_145 : (Jvm.Cond.fieldLink "CranePlan$Timetable" (15 : Nat) "CranePlan$Timetable" "begin" "[I") ∈ bigW := inB 145 (by decide +kernel) rfl
theorem wd_146 : (Jvm.Cond.fieldLink "CranePlan$Timetable" (18 : Nat) "CranePlan$Timetable" "end" "[I") ∈ bigW := inB 146 (by decide +kernel) rfl
theorem wd_147 : (Jvm.Cond.fieldLink "CranePlan$Timetable" (21 : Nat) "CranePlan$Timetable" "first" "[I") ∈ bigW := inB 147 (by decide +kernel) rfl
theorem wd_148 : (Jvm.Cond.fieldLink "CranePlan$Timetable" (24 : Nat) "CranePlan$Timetable" "last" "[I") ∈ bigW := inB 148 (by decide +kernel) rfl
theorem wd_149 : (Jvm.Cond.fieldLink "CranePlan$Timetable" (29 : Nat) "CranePlan$Timetable" "came" "[[I") ∈ bigW := inB 149 (by decide +kernel) rfl
theorem wd_150 : (Jvm.Cond.fieldLink "CranePlan$Timetable" (32 : Nat) "CranePlan$Timetable" "bayOfRow" "[I") ∈ bigW := inB 150 (by decide +kernel) rfl
theorem wd_151 : (Jvm.Cond.fieldLink "CranePlan$Timetable" (35 : Nat) "CranePlan$Timetable" "rows" "I") ∈ bigW := inB 151 (by decide +kernel) rfl
theorem nd_152 : (Jvm.Cond.fieldLinkNest "CranePlan" (158 : Nat) "CranePlan$Timetable" "rows" "I" "CranePlan") ∈ nwW := inN 152 (by decide +kernel) rfl
theorem wd_153 : (Jvm.Cond.fieldLink "CranePlan$Timetable" (39 : Nat) "CranePlan$Timetable" "finish" "I") ∈ bigW := inB 153 (by decide +kernel) rfl
theorem nd_154 : (Jvm.Cond.fieldLinkNest "CranePlan$Search" (64 : Nat) "CranePlan$Timetable" "finish" "I" "CranePlan") ∈ nwW := inN 154 (by decide +kernel) rfl
theorem nd_155 : (Jvm.Cond.fieldLinkNest "CranePlan" (99 : Nat) "CranePlan$Timetable" "finish" "I" "CranePlan") ∈ nwW := inN 155 (by decide +kernel) rfl
theorem wd_156 : (Jvm.Cond.fieldLink "CranePlan$Timetable" (42 : Nat) "CranePlan$Timetable" "steps" "I") ∈ bigW := inB 156 (by decide +kernel) rfl
theorem nd_157 : (Jvm.Cond.fieldLinkNest "CranePlan$Search" (67 : Nat) "CranePlan$Timetable" "steps" "I" "CranePlan") ∈ nwW := inN 157 (by decide +kernel) rfl
theorem nd_158 : (Jvm.Cond.fieldLinkNest "CranePlan" (179 : Nat) "CranePlan$Timetable" "steps" "I" "CranePlan") ∈ nwW := inN 158 (by decide +kernel) rfl
theorem wd_184 : (Jvm.Cond.classLink "CranePlan" (38 : Nat) "CranePlan$Search") ∈ bigW := inB 184 (by decide +kernel) rfl
theorem wd_185 : (Jvm.Cond.instantiable "CranePlan$Search" (9 : Nat)) ∈ bigW := inB 185 (by decide +kernel) rfl
theorem nd_186 : (Jvm.Cond.methodLinkNest "CranePlan" (40 : Nat) ({ cls := "CranePlan$Search", name := "<init>", desc := "(LCranePlan$Bays;LCranePlan$Cranes;LCranePlan$Timetable;)V" } : Jvm.MethodName) "CranePlan") ∈ nwW := inN 186 (by decide +kernel) rfl
theorem wd_187 : (Jvm.Cond.instanceMethod ({ cls := "CranePlan$Search", name := "<init>", desc := "(LCranePlan$Bays;LCranePlan$Cranes;LCranePlan$Timetable;)V" } : Jvm.MethodName)) ∈ bigW := inB 187 (by decide +kernel) rfl
theorem wd_188 : (Jvm.Cond.code ({ cls := "CranePlan$Search", name := "<init>", desc := "(LCranePlan$Bays;LCranePlan$Cranes;LCranePlan$Timetable;)V" } : Jvm.MethodName) prog_4_method_1_code (4 : Nat) (Option.none : Option Jvm.ClassFile.FieldType)) ∈ bigW := inB 188 (by decide +kernel) rfl
theorem wd_189 : (Jvm.Cond.methodLink "CranePlan$Search" (3 : Nat) ({ cls := "java/lang/Object", name := "<init>", desc := "()V" } : Jvm.MethodName)) ∈ bigW := inB 189 (by decide +kernel) rfl
theorem wd_190 : (Jvm.Cond.fieldLink "CranePlan$Search" (31 : Nat) "CranePlan$Search" "bays" "LCranePlan$Bays;") ∈ bigW := inB 190 (by decide +kernel) rfl
theorem wd_191 : (Jvm.Cond.fieldLink "CranePlan$Search" (35 : Nat) "CranePlan$Search" "cranes" "LCranePlan$Cranes;") ∈ bigW := inB 191 (by decide +kernel) rfl
theorem wd_192 : (Jvm.Cond.fieldLink "CranePlan$Search" (39 : Nat) "CranePlan$Search" "timetable" "LCranePlan$Timetable;") ∈ bigW := inB 192 (by decide +kernel) rfl
theorem wd_193 : (Jvm.Cond.fieldLink "CranePlan$Search" (9 : Nat) "CranePlan$Search" "busy" "[I") ∈ bigW := inB 193 (by decide +kernel) rfl
theorem wd_194 : (Jvm.Cond.fieldLink "CranePlan$Search" (15 : Nat) "CranePlan$Search" "able" "[I") ∈ bigW := inB 194 (by decide +kernel) rfl
theorem wd_195 : (Jvm.Cond.fieldLink "CranePlan$Search" (18 : Nat) "CranePlan$Search" "choice" "[I") ∈ bigW := inB 195 (by decide +kernel) rfl
theorem wd_196 : (Jvm.Cond.fieldLink "CranePlan$Search" (21 : Nat) "CranePlan$Search" "best" "[I") ∈ bigW := inB 196 (by decide +kernel) rfl
theorem wd_197 : (Jvm.Cond.fieldLink "CranePlan$Search" (24 : Nat) "CranePlan$Search" "busyBays" "I") ∈ bigW := inB 197 (by decide +kernel) rfl
theorem wd_198 : (Jvm.Cond.fieldLink "CranePlan$Search" (28 : Nat) "CranePlan$Search" "ableCranes" "I") ∈ bigW := inB 198 (by decide +kernel) rfl
theorem wd_218 : (Jvm.Cond.fieldLink "CranePlan" (10 : Nat) "CranePlan" "bays" "LCranePlan$Bays;") ∈ bigW := inB 218 (by decide +kernel) rfl
theorem wd_219 : (Jvm.Cond.fieldLink "CranePlan" (25 : Nat) "CranePlan" "cranes" "LCranePlan$Cranes;") ∈ bigW := inB 219 (by decide +kernel) rfl
theorem wd_220 : (Jvm.Cond.fieldLink "CranePlan" (34 : Nat) "CranePlan" "timetable" "LCranePlan$Timetable;") ∈ bigW := inB 220 (by decide +kernel) rfl
theorem wd_221 : (Jvm.Cond.fieldLink "CranePlan" (43 : Nat) "CranePlan" "search" "LCranePlan$Search;") ∈ bigW := inB 221 (by decide +kernel) rfl
theorem wd_222 : (Jvm.Cond.fieldLink "CranePlan" (47 : Nat) "CranePlan" "planned" "Z") ∈ bigW := inB 222 (by decide +kernel) rfl
theorem wd_234 : (Jvm.Cond.methodLink "CranePlanLaw" (64 : Nat) ({ cls := "CranePlan", name := "step", desc := "(I)Z" } : Jvm.MethodName)) ∈ bigW := inB 234 (by decide +kernel) rfl
theorem wd_235 : (Jvm.Cond.instanceMethod ({ cls := "CranePlan", name := "step", desc := "(I)Z" } : Jvm.MethodName)) ∈ bigW := inB 235 (by decide +kernel) rfl
theorem wd_236 : (Jvm.Cond.selects "CranePlan" ({ cls := "CranePlan", name := "step", desc := "(I)Z" } : Jvm.MethodName) ({ cls := "CranePlan", name := "step", desc := "(I)Z" } : Jvm.MethodName)) ∈ bigW := inB 236 (by decide +kernel) rfl
theorem wd_237 : (Jvm.Cond.code ({ cls := "CranePlan", name := "step", desc := "(I)Z" } : Jvm.MethodName) prog_1_method_4_code (2 : Nat) (Option.some Jvm.ClassFile.FieldType.boolean)) ∈ bigW := inB 237 (by decide +kernel) rfl
theorem wd_238 : (Jvm.Cond.methodLink "CranePlan" (51 : Nat) ({ cls := "CranePlan", name := "within", desc := "(III)Z" } : Jvm.MethodName)) ∈ bigW := inB 238 (by decide +kernel) rfl
theorem wd_239 : (Jvm.Cond.static ({ cls := "CranePlan", name := "within", desc := "(III)Z" } : Jvm.MethodName)) ∈ bigW := inB 239 (by decide +kernel) rfl
theorem wd_240 : (Jvm.Cond.code ({ cls := "CranePlan", name := "within", desc := "(III)Z" } : Jvm.MethodName) prog_1_method_13_code (3 : Nat) (Option.some Jvm.ClassFile.FieldType.boolean)) ∈ bigW := inB 240 (by decide +kernel) rfl
theorem wd_241 : (Jvm.Cond.methodLink "CranePlanLaw" (69 : Nat) ({ cls := "CranePlan", name := "plan", desc := "()I" } : Jvm.MethodName)) ∈ bigW := inB 241 (by decide +kernel) rfl
theorem wd_242 : (Jvm.Cond.instanceMethod ({ cls := "CranePlan", name := "plan", desc := "()I" } : Jvm.MethodName)) ∈ bigW := inB 242 (by decide +kernel) rfl
theorem wd_243 : (Jvm.Cond.selects "CranePlan" ({ cls := "CranePlan", name := "plan", desc := "()I" } : Jvm.MethodName) ({ cls := "CranePlan", name := "plan", desc := "()I" } : Jvm.MethodName)) ∈ bigW := inB 243 (by decide +kernel) rfl
theorem wd_244 : (Jvm.Cond.code ({ cls := "CranePlan", name := "plan", desc := "()I" } : Jvm.MethodName) prog_1_method_5_code (1 : Nat) (Option.some Jvm.ClassFile.FieldType.int)) ∈ bigW := inB 244 (by decide +kernel) rfl
theorem nd_245 : (Jvm.Cond.methodLinkNest "CranePlan" (96 : Nat) ({ cls := "CranePlan$Search", name := "makeBest", desc := "()Z" } : Jvm.MethodName) "CranePlan") ∈ nwW := inN 245 (by decide +kernel) rfl
theorem wd_247 : (Jvm.Cond.instanceMethod ({ cls := "CranePlan$Search", name := "makeBest", desc := "()Z" } : Jvm.MethodName)) ∈ bigW := inB 247 (by decide +kernel) rfl
theorem wd_248 : (Jvm.Cond.code ({ cls := "CranePlan$Search", name := "makeBest", desc := "()Z" } : Jvm.MethodName) prog_4_method_2_code (5 : Nat) (Option.some Jvm.ClassFile.FieldType.boolean)) ∈ bigW := inB 248 (by decide +kernel) rfl
theorem wd_249 : (Jvm.Cond.methodLink "CranePlan$Search" (43 : Nat) ({ cls := "CranePlan$Search", name := "gather", desc := "()V" } : Jvm.MethodName)) ∈ bigW := inB 249 (by decide +kernel) rfl
theorem wd_251 : (Jvm.Cond.instanceMethod ({ cls := "CranePlan$Search", name := "gather", desc := "()V" } : Jvm.MethodName)) ∈ bigW := inB 251 (by decide +kernel) rfl
theorem wd_252 : (Jvm.Cond.code ({ cls := "CranePlan$Search", name := "gather", desc := "()V" } : Jvm.MethodName) prog_4_method_3_code (2 : Nat) (Option.none : Option Jvm.ClassFile.FieldType)) ∈ bigW := inB 252 (by decide +kernel) rfl
theorem wd_253 : (Jvm.Cond.methodLink "CranePlan$Search" (82 : Nat) ({ cls := "java/util/Arrays", name := "fill", desc := "([II)V" } : Jvm.MethodName)) ∈ bigW := inB 253 (by decide +kernel) rfl
theorem nd_254 : (Jvm.Cond.methodLinkNest "CranePlan$Search" (88 : Nat) ({ cls := "CranePlan$Bays", name := "movesOf", desc := "(I)I" } : Jvm.MethodName) "CranePlan") ∈ nwW := inN 254 (by decide +kernel) rfl
theorem wd_256 : (Jvm.Cond.instanceMethod ({ cls := "CranePlan$Bays", name := "movesOf", desc := "(I)I" } : Jvm.MethodName)) ∈ bigW := inB 256 (by decide +kernel) rfl
theorem wd_257 : (Jvm.Cond.code ({ cls := "CranePlan$Bays", name := "movesOf", desc := "(I)I" } : Jvm.MethodName) prog_2_method_5_code (2 : Nat) (Option.some Jvm.ClassFile.FieldType.int)) ∈ bigW := inB 257 (by decide +kernel) rfl
theorem wd_258 : (Jvm.Cond.methodLink "CranePlan$Bays" (26 : Nat) ({ cls := "CranePlan$Bays", name := "has", desc := "(I)Z" } : Jvm.MethodName)) ∈ bigW := inB 258 (by decide +kernel) rfl
theorem wd_260 : (Jvm.Cond.instanceMethod ({ cls := "CranePlan$Bays", name := "has", desc := "(I)Z" } : Jvm.MethodName)) ∈ bigW := inB 260 (by decide +kernel) rfl
theorem wd_261 : (Jvm.Cond.code ({ cls := "CranePlan$Bays", name := "has", desc := "(I)Z" } : Jvm.MethodName) prog_2_method_2_code (2 : Nat) (Option.some Jvm.ClassFile.FieldType.boolean)) ∈ bigW := inB 261 (by decide +kernel) rfl
theorem nd_262 : (Jvm.Cond.methodLinkNest "CranePlan$Search" (94 : Nat) ({ cls := "CranePlan$Cranes", name := "isOut", desc := "(I)Z" } : Jvm.MethodName) "CranePlan") ∈ nwW := inN 262 (by decide +kernel) rfl
theorem wd_264 : (Jvm.Cond.instanceMethod ({ cls := "CranePlan$Cranes", name := "isOut", desc := "(I)Z" } : Jvm.MethodName)) ∈ bigW := inB 264 (by decide +kernel) rfl
theorem wd_265 : (Jvm.Cond.code ({ cls := "CranePlan$Cranes", name := "isOut", desc := "(I)Z" } : Jvm.MethodName) prog_3_method_3_code (2 : Nat) (Option.some Jvm.ClassFile.FieldType.boolean)) ∈ bigW := inB 265 (by decide +kernel) rfl
theorem wd_266 : (Jvm.Cond.methodLink "CranePlan$Cranes" (38 : Nat) ({ cls := "CranePlan$Cranes", name := "has", desc := "(I)Z" } : Jvm.MethodName)) ∈ bigW := inB 266 (by decide +kernel) rfl
theorem wd_268 : (Jvm.Cond.instanceMethod ({ cls := "CranePlan$Cranes", name := "has", desc := "(I)Z" } : Jvm.MethodName)) ∈ bigW := inB 268 (by decide +kernel) rfl
theorem wd_269 : (Jvm.Cond.code ({ cls := "CranePlan$Cranes", name := "has", desc := "(I)Z" } : Jvm.MethodName) prog_3_method_2_code (2 : Nat) (Option.some Jvm.ClassFile.FieldType.boolean)) ∈ bigW := inB 269 (by decide +kernel) rfl
theorem wd_270 : (Jvm.Cond.constant "CranePlan$Search" (46 : Nat) (1000000 : Int32)) ∈ bigW := inB 270 (by decide +kernel) rfl
theorem wd_271 : (Jvm.Cond.methodLink "CranePlan$Search" (47 : Nat) ({ cls := "CranePlan$Search", name := "share", desc := "([I)V" } : Jvm.MethodName)) ∈ bigW := inB 271 (by decide +kernel) rfl
theorem wd_273 : (Jvm.Cond.instanceMethod ({ cls := "CranePlan$Search", name := "share", desc := "([I)V" } : Jvm.MethodName)) ∈ bigW := inB 273 (by decide +kernel) rfl
theorem wd_274 : (Jvm.Cond.code ({ cls := "CranePlan$Search", name := "share", desc := "([I)V" } : Jvm.MethodName) prog_4_method_4_code (3 : Nat) (Option.none : Option Jvm.ClassFile.FieldType)) ∈ bigW := inB 274 (by decide +kernel) rfl
theorem nd_275 : (Jvm.Cond.methodLinkNest "CranePlan$Search" (100 : Nat) ({ cls := "CranePlan$Timetable", name := "clear", desc := "()V" } : Jvm.MethodName) "CranePlan") ∈ nwW := inN 275 (by decide +kernel) rfl
theorem wd_277 : (Jvm.Cond.instanceMethod ({ cls := "CranePlan$Timetable", name := "clear", desc := "()V" } : Jvm.MethodName)) ∈ bigW := inB 277 (by decide +kernel) rfl
theorem wd_278 : (Jvm.Cond.code ({ cls := "CranePlan$Timetable", name := "clear", desc := "()V" } : Jvm.MethodName) prog_5_method_2_code (1 : Nat) (Option.none : Option Jvm.ClassFile.FieldType)) ∈ bigW := inB 278 (by decide +kernel) rfl
theorem wd_279 : (Jvm.Cond.methodLink "CranePlan$Timetable" (53 : Nat) ({ cls := "java/util/Arrays", name := "fill", desc := "([II)V" } : Jvm.MethodName)) ∈ bigW := inB 279 (by decide +kernel) rfl
theorem nd_280 : (Jvm.Cond.methodLinkNest "CranePlan$Search" (103 : Nat) ({ cls := "CranePlan$Timetable", name := "give", desc := "(II)V" } : Jvm.MethodName) "CranePlan") ∈ nwW := inN 280 (by decide +kernel) rfl
theorem wd_282 : (Jvm.Cond.instanceMethod ({ cls := "CranePlan$Timetable", name := "give", desc := "(II)V" } : Jvm.MethodName)) ∈ bigW := inB 282 (by decide +kernel) rfl
theorem wd_283 : (Jvm.Cond.code ({ cls := "CranePlan$Timetable", name := "give", desc := "(II)V" } : Jvm.MethodName) prog_5_method_3_code (3 : Nat) (Option.none : Option Jvm.ClassFile.FieldType)) ∈ bigW := inB 283 (by decide +kernel) rfl
theorem nd_284 : (Jvm.Cond.methodLinkNest "CranePlan$Timetable" (59 : Nat) ({ cls := "CranePlan$Bays", name := "has", desc := "(I)Z" } : Jvm.MethodName) "CranePlan") ∈ nwW := inN 284 (by decide +kernel) rfl
theorem nd_285 : (Jvm.Cond.methodLinkNest "CranePlan$Timetable" (65 : Nat) ({ cls := "CranePlan$Cranes", name := "has", desc := "(I)Z" } : Jvm.MethodName) "CranePlan") ∈ nwW := inN 285 (by decide +kernel) rfl
theorem nd_286 : (Jvm.Cond.methodLinkNest "CranePlan$Search" (51 : Nat) ({ cls := "CranePlan$Timetable", name := "keepsApart", desc := "()Z" } : Jvm.MethodName) "CranePlan") ∈ nwW := inN 286 (by decide +kernel) rfl
theorem wd_288 : (Jvm.Cond.instanceMethod ({ cls := "CranePlan$Timetable", name := "keepsApart", desc := "()Z" } : Jvm.MethodName)) ∈ bigW := inB 288 (by decide +kernel) rfl
theorem wd_289 : (Jvm.Cond.code ({ cls := "CranePlan$Timetable", name := "keepsApart", desc := "()Z" } : Jvm.MethodName) prog_5_method_4_code (3 : Nat) (Option.some Jvm.ClassFile.FieldType.boolean)) ∈ bigW := inB 289 (by decide +kernel) rfl
theorem wd_290 : (Jvm.Cond.methodLink "CranePlan$Timetable" (68 : Nat) ({ cls := "CranePlan$Timetable", name := "tooNear", desc := "(II)Z" } : Jvm.MethodName)) ∈ bigW := inB 290 (by decide +kernel) rfl
theorem wd_292 : (Jvm.Cond.instanceMethod ({ cls := "CranePlan$Timetable", name := "tooNear", desc := "(II)Z" } : Jvm.MethodName)) ∈ bigW := inB 292 (by decide +kernel) rfl
theorem wd_293 : (Jvm.Cond.code ({ cls := "CranePlan$Timetable", name := "tooNear", desc := "(II)Z" } : Jvm.MethodName) prog_5_method_5_code (3 : Nat) (Option.some Jvm.ClassFile.FieldType.boolean)) ∈ bigW := inB 293 (by decide +kernel) rfl
theorem nd_294 : (Jvm.Cond.methodLinkNest "CranePlan$Search" (57 : Nat) ({ cls := "CranePlan$Timetable", name := "setTimes", desc := "()V" } : Jvm.MethodName) "CranePlan") ∈ nwW := inN 294 (by decide +kernel) rfl
theorem wd_296 : (Jvm.Cond.instanceMethod ({ cls := "CranePlan$Timetable", name := "setTimes", desc := "()V" } : Jvm.MethodName)) ∈ bigW := inB 296 (by decide +kernel) rfl
theorem wd_297 : (Jvm.Cond.code ({ cls := "CranePlan$Timetable", name := "setTimes", desc := "()V" } : Jvm.MethodName) prog_5_method_6_code (3 : Nat) (Option.none : Option Jvm.ClassFile.FieldType)) ∈ bigW := inB 297 (by decide +kernel) rfl
theorem wd_298 : (Jvm.Cond.methodLink "CranePlan$Timetable" (75 : Nat) ({ cls := "CranePlan$Timetable", name := "setTimesOf", desc := "(II)V" } : Jvm.MethodName)) ∈ bigW := inB 298 (by decide +kernel) rfl
theorem wd_300 : (Jvm.Cond.instanceMethod ({ cls := "CranePlan$Timetable", name := "setTimesOf", desc := "(II)V" } : Jvm.MethodName)) ∈ bigW := inB 300 (by decide +kernel) rfl
theorem wd_301 : (Jvm.Cond.code ({ cls := "CranePlan$Timetable", name := "setTimesOf", desc := "(II)V" } : Jvm.MethodName) prog_5_method_7_code (5 : Nat) (Option.none : Option Jvm.ClassFile.FieldType)) ∈ bigW := inB 301 (by decide +kernel) rfl
theorem wd_302 : (Jvm.Cond.methodLink "CranePlan$Timetable" (79 : Nat) ({ cls := "java/lang/Math", name := "max", desc := "(II)I" } : Jvm.MethodName)) ∈ bigW := inB 302 (by decide +kernel) rfl
theorem nd_303 : (Jvm.Cond.methodLinkNest "CranePlan$Timetable" (85 : Nat) ({ cls := "CranePlan$Bays", name := "movesOf", desc := "(I)I" } : Jvm.MethodName) "CranePlan") ∈ nwW := inN 303 (by decide +kernel) rfl
theorem nd_304 : (Jvm.Cond.methodLinkNest "CranePlan$Timetable" (89 : Nat) ({ cls := "CranePlan$Cranes", name := "timeFor", desc := "(II)I" } : Jvm.MethodName) "CranePlan") ∈ nwW := inN 304 (by decide +kernel) rfl
theorem wd_306 : (Jvm.Cond.instanceMethod ({ cls := "CranePlan$Cranes", name := "timeFor", desc := "(II)I" } : Jvm.MethodName)) ∈ bigW := inB 306 (by decide +kernel) rfl
theorem wd_307 : (Jvm.Cond.code ({ cls := "CranePlan$Cranes", name := "timeFor", desc := "(II)I" } : Jvm.MethodName) prog_3_method_7_code (3 : Nat) (Option.some Jvm.ClassFile.FieldType.int)) ∈ bigW := inB 307 (by decide +kernel) rfl
theorem nd_308 : (Jvm.Cond.methodLinkNest "CranePlan$Cranes" (45 : Nat) ({ cls := "CranePlan", name := "dividedUp", desc := "(JJ)J" } : Jvm.MethodName) "CranePlan") ∈ nwW := inN 308 (by decide +kernel) rfl
theorem wd_309 : (Jvm.Cond.static ({ cls := "CranePlan", name := "dividedUp", desc := "(JJ)J" } : Jvm.MethodName)) ∈ bigW := inB 309 (by decide +kernel) rfl
theorem wd_310 : (Jvm.Cond.code ({ cls := "CranePlan", name := "dividedUp", desc := "(JJ)J" } : Jvm.MethodName) prog_1_method_15_code (4 : Nat) (Option.some Jvm.ClassFile.FieldType.long)) ∈ bigW := inB 310 (by decide +kernel) rfl
theorem wd_311 : (Jvm.Cond.methodLink "CranePlan$Timetable" (92 : Nat) ({ cls := "CranePlan$Timetable", name := "whenCame", desc := "(II)I" } : Jvm.MethodName)) ∈ bigW := inB 311 (by decide +kernel) rfl
theorem wd_313 : (Jvm.Cond.instanceMethod ({ cls := "CranePlan$Timetable", name := "whenCame", desc := "(II)I" } : Jvm.MethodName)) ∈ bigW := inB 313 (by decide +kernel) rfl
theorem wd_314 : (Jvm.Cond.code ({ cls := "CranePlan$Timetable", name := "whenCame", desc := "(II)I" } : Jvm.MethodName) prog_5_method_8_code (3 : Nat) (Option.some Jvm.ClassFile.FieldType.int)) ∈ bigW := inB 314 (by decide +kernel) rfl
theorem nd_315 : (Jvm.Cond.methodLinkNest "CranePlan$Search" (60 : Nat) ({ cls := "CranePlan$Timetable", name := "isBetterThan", desc := "(II)Z" } : Jvm.MethodName) "CranePlan") ∈ nwW := inN 315 (by decide +kernel) rfl
theorem wd_317 : (Jvm.Cond.instanceMethod ({ cls := "CranePlan$Timetable", name := "isBetterThan", desc := "(II)Z" } : Jvm.MethodName)) ∈ bigW := inB 317 (by decide +kernel) rfl
theorem wd_318 : (Jvm.Cond.code ({ cls := "CranePlan$Timetable", name := "isBetterThan", desc := "(II)Z" } : Jvm.MethodName) prog_5_method_9_code (3 : Nat) (Option.some Jvm.ClassFile.FieldType.boolean)) ∈ bigW := inB 318 (by decide +kernel) rfl
theorem wd_319 : (Jvm.Cond.methodLink "CranePlan$Search" (70 : Nat) ({ cls := "java/lang/System", name := "arraycopy", desc := "(Ljava/lang/Object;ILjava/lang/Object;II)V" } : Jvm.MethodName)) ∈ bigW := inB 319 (by decide +kernel) rfl
theorem wd_320 : (Jvm.Cond.static ({ cls := "java/lang/System", name := "arraycopy", desc := "(Ljava/lang/Object;ILjava/lang/Object;II)V" } : Jvm.MethodName)) ∈ bigW := inB 320 (by decide +kernel) rfl
theorem wd_321 : (Jvm.Cond.native ({ cls := "java/lang/System", name := "arraycopy", desc := "(Ljava/lang/Object;ILjava/lang/Object;II)V" } : Jvm.MethodName)) ∈ bigW := inB 321 (by decide +kernel) rfl
theorem wd_322 : (Jvm.Cond.methodLink "CranePlan$Search" (76 : Nat) ({ cls := "CranePlan$Search", name := "nextChoice", desc := "()Z" } : Jvm.MethodName)) ∈ bigW := inB 322 (by decide +kernel) rfl
theorem wd_324 : (Jvm.Cond.instanceMethod ({ cls := "CranePlan$Search", name := "nextChoice", desc := "()Z" } : Jvm.MethodName)) ∈ bigW := inB 324 (by decide +kernel) rfl
theorem wd_325 : (Jvm.Cond.code ({ cls := "CranePlan$Search", name := "nextChoice", desc := "()Z" } : Jvm.MethodName) prog_4_method_5_code (4 : Nat) (Option.some Jvm.ClassFile.FieldType.boolean)) ∈ bigW := inB 325 (by decide +kernel) rfl
theorem nd_326 : (Jvm.Cond.methodLinkNest "CranePlan$Search" (79 : Nat) ({ cls := "CranePlan$Timetable", name := "sortRows", desc := "()V" } : Jvm.MethodName) "CranePlan") ∈ nwW := inN 326 (by decide +kernel) rfl
theorem wd_328 : (Jvm.Cond.instanceMethod ({ cls := "CranePlan$Timetable", name := "sortRows", desc := "()V" } : Jvm.MethodName)) ∈ bigW := inB 328 (by decide +kernel) rfl
theorem wd_329 : (Jvm.Cond.code ({ cls := "CranePlan$Timetable", name := "sortRows", desc := "()V" } : Jvm.MethodName) prog_5_method_10_code (3 : Nat) (Option.none : Option Jvm.ClassFile.FieldType)) ∈ bigW := inB 329 (by decide +kernel) rfl
theorem wd_330 : (Jvm.Cond.methodLink "CranePlan$Timetable" (98 : Nat) ({ cls := "CranePlan$Timetable", name := "beginsAhead", desc := "(II)Z" } : Jvm.MethodName)) ∈ bigW := inB 330 (by decide +kernel) rfl
theorem wd_332 : (Jvm.Cond.instanceMethod ({ cls := "CranePlan$Timetable", name := "beginsAhead", desc := "(II)Z" } : Jvm.MethodName)) ∈ bigW := inB 332 (by decide +kernel) rfl
theorem wd_333 : (Jvm.Cond.code ({ cls := "CranePlan$Timetable", name := "beginsAhead", desc := "(II)Z" } : Jvm.MethodName) prog_5_method_11_code (3 : Nat) (Option.some Jvm.ClassFile.FieldType.boolean)) ∈ bigW := inB 333 (by decide +kernel) rfl
theorem wd_334 : (Jvm.Cond.methodLink "CranePlanLaw" (82 : Nat) ({ cls := "CranePlan", name := "bound", desc := "()I" } : Jvm.MethodName)) ∈ bigW := inB 334 (by decide +kernel) rfl
theorem wd_335 : (Jvm.Cond.instanceMethod ({ cls := "CranePlan", name := "bound", desc := "()I" } : Jvm.MethodName)) ∈ bigW := inB 335 (by decide +kernel) rfl
theorem wd_336 : (Jvm.Cond.selects "CranePlan" ({ cls := "CranePlan", name := "bound", desc := "()I" } : Jvm.MethodName) ({ cls := "CranePlan", name := "bound", desc := "()I" } : Jvm.MethodName)) ∈ bigW := inB 336 (by decide +kernel) rfl
theorem wd_337 : (Jvm.Cond.code ({ cls := "CranePlan", name := "bound", desc := "()I" } : Jvm.MethodName) prog_1_method_9_code (3 : Nat) (Option.some Jvm.ClassFile.FieldType.int)) ∈ bigW := inB 337 (by decide +kernel) rfl
theorem nd_338 : (Jvm.Cond.methodLinkNest "CranePlan" (137 : Nat) ({ cls := "CranePlan$Cranes", name := "able", desc := "()I" } : Jvm.MethodName) "CranePlan") ∈ nwW := inN 338 (by decide +kernel) rfl
theorem wd_340 : (Jvm.Cond.instanceMethod ({ cls := "CranePlan$Cranes", name := "able", desc := "()I" } : Jvm.MethodName)) ∈ bigW := inB 340 (by decide +kernel) rfl
theorem wd_341 : (Jvm.Cond.code ({ cls := "CranePlan$Cranes", name := "able", desc := "()I" } : Jvm.MethodName) prog_3_method_6_code (3 : Nat) (Option.some Jvm.ClassFile.FieldType.int)) ∈ bigW := inB 341 (by decide +kernel) rfl
theorem wd_342 : (Jvm.Cond.methodLink "CranePlan$Cranes" (42 : Nat) ({ cls := "CranePlan$Cranes", name := "isOut", desc := "(I)Z" } : Jvm.MethodName)) ∈ bigW := inB 342 (by decide +kernel) rfl
theorem nd_343 : (Jvm.Cond.methodLinkNest "CranePlan" (140 : Nat) ({ cls := "CranePlan$Bays", name := "allMoves", desc := "()I" } : Jvm.MethodName) "CranePlan") ∈ nwW := inN 343 (by decide +kernel) rfl
theorem wd_345 : (Jvm.Cond.instanceMethod ({ cls := "CranePlan$Bays", name := "allMoves", desc := "()I" } : Jvm.MethodName)) ∈ bigW := inB 345 (by decide +kernel) rfl
theorem wd_346 : (Jvm.Cond.code ({ cls := "CranePlan$Bays", name := "allMoves", desc := "()I" } : Jvm.MethodName) prog_2_method_6_code (3 : Nat) (Option.some Jvm.ClassFile.FieldType.int)) ∈ bigW := inB 346 (by decide +kernel) rfl
theorem wd_347 : (Jvm.Cond.methodLink "CranePlan$Bays" (30 : Nat) ({ cls := "CranePlan$Bays", name := "movesOf", desc := "(I)I" } : Jvm.MethodName)) ∈ bigW := inB 347 (by decide +kernel) rfl
theorem nd_348 : (Jvm.Cond.methodLinkNest "CranePlan" (143 : Nat) ({ cls := "CranePlan$Cranes", name := "timeTogether", desc := "(I)I" } : Jvm.MethodName) "CranePlan") ∈ nwW := inN 348 (by decide +kernel) rfl
theorem wd_350 : (Jvm.Cond.instanceMethod ({ cls := "CranePlan$Cranes", name := "timeTogether", desc := "(I)I" } : Jvm.MethodName)) ∈ bigW := inB 350 (by decide +kernel) rfl
theorem wd_351 : (Jvm.Cond.code ({ cls := "CranePlan$Cranes", name := "timeTogether", desc := "(I)I" } : Jvm.MethodName) prog_3_method_10_code (7 : Nat) (Option.some Jvm.ClassFile.FieldType.int)) ∈ bigW := inB 351 (by decide +kernel) rfl
theorem nd_352 : (Jvm.Cond.methodLinkNest "CranePlan" (147 : Nat) ({ cls := "CranePlan$Bays", name := "movesOf", desc := "(I)I" } : Jvm.MethodName) "CranePlan") ∈ nwW := inN 352 (by decide +kernel) rfl
theorem nd_353 : (Jvm.Cond.methodLinkNest "CranePlan" (150 : Nat) ({ cls := "CranePlan$Cranes", name := "leastTime", desc := "(I)I" } : Jvm.MethodName) "CranePlan") ∈ nwW := inN 353 (by decide +kernel) rfl
theorem wd_355 : (Jvm.Cond.instanceMethod ({ cls := "CranePlan$Cranes", name := "leastTime", desc := "(I)I" } : Jvm.MethodName)) ∈ bigW := inB 355 (by decide +kernel) rfl
theorem wd_356 : (Jvm.Cond.code ({ cls := "CranePlan$Cranes", name := "leastTime", desc := "(I)I" } : Jvm.MethodName) prog_3_method_9_code (4 : Nat) (Option.some Jvm.ClassFile.FieldType.int)) ∈ bigW := inB 356 (by decide +kernel) rfl
theorem wd_357 : (Jvm.Cond.constant "CranePlan$Cranes" (49 : Nat) (1000000 : Int32)) ∈ bigW := inB 357 (by decide +kernel) rfl
theorem wd_358 : (Jvm.Cond.methodLink "CranePlan$Cranes" (50 : Nat) ({ cls := "CranePlan$Cranes", name := "timeFor", desc := "(II)I" } : Jvm.MethodName)) ∈ bigW := inB 358 (by decide +kernel) rfl
theorem wd_359 : (Jvm.Cond.methodLink "CranePlan$Cranes" (54 : Nat) ({ cls := "java/lang/Math", name := "min", desc := "(II)I" } : Jvm.MethodName)) ∈ bigW := inB 359 (by decide +kernel) rfl
theorem wd_360 : (Jvm.Cond.methodLink "CranePlanLaw" (92 : Nat) ({ cls := "CranePlan", name := "count", desc := "(I)I" } : Jvm.MethodName)) ∈ bigW := inB 360 (by decide +kernel) rfl
theorem wd_361 : (Jvm.Cond.instanceMethod ({ cls := "CranePlan", name := "count", desc := "(I)I" } : Jvm.MethodName)) ∈ bigW := inB 361 (by decide +kernel) rfl
theorem wd_362 : (Jvm.Cond.selects "CranePlan" ({ cls := "CranePlan", name := "count", desc := "(I)I" } : Jvm.MethodName) ({ cls := "CranePlan", name := "count", desc := "(I)I" } : Jvm.MethodName)) ∈ bigW := inB 362 (by decide +kernel) rfl
theorem wd_363 : (Jvm.Cond.code ({ cls := "CranePlan", name := "count", desc := "(I)I" } : Jvm.MethodName) prog_1_method_12_code (2 : Nat) (Option.some Jvm.ClassFile.FieldType.int)) ∈ bigW := inB 363 (by decide +kernel) rfl
theorem wd_364 : (Jvm.Cond.methodLink "CranePlanLaw" (40 : Nat) ({ cls := "CranePlanLaw", name := "cell", desc := "([II)I" } : Jvm.MethodName)) ∈ bigW := inB 364 (by decide +kernel) rfl
theorem wd_365 : (Jvm.Cond.static ({ cls := "CranePlanLaw", name := "cell", desc := "([II)I" } : Jvm.MethodName)) ∈ bigW := inB 365 (by decide +kernel) rfl
theorem wd_366 : (Jvm.Cond.code ({ cls := "CranePlanLaw", name := "cell", desc := "([II)I" } : Jvm.MethodName) method_2_code (2 : Nat) (Option.some Jvm.ClassFile.FieldType.int)) ∈ bigW := inB 366 (by decide +kernel) rfl
theorem wd_367 : (Jvm.Cond.methodLink "CranePlanLaw" (52 : Nat) ({ cls := "CranePlanLaw", name := "bay", desc := "(LCranePlan;II[J)I" } : Jvm.MethodName)) ∈ bigW := inB 367 (by decide +kernel) rfl
theorem wd_368 : (Jvm.Cond.static ({ cls := "CranePlanLaw", name := "bay", desc := "(LCranePlan;II[J)I" } : Jvm.MethodName)) ∈ bigW := inB 368 (by decide +kernel) rfl
theorem wd_369 : (Jvm.Cond.codeWith ({ cls := "CranePlanLaw", name := "bay", desc := "(LCranePlan;II[J)I" } : Jvm.MethodName) method_3_code (5 : Nat) (Option.some Jvm.ClassFile.FieldType.int) [((0 : Nat), (10 : Nat), (13 : Nat), (13 : Nat)), ((0 : Nat), (10 : Nat), (17 : Nat), (15 : Nat))]) ∈ bigW := inB 369 (by decide +kernel) rfl
theorem wd_370 : (Jvm.Cond.classLink "CranePlanLaw" (13 : Nat) "java/lang/IllegalArgumentException") ∈ bigW := inB 370 (by decide +kernel) rfl
theorem wd_371 : (Jvm.Cond.classLink "CranePlanLaw" (15 : Nat) "java/lang/IllegalStateException") ∈ bigW := inB 371 (by decide +kernel) rfl
theorem wd_372 : (Jvm.Cond.methodLink "CranePlanLaw" (7 : Nat) ({ cls := "CranePlan", name := "bay", desc := "(II)I" } : Jvm.MethodName)) ∈ bigW := inB 372 (by decide +kernel) rfl
theorem wd_373 : (Jvm.Cond.instanceMethod ({ cls := "CranePlan", name := "bay", desc := "(II)I" } : Jvm.MethodName)) ∈ bigW := inB 373 (by decide +kernel) rfl
theorem wd_374 : (Jvm.Cond.selects "CranePlan" ({ cls := "CranePlan", name := "bay", desc := "(II)I" } : Jvm.MethodName) ({ cls := "CranePlan", name := "bay", desc := "(II)I" } : Jvm.MethodName)) ∈ bigW := inB 374 (by decide +kernel) rfl
theorem wd_375 : (Jvm.Cond.code ({ cls := "CranePlan", name := "bay", desc := "(II)I" } : Jvm.MethodName) prog_1_method_2_code (3 : Nat) (Option.some Jvm.ClassFile.FieldType.int)) ∈ bigW := inB 375 (by decide +kernel) rfl
theorem wd_376 : (Jvm.Cond.classLink "CranePlan" (55 : Nat) "java/lang/IllegalArgumentException") ∈ bigW := inB 376 (by decide +kernel) rfl
theorem wd_377 : (Jvm.Cond.instantiable "java/lang/IllegalArgumentException" (6 : Nat)) ∈ bigW := inB 377 (by decide +kernel) rfl
theorem wd_397 : (Jvm.Cond.fieldLink "java/lang/Throwable" (198 : Nat) "java/lang/Throwable" "backtrace" "Ljava/lang/Object;") ∈ bigW := inB 397 (by decide +kernel) rfl
theorem wd_402 : (Jvm.Cond.fieldLink "java/lang/Throwable" (13 : Nat) "java/lang/Throwable" "UNASSIGNED_STACK" "[Ljava/lang/StackTraceElement;") ∈ bigW := inB 402 (by decide +kernel) rfl
theorem wd_404 : (Jvm.Cond.fieldLink "java/lang/Throwable" (20 : Nat) "java/lang/Throwable" "SUPPRESSED_SENTINEL" "Ljava/util/List;") ∈ bigW := inB 404 (by decide +kernel) rfl
theorem wd_416 : (Jvm.Cond.instantiable "java/lang/Throwable" (6 : Nat)) ∈ bigW := inB 416 (by decide +kernel) rfl
theorem wd_419 : (Jvm.Cond.methodLink "CranePlan" (59 : Nat) ({ cls := "java/lang/IllegalArgumentException", name := "<init>", desc := "(Ljava/lang/String;)V" } : Jvm.MethodName)) ∈ bigW := inB 419 (by decide +kernel) rfl
theorem wd_420 : (Jvm.Cond.instanceMethod ({ cls := "java/lang/IllegalArgumentException", name := "<init>", desc := "(Ljava/lang/String;)V" } : Jvm.MethodName)) ∈ bigW := inB 420 (by decide +kernel) rfl
theorem wd_422 : (Jvm.Cond.methodLink "java/lang/IllegalArgumentException" (7 : Nat) ({ cls := "java/lang/RuntimeException", name := "<init>", desc := "(Ljava/lang/String;)V" } : Jvm.MethodName)) ∈ bigW := inB 422 (by decide +kernel) rfl
theorem wd_423 : (Jvm.Cond.instanceMethod ({ cls := "java/lang/RuntimeException", name := "<init>", desc := "(Ljava/lang/String;)V" } : Jvm.MethodName)) ∈ bigW := inB 423 (by decide +kernel) rfl
theorem wd_425 : (Jvm.Cond.methodLink "java/lang/RuntimeException" (7 : Nat) ({ cls := "java/lang/Exception", name := "<init>", desc := "(Ljava/lang/String;)V" } : Jvm.MethodName)) ∈ bigW := inB 425 (by decide +kernel) rfl
theorem wd_426 : (Jvm.Cond.instanceMethod ({ cls := "java/lang/Exception", name := "<init>", desc := "(Ljava/lang/String;)V" } : Jvm.MethodName)) ∈ bigW := inB 426 (by decide +kernel) rfl
theorem wd_431 : (Jvm.Cond.fieldLink "java/lang/Throwable" (198 : Nat) "java/lang/Throwable" "backtrace" "Ljava/lang/Object;") ∈ bigW := inB 431 (by decide +kernel) rfl
theorem wd_432 : (Jvm.Cond.fieldLink "java/lang/Throwable" (31 : Nat) "java/lang/Throwable" "detailMessage" "Ljava/lang/String;") ∈ bigW := inB 432 (by decide +kernel) rfl
theorem wd_433 : (Jvm.Cond.fieldLink "java/lang/Throwable" (7 : Nat) "java/lang/Throwable" "cause" "Ljava/lang/Throwable;") ∈ bigW := inB 433 (by decide +kernel) rfl
theorem wd_434 : (Jvm.Cond.fieldLink "java/lang/Throwable" (17 : Nat) "java/lang/Throwable" "stackTrace" "[Ljava/lang/StackTraceElement;") ∈ bigW := inB 434 (by decide +kernel) rfl
theorem wd_435 : (Jvm.Cond.fieldLink "java/lang/Throwable" (24 : Nat) "java/lang/Throwable" "suppressedExceptions" "Ljava/util/List;") ∈ bigW := inB 435 (by decide +kernel) rfl
theorem wd_444 : (Jvm.Cond.arrayClass Jvm.ClassFile.FieldType.byte) ∈ bigW := inB 444 (by decide +kernel) rfl
theorem nd_445 : (Jvm.Cond.methodLinkNest "CranePlan" (62 : Nat) ({ cls := "CranePlan$Bays", name := "isFull", desc := "()Z" } : Jvm.MethodName) "CranePlan") ∈ nwW := inN 445 (by decide +kernel) rfl
theorem wd_447 : (Jvm.Cond.instanceMethod ({ cls := "CranePlan$Bays", name := "isFull", desc := "()Z" } : Jvm.MethodName)) ∈ bigW := inB 447 (by decide +kernel) rfl
theorem wd_448 : (Jvm.Cond.code ({ cls := "CranePlan$Bays", name := "isFull", desc := "()Z" } : Jvm.MethodName) prog_2_method_3_code (1 : Nat) (Option.some Jvm.ClassFile.FieldType.boolean)) ∈ bigW := inB 448 (by decide +kernel) rfl
theorem wd_449 : (Jvm.Cond.classLink "CranePlan" (66 : Nat) "java/lang/IllegalStateException") ∈ bigW := inB 449 (by decide +kernel) rfl
theorem wd_450 : (Jvm.Cond.instantiable "java/lang/IllegalStateException" (6 : Nat)) ∈ bigW := inB 450 (by decide +kernel) rfl
theorem wd_459 : (Jvm.Cond.methodLink "CranePlan" (70 : Nat) ({ cls := "java/lang/IllegalStateException", name := "<init>", desc := "(Ljava/lang/String;)V" } : Jvm.MethodName)) ∈ bigW := inB 459 (by decide +kernel) rfl
theorem wd_460 : (Jvm.Cond.instanceMethod ({ cls := "java/lang/IllegalStateException", name := "<init>", desc := "(Ljava/lang/String;)V" } : Jvm.MethodName)) ∈ bigW := inB 460 (by decide +kernel) rfl
theorem wd_462 : (Jvm.Cond.methodLink "java/lang/IllegalStateException" (7 : Nat) ({ cls := "java/lang/RuntimeException", name := "<init>", desc := "(Ljava/lang/String;)V" } : Jvm.MethodName)) ∈ bigW := inB 462 (by decide +kernel) rfl
theorem nd_465 : (Jvm.Cond.methodLinkNest "CranePlan" (71 : Nat) ({ cls := "CranePlan$Bays", name := "add", desc := "(II)I" } : Jvm.MethodName) "CranePlan") ∈ nwW := inN 465 (by decide +kernel) rfl
theorem wd_467 : (Jvm.Cond.instanceMethod ({ cls := "CranePlan$Bays", name := "add", desc := "(II)I" } : Jvm.MethodName)) ∈ bigW := inB 467 (by decide +kernel) rfl
theorem wd_468 : (Jvm.Cond.code ({ cls := "CranePlan$Bays", name := "add", desc := "(II)I" } : Jvm.MethodName) prog_2_method_4_code (3 : Nat) (Option.some Jvm.ClassFile.FieldType.int)) ∈ bigW := inB 468 (by decide +kernel) rfl
theorem wd_469 : (Jvm.Cond.methodLink "CranePlan$Bays" (22 : Nat) ({ cls := "CranePlan$Bays", name := "isFull", desc := "()Z" } : Jvm.MethodName)) ∈ bigW := inB 469 (by decide +kernel) rfl
theorem wd_470 : (Jvm.Cond.methodLink "CranePlanLaw" (60 : Nat) ({ cls := "CranePlanLaw", name := "rate", desc := "(LCranePlan;III[J)I" } : Jvm.MethodName)) ∈ bigW := inB 470 (by decide +kernel) rfl
theorem wd_471 : (Jvm.Cond.static ({ cls := "CranePlanLaw", name := "rate", desc := "(LCranePlan;III[J)I" } : Jvm.MethodName)) ∈ bigW := inB 471 (by decide +kernel) rfl
theorem wd_472 : (Jvm.Cond.codeWith ({ cls := "CranePlanLaw", name := "rate", desc := "(LCranePlan;III[J)I" } : Jvm.MethodName) method_4_code (6 : Nat) (Option.some Jvm.ClassFile.FieldType.int) [((0 : Nat), (19 : Nat), (22 : Nat), (21 : Nat)), ((0 : Nat), (19 : Nat), (26 : Nat), (13 : Nat))]) ∈ bigW := inB 472 (by decide +kernel) rfl
theorem wd_473 : (Jvm.Cond.classLink "CranePlanLaw" (21 : Nat) "java/lang/ArithmeticException") ∈ bigW := inB 473 (by decide +kernel) rfl
theorem wd_474 : (Jvm.Cond.methodLink "CranePlanLaw" (17 : Nat) ({ cls := "CranePlan", name := "rate", desc := "(III)Z" } : Jvm.MethodName)) ∈ bigW := inB 474 (by decide +kernel) rfl
theorem wd_475 : (Jvm.Cond.instanceMethod ({ cls := "CranePlan", name := "rate", desc := "(III)Z" } : Jvm.MethodName)) ∈ bigW := inB 475 (by decide +kernel) rfl
theorem wd_476 : (Jvm.Cond.selects "CranePlan" ({ cls := "CranePlan", name := "rate", desc := "(III)Z" } : Jvm.MethodName) ({ cls := "CranePlan", name := "rate", desc := "(III)Z" } : Jvm.MethodName)) ∈ bigW := inB 476 (by decide +kernel) rfl
theorem wd_477 : (Jvm.Cond.code ({ cls := "CranePlan", name := "rate", desc := "(III)Z" } : Jvm.MethodName) prog_1_method_3_code (4 : Nat) (Option.some Jvm.ClassFile.FieldType.boolean)) ∈ bigW := inB 477 (by decide +kernel) rfl
theorem wd_478 : (Jvm.Cond.classLink "CranePlan" (75 : Nat) "java/lang/ArithmeticException") ∈ bigW := inB 478 (by decide +kernel) rfl
theorem wd_479 : (Jvm.Cond.instantiable "java/lang/ArithmeticException" (6 : Nat)) ∈ bigW := inB 479 (by decide +kernel) rfl
theorem wd_488 : (Jvm.Cond.methodLink "CranePlan" (79 : Nat) ({ cls := "java/lang/ArithmeticException", name := "<init>", desc := "(Ljava/lang/String;)V" } : Jvm.MethodName)) ∈ bigW := inB 488 (by decide +kernel) rfl
theorem wd_489 : (Jvm.Cond.instanceMethod ({ cls := "java/lang/ArithmeticException", name := "<init>", desc := "(Ljava/lang/String;)V" } : Jvm.MethodName)) ∈ bigW := inB 489 (by decide +kernel) rfl
theorem wd_491 : (Jvm.Cond.methodLink "java/lang/ArithmeticException" (7 : Nat) ({ cls := "java/lang/RuntimeException", name := "<init>", desc := "(Ljava/lang/String;)V" } : Jvm.MethodName)) ∈ bigW := inB 491 (by decide +kernel) rfl
theorem nd_494 : (Jvm.Cond.methodLinkNest "CranePlan" (80 : Nat) ({ cls := "CranePlan$Cranes", name := "has", desc := "(I)Z" } : Jvm.MethodName) "CranePlan") ∈ nwW := inN 494 (by decide +kernel) rfl
theorem nd_497 : (Jvm.Cond.methodLinkNest "CranePlan" (88 : Nat) ({ cls := "CranePlan$Cranes", name := "setRate", desc := "(III)V" } : Jvm.MethodName) "CranePlan") ∈ nwW := inN 497 (by decide +kernel) rfl
theorem wd_499 : (Jvm.Cond.instanceMethod ({ cls := "CranePlan$Cranes", name := "setRate", desc := "(III)V" } : Jvm.MethodName)) ∈ bigW := inB 499 (by decide +kernel) rfl
theorem wd_500 : (Jvm.Cond.code ({ cls := "CranePlan$Cranes", name := "setRate", desc := "(III)V" } : Jvm.MethodName) prog_3_method_5_code (4 : Nat) (Option.none : Option Jvm.ClassFile.FieldType)) ∈ bigW := inB 500 (by decide +kernel) rfl
theorem wd_501 : (Jvm.Cond.methodLink "CranePlanLaw" (73 : Nat) ({ cls := "CranePlanLaw", name := "works", desc := "(LCranePlan;II[J)I" } : Jvm.MethodName)) ∈ bigW := inB 501 (by decide +kernel) rfl
theorem wd_502 : (Jvm.Cond.static ({ cls := "CranePlanLaw", name := "works", desc := "(LCranePlan;II[J)I" } : Jvm.MethodName)) ∈ bigW := inB 502 (by decide +kernel) rfl
theorem wd_503 : (Jvm.Cond.codeWith ({ cls := "CranePlanLaw", name := "works", desc := "(LCranePlan;II[J)I" } : Jvm.MethodName) method_5_code (5 : Nat) (Option.some Jvm.ClassFile.FieldType.int) [((0 : Nat), (10 : Nat), (13 : Nat), (26 : Nat)), ((0 : Nat), (10 : Nat), (17 : Nat), (15 : Nat))]) ∈ bigW := inB 503 (by decide +kernel) rfl
theorem wd_504 : (Jvm.Cond.classLink "CranePlanLaw" (26 : Nat) "java/lang/IndexOutOfBoundsException") ∈ bigW := inB 504 (by decide +kernel) rfl
theorem wd_505 : (Jvm.Cond.methodLink "CranePlanLaw" (23 : Nat) ({ cls := "CranePlan", name := "works", desc := "(II)I" } : Jvm.MethodName)) ∈ bigW := inB 505 (by decide +kernel) rfl
theorem wd_506 : (Jvm.Cond.instanceMethod ({ cls := "CranePlan", name := "works", desc := "(II)I" } : Jvm.MethodName)) ∈ bigW := inB 506 (by decide +kernel) rfl
theorem wd_507 : (Jvm.Cond.selects "CranePlan" ({ cls := "CranePlan", name := "works", desc := "(II)I" } : Jvm.MethodName) ({ cls := "CranePlan", name := "works", desc := "(II)I" } : Jvm.MethodName)) ∈ bigW := inB 507 (by decide +kernel) rfl
theorem wd_508 : (Jvm.Cond.code ({ cls := "CranePlan", name := "works", desc := "(II)I" } : Jvm.MethodName) prog_1_method_6_code (3 : Nat) (Option.some Jvm.ClassFile.FieldType.int)) ∈ bigW := inB 508 (by decide +kernel) rfl
theorem wd_509 : (Jvm.Cond.classLink "CranePlan" (102 : Nat) "java/lang/IndexOutOfBoundsException") ∈ bigW := inB 509 (by decide +kernel) rfl
theorem wd_510 : (Jvm.Cond.instantiable "java/lang/IndexOutOfBoundsException" (6 : Nat)) ∈ bigW := inB 510 (by decide +kernel) rfl
theorem wd_518 : (Jvm.Cond.methodLink "CranePlan" (104 : Nat) ({ cls := "java/lang/IndexOutOfBoundsException", name := "<init>", desc := "(Ljava/lang/String;)V" } : Jvm.MethodName)) ∈ bigW := inB 518 (by decide +kernel) rfl
theorem wd_519 : (Jvm.Cond.instanceMethod ({ cls := "java/lang/IndexOutOfBoundsException", name := "<init>", desc := "(Ljava/lang/String;)V" } : Jvm.MethodName)) ∈ bigW := inB 519 (by decide +kernel) rfl
theorem wd_521 : (Jvm.Cond.methodLink "java/lang/IndexOutOfBoundsException" (7 : Nat) ({ cls := "java/lang/RuntimeException", name := "<init>", desc := "(Ljava/lang/String;)V" } : Jvm.MethodName)) ∈ bigW := inB 521 (by decide +kernel) rfl
theorem nd_525 : (Jvm.Cond.methodLinkNest "CranePlan" (107 : Nat) ({ cls := "CranePlan$Timetable", name := "bayWorkedAt", desc := "(II)I" } : Jvm.MethodName) "CranePlan") ∈ nwW := inN 525 (by decide +kernel) rfl
theorem wd_527 : (Jvm.Cond.instanceMethod ({ cls := "CranePlan$Timetable", name := "bayWorkedAt", desc := "(II)I" } : Jvm.MethodName)) ∈ bigW := inB 527 (by decide +kernel) rfl
theorem wd_528 : (Jvm.Cond.code ({ cls := "CranePlan$Timetable", name := "bayWorkedAt", desc := "(II)I" } : Jvm.MethodName) prog_5_method_13_code (4 : Nat) (Option.some Jvm.ClassFile.FieldType.int)) ∈ bigW := inB 528 (by decide +kernel) rfl
theorem wd_529 : (Jvm.Cond.methodLink "CranePlanLaw" (76 : Nat) ({ cls := "CranePlanLaw", name := "where", desc := "(LCranePlan;II[J)I" } : Jvm.MethodName)) ∈ bigW := inB 529 (by decide +kernel) rfl
theorem wd_530 : (Jvm.Cond.static ({ cls := "CranePlanLaw", name := "where", desc := "(LCranePlan;II[J)I" } : Jvm.MethodName)) ∈ bigW := inB 530 (by decide +kernel) rfl
theorem wd_531 : (Jvm.Cond.codeWith ({ cls := "CranePlanLaw", name := "where", desc := "(LCranePlan;II[J)I" } : Jvm.MethodName) method_6_code (5 : Nat) (Option.some Jvm.ClassFile.FieldType.int) [((0 : Nat), (10 : Nat), (13 : Nat), (26 : Nat)), ((0 : Nat), (10 : Nat), (17 : Nat), (15 : Nat))]) ∈ bigW := inB 531 (by decide +kernel) rfl
theorem wd_532 : (Jvm.Cond.methodLink "CranePlanLaw" (28 : Nat) ({ cls := "CranePlan", name := "where", desc := "(II)I" } : Jvm.MethodName)) ∈ bigW := inB 532 (by decide +kernel) rfl
theorem wd_533 : (Jvm.Cond.instanceMethod ({ cls := "CranePlan", name := "where", desc := "(II)I" } : Jvm.MethodName)) ∈ bigW := inB 533 (by decide +kernel) rfl
theorem wd_534 : (Jvm.Cond.selects "CranePlan" ({ cls := "CranePlan", name := "where", desc := "(II)I" } : Jvm.MethodName) ({ cls := "CranePlan", name := "where", desc := "(II)I" } : Jvm.MethodName)) ∈ bigW := inB 534 (by decide +kernel) rfl
theorem wd_535 : (Jvm.Cond.code ({ cls := "CranePlan", name := "where", desc := "(II)I" } : Jvm.MethodName) prog_1_method_7_code (3 : Nat) (Option.some Jvm.ClassFile.FieldType.int)) ∈ bigW := inB 535 (by decide +kernel) rfl
theorem nd_537 : (Jvm.Cond.methodLinkNest "CranePlan" (112 : Nat) ({ cls := "CranePlan$Timetable", name := "bayCameTo", desc := "(II)I" } : Jvm.MethodName) "CranePlan") ∈ nwW := inN 537 (by decide +kernel) rfl
theorem wd_539 : (Jvm.Cond.instanceMethod ({ cls := "CranePlan$Timetable", name := "bayCameTo", desc := "(II)I" } : Jvm.MethodName)) ∈ bigW := inB 539 (by decide +kernel) rfl
theorem wd_540 : (Jvm.Cond.code ({ cls := "CranePlan$Timetable", name := "bayCameTo", desc := "(II)I" } : Jvm.MethodName) prog_5_method_14_code (5 : Nat) (Option.some Jvm.ClassFile.FieldType.int)) ∈ bigW := inB 540 (by decide +kernel) rfl
theorem wd_541 : (Jvm.Cond.methodLink "CranePlanLaw" (79 : Nat) ({ cls := "CranePlanLaw", name := "fails", desc := "(LCranePlan;II[J)I" } : Jvm.MethodName)) ∈ bigW := inB 541 (by decide +kernel) rfl
theorem wd_542 : (Jvm.Cond.static ({ cls := "CranePlanLaw", name := "fails", desc := "(LCranePlan;II[J)I" } : Jvm.MethodName)) ∈ bigW := inB 542 (by decide +kernel) rfl
theorem wd_543 : (Jvm.Cond.codeWith ({ cls := "CranePlanLaw", name := "fails", desc := "(LCranePlan;II[J)I" } : Jvm.MethodName) method_7_code (5 : Nat) (Option.some Jvm.ClassFile.FieldType.int) [((0 : Nat), (10 : Nat), (13 : Nat), (26 : Nat)), ((0 : Nat), (10 : Nat), (17 : Nat), (13 : Nat)), ((0 : Nat), (10 : Nat), (21 : Nat), (15 : Nat))]) ∈ bigW := inB 543 (by decide +kernel) rfl
theorem wd_544 : (Jvm.Cond.methodLink "CranePlanLaw" (31 : Nat) ({ cls := "CranePlan", name := "fails", desc := "(II)I" } : Jvm.MethodName)) ∈ bigW := inB 544 (by decide +kernel) rfl
theorem wd_545 : (Jvm.Cond.instanceMethod ({ cls := "CranePlan", name := "fails", desc := "(II)I" } : Jvm.MethodName)) ∈ bigW := inB 545 (by decide +kernel) rfl
theorem wd_546 : (Jvm.Cond.selects "CranePlan" ({ cls := "CranePlan", name := "fails", desc := "(II)I" } : Jvm.MethodName) ({ cls := "CranePlan", name := "fails", desc := "(II)I" } : Jvm.MethodName)) ∈ bigW := inB 546 (by decide +kernel) rfl
theorem wd_547 : (Jvm.Cond.code ({ cls := "CranePlan", name := "fails", desc := "(II)I" } : Jvm.MethodName) prog_1_method_8_code (4 : Nat) (Option.some Jvm.ClassFile.FieldType.int)) ∈ bigW := inB 547 (by decide +kernel) rfl
theorem nd_548 : (Jvm.Cond.methodLinkNest "CranePlan" (115 : Nat) ({ cls := "CranePlan$Cranes", name := "isOut", desc := "(I)Z" } : Jvm.MethodName) "CranePlan") ∈ nwW := inN 548 (by decide +kernel) rfl
theorem nd_550 : (Jvm.Cond.methodLinkNest "CranePlan" (123 : Nat) ({ cls := "CranePlan$Timetable", name := "doneBy", desc := "(II)I" } : Jvm.MethodName) "CranePlan") ∈ nwW := inN 550 (by decide +kernel) rfl
theorem wd_552 : (Jvm.Cond.instanceMethod ({ cls := "CranePlan$Timetable", name := "doneBy", desc := "(II)I" } : Jvm.MethodName)) ∈ bigW := inB 552 (by decide +kernel) rfl
theorem wd_553 : (Jvm.Cond.code ({ cls := "CranePlan$Timetable", name := "doneBy", desc := "(II)I" } : Jvm.MethodName) prog_5_method_15_code (3 : Nat) (Option.some Jvm.ClassFile.FieldType.int)) ∈ bigW := inB 553 (by decide +kernel) rfl
theorem nd_554 : (Jvm.Cond.methodLinkNest "CranePlan$Timetable" (101 : Nat) ({ cls := "CranePlan$Cranes", name := "movesIn", desc := "(II)I" } : Jvm.MethodName) "CranePlan") ∈ nwW := inN 554 (by decide +kernel) rfl
theorem wd_556 : (Jvm.Cond.instanceMethod ({ cls := "CranePlan$Cranes", name := "movesIn", desc := "(II)I" } : Jvm.MethodName)) ∈ bigW := inB 556 (by decide +kernel) rfl
theorem wd_557 : (Jvm.Cond.code ({ cls := "CranePlan$Cranes", name := "movesIn", desc := "(II)I" } : Jvm.MethodName) prog_3_method_8_code (3 : Nat) (Option.some Jvm.ClassFile.FieldType.int)) ∈ bigW := inB 557 (by decide +kernel) rfl
theorem nd_558 : (Jvm.Cond.methodLinkNest "CranePlan" (126 : Nat) ({ cls := "CranePlan$Bays", name := "takeOff", desc := "(II)V" } : Jvm.MethodName) "CranePlan") ∈ nwW := inN 558 (by decide +kernel) rfl
theorem wd_560 : (Jvm.Cond.instanceMethod ({ cls := "CranePlan$Bays", name := "takeOff", desc := "(II)V" } : Jvm.MethodName)) ∈ bigW := inB 560 (by decide +kernel) rfl
theorem wd_561 : (Jvm.Cond.code ({ cls := "CranePlan$Bays", name := "takeOff", desc := "(II)V" } : Jvm.MethodName) prog_2_method_7_code (4 : Nat) (Option.none : Option Jvm.ClassFile.FieldType)) ∈ bigW := inB 561 (by decide +kernel) rfl
theorem wd_562 : (Jvm.Cond.methodLink "CranePlan$Bays" (34 : Nat) ({ cls := "java/lang/Math", name := "min", desc := "(II)I" } : Jvm.MethodName)) ∈ bigW := inB 562 (by decide +kernel) rfl
theorem nd_563 : (Jvm.Cond.methodLinkNest "CranePlan" (129 : Nat) ({ cls := "CranePlan$Cranes", name := "putOut", desc := "(I)V" } : Jvm.MethodName) "CranePlan") ∈ nwW := inN 563 (by decide +kernel) rfl
theorem wd_565 : (Jvm.Cond.instanceMethod ({ cls := "CranePlan$Cranes", name := "putOut", desc := "(I)V" } : Jvm.MethodName)) ∈ bigW := inB 565 (by decide +kernel) rfl
theorem wd_566 : (Jvm.Cond.code ({ cls := "CranePlan$Cranes", name := "putOut", desc := "(I)V" } : Jvm.MethodName) prog_3_method_4_code (2 : Nat) (Option.none : Option Jvm.ClassFile.FieldType)) ∈ bigW := inB 566 (by decide +kernel) rfl
theorem wd_567 : (Jvm.Cond.methodLink "CranePlan" (133 : Nat) ({ cls := "CranePlan", name := "plan", desc := "()I" } : Jvm.MethodName)) ∈ bigW := inB 567 (by decide +kernel) rfl
theorem wd_568 : (Jvm.Cond.methodLink "CranePlanLaw" (86 : Nat) ({ cls := "CranePlanLaw", name := "row", desc := "(LCranePlan;II[J)I" } : Jvm.MethodName)) ∈ bigW := inB 568 (by decide +kernel) rfl
theorem wd_569 : (Jvm.Cond.static ({ cls := "CranePlanLaw", name := "row", desc := "(LCranePlan;II[J)I" } : Jvm.MethodName)) ∈ bigW := inB 569 (by decide +kernel) rfl
theorem wd_570 : (Jvm.Cond.codeWith ({ cls := "CranePlanLaw", name := "row", desc := "(LCranePlan;II[J)I" } : Jvm.MethodName) method_8_code (5 : Nat) (Option.some Jvm.ClassFile.FieldType.int) [((0 : Nat), (10 : Nat), (13 : Nat), (15 : Nat)), ((0 : Nat), (10 : Nat), (17 : Nat), (26 : Nat))]) ∈ bigW := inB 570 (by decide +kernel) rfl
theorem wd_571 : (Jvm.Cond.methodLink "CranePlanLaw" (34 : Nat) ({ cls := "CranePlan", name := "row", desc := "(II)I" } : Jvm.MethodName)) ∈ bigW := inB 571 (by decide +kernel) rfl
theorem wd_572 : (Jvm.Cond.instanceMethod ({ cls := "CranePlan", name := "row", desc := "(II)I" } : Jvm.MethodName)) ∈ bigW := inB 572 (by decide +kernel) rfl
theorem wd_573 : (Jvm.Cond.selects "CranePlan" ({ cls := "CranePlan", name := "row", desc := "(II)I" } : Jvm.MethodName) ({ cls := "CranePlan", name := "row", desc := "(II)I" } : Jvm.MethodName)) ∈ bigW := inB 573 (by decide +kernel) rfl
theorem wd_574 : (Jvm.Cond.code ({ cls := "CranePlan", name := "row", desc := "(II)I" } : Jvm.MethodName) prog_1_method_10_code (3 : Nat) (Option.some Jvm.ClassFile.FieldType.int)) ∈ bigW := inB 574 (by decide +kernel) rfl
theorem nd_576 : (Jvm.Cond.methodLinkNest "CranePlan" (163 : Nat) ({ cls := "CranePlan$Timetable", name := "ofRow", desc := "(II)I" } : Jvm.MethodName) "CranePlan") ∈ nwW := inN 576 (by decide +kernel) rfl
theorem wd_578 : (Jvm.Cond.instanceMethod ({ cls := "CranePlan$Timetable", name := "ofRow", desc := "(II)I" } : Jvm.MethodName)) ∈ bigW := inB 578 (by decide +kernel) rfl
theorem wd_579 : (Jvm.Cond.code ({ cls := "CranePlan$Timetable", name := "ofRow", desc := "(II)I" } : Jvm.MethodName) prog_5_method_12_code (4 : Nat) (Option.some Jvm.ClassFile.FieldType.int)) ∈ bigW := inB 579 (by decide +kernel) rfl
theorem wd_580 : (Jvm.Cond.methodLink "CranePlanLaw" (89 : Nat) ({ cls := "CranePlanLaw", name := "look", desc := "(LCranePlan;II[J)I" } : Jvm.MethodName)) ∈ bigW := inB 580 (by decide +kernel) rfl
theorem wd_581 : (Jvm.Cond.static ({ cls := "CranePlanLaw", name := "look", desc := "(LCranePlan;II[J)I" } : Jvm.MethodName)) ∈ bigW := inB 581 (by decide +kernel) rfl
theorem wd_582 : (Jvm.Cond.codeWith ({ cls := "CranePlanLaw", name := "look", desc := "(LCranePlan;II[J)I" } : Jvm.MethodName) method_9_code (5 : Nat) (Option.some Jvm.ClassFile.FieldType.int) [((0 : Nat), (10 : Nat), (13 : Nat), (26 : Nat))]) ∈ bigW := inB 582 (by decide +kernel) rfl
theorem wd_583 : (Jvm.Cond.methodLink "CranePlanLaw" (37 : Nat) ({ cls := "CranePlan", name := "look", desc := "(II)I" } : Jvm.MethodName)) ∈ bigW := inB 583 (by decide +kernel) rfl
theorem wd_584 : (Jvm.Cond.instanceMethod ({ cls := "CranePlan", name := "look", desc := "(II)I" } : Jvm.MethodName)) ∈ bigW := inB 584 (by decide +kernel) rfl
theorem wd_585 : (Jvm.Cond.selects "CranePlan" ({ cls := "CranePlan", name := "look", desc := "(II)I" } : Jvm.MethodName) ({ cls := "CranePlan", name := "look", desc := "(II)I" } : Jvm.MethodName)) ∈ bigW := inB 585 (by decide +kernel) rfl
theorem wd_586 : (Jvm.Cond.code ({ cls := "CranePlan", name := "look", desc := "(II)I" } : Jvm.MethodName) prog_1_method_11_code (3 : Nat) (Option.some Jvm.ClassFile.FieldType.int)) ∈ bigW := inB 586 (by decide +kernel) rfl
theorem nd_587 : (Jvm.Cond.methodLinkNest "CranePlan" (166 : Nat) ({ cls := "CranePlan$Bays", name := "has", desc := "(I)Z" } : Jvm.MethodName) "CranePlan") ∈ nwW := inN 587 (by decide +kernel) rfl
theorem wd_589 : (Jvm.Cond.classLink "CranePlanLaw" (49 : Nat) "CranePlanModel") ∈ bigW := inB 589 (by decide +kernel) rfl
theorem wd_590 : (Jvm.Cond.instantiable "CranePlanModel" (16 : Nat)) ∈ bigW := inB 590 (by decide +kernel) rfl
theorem wd_591 : (Jvm.Cond.methodLink "CranePlanLaw" (51 : Nat) ({ cls := "CranePlanModel", name := "<init>", desc := "(II)V" } : Jvm.MethodName)) ∈ bigW := inB 591 (by decide +kernel) rfl
theorem wd_592 : (Jvm.Cond.instanceMethod ({ cls := "CranePlanModel", name := "<init>", desc := "(II)V" } : Jvm.MethodName)) ∈ bigW := inB 592 (by decide +kernel) rfl
theorem wd_593 : (Jvm.Cond.code ({ cls := "CranePlanModel", name := "<init>", desc := "(II)V" } : Jvm.MethodName) prog_7_method_1_code (3 : Nat) (Option.none : Option Jvm.ClassFile.FieldType)) ∈ bigW := inB 593 (by decide +kernel) rfl
theorem wd_594 : (Jvm.Cond.methodLink "CranePlanModel" (1 : Nat) ({ cls := "java/lang/Object", name := "<init>", desc := "()V" } : Jvm.MethodName)) ∈ bigW := inB 594 (by decide +kernel) rfl
theorem wd_595 : (Jvm.Cond.fieldLink "CranePlanModel" (51 : Nat) "CranePlanModel" "thrown" "I") ∈ bigW := inB 595 (by decide +kernel) rfl
theorem wd_596 : (Jvm.Cond.fieldLink "CranePlanModel" (45 : Nat) "CranePlanModel" "cranes" "I") ∈ bigW := inB 596 (by decide +kernel) rfl
theorem wd_597 : (Jvm.Cond.fieldLink "CranePlanModel" (48 : Nat) "CranePlanModel" "gap" "I") ∈ bigW := inB 597 (by decide +kernel) rfl
theorem wd_598 : (Jvm.Cond.fieldLink "CranePlanModel" (62 : Nat) "CranePlanModel" "bays" "I") ∈ bigW := inB 598 (by decide +kernel) rfl
theorem wd_599 : (Jvm.Cond.fieldLink "CranePlanModel" (7 : Nat) "CranePlanModel" "hatch" "[I") ∈ bigW := inB 599 (by decide +kernel) rfl
theorem wd_600 : (Jvm.Cond.fieldLink "CranePlanModel" (13 : Nat) "CranePlanModel" "work" "[I") ∈ bigW := inB 600 (by decide +kernel) rfl
theorem wd_601 : (Jvm.Cond.fieldLink "CranePlanModel" (16 : Nat) "CranePlanModel" "moves" "[I") ∈ bigW := inB 601 (by decide +kernel) rfl
theorem wd_602 : (Jvm.Cond.fieldLink "CranePlanModel" (19 : Nat) "CranePlanModel" "minutes" "[I") ∈ bigW := inB 602 (by decide +kernel) rfl
theorem wd_603 : (Jvm.Cond.fieldLink "CranePlanModel" (22 : Nat) "CranePlanModel" "out" "[Z") ∈ bigW := inB 603 (by decide +kernel) rfl
theorem wd_604 : (Jvm.Cond.fieldLink "CranePlanModel" (26 : Nat) "CranePlanModel" "step" "I") ∈ bigW := inB 604 (by decide +kernel) rfl
theorem wd_605 : (Jvm.Cond.fieldLink "CranePlanModel" (65 : Nat) "CranePlanModel" "planned" "Z") ∈ bigW := inB 605 (by decide +kernel) rfl
theorem wd_606 : (Jvm.Cond.fieldLink "CranePlanModel" (30 : Nat) "CranePlanModel" "tried" "[I") ∈ bigW := inB 606 (by decide +kernel) rfl
theorem wd_607 : (Jvm.Cond.fieldLink "CranePlanModel" (33 : Nat) "CranePlanModel" "best" "[I") ∈ bigW := inB 607 (by decide +kernel) rfl
theorem wd_608 : (Jvm.Cond.fieldLink "CranePlanModel" (36 : Nat) "CranePlanModel" "come" "[I") ∈ bigW := inB 608 (by decide +kernel) rfl
theorem wd_609 : (Jvm.Cond.fieldLink "CranePlanModel" (39 : Nat) "CranePlanModel" "first" "[I") ∈ bigW := inB 609 (by decide +kernel) rfl
theorem wd_610 : (Jvm.Cond.fieldLink "CranePlanModel" (42 : Nat) "CranePlanModel" "last" "[I") ∈ bigW := inB 610 (by decide +kernel) rfl
theorem wd_644 : (Jvm.Cond.methodLink "CranePlanLaw" (56 : Nat) ({ cls := "CranePlanModel", name := "thrown", desc := "()I" } : Jvm.MethodName)) ∈ bigW := inB 644 (by decide +kernel) rfl
theorem wd_645 : (Jvm.Cond.instanceMethod ({ cls := "CranePlanModel", name := "thrown", desc := "()I" } : Jvm.MethodName)) ∈ bigW := inB 645 (by decide +kernel) rfl
theorem wd_646 : (Jvm.Cond.selects "CranePlanModel" ({ cls := "CranePlanModel", name := "thrown", desc := "()I" } : Jvm.MethodName) ({ cls := "CranePlanModel", name := "thrown", desc := "()I" } : Jvm.MethodName)) ∈ bigW := inB 646 (by decide +kernel) rfl
theorem wd_647 : (Jvm.Cond.code ({ cls := "CranePlanModel", name := "thrown", desc := "()I" } : Jvm.MethodName) prog_7_method_2_code (1 : Nat) (Option.some Jvm.ClassFile.FieldType.int)) ∈ bigW := inB 647 (by decide +kernel) rfl
theorem wd_648 : (Jvm.Cond.methodLink "CranePlanLaw" (55 : Nat) ({ cls := "CranePlanModel", name := "bay", desc := "(II)I" } : Jvm.MethodName)) ∈ bigW := inB 648 (by decide +kernel) rfl
theorem wd_649 : (Jvm.Cond.instanceMethod ({ cls := "CranePlanModel", name := "bay", desc := "(II)I" } : Jvm.MethodName)) ∈ bigW := inB 649 (by decide +kernel) rfl
theorem wd_650 : (Jvm.Cond.selects "CranePlanModel" ({ cls := "CranePlanModel", name := "bay", desc := "(II)I" } : Jvm.MethodName) ({ cls := "CranePlanModel", name := "bay", desc := "(II)I" } : Jvm.MethodName)) ∈ bigW := inB 650 (by decide +kernel) rfl
theorem wd_651 : (Jvm.Cond.code ({ cls := "CranePlanModel", name := "bay", desc := "(II)I" } : Jvm.MethodName) prog_7_method_6_code (3 : Nat) (Option.some Jvm.ClassFile.FieldType.int)) ∈ bigW := inB 651 (by decide +kernel) rfl
theorem wd_652 : (Jvm.Cond.methodLink "CranePlanModel" (54 : Nat) ({ cls := "CranePlanModel", name := "in", desc := "(III)Z" } : Jvm.MethodName)) ∈ bigW := inB 652 (by decide +kernel) rfl
theorem wd_653 : (Jvm.Cond.static ({ cls := "CranePlanModel", name := "in", desc := "(III)Z" } : Jvm.MethodName)) ∈ bigW := inB 653 (by decide +kernel) rfl
theorem wd_654 : (Jvm.Cond.code ({ cls := "CranePlanModel", name := "in", desc := "(III)Z" } : Jvm.MethodName) prog_7_method_4_code (3 : Nat) (Option.some Jvm.ClassFile.FieldType.boolean)) ∈ bigW := inB 654 (by decide +kernel) rfl
theorem wd_655 : (Jvm.Cond.methodLink "CranePlanModel" (58 : Nat) ({ cls := "CranePlanModel", name := "refuse", desc := "(I)I" } : Jvm.MethodName)) ∈ bigW := inB 655 (by decide +kernel) rfl
theorem wd_657 : (Jvm.Cond.instanceMethod ({ cls := "CranePlanModel", name := "refuse", desc := "(I)I" } : Jvm.MethodName)) ∈ bigW := inB 657 (by decide +kernel) rfl
theorem wd_658 : (Jvm.Cond.code ({ cls := "CranePlanModel", name := "refuse", desc := "(I)I" } : Jvm.MethodName) prog_7_method_3_code (2 : Nat) (Option.some Jvm.ClassFile.FieldType.int)) ∈ bigW := inB 658 (by decide +kernel) rfl
theorem wd_659 : (Jvm.Cond.methodLink "CranePlanLaw" (63 : Nat) ({ cls := "CranePlanModel", name := "rate", desc := "(III)Z" } : Jvm.MethodName)) ∈ bigW := inB 659 (by decide +kernel) rfl
theorem wd_660 : (Jvm.Cond.instanceMethod ({ cls := "CranePlanModel", name := "rate", desc := "(III)Z" } : Jvm.MethodName)) ∈ bigW := inB 660 (by decide +kernel) rfl
theorem wd_661 : (Jvm.Cond.selects "CranePlanModel" ({ cls := "CranePlanModel", name := "rate", desc := "(III)Z" } : Jvm.MethodName) ({ cls := "CranePlanModel", name := "rate", desc := "(III)Z" } : Jvm.MethodName)) ∈ bigW := inB 661 (by decide +kernel) rfl
theorem wd_662 : (Jvm.Cond.code ({ cls := "CranePlanModel", name := "rate", desc := "(III)Z" } : Jvm.MethodName) prog_7_method_7_code (4 : Nat) (Option.some Jvm.ClassFile.FieldType.boolean)) ∈ bigW := inB 662 (by decide +kernel) rfl
theorem wd_663 : (Jvm.Cond.methodLink "CranePlanModel" (69 : Nat) ({ cls := "CranePlanModel", name := "isCrane", desc := "(I)Z" } : Jvm.MethodName)) ∈ bigW := inB 663 (by decide +kernel) rfl
theorem wd_665 : (Jvm.Cond.instanceMethod ({ cls := "CranePlanModel", name := "isCrane", desc := "(I)Z" } : Jvm.MethodName)) ∈ bigW := inB 665 (by decide +kernel) rfl
theorem wd_666 : (Jvm.Cond.code ({ cls := "CranePlanModel", name := "isCrane", desc := "(I)Z" } : Jvm.MethodName) prog_7_method_5_code (2 : Nat) (Option.some Jvm.ClassFile.FieldType.boolean)) ∈ bigW := inB 666 (by decide +kernel) rfl
theorem wd_667 : (Jvm.Cond.methodLink "CranePlanLaw" (68 : Nat) ({ cls := "CranePlanModel", name := "step", desc := "(I)Z" } : Jvm.MethodName)) ∈ bigW := inB 667 (by decide +kernel) rfl
theorem wd_668 : (Jvm.Cond.instanceMethod ({ cls := "CranePlanModel", name := "step", desc := "(I)Z" } : Jvm.MethodName)) ∈ bigW := inB 668 (by decide +kernel) rfl
theorem wd_669 : (Jvm.Cond.selects "CranePlanModel" ({ cls := "CranePlanModel", name := "step", desc := "(I)Z" } : Jvm.MethodName) ({ cls := "CranePlanModel", name := "step", desc := "(I)Z" } : Jvm.MethodName)) ∈ bigW := inB 669 (by decide +kernel) rfl
theorem wd_670 : (Jvm.Cond.code ({ cls := "CranePlanModel", name := "step", desc := "(I)Z" } : Jvm.MethodName) prog_7_method_8_code (2 : Nat) (Option.some Jvm.ClassFile.FieldType.boolean)) ∈ bigW := inB 670 (by decide +kernel) rfl
theorem wd_671 : (Jvm.Cond.methodLink "CranePlanLaw" (72 : Nat) ({ cls := "CranePlanModel", name := "plan", desc := "()I" } : Jvm.MethodName)) ∈ bigW := inB 671 (by decide +kernel) rfl
theorem wd_672 : (Jvm.Cond.instanceMethod ({ cls := "CranePlanModel", name := "plan", desc := "()I" } : Jvm.MethodName)) ∈ bigW := inB 672 (by decide +kernel) rfl
theorem wd_673 : (Jvm.Cond.selects "CranePlanModel" ({ cls := "CranePlanModel", name := "plan", desc := "()I" } : Jvm.MethodName) ({ cls := "CranePlanModel", name := "plan", desc := "()I" } : Jvm.MethodName)) ∈ bigW := inB 673 (by decide +kernel) rfl
theorem wd_674 : (Jvm.Cond.code ({ cls := "CranePlanModel", name := "plan", desc := "()I" } : Jvm.MethodName) prog_7_method_17_code (1 : Nat) (Option.some Jvm.ClassFile.FieldType.int)) ∈ bigW := inB 674 (by decide +kernel) rfl
theorem wd_675 : (Jvm.Cond.methodLink "CranePlanModel" (101 : Nat) ({ cls := "CranePlanModel", name := "search", desc := "()I" } : Jvm.MethodName)) ∈ bigW := inB 675 (by decide +kernel) rfl
theorem wd_677 : (Jvm.Cond.instanceMethod ({ cls := "CranePlanModel", name := "search", desc := "()I" } : Jvm.MethodName)) ∈ bigW := inB 677 (by decide +kernel) rfl
theorem wd_678 : (Jvm.Cond.code ({ cls := "CranePlanModel", name := "search", desc := "()I" } : Jvm.MethodName) prog_7_method_16_code (7 : Nat) (Option.some Jvm.ClassFile.FieldType.int)) ∈ bigW := inB 678 (by decide +kernel) rfl
theorem wd_679 : (Jvm.Cond.methodLink "CranePlanModel" (73 : Nat) ({ cls := "CranePlanModel", name := "all", desc := "(I)I" } : Jvm.MethodName)) ∈ bigW := inB 679 (by decide +kernel) rfl
theorem wd_681 : (Jvm.Cond.instanceMethod ({ cls := "CranePlanModel", name := "all", desc := "(I)I" } : Jvm.MethodName)) ∈ bigW := inB 681 (by decide +kernel) rfl
theorem wd_682 : (Jvm.Cond.code ({ cls := "CranePlanModel", name := "all", desc := "(I)I" } : Jvm.MethodName) prog_7_method_9_code (2 : Nat) (Option.some Jvm.ClassFile.FieldType.int)) ∈ bigW := inB 682 (by decide +kernel) rfl
theorem wd_683 : (Jvm.Cond.constant "CranePlanModel" (84 : Nat) (1000000000 : Int32)) ∈ bigW := inB 683 (by decide +kernel) rfl
theorem wd_684 : (Jvm.Cond.methodLink "CranePlanModel" (85 : Nat) ({ cls := "CranePlanModel", name := "isAllowed", desc := "()Z" } : Jvm.MethodName)) ∈ bigW := inB 684 (by decide +kernel) rfl
theorem wd_686 : (Jvm.Cond.instanceMethod ({ cls := "CranePlanModel", name := "isAllowed", desc := "()Z" } : Jvm.MethodName)) ∈ bigW := inB 686 (by decide +kernel) rfl
theorem wd_687 : (Jvm.Cond.code ({ cls := "CranePlanModel", name := "isAllowed", desc := "()Z" } : Jvm.MethodName) prog_7_method_15_code (3 : Nat) (Option.some Jvm.ClassFile.FieldType.boolean)) ∈ bigW := inB 687 (by decide +kernel) rfl
theorem wd_688 : (Jvm.Cond.methodLink "CranePlanModel" (80 : Nat) ({ cls := "CranePlanModel", name := "spans", desc := "()Z" } : Jvm.MethodName)) ∈ bigW := inB 688 (by decide +kernel) rfl
theorem wd_690 : (Jvm.Cond.instanceMethod ({ cls := "CranePlanModel", name := "spans", desc := "()Z" } : Jvm.MethodName)) ∈ bigW := inB 690 (by decide +kernel) rfl
theorem wd_691 : (Jvm.Cond.code ({ cls := "CranePlanModel", name := "spans", desc := "()Z" } : Jvm.MethodName) prog_7_method_11_code (5 : Nat) (Option.some Jvm.ClassFile.FieldType.boolean)) ∈ bigW := inB 691 (by decide +kernel) rfl
theorem wd_692 : (Jvm.Cond.methodLink "CranePlanModel" (88 : Nat) ({ cls := "CranePlanModel", name := "times", desc := "()I" } : Jvm.MethodName)) ∈ bigW := inB 692 (by decide +kernel) rfl
theorem wd_694 : (Jvm.Cond.instanceMethod ({ cls := "CranePlanModel", name := "times", desc := "()I" } : Jvm.MethodName)) ∈ bigW := inB 694 (by decide +kernel) rfl
theorem wd_695 : (Jvm.Cond.code ({ cls := "CranePlanModel", name := "times", desc := "()I" } : Jvm.MethodName) prog_7_method_12_code (7 : Nat) (Option.some Jvm.ClassFile.FieldType.int)) ∈ bigW := inB 695 (by decide +kernel) rfl
theorem wd_696 : (Jvm.Cond.methodLink "CranePlanModel" (76 : Nat) ({ cls := "CranePlanModel", name := "takes", desc := "(II)I" } : Jvm.MethodName)) ∈ bigW := inB 696 (by decide +kernel) rfl
theorem wd_698 : (Jvm.Cond.instanceMethod ({ cls := "CranePlanModel", name := "takes", desc := "(II)I" } : Jvm.MethodName)) ∈ bigW := inB 698 (by decide +kernel) rfl
theorem wd_699 : (Jvm.Cond.code ({ cls := "CranePlanModel", name := "takes", desc := "(II)I" } : Jvm.MethodName) prog_7_method_10_code (4 : Nat) (Option.some Jvm.ClassFile.FieldType.int)) ∈ bigW := inB 699 (by decide +kernel) rfl
theorem wd_700 : (Jvm.Cond.methodLink "CranePlanModel" (92 : Nat) ({ cls := "CranePlanModel", name := "steps", desc := "()I" } : Jvm.MethodName)) ∈ bigW := inB 700 (by decide +kernel) rfl
theorem wd_702 : (Jvm.Cond.instanceMethod ({ cls := "CranePlanModel", name := "steps", desc := "()I" } : Jvm.MethodName)) ∈ bigW := inB 702 (by decide +kernel) rfl
theorem wd_703 : (Jvm.Cond.code ({ cls := "CranePlanModel", name := "steps", desc := "()I" } : Jvm.MethodName) prog_7_method_13_code (3 : Nat) (Option.some Jvm.ClassFile.FieldType.int)) ∈ bigW := inB 703 (by decide +kernel) rfl
theorem wd_704 : (Jvm.Cond.methodLink "CranePlanModel" (95 : Nat) ({ cls := "CranePlanModel", name := "goesOn", desc := "()Z" } : Jvm.MethodName)) ∈ bigW := inB 704 (by decide +kernel) rfl
theorem wd_706 : (Jvm.Cond.instanceMethod ({ cls := "CranePlanModel", name := "goesOn", desc := "()Z" } : Jvm.MethodName)) ∈ bigW := inB 706 (by decide +kernel) rfl
theorem wd_707 : (Jvm.Cond.code ({ cls := "CranePlanModel", name := "goesOn", desc := "()Z" } : Jvm.MethodName) prog_7_method_14_code (3 : Nat) (Option.some Jvm.ClassFile.FieldType.boolean)) ∈ bigW := inB 707 (by decide +kernel) rfl
theorem wd_708 : (Jvm.Cond.methodLink "CranePlanModel" (98 : Nat) ({ cls := "CranePlanModel", name := "working", desc := "()I" } : Jvm.MethodName)) ∈ bigW := inB 708 (by decide +kernel) rfl
theorem wd_710 : (Jvm.Cond.instanceMethod ({ cls := "CranePlanModel", name := "working", desc := "()I" } : Jvm.MethodName)) ∈ bigW := inB 710 (by decide +kernel) rfl
theorem wd_711 : (Jvm.Cond.code ({ cls := "CranePlanModel", name := "working", desc := "()I" } : Jvm.MethodName) prog_7_method_22_code (3 : Nat) (Option.some Jvm.ClassFile.FieldType.int)) ∈ bigW := inB 711 (by decide +kernel) rfl
theorem wd_712 : (Jvm.Cond.methodLink "CranePlanLaw" (75 : Nat) ({ cls := "CranePlanModel", name := "works", desc := "(II)I" } : Jvm.MethodName)) ∈ bigW := inB 712 (by decide +kernel) rfl
theorem wd_713 : (Jvm.Cond.instanceMethod ({ cls := "CranePlanModel", name := "works", desc := "(II)I" } : Jvm.MethodName)) ∈ bigW := inB 713 (by decide +kernel) rfl
theorem wd_714 : (Jvm.Cond.selects "CranePlanModel" ({ cls := "CranePlanModel", name := "works", desc := "(II)I" } : Jvm.MethodName) ({ cls := "CranePlanModel", name := "works", desc := "(II)I" } : Jvm.MethodName)) ∈ bigW := inB 714 (by decide +kernel) rfl
theorem wd_715 : (Jvm.Cond.code ({ cls := "CranePlanModel", name := "works", desc := "(II)I" } : Jvm.MethodName) prog_7_method_19_code (5 : Nat) (Option.some Jvm.ClassFile.FieldType.int)) ∈ bigW := inB 715 (by decide +kernel) rfl
theorem wd_716 : (Jvm.Cond.methodLink "CranePlanModel" (104 : Nat) ({ cls := "CranePlanModel", name := "lays", desc := "()I" } : Jvm.MethodName)) ∈ bigW := inB 716 (by decide +kernel) rfl
theorem wd_718 : (Jvm.Cond.instanceMethod ({ cls := "CranePlanModel", name := "lays", desc := "()I" } : Jvm.MethodName)) ∈ bigW := inB 718 (by decide +kernel) rfl
theorem wd_719 : (Jvm.Cond.code ({ cls := "CranePlanModel", name := "lays", desc := "()I" } : Jvm.MethodName) prog_7_method_18_code (2 : Nat) (Option.some Jvm.ClassFile.FieldType.int)) ∈ bigW := inB 719 (by decide +kernel) rfl
theorem wd_720 : (Jvm.Cond.methodLink "CranePlanLaw" (78 : Nat) ({ cls := "CranePlanModel", name := "where", desc := "(II)I" } : Jvm.MethodName)) ∈ bigW := inB 720 (by decide +kernel) rfl
theorem wd_721 : (Jvm.Cond.instanceMethod ({ cls := "CranePlanModel", name := "where", desc := "(II)I" } : Jvm.MethodName)) ∈ bigW := inB 721 (by decide +kernel) rfl
theorem wd_722 : (Jvm.Cond.selects "CranePlanModel" ({ cls := "CranePlanModel", name := "where", desc := "(II)I" } : Jvm.MethodName) ({ cls := "CranePlanModel", name := "where", desc := "(II)I" } : Jvm.MethodName)) ∈ bigW := inB 722 (by decide +kernel) rfl
theorem wd_723 : (Jvm.Cond.code ({ cls := "CranePlanModel", name := "where", desc := "(II)I" } : Jvm.MethodName) prog_7_method_20_code (6 : Nat) (Option.some Jvm.ClassFile.FieldType.int)) ∈ bigW := inB 723 (by decide +kernel) rfl
theorem wd_724 : (Jvm.Cond.methodLink "CranePlanLaw" (81 : Nat) ({ cls := "CranePlanModel", name := "fails", desc := "(II)I" } : Jvm.MethodName)) ∈ bigW := inB 724 (by decide +kernel) rfl
theorem wd_725 : (Jvm.Cond.instanceMethod ({ cls := "CranePlanModel", name := "fails", desc := "(II)I" } : Jvm.MethodName)) ∈ bigW := inB 725 (by decide +kernel) rfl
theorem wd_726 : (Jvm.Cond.selects "CranePlanModel" ({ cls := "CranePlanModel", name := "fails", desc := "(II)I" } : Jvm.MethodName) ({ cls := "CranePlanModel", name := "fails", desc := "(II)I" } : Jvm.MethodName)) ∈ bigW := inB 726 (by decide +kernel) rfl
theorem wd_727 : (Jvm.Cond.code ({ cls := "CranePlanModel", name := "fails", desc := "(II)I" } : Jvm.MethodName) prog_7_method_21_code (11 : Nat) (Option.some Jvm.ClassFile.FieldType.int)) ∈ bigW := inB 727 (by decide +kernel) rfl
theorem wd_728 : (Jvm.Cond.methodLink "CranePlanLaw" (85 : Nat) ({ cls := "CranePlanModel", name := "bound", desc := "()I" } : Jvm.MethodName)) ∈ bigW := inB 728 (by decide +kernel) rfl
theorem wd_729 : (Jvm.Cond.instanceMethod ({ cls := "CranePlanModel", name := "bound", desc := "()I" } : Jvm.MethodName)) ∈ bigW := inB 729 (by decide +kernel) rfl
theorem wd_730 : (Jvm.Cond.selects "CranePlanModel" ({ cls := "CranePlanModel", name := "bound", desc := "()I" } : Jvm.MethodName) ({ cls := "CranePlanModel", name := "bound", desc := "()I" } : Jvm.MethodName)) ∈ bigW := inB 730 (by decide +kernel) rfl
theorem wd_731 : (Jvm.Cond.code ({ cls := "CranePlanModel", name := "bound", desc := "()I" } : Jvm.MethodName) prog_7_method_23_code (9 : Nat) (Option.some Jvm.ClassFile.FieldType.int)) ∈ bigW := inB 731 (by decide +kernel) rfl
theorem wd_732 : (Jvm.Cond.methodLink "CranePlanLaw" (88 : Nat) ({ cls := "CranePlanModel", name := "row", desc := "(II)I" } : Jvm.MethodName)) ∈ bigW := inB 732 (by decide +kernel) rfl
theorem wd_733 : (Jvm.Cond.instanceMethod ({ cls := "CranePlanModel", name := "row", desc := "(II)I" } : Jvm.MethodName)) ∈ bigW := inB 733 (by decide +kernel) rfl
theorem wd_734 : (Jvm.Cond.selects "CranePlanModel" ({ cls := "CranePlanModel", name := "row", desc := "(II)I" } : Jvm.MethodName) ({ cls := "CranePlanModel", name := "row", desc := "(II)I" } : Jvm.MethodName)) ∈ bigW := inB 734 (by decide +kernel) rfl
theorem wd_735 : (Jvm.Cond.code ({ cls := "CranePlanModel", name := "row", desc := "(II)I" } : Jvm.MethodName) prog_7_method_24_code (8 : Nat) (Option.some Jvm.ClassFile.FieldType.int)) ∈ bigW := inB 735 (by decide +kernel) rfl
theorem wd_736 : (Jvm.Cond.methodLink "CranePlanModel" (107 : Nat) ({ cls := "CranePlanModel", name := "ahead", desc := "(I)I" } : Jvm.MethodName)) ∈ bigW := inB 736 (by decide +kernel) rfl
theorem wd_738 : (Jvm.Cond.instanceMethod ({ cls := "CranePlanModel", name := "ahead", desc := "(I)I" } : Jvm.MethodName)) ∈ bigW := inB 738 (by decide +kernel) rfl
theorem wd_739 : (Jvm.Cond.code ({ cls := "CranePlanModel", name := "ahead", desc := "(I)I" } : Jvm.MethodName) prog_7_method_25_code (6 : Nat) (Option.some Jvm.ClassFile.FieldType.int)) ∈ bigW := inB 739 (by decide +kernel) rfl
theorem wd_740 : (Jvm.Cond.methodLink "CranePlanLaw" (91 : Nat) ({ cls := "CranePlanModel", name := "look", desc := "(II)I" } : Jvm.MethodName)) ∈ bigW := inB 740 (by decide +kernel) rfl
theorem wd_741 : (Jvm.Cond.instanceMethod ({ cls := "CranePlanModel", name := "look", desc := "(II)I" } : Jvm.MethodName)) ∈ bigW := inB 741 (by decide +kernel) rfl
theorem wd_742 : (Jvm.Cond.selects "CranePlanModel" ({ cls := "CranePlanModel", name := "look", desc := "(II)I" } : Jvm.MethodName) ({ cls := "CranePlanModel", name := "look", desc := "(II)I" } : Jvm.MethodName)) ∈ bigW := inB 742 (by decide +kernel) rfl
theorem wd_743 : (Jvm.Cond.code ({ cls := "CranePlanModel", name := "look", desc := "(II)I" } : Jvm.MethodName) prog_7_method_26_code (3 : Nat) (Option.some Jvm.ClassFile.FieldType.int)) ∈ bigW := inB 743 (by decide +kernel) rfl
theorem wd_744 : (Jvm.Cond.methodLink "CranePlanLaw" (96 : Nat) ({ cls := "CranePlanModel", name := "count", desc := "(I)I" } : Jvm.MethodName)) ∈ bigW := inB 744 (by decide +kernel) rfl
theorem wd_745 : (Jvm.Cond.instanceMethod ({ cls := "CranePlanModel", name := "count", desc := "(I)I" } : Jvm.MethodName)) ∈ bigW := inB 745 (by decide +kernel) rfl
theorem wd_746 : (Jvm.Cond.selects "CranePlanModel" ({ cls := "CranePlanModel", name := "count", desc := "(I)I" } : Jvm.MethodName) ({ cls := "CranePlanModel", name := "count", desc := "(I)I" } : Jvm.MethodName)) ∈ bigW := inB 746 (by decide +kernel) rfl
theorem wd_747 : (Jvm.Cond.code ({ cls := "CranePlanModel", name := "count", desc := "(I)I" } : Jvm.MethodName) prog_7_method_27_code (5 : Nat) (Option.some Jvm.ClassFile.FieldType.int)) ∈ bigW := inB 747 (by decide +kernel) rfl
theorem wd_748 : (Jvm.Cond.arrayClass Jvm.ClassFile.FieldType.long) ∈ bigW := inB 748 (by decide +kernel) rfl
theorem wd_0 : (Jvm.Cond.selects "CranePlan$Search" ({ cls := "CranePlan$Search", name := "makeBest", desc := "()Z" } : Jvm.MethodName) ({ cls := "CranePlan$Search", name := "makeBest", desc := "()Z" } : Jvm.MethodName)) ∈ bigW := inB 0 (by decide +kernel) rfl
theorem wd_1 : (Jvm.Cond.selects "CranePlan$Search" ({ cls := "CranePlan$Search", name := "gather", desc := "()V" } : Jvm.MethodName) ({ cls := "CranePlan$Search", name := "gather", desc := "()V" } : Jvm.MethodName)) ∈ bigW := inB 1 (by decide +kernel) rfl
theorem wd_2 : (Jvm.Cond.selects "CranePlan$Bays" ({ cls := "CranePlan$Bays", name := "movesOf", desc := "(I)I" } : Jvm.MethodName) ({ cls := "CranePlan$Bays", name := "movesOf", desc := "(I)I" } : Jvm.MethodName)) ∈ bigW := inB 2 (by decide +kernel) rfl
theorem wd_3 : (Jvm.Cond.selects "CranePlan$Bays" ({ cls := "CranePlan$Bays", name := "has", desc := "(I)Z" } : Jvm.MethodName) ({ cls := "CranePlan$Bays", name := "has", desc := "(I)Z" } : Jvm.MethodName)) ∈ bigW := inB 3 (by decide +kernel) rfl
theorem wd_4 : (Jvm.Cond.selects "CranePlan$Cranes" ({ cls := "CranePlan$Cranes", name := "isOut", desc := "(I)Z" } : Jvm.MethodName) ({ cls := "CranePlan$Cranes", name := "isOut", desc := "(I)Z" } : Jvm.MethodName)) ∈ bigW := inB 4 (by decide +kernel) rfl
theorem wd_5 : (Jvm.Cond.selects "CranePlan$Cranes" ({ cls := "CranePlan$Cranes", name := "has", desc := "(I)Z" } : Jvm.MethodName) ({ cls := "CranePlan$Cranes", name := "has", desc := "(I)Z" } : Jvm.MethodName)) ∈ bigW := inB 5 (by decide +kernel) rfl
theorem wd_6 : (Jvm.Cond.selects "CranePlan$Search" ({ cls := "CranePlan$Search", name := "share", desc := "([I)V" } : Jvm.MethodName) ({ cls := "CranePlan$Search", name := "share", desc := "([I)V" } : Jvm.MethodName)) ∈ bigW := inB 6 (by decide +kernel) rfl
theorem wd_7 : (Jvm.Cond.selects "CranePlan$Timetable" ({ cls := "CranePlan$Timetable", name := "clear", desc := "()V" } : Jvm.MethodName) ({ cls := "CranePlan$Timetable", name := "clear", desc := "()V" } : Jvm.MethodName)) ∈ bigW := inB 7 (by decide +kernel) rfl
theorem wd_8 : (Jvm.Cond.selects "CranePlan$Timetable" ({ cls := "CranePlan$Timetable", name := "give", desc := "(II)V" } : Jvm.MethodName) ({ cls := "CranePlan$Timetable", name := "give", desc := "(II)V" } : Jvm.MethodName)) ∈ bigW := inB 8 (by decide +kernel) rfl
theorem wd_9 : (Jvm.Cond.selects "CranePlan$Timetable" ({ cls := "CranePlan$Timetable", name := "keepsApart", desc := "()Z" } : Jvm.MethodName) ({ cls := "CranePlan$Timetable", name := "keepsApart", desc := "()Z" } : Jvm.MethodName)) ∈ bigW := inB 9 (by decide +kernel) rfl
theorem wd_10 : (Jvm.Cond.selects "CranePlan$Timetable" ({ cls := "CranePlan$Timetable", name := "tooNear", desc := "(II)Z" } : Jvm.MethodName) ({ cls := "CranePlan$Timetable", name := "tooNear", desc := "(II)Z" } : Jvm.MethodName)) ∈ bigW := inB 10 (by decide +kernel) rfl
theorem wd_11 : (Jvm.Cond.selects "CranePlan$Timetable" ({ cls := "CranePlan$Timetable", name := "setTimes", desc := "()V" } : Jvm.MethodName) ({ cls := "CranePlan$Timetable", name := "setTimes", desc := "()V" } : Jvm.MethodName)) ∈ bigW := inB 11 (by decide +kernel) rfl
theorem wd_12 : (Jvm.Cond.selects "CranePlan$Timetable" ({ cls := "CranePlan$Timetable", name := "setTimesOf", desc := "(II)V" } : Jvm.MethodName) ({ cls := "CranePlan$Timetable", name := "setTimesOf", desc := "(II)V" } : Jvm.MethodName)) ∈ bigW := inB 12 (by decide +kernel) rfl
theorem wd_13 : (Jvm.Cond.selects "CranePlan$Cranes" ({ cls := "CranePlan$Cranes", name := "timeFor", desc := "(II)I" } : Jvm.MethodName) ({ cls := "CranePlan$Cranes", name := "timeFor", desc := "(II)I" } : Jvm.MethodName)) ∈ bigW := inB 13 (by decide +kernel) rfl
theorem wd_14 : (Jvm.Cond.selects "CranePlan$Timetable" ({ cls := "CranePlan$Timetable", name := "whenCame", desc := "(II)I" } : Jvm.MethodName) ({ cls := "CranePlan$Timetable", name := "whenCame", desc := "(II)I" } : Jvm.MethodName)) ∈ bigW := inB 14 (by decide +kernel) rfl
theorem wd_15 : (Jvm.Cond.selects "CranePlan$Timetable" ({ cls := "CranePlan$Timetable", name := "isBetterThan", desc := "(II)Z" } : Jvm.MethodName) ({ cls := "CranePlan$Timetable", name := "isBetterThan", desc := "(II)Z" } : Jvm.MethodName)) ∈ bigW := inB 15 (by decide +kernel) rfl
theorem wd_16 : (Jvm.Cond.selects "CranePlan$Search" ({ cls := "CranePlan$Search", name := "nextChoice", desc := "()Z" } : Jvm.MethodName) ({ cls := "CranePlan$Search", name := "nextChoice", desc := "()Z" } : Jvm.MethodName)) ∈ bigW := inB 16 (by decide +kernel) rfl
theorem wd_17 : (Jvm.Cond.selects "CranePlan$Timetable" ({ cls := "CranePlan$Timetable", name := "sortRows", desc := "()V" } : Jvm.MethodName) ({ cls := "CranePlan$Timetable", name := "sortRows", desc := "()V" } : Jvm.MethodName)) ∈ bigW := inB 17 (by decide +kernel) rfl
theorem wd_18 : (Jvm.Cond.selects "CranePlan$Timetable" ({ cls := "CranePlan$Timetable", name := "beginsAhead", desc := "(II)Z" } : Jvm.MethodName) ({ cls := "CranePlan$Timetable", name := "beginsAhead", desc := "(II)Z" } : Jvm.MethodName)) ∈ bigW := inB 18 (by decide +kernel) rfl
theorem wd_19 : (Jvm.Cond.selects "CranePlan$Cranes" ({ cls := "CranePlan$Cranes", name := "able", desc := "()I" } : Jvm.MethodName) ({ cls := "CranePlan$Cranes", name := "able", desc := "()I" } : Jvm.MethodName)) ∈ bigW := inB 19 (by decide +kernel) rfl
theorem wd_20 : (Jvm.Cond.selects "CranePlan$Bays" ({ cls := "CranePlan$Bays", name := "allMoves", desc := "()I" } : Jvm.MethodName) ({ cls := "CranePlan$Bays", name := "allMoves", desc := "()I" } : Jvm.MethodName)) ∈ bigW := inB 20 (by decide +kernel) rfl
theorem wd_21 : (Jvm.Cond.selects "CranePlan$Cranes" ({ cls := "CranePlan$Cranes", name := "timeTogether", desc := "(I)I" } : Jvm.MethodName) ({ cls := "CranePlan$Cranes", name := "timeTogether", desc := "(I)I" } : Jvm.MethodName)) ∈ bigW := inB 21 (by decide +kernel) rfl
theorem wd_22 : (Jvm.Cond.selects "CranePlan$Cranes" ({ cls := "CranePlan$Cranes", name := "leastTime", desc := "(I)I" } : Jvm.MethodName) ({ cls := "CranePlan$Cranes", name := "leastTime", desc := "(I)I" } : Jvm.MethodName)) ∈ bigW := inB 22 (by decide +kernel) rfl
theorem wd_24 : (Jvm.Cond.selects "CranePlan$Bays" ({ cls := "CranePlan$Bays", name := "isFull", desc := "()Z" } : Jvm.MethodName) ({ cls := "CranePlan$Bays", name := "isFull", desc := "()Z" } : Jvm.MethodName)) ∈ bigW := inB 24 (by decide +kernel) rfl
theorem wd_25 : (Jvm.Cond.selects "CranePlan$Bays" ({ cls := "CranePlan$Bays", name := "add", desc := "(II)I" } : Jvm.MethodName) ({ cls := "CranePlan$Bays", name := "add", desc := "(II)I" } : Jvm.MethodName)) ∈ bigW := inB 25 (by decide +kernel) rfl
theorem wd_26 : (Jvm.Cond.selects "CranePlan$Cranes" ({ cls := "CranePlan$Cranes", name := "setRate", desc := "(III)V" } : Jvm.MethodName) ({ cls := "CranePlan$Cranes", name := "setRate", desc := "(III)V" } : Jvm.MethodName)) ∈ bigW := inB 26 (by decide +kernel) rfl
theorem wd_27 : (Jvm.Cond.selects "CranePlan$Timetable" ({ cls := "CranePlan$Timetable", name := "bayWorkedAt", desc := "(II)I" } : Jvm.MethodName) ({ cls := "CranePlan$Timetable", name := "bayWorkedAt", desc := "(II)I" } : Jvm.MethodName)) ∈ bigW := inB 27 (by decide +kernel) rfl
theorem wd_28 : (Jvm.Cond.selects "CranePlan$Timetable" ({ cls := "CranePlan$Timetable", name := "bayCameTo", desc := "(II)I" } : Jvm.MethodName) ({ cls := "CranePlan$Timetable", name := "bayCameTo", desc := "(II)I" } : Jvm.MethodName)) ∈ bigW := inB 28 (by decide +kernel) rfl
theorem wd_29 : (Jvm.Cond.selects "CranePlan$Timetable" ({ cls := "CranePlan$Timetable", name := "doneBy", desc := "(II)I" } : Jvm.MethodName) ({ cls := "CranePlan$Timetable", name := "doneBy", desc := "(II)I" } : Jvm.MethodName)) ∈ bigW := inB 29 (by decide +kernel) rfl
theorem wd_30 : (Jvm.Cond.selects "CranePlan$Cranes" ({ cls := "CranePlan$Cranes", name := "movesIn", desc := "(II)I" } : Jvm.MethodName) ({ cls := "CranePlan$Cranes", name := "movesIn", desc := "(II)I" } : Jvm.MethodName)) ∈ bigW := inB 30 (by decide +kernel) rfl
theorem wd_31 : (Jvm.Cond.selects "CranePlan$Bays" ({ cls := "CranePlan$Bays", name := "takeOff", desc := "(II)V" } : Jvm.MethodName) ({ cls := "CranePlan$Bays", name := "takeOff", desc := "(II)V" } : Jvm.MethodName)) ∈ bigW := inB 31 (by decide +kernel) rfl
theorem wd_32 : (Jvm.Cond.selects "CranePlan$Cranes" ({ cls := "CranePlan$Cranes", name := "putOut", desc := "(I)V" } : Jvm.MethodName) ({ cls := "CranePlan$Cranes", name := "putOut", desc := "(I)V" } : Jvm.MethodName)) ∈ bigW := inB 32 (by decide +kernel) rfl
theorem wd_33 : (Jvm.Cond.selects "CranePlan$Timetable" ({ cls := "CranePlan$Timetable", name := "ofRow", desc := "(II)I" } : Jvm.MethodName) ({ cls := "CranePlan$Timetable", name := "ofRow", desc := "(II)I" } : Jvm.MethodName)) ∈ bigW := inB 33 (by decide +kernel) rfl
theorem wd_34 : (Jvm.Cond.selects "CranePlanModel" ({ cls := "CranePlanModel", name := "refuse", desc := "(I)I" } : Jvm.MethodName) ({ cls := "CranePlanModel", name := "refuse", desc := "(I)I" } : Jvm.MethodName)) ∈ bigW := inB 34 (by decide +kernel) rfl
theorem wd_35 : (Jvm.Cond.selects "CranePlanModel" ({ cls := "CranePlanModel", name := "isCrane", desc := "(I)Z" } : Jvm.MethodName) ({ cls := "CranePlanModel", name := "isCrane", desc := "(I)Z" } : Jvm.MethodName)) ∈ bigW := inB 35 (by decide +kernel) rfl
theorem wd_36 : (Jvm.Cond.selects "CranePlanModel" ({ cls := "CranePlanModel", name := "search", desc := "()I" } : Jvm.MethodName) ({ cls := "CranePlanModel", name := "search", desc := "()I" } : Jvm.MethodName)) ∈ bigW := inB 36 (by decide +kernel) rfl
theorem wd_37 : (Jvm.Cond.selects "CranePlanModel" ({ cls := "CranePlanModel", name := "all", desc := "(I)I" } : Jvm.MethodName) ({ cls := "CranePlanModel", name := "all", desc := "(I)I" } : Jvm.MethodName)) ∈ bigW := inB 37 (by decide +kernel) rfl
theorem wd_38 : (Jvm.Cond.selects "CranePlanModel" ({ cls := "CranePlanModel", name := "isAllowed", desc := "()Z" } : Jvm.MethodName) ({ cls := "CranePlanModel", name := "isAllowed", desc := "()Z" } : Jvm.MethodName)) ∈ bigW := inB 38 (by decide +kernel) rfl
theorem wd_39 : (Jvm.Cond.selects "CranePlanModel" ({ cls := "CranePlanModel", name := "spans", desc := "()Z" } : Jvm.MethodName) ({ cls := "CranePlanModel", name := "spans", desc := "()Z" } : Jvm.MethodName)) ∈ bigW := inB 39 (by decide +kernel) rfl
theorem wd_40 : (Jvm.Cond.selects "CranePlanModel" ({ cls := "CranePlanModel", name := "times", desc := "()I" } : Jvm.MethodName) ({ cls := "CranePlanModel", name := "times", desc := "()I" } : Jvm.MethodName)) ∈ bigW := inB 40 (by decide +kernel) rfl
theorem wd_41 : (Jvm.Cond.selects "CranePlanModel" ({ cls := "CranePlanModel", name := "takes", desc := "(II)I" } : Jvm.MethodName) ({ cls := "CranePlanModel", name := "takes", desc := "(II)I" } : Jvm.MethodName)) ∈ bigW := inB 41 (by decide +kernel) rfl
theorem wd_42 : (Jvm.Cond.selects "CranePlanModel" ({ cls := "CranePlanModel", name := "steps", desc := "()I" } : Jvm.MethodName) ({ cls := "CranePlanModel", name := "steps", desc := "()I" } : Jvm.MethodName)) ∈ bigW := inB 42 (by decide +kernel) rfl
theorem wd_43 : (Jvm.Cond.selects "CranePlanModel" ({ cls := "CranePlanModel", name := "goesOn", desc := "()Z" } : Jvm.MethodName) ({ cls := "CranePlanModel", name := "goesOn", desc := "()Z" } : Jvm.MethodName)) ∈ bigW := inB 43 (by decide +kernel) rfl
theorem wd_44 : (Jvm.Cond.selects "CranePlanModel" ({ cls := "CranePlanModel", name := "working", desc := "()I" } : Jvm.MethodName) ({ cls := "CranePlanModel", name := "working", desc := "()I" } : Jvm.MethodName)) ∈ bigW := inB 44 (by decide +kernel) rfl
theorem wd_45 : (Jvm.Cond.selects "CranePlanModel" ({ cls := "CranePlanModel", name := "lays", desc := "()I" } : Jvm.MethodName) ({ cls := "CranePlanModel", name := "lays", desc := "()I" } : Jvm.MethodName)) ∈ bigW := inB 45 (by decide +kernel) rfl
theorem wd_46 : (Jvm.Cond.selects "CranePlanModel" ({ cls := "CranePlanModel", name := "ahead", desc := "(I)I" } : Jvm.MethodName) ({ cls := "CranePlanModel", name := "ahead", desc := "(I)I" } : Jvm.MethodName)) ∈ bigW := inB 46 (by decide +kernel) rfl
