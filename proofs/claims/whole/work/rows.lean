section
/-! ===== BEGIN words of one list among another's, by their places ===== -/
theorem goodIn_r {big : List Cond} (ws : List Cond) (ps : List Nat) (hp : ws = ps.filterMap (fun i => big[i]?)) (h : ws.all goodWord = true) : GoodIn big ws := by
  intro w hw
  have h1 := List.all_eq_true.mp h w hw
  rw [hp] at hw
  obtain ⟨i, -, hi⟩ := List.mem_filterMap.mp hw
  have hm : w ∈ big := by first | exact List.mem_of_getElem? hi | exact List.getElem?_mem hi
  exact ⟨hm, good_of_word h1⟩
theorem goodIn_app {big a b : List Cond} (ha : GoodIn big a) (hb : GoodIn big b) : GoodIn big (a ++ b) := fun w h => (List.mem_append.mp h).elim (ha w) (hb w)
theorem goodIn_ca {big a b : List Cond} {c : Cond} (ha : GoodIn big (c :: a)) (hb : GoodIn big b) : GoodIn big (c :: (a ++ b)) := fun w h => (List.mem_cons.mp h).elim (fun e => ha w (List.mem_cons.mpr (Or.inl e))) (fun h => (List.mem_append.mp h).elim (fun h => ha w (List.mem_cons.mpr (Or.inr h))) (hb w))
theorem goodIn_sub {big ws : List Cond} (hm : ∀ w ∈ ws, w ∈ big) (h : ws.all goodWord = true) : GoodIn big ws := fun w hw => ⟨hm w hw, good_of_word (List.all_eq_true.mp h w hw)⟩
/-! ===== END ===== -/

/-! ===== BEGIN printed: names, fields, word lists, decode rows ===== -/
def RX0 : String := "EvenLoads$Cluster"
def TX0 : u_T := fun k => match k with
  | 0 => ("EvenLoads$Cluster", "sizes", "[I", true)
  | 1 => ("EvenLoads$Cluster", "prices", "[I", true)
  | 2 => ("EvenLoads$Cluster", "places", "[I", true)
  | 3 => ("EvenLoads$Cluster", "moved", "[I", true)
  | 4 => ("EvenLoads$Cluster", "loads", "[I", true)
  | 5 => ("EvenLoads$Cluster", "opened", "[I", true)
  | 6 => ("EvenLoads$Cluster", "servers", "I", false)
  | 7 => ("EvenLoads$Cluster", "openServers", "I", false)
  | 8 => ("EvenLoads$Cluster", "jobs", "I", false)
  | 9 => ("EvenLoads$Cluster", "sum", "I", false)
  | 10 => ("EvenLoads$Cluster", "budget", "I", false)
  | 11 => ("EvenLoads$Cluster", "factor", "I", false)
  | _ => ("EvenLoads$Cluster", "moves", "I", false)
def tyX0 : Nat → FieldType := fun k => match k with
  | 0 => .array .int
  | 1 => .array .int
  | 2 => .array .int
  | 3 => .array .int
  | 4 => .array .int
  | 5 => .array .int
  | 6 => .int
  | 7 => .int
  | 8 => .int
  | 9 => .int
  | 10 => .int
  | 11 => .int
  | _ => .int
abbrev wsX00 : List Cond := u_ws RX0 TX0 13
theorem nmX0 : ∀ a, a < 13 → ∀ b, b < 13 → a ≠ b → (TX0 a).2.1 ≠ (TX0 b).2.1 := by decide +kernel
theorem tyX0_ok : ∀ k, k < 13 → parseFieldDescriptor (TX0 k).2.2.1 = some (tyX0 k) := by decide +kernel
abbrev cX0_init : ByteArray := prog_2_method_1_code
def yX0_init : MethodName := ⟨RX0, "<init>", "()V"⟩
abbrev cX0_copyFrom : ByteArray := prog_2_method_2_code
def yX0_copyFrom : MethodName := ⟨RX0, "copyFrom", "(LEvenLoads$Cluster;)V"⟩
abbrev cX0_newServer : ByteArray := prog_2_method_3_code
def yX0_newServer : MethodName := ⟨RX0, "newServer", "()I"⟩
abbrev cX0_newJob : ByteArray := prog_2_method_4_code
def yX0_newJob : MethodName := ⟨RX0, "newJob", "(III)I"⟩
abbrev cX0_endJob : ByteArray := prog_2_method_5_code
def yX0_endJob : MethodName := ⟨RX0, "endJob", "(I)I"⟩
abbrev cX0_changeBudget : ByteArray := prog_2_method_6_code
def yX0_changeBudget : MethodName := ⟨RX0, "changeBudget", "(I)I"⟩
abbrev cX0_changeFactor : ByteArray := prog_2_method_7_code
def yX0_changeFactor : MethodName := ⟨RX0, "changeFactor", "(I)I"⟩
abbrev cX0_moveJob : ByteArray := prog_2_method_8_code
def yX0_moveJob : MethodName := ⟨RX0, "moveJob", "(II)I"⟩
abbrev cX0_exchangeJobs : ByteArray := prog_2_method_9_code
def yX0_exchangeJobs : MethodName := ⟨RX0, "exchangeJobs", "(II)I"⟩
abbrev cX0_moveRing : ByteArray := prog_2_method_10_code
def yX0_moveRing : MethodName := ⟨RX0, "moveRing", "(III)I"⟩
abbrev cX0_closeServer : ByteArray := prog_2_method_11_code
def yX0_closeServer : MethodName := ⟨RX0, "closeServer", "(I)I"⟩
abbrev cX0_openServer : ByteArray := prog_2_method_12_code
def yX0_openServer : MethodName := ⟨RX0, "openServer", "(I)I"⟩
abbrev cX0_closeAndEmpty : ByteArray := prog_2_method_13_code
def yX0_closeAndEmpty : MethodName := ⟨RX0, "closeAndEmpty", "(I)I"⟩
abbrev cX0_takeTo : ByteArray := prog_2_method_14_code
def yX0_takeTo : MethodName := ⟨RX0, "takeTo", "(II)V"⟩
abbrev cX0_shiftLoad : ByteArray := prog_2_method_15_code
def yX0_shiftLoad : MethodName := ⟨RX0, "shiftLoad", "(III)V"⟩
abbrev cX0_hasServer : ByteArray := prog_2_method_16_code
def yX0_hasServer : MethodName := ⟨RX0, "hasServer", "(I)Z"⟩
abbrev cX0_hasJob : ByteArray := prog_2_method_17_code
def yX0_hasJob : MethodName := ⟨RX0, "hasJob", "(I)Z"⟩
abbrev cX0_isOpen : ByteArray := prog_2_method_18_code
def yX0_isOpen : MethodName := ⟨RX0, "isOpen", "(I)Z"⟩
abbrev cX0_isFinished : ByteArray := prog_2_method_19_code
def yX0_isFinished : MethodName := ⟨RX0, "isFinished", "(I)Z"⟩
abbrev cX0_areApart : ByteArray := prog_2_method_20_code
def yX0_areApart : MethodName := ⟨RX0, "areApart", "(II)Z"⟩
abbrev cX0_finishedJobs : ByteArray := prog_2_method_21_code
def yX0_finishedJobs : MethodName := ⟨RX0, "finishedJobs", "()I"⟩
abbrev cX0_jobsOn : ByteArray := prog_2_method_22_code
def yX0_jobsOn : MethodName := ⟨RX0, "jobsOn", "(I)I"⟩
abbrev cX0_priceOfAll : ByteArray := prog_2_method_23_code
def yX0_priceOfAll : MethodName := ⟨RX0, "priceOfAll", "(I)I"⟩
abbrev cX0_leavingJob : ByteArray := prog_2_method_24_code
def yX0_leavingJob : MethodName := ⟨RX0, "leavingJob", "(II)I"⟩
abbrev cX0_jobsLeavingBefore : ByteArray := prog_2_method_25_code
def yX0_jobsLeavingBefore : MethodName := ⟨RX0, "jobsLeavingBefore", "(I)I"⟩
abbrev cX0_leavesBefore : ByteArray := prog_2_method_26_code
def yX0_leavesBefore : MethodName := ⟨RX0, "leavesBefore", "(II)Z"⟩
abbrev cX0_greatestLoad : ByteArray := prog_2_method_27_code
def yX0_greatestLoad : MethodName := ⟨RX0, "greatestLoad", "()I"⟩
abbrev cX0_fullestServer : ByteArray := prog_2_method_28_code
def yX0_fullestServer : MethodName := ⟨RX0, "fullestServer", "()I"⟩
abbrev cX0_emptiestServer : ByteArray := prog_2_method_29_code
def yX0_emptiestServer : MethodName := ⟨RX0, "emptiestServer", "()I"⟩
abbrev cX0_bound : ByteArray := prog_2_method_30_code
def yX0_bound : MethodName := ⟨RX0, "bound", "()I"⟩
abbrev cX0_target : ByteArray := prog_2_method_31_code
def yX0_target : MethodName := ⟨RX0, "target", "()I"⟩
abbrev cX0_isEven : ByteArray := prog_2_method_32_code
def yX0_isEven : MethodName := ⟨RX0, "isEven", "()Z"⟩
abbrev cX0_serversAbove : ByteArray := prog_2_method_33_code
def yX0_serversAbove : MethodName := ⟨RX0, "serversAbove", "(I)I"⟩
def RX1 : String := "EvenLoads$History"
def TX1 : u_T := fun k => match k with
  | 0 => ("EvenLoads$History", "states", "[LEvenLoads$Cluster;", true)
  | 1 => ("EvenLoads$History", "depth", "I", false)
  | _ => ("EvenLoads$History", "free", "I", false)
def tyX1 : Nat → FieldType := fun k => match k with
  | 0 => .array (.object "EvenLoads$Cluster")
  | 1 => .int
  | _ => .int
abbrev wsX10 : List Cond := u_ws RX1 TX1 3
theorem nmX1 : ∀ a, a < 3 → ∀ b, b < 3 → a ≠ b → (TX1 a).2.1 ≠ (TX1 b).2.1 := by decide +kernel
theorem tyX1_ok : ∀ k, k < 3 → parseFieldDescriptor (TX1 k).2.2.1 = some (tyX1 k) := by decide +kernel
abbrev cX1_init : ByteArray := prog_3_method_1_code
def yX1_init : MethodName := ⟨RX1, "<init>", "()V"⟩
abbrev cX1_keep : ByteArray := prog_3_method_2_code
def yX1_keep : MethodName := ⟨RX1, "keep", "(LEvenLoads$Cluster;)V"⟩
abbrev cX1_takeLatest : ByteArray := prog_3_method_3_code
def yX1_takeLatest : MethodName := ⟨RX1, "takeLatest", "(LEvenLoads$Cluster;)Z"⟩
abbrev cX1_stateAt : ByteArray := prog_3_method_4_code
def yX1_stateAt : MethodName := ⟨RX1, "stateAt", "(I)LEvenLoads$Cluster;"⟩
def RX2 : String := "EvenLoads$Program"
def TX2 : u_T := fun k => match k with
  | 0 => ("EvenLoads$Program", "signs", "[I", true)
  | 1 => ("EvenLoads$Program", "length", "I", false)
  | 2 => ("EvenLoads$Program", "letter", "I", false)
  | 3 => ("EvenLoads$Program", "letterPlace", "I", false)
  | 4 => ("EvenLoads$Program", "isOrderRead", "Z", false)
  | 5 => ("EvenLoads$Program", "numbers", "[I", true)
  | 6 => ("EvenLoads$Program", "begun", "I", false)
  | _ => ("EvenLoads$Program", "digits", "I", false)
def tyX2 : Nat → FieldType := fun k => match k with
  | 0 => .array .int
  | 1 => .int
  | 2 => .int
  | 3 => .int
  | 4 => .boolean
  | 5 => .array .int
  | 6 => .int
  | _ => .int
abbrev wsX20 : List Cond := u_ws RX2 TX2 8
theorem nmX2 : ∀ a, a < 8 → ∀ b, b < 8 → a ≠ b → (TX2 a).2.1 ≠ (TX2 b).2.1 := by decide +kernel
theorem tyX2_ok : ∀ k, k < 8 → parseFieldDescriptor (TX2 k).2.2.1 = some (tyX2 k) := by decide +kernel
abbrev cX2_init : ByteArray := prog_4_method_1_code
def yX2_init : MethodName := ⟨RX2, "<init>", "()V"⟩
abbrev cX2_addSign : ByteArray := prog_4_method_2_code
def yX2_addSign : MethodName := ⟨RX2, "addSign", "(I)I"⟩
abbrev cX2_startReading : ByteArray := prog_4_method_3_code
def yX2_startReading : MethodName := ⟨RX2, "startReading", "()V"⟩
abbrev cX2_isInOrder : ByteArray := prog_4_method_4_code
def yX2_isInOrder : MethodName := ⟨RX2, "isInOrder", "()Z"⟩
abbrev cX2_read : ByteArray := prog_4_method_5_code
def yX2_read : MethodName := ⟨RX2, "read", "(I)Z"⟩
abbrev cX2_readLetter : ByteArray := prog_4_method_6_code
def yX2_readLetter : MethodName := ⟨RX2, "readLetter", "(II)Z"⟩
abbrev cX2_readDigit : ByteArray := prog_4_method_7_code
def yX2_readDigit : MethodName := ⟨RX2, "readDigit", "(I)Z"⟩
abbrev cX2_beginNumber : ByteArray := prog_4_method_8_code
def yX2_beginNumber : MethodName := ⟨RX2, "beginNumber", "(I)Z"⟩
abbrev cX2_numbersOf : ByteArray := prog_4_method_9_code
def yX2_numbersOf : MethodName := ⟨RX2, "numbersOf", "(I)I"⟩
def RX3 : String := "EvenLoads$Step"
def TX3 : u_T := fun k => match k with
  | 0 => ("EvenLoads$Step", "job", "I", false)
  | 1 => ("EvenLoads$Step", "goal", "I", false)
  | 2 => ("EvenLoads$Step", "other", "I", false)
  | 3 => ("EvenLoads$Step", "price", "I", false)
  | _ => ("EvenLoads$Step", "greater", "I", false)
def tyX3 : Nat → FieldType := fun k => match k with
  | 0 => .int
  | 1 => .int
  | 2 => .int
  | 3 => .int
  | _ => .int
abbrev wsX30 : List Cond := u_ws RX3 TX3 5
theorem nmX3 : ∀ a, a < 5 → ∀ b, b < 5 → a ≠ b → (TX3 a).2.1 ≠ (TX3 b).2.1 := by decide +kernel
theorem tyX3_ok : ∀ k, k < 5 → parseFieldDescriptor (TX3 k).2.2.1 = some (tyX3 k) := by decide +kernel
abbrev cX3_init : ByteArray := prog_5_method_1_code
def yX3_init : MethodName := ⟨RX3, "<init>", "()V"⟩
abbrev cX3_walk : ByteArray := prog_5_method_2_code
def yX3_walk : MethodName := ⟨RX3, "walk", "(LEvenLoads$Cluster;I)I"⟩
abbrev cX3_choose : ByteArray := prog_5_method_3_code
def yX3_choose : MethodName := ⟨RX3, "choose", "(LEvenLoads$Cluster;I)Z"⟩
abbrev cX3_isPossible : ByteArray := prog_5_method_4_code
def yX3_isPossible : MethodName := ⟨RX3, "isPossible", "(LEvenLoads$Cluster;)Z"⟩
abbrev cX3_chooseMove : ByteArray := prog_5_method_5_code
def yX3_chooseMove : MethodName := ⟨RX3, "chooseMove", "(LEvenLoads$Cluster;I)V"⟩
abbrev cX3_chooseExchange : ByteArray := prog_5_method_6_code
def yX3_chooseExchange : MethodName := ⟨RX3, "chooseExchange", "(LEvenLoads$Cluster;I)V"⟩
abbrev cX3_startBelow : ByteArray := prog_5_method_7_code
def yX3_startBelow : MethodName := ⟨RX3, "startBelow", "(I)V"⟩
abbrev cX3_offer : ByteArray := prog_5_method_8_code
def yX3_offer : MethodName := ⟨RX3, "offer", "(IIIII)V"⟩
def RX4 : String := "EvenLoads"
def TX4 : u_T := fun k => match k with
  | 0 => ("EvenLoads", "now", "LEvenLoads$Cluster;", true)
  | 1 => ("EvenLoads", "before", "LEvenLoads$Cluster;", true)
  | 2 => ("EvenLoads", "trial", "LEvenLoads$Cluster;", true)
  | 3 => ("EvenLoads", "history", "LEvenLoads$History;", true)
  | 4 => ("EvenLoads", "next", "LEvenLoads$Step;", true)
  | _ => ("EvenLoads", "program", "LEvenLoads$Program;", true)
def tyX4 : Nat → FieldType := fun k => match k with
  | 0 => .object "EvenLoads$Cluster"
  | 1 => .object "EvenLoads$Cluster"
  | 2 => .object "EvenLoads$Cluster"
  | 3 => .object "EvenLoads$History"
  | 4 => .object "EvenLoads$Step"
  | _ => .object "EvenLoads$Program"
abbrev wsX40 : List Cond := u_ws RX4 TX4 6
theorem nmX4 : ∀ a, a < 6 → ∀ b, b < 6 → a ≠ b → (TX4 a).2.1 ≠ (TX4 b).2.1 := by decide +kernel
theorem tyX4_ok : ∀ k, k < 6 → parseFieldDescriptor (TX4 k).2.2.1 = some (tyX4 k) := by decide +kernel
abbrev cX4_init : ByteArray := prog_1_method_1_code
def yX4_init : MethodName := ⟨RX4, "<init>", "()V"⟩
abbrev cX4_addServer : ByteArray := prog_1_method_2_code
def yX4_addServer : MethodName := ⟨RX4, "addServer", "()I"⟩
abbrev cX4_add : ByteArray := prog_1_method_3_code
def yX4_add : MethodName := ⟨RX4, "add", "(III)I"⟩
abbrev cX4_finish : ByteArray := prog_1_method_4_code
def yX4_finish : MethodName := ⟨RX4, "finish", "(I)I"⟩
abbrev cX4_setBudget : ByteArray := prog_1_method_5_code
def yX4_setBudget : MethodName := ⟨RX4, "setBudget", "(I)I"⟩
abbrev cX4_setFactor : ByteArray := prog_1_method_6_code
def yX4_setFactor : MethodName := ⟨RX4, "setFactor", "(I)I"⟩
abbrev cX4_move : ByteArray := prog_1_method_7_code
def yX4_move : MethodName := ⟨RX4, "move", "(II)I"⟩
abbrev cX4_exchange : ByteArray := prog_1_method_8_code
def yX4_exchange : MethodName := ⟨RX4, "exchange", "(II)I"⟩
abbrev cX4_ring : ByteArray := prog_1_method_9_code
def yX4_ring : MethodName := ⟨RX4, "ring", "(III)I"⟩
abbrev cX4_even : ByteArray := prog_1_method_10_code
def yX4_even : MethodName := ⟨RX4, "even", "(I)I"⟩
abbrev cX4_close : ByteArray := prog_1_method_11_code
def yX4_close : MethodName := ⟨RX4, "close", "(I)I"⟩
abbrev cX4_open : ByteArray := prog_1_method_12_code
def yX4_open : MethodName := ⟨RX4, "open", "(I)I"⟩
abbrev cX4_undo : ByteArray := prog_1_method_13_code
def yX4_undo : MethodName := ⟨RX4, "undo", "()I"⟩
abbrev cX4_append : ByteArray := prog_1_method_14_code
def yX4_append : MethodName := ⟨RX4, "append", "(I)I"⟩
abbrev cX4_clearText : ByteArray := prog_1_method_15_code
def yX4_clearText : MethodName := ⟨RX4, "clearText", "()I"⟩
abbrev cX4_run : ByteArray := prog_1_method_16_code
def yX4_run : MethodName := ⟨RX4, "run", "()I"⟩
abbrev cX4_count : ByteArray := prog_1_method_17_code
def yX4_count : MethodName := ⟨RX4, "count", "(I)I"⟩
abbrev cX4_server : ByteArray := prog_1_method_18_code
def yX4_server : MethodName := ⟨RX4, "server", "(II)I"⟩
abbrev cX4_job : ByteArray := prog_1_method_19_code
def yX4_job : MethodName := ⟨RX4, "job", "(II)I"⟩
abbrev cX4_leaving : ByteArray := prog_1_method_20_code
def yX4_leaving : MethodName := ⟨RX4, "leaving", "(II)I"⟩
abbrev cX4_step : ByteArray := prog_1_method_21_code
def yX4_step : MethodName := ⟨RX4, "step", "(I)I"⟩
abbrev cX4_plan : ByteArray := prog_1_method_22_code
def yX4_plan : MethodName := ⟨RX4, "plan", "(I)I"⟩
abbrev cX4_fewest : ByteArray := prog_1_method_23_code
def yX4_fewest : MethodName := ⟨RX4, "fewest", "(I)I"⟩
abbrev cX4_without : ByteArray := prog_1_method_24_code
def yX4_without : MethodName := ⟨RX4, "without", "(I)I"⟩
abbrev cX4_recorded : ByteArray := prog_1_method_25_code
def yX4_recorded : MethodName := ⟨RX4, "recorded", "(I)I"⟩
abbrev cX4_runOrders : ByteArray := prog_1_method_26_code
def yX4_runOrders : MethodName := ⟨RX4, "runOrders", "()I"⟩
abbrev cX4_callOrder : ByteArray := prog_1_method_27_code
def yX4_callOrder : MethodName := ⟨RX4, "callOrder", "()I"⟩
abbrev cX4_cheapest : ByteArray := prog_1_method_28_code
def yX4_cheapest : MethodName := ⟨RX4, "cheapest", "(LEvenLoads$Cluster;III)I"⟩
abbrev cX4_at : ByteArray := prog_1_method_29_code
def yX4_at : MethodName := ⟨RX4, "at", "([II)I"⟩
abbrev cX4_put : ByteArray := prog_1_method_30_code
def yX4_put : MethodName := ⟨RX4, "put", "([III)V"⟩
abbrev cX4_copyRow : ByteArray := prog_1_method_31_code
def yX4_copyRow : MethodName := ⟨RX4, "copyRow", "([I[I)V"⟩
def RX5 : String := "EvenLoadsModel"
def TX5 : u_T := fun k => match k with
  | 0 => ("EvenLoadsModel", "s", "[I", true)
  | 1 => ("EvenLoadsModel", "past", "[I", true)
  | 2 => ("EvenLoadsModel", "before", "[I", true)
  | 3 => ("EvenLoadsModel", "kept", "I", false)
  | 4 => ("EvenLoadsModel", "stepJob", "I", false)
  | 5 => ("EvenLoadsModel", "stepServer", "I", false)
  | 6 => ("EvenLoadsModel", "stepOther", "I", false)
  | 7 => ("EvenLoadsModel", "stepPrice", "I", false)
  | 8 => ("EvenLoadsModel", "text", "[I", true)
  | 9 => ("EvenLoadsModel", "typed", "I", false)
  | 10 => ("EvenLoadsModel", "at", "I", false)
  | 11 => ("EvenLoadsModel", "failing", "I", false)
  | 12 => ("EvenLoadsModel", "numbers", "[I", true)
  | 13 => ("EvenLoadsModel", "loads", "[I", true)
  | _ => ("EvenLoadsModel", "cheapest", "I", false)
def tyX5 : Nat → FieldType := fun k => match k with
  | 0 => .array .int
  | 1 => .array .int
  | 2 => .array .int
  | 3 => .int
  | 4 => .int
  | 5 => .int
  | 6 => .int
  | 7 => .int
  | 8 => .array .int
  | 9 => .int
  | 10 => .int
  | 11 => .int
  | 12 => .array .int
  | 13 => .array .int
  | _ => .int
abbrev wsX50 : List Cond := u_ws RX5 TX5 15
theorem nmX5 : ∀ a, a < 15 → ∀ b, b < 15 → a ≠ b → (TX5 a).2.1 ≠ (TX5 b).2.1 := by decide +kernel
theorem tyX5_ok : ∀ k, k < 15 → parseFieldDescriptor (TX5 k).2.2.1 = some (tyX5 k) := by decide +kernel
abbrev cX5_init : ByteArray := prog_7_method_1_code
def yX5_init : MethodName := ⟨RX5, "<init>", "()V"⟩
abbrev cX5_in : ByteArray := prog_7_method_2_code
def yX5_in : MethodName := ⟨RX5, "in", "(III)Z"⟩
abbrev cX5_greater : ByteArray := prog_7_method_3_code
def yX5_greater : MethodName := ⟨RX5, "greater", "(II)I"⟩
abbrev cX5_aside : ByteArray := prog_7_method_4_code
def yX5_aside : MethodName := ⟨RX5, "aside", "()V"⟩
abbrev cX5_layBack : ByteArray := prog_7_method_5_code
def yX5_layBack : MethodName := ⟨RX5, "layBack", "()V"⟩
abbrev cX5_keeps : ByteArray := prog_7_method_6_code
def yX5_keeps : MethodName := ⟨RX5, "keeps", "()V"⟩
abbrev cX5_acted : ByteArray := prog_7_method_7_code
def yX5_acted : MethodName := ⟨RX5, "acted", "(I)I"⟩
abbrev cX5_undo : ByteArray := prog_7_method_8_code
def yX5_undo : MethodName := ⟨RX5, "undo", "()I"⟩
abbrev cX5_isServer : ByteArray := prog_7_method_9_code
def yX5_isServer : MethodName := ⟨RX5, "isServer", "(I)Z"⟩
abbrev cX5_isJob : ByteArray := prog_7_method_10_code
def yX5_isJob : MethodName := ⟨RX5, "isJob", "(I)Z"⟩
abbrev cX5_of : ByteArray := prog_7_method_11_code
def yX5_of : MethodName := ⟨RX5, "of", "(II)I"⟩
abbrev cX5_isOpen : ByteArray := prog_7_method_12_code
def yX5_isOpen : MethodName := ⟨RX5, "isOpen", "(I)Z"⟩
abbrev cX5_isDone : ByteArray := prog_7_method_13_code
def yX5_isDone : MethodName := ⟨RX5, "isDone", "(I)Z"⟩
abbrev cX5_opens : ByteArray := prog_7_method_14_code
def yX5_opens : MethodName := ⟨RX5, "opens", "()I"⟩
abbrev cX5_load : ByteArray := prog_7_method_15_code
def yX5_load : MethodName := ⟨RX5, "load", "(I)I"⟩
abbrev cX5_allLoads : ByteArray := prog_7_method_16_code
def yX5_allLoads : MethodName := ⟨RX5, "allLoads", "()I"⟩
abbrev cX5_greatest : ByteArray := prog_7_method_17_code
def yX5_greatest : MethodName := ⟨RX5, "greatest", "()I"⟩
abbrev cX5_bound : ByteArray := prog_7_method_18_code
def yX5_bound : MethodName := ⟨RX5, "bound", "()I"⟩
abbrev cX5_target : ByteArray := prog_7_method_19_code
def yX5_target : MethodName := ⟨RX5, "target", "()I"⟩
abbrev cX5_areEven : ByteArray := prog_7_method_20_code
def yX5_areEven : MethodName := ⟨RX5, "areEven", "()Z"⟩
abbrev cX5_addServer : ByteArray := prog_7_method_21_code
def yX5_addServer : MethodName := ⟨RX5, "addServer", "()I"⟩
abbrev cX5_adds : ByteArray := prog_7_method_22_code
def yX5_adds : MethodName := ⟨RX5, "adds", "(III)I"⟩
abbrev cX5_add : ByteArray := prog_7_method_23_code
def yX5_add : MethodName := ⟨RX5, "add", "(III)I"⟩
abbrev cX5_finishes : ByteArray := prog_7_method_24_code
def yX5_finishes : MethodName := ⟨RX5, "finishes", "(I)I"⟩
abbrev cX5_finish : ByteArray := prog_7_method_25_code
def yX5_finish : MethodName := ⟨RX5, "finish", "(I)I"⟩
abbrev cX5_setBudget : ByteArray := prog_7_method_26_code
def yX5_setBudget : MethodName := ⟨RX5, "setBudget", "(I)I"⟩
abbrev cX5_setFactor : ByteArray := prog_7_method_27_code
def yX5_setFactor : MethodName := ⟨RX5, "setFactor", "(I)I"⟩
abbrev cX5_goes : ByteArray := prog_7_method_28_code
def yX5_goes : MethodName := ⟨RX5, "goes", "(II)V"⟩
abbrev cX5_moves : ByteArray := prog_7_method_29_code
def yX5_moves : MethodName := ⟨RX5, "moves", "(II)I"⟩
abbrev cX5_move : ByteArray := prog_7_method_30_code
def yX5_move : MethodName := ⟨RX5, "move", "(II)I"⟩
abbrev cX5_exchanges : ByteArray := prog_7_method_31_code
def yX5_exchanges : MethodName := ⟨RX5, "exchanges", "(II)I"⟩
abbrev cX5_exchange : ByteArray := prog_7_method_32_code
def yX5_exchange : MethodName := ⟨RX5, "exchange", "(II)I"⟩
abbrev cX5_rings : ByteArray := prog_7_method_33_code
def yX5_rings : MethodName := ⟨RX5, "rings", "(III)I"⟩
abbrev cX5_ring : ByteArray := prog_7_method_34_code
def yX5_ring : MethodName := ⟨RX5, "ring", "(III)I"⟩
abbrev cX5_full : ByteArray := prog_7_method_35_code
def yX5_full : MethodName := ⟨RX5, "full", "()I"⟩
abbrev cX5_findsMove : ByteArray := prog_7_method_36_code
def yX5_findsMove : MethodName := ⟨RX5, "findsMove", "(I)Z"⟩
abbrev cX5_findsExchange : ByteArray := prog_7_method_37_code
def yX5_findsExchange : MethodName := ⟨RX5, "findsExchange", "(I)Z"⟩
abbrev cX5_findsStep : ByteArray := prog_7_method_38_code
def yX5_findsStep : MethodName := ⟨RX5, "findsStep", "()Z"⟩
abbrev cX5_evens : ByteArray := prog_7_method_39_code
def yX5_evens : MethodName := ⟨RX5, "evens", "(I)I"⟩
abbrev cX5_evensBy : ByteArray := prog_7_method_40_code
def yX5_evensBy : MethodName := ⟨RX5, "evensBy", "(I)I"⟩
abbrev cX5_even : ByteArray := prog_7_method_41_code
def yX5_even : MethodName := ⟨RX5, "even", "(I)I"⟩
abbrev cX5_leaver : ByteArray := prog_7_method_42_code
def yX5_leaver : MethodName := ⟨RX5, "leaver", "(II)I"⟩
abbrev cX5_emptiest : ByteArray := prog_7_method_43_code
def yX5_emptiest : MethodName := ⟨RX5, "emptiest", "()I"⟩
abbrev cX5_empties : ByteArray := prog_7_method_44_code
def yX5_empties : MethodName := ⟨RX5, "empties", "(I)I"⟩
abbrev cX5_closes : ByteArray := prog_7_method_45_code
def yX5_closes : MethodName := ⟨RX5, "closes", "(I)I"⟩
abbrev cX5_close : ByteArray := prog_7_method_46_code
def yX5_close : MethodName := ⟨RX5, "close", "(I)I"⟩
abbrev cX5_open : ByteArray := prog_7_method_47_code
def yX5_open : MethodName := ⟨RX5, "open", "(I)I"⟩
abbrev cX5_append : ByteArray := prog_7_method_48_code
def yX5_append : MethodName := ⟨RX5, "append", "(I)I"⟩
abbrev cX5_clearText : ByteArray := prog_7_method_49_code
def yX5_clearText : MethodName := ⟨RX5, "clearText", "()I"⟩
abbrev cX5_look : ByteArray := prog_7_method_50_code
def yX5_look : MethodName := ⟨RX5, "look", "()I"⟩
abbrev cX5_skips : ByteArray := prog_7_method_51_code
def yX5_skips : MethodName := ⟨RX5, "skips", "()I"⟩
abbrev cX5_manyOf : ByteArray := prog_7_method_52_code
def yX5_manyOf : MethodName := ⟨RX5, "manyOf", "(I)I"⟩
abbrev cX5_reads : ByteArray := prog_7_method_53_code
def yX5_reads : MethodName := ⟨RX5, "reads", "(I)V"⟩
abbrev cX5_does : ByteArray := prog_7_method_54_code
def yX5_does : MethodName := ⟨RX5, "does", "(I)I"⟩
abbrev cX5_order : ByteArray := prog_7_method_55_code
def yX5_order : MethodName := ⟨RX5, "order", "()V"⟩
abbrev cX5_run : ByteArray := prog_7_method_56_code
def yX5_run : MethodName := ⟨RX5, "run", "()I"⟩
abbrev cX5_manyOn : ByteArray := prog_7_method_57_code
def yX5_manyOn : MethodName := ⟨RX5, "manyOn", "(I)I"⟩
abbrev cX5_count : ByteArray := prog_7_method_58_code
def yX5_count : MethodName := ⟨RX5, "count", "(I)I"⟩
abbrev cX5_jobsOn : ByteArray := prog_7_method_59_code
def yX5_jobsOn : MethodName := ⟨RX5, "jobsOn", "(I)I"⟩
abbrev cX5_server : ByteArray := prog_7_method_60_code
def yX5_server : MethodName := ⟨RX5, "server", "(II)I"⟩
abbrev cX5_job : ByteArray := prog_7_method_61_code
def yX5_job : MethodName := ⟨RX5, "job", "(II)I"⟩
abbrev cX5_leaving : ByteArray := prog_7_method_62_code
def yX5_leaving : MethodName := ⟨RX5, "leaving", "(II)I"⟩
abbrev cX5_step : ByteArray := prog_7_method_63_code
def yX5_step : MethodName := ⟨RX5, "step", "(I)I"⟩
abbrev cX5_plan : ByteArray := prog_7_method_64_code
def yX5_plan : MethodName := ⟨RX5, "plan", "(I)I"⟩
abbrev cX5_loadsMove : ByteArray := prog_7_method_65_code
def yX5_loadsMove : MethodName := ⟨RX5, "loadsMove", "(III)V"⟩
abbrev cX5_areBelow : ByteArray := prog_7_method_66_code
def yX5_areBelow : MethodName := ⟨RX5, "areBelow", "(I)Z"⟩
abbrev cX5_triesMoves : ByteArray := prog_7_method_67_code
def yX5_triesMoves : MethodName := ⟨RX5, "triesMoves", "(III)V"⟩
abbrev cX5_fewest : ByteArray := prog_7_method_68_code
def yX5_fewest : MethodName := ⟨RX5, "fewest", "(I)I"⟩
abbrev cX5_without : ByteArray := prog_7_method_69_code
def yX5_without : MethodName := ⟨RX5, "without", "(I)I"⟩
def RJ6 : String := "java/lang/Integer"
def TJ6 : u_T := fun k => match k with
  | _ => ("", "", "", false)
def tyJ6 : Nat → FieldType := fun k => match k with
  | _ => .int
abbrev wsJ60 : List Cond := u_ws RJ6 TJ6 0
theorem nmJ6 : ∀ a, a < 0 → ∀ b, b < 0 → a ≠ b → (TJ6 a).2.1 ≠ (TJ6 b).2.1 := by decide +kernel
theorem tyJ6_ok : ∀ k, k < 0 → parseFieldDescriptor (TJ6 k).2.2.1 = some (tyJ6 k) := by decide +kernel
abbrev cJ6_bitCount_0f7a4 : ByteArray := prog_8_method_49_code
def yJ6_bitCount_0f7a4 : MethodName := ⟨RJ6, "bitCount", "(I)I"⟩
def RJ9 : String := "java/lang/Math"
def TJ9 : u_T := fun k => match k with
  | _ => ("", "", "", false)
def tyJ9 : Nat → FieldType := fun k => match k with
  | _ => .int
abbrev wsJ90 : List Cond := u_ws RJ9 TJ9 0
theorem nmJ9 : ∀ a, a < 0 → ∀ b, b < 0 → a ≠ b → (TJ9 a).2.1 ≠ (TJ9 b).2.1 := by decide +kernel
theorem tyJ9_ok : ∀ k, k < 0 → parseFieldDescriptor (TJ9 k).2.2.1 = some (tyJ9 k) := by decide +kernel
abbrev cJ9_max_7cf53 : ByteArray := prog_9_method_65_code
def yJ9_max_7cf53 : MethodName := ⟨RJ9, "max", "(II)I"⟩
abbrev cJ9_min_7cf53 : ByteArray := prog_9_method_69_code
def yJ9_min_7cf53 : MethodName := ⟨RJ9, "min", "(II)I"⟩
def RJ10 : String := "java/lang/System"
def TJ10 : u_T := fun k => match k with
  | _ => ("", "", "", false)
def tyJ10 : Nat → FieldType := fun k => match k with
  | _ => .int
abbrev wsJ100 : List Cond := u_ws RJ10 TJ10 0
theorem nmJ10 : ∀ a, a < 0 → ∀ b, b < 0 → a ≠ b → (TJ10 a).2.1 ≠ (TJ10 b).2.1 := by decide +kernel
theorem tyJ10_ok : ∀ k, k < 0 → parseFieldDescriptor (TJ10 k).2.2.1 = some (tyJ10 k) := by decide +kernel
def RL : String := "EvenLoadsLaw"
abbrev cL_law : ByteArray := code
def yL_law : MethodName := ⟨RL, "law", "([I)Z"⟩
def wsX0_init : List Cond := .code yX0_init cX0_init 1 none :: ([.methodLink RX0 3 objectInit, .instanceMethod objectInit, .code objectInit ⟨#[0xb1]⟩ 1 none, .arrayClass .int, .fieldLink RX0 9 "EvenLoads$Cluster" "sizes" "[I", .fieldLink RX0 15 "EvenLoads$Cluster" "prices" "[I", .fieldLink RX0 18 "EvenLoads$Cluster" "places" "[I", .fieldLink RX0 21 "EvenLoads$Cluster" "moved" "[I", .fieldLink RX0 24 "EvenLoads$Cluster" "loads" "[I", .fieldLink RX0 27 "EvenLoads$Cluster" "opened" "[I", .fieldLink RX0 30 "EvenLoads$Cluster" "servers" "I", .fieldLink RX0 34 "EvenLoads$Cluster" "openServers" "I", .fieldLink RX0 37 "EvenLoads$Cluster" "jobs" "I", .fieldLink RX0 40 "EvenLoads$Cluster" "sum" "I", .fieldLink RX0 43 "EvenLoads$Cluster" "budget" "I", .fieldLink RX0 46 "EvenLoads$Cluster" "factor" "I", .fieldLink RX0 49 "EvenLoads$Cluster" "moves" "I"] ++ wsX00)
def wsX4_copyRow : List Cond := .code yX4_copyRow cX4_copyRow 2 none :: ([.methodLink RX4 244 Lib.Math.min.name, .static Lib.Math.min.name, .initialized "java/lang/Math", .code Lib.Math.min.name Lib.Math.min.code 2 (some .int), .methodLink RX4 249 arraycopyName, .native arraycopyName, .static arraycopyName, .initialized "java/lang/System"])
def wsX0_copyFrom : List Cond := .code yX0_copyFrom cX0_copyFrom 2 none :: ([.fieldLink RX0 9 "EvenLoads$Cluster" "sizes" "[I", .fieldLink RX0 15 "EvenLoads$Cluster" "prices" "[I", .fieldLink RX0 18 "EvenLoads$Cluster" "places" "[I", .fieldLink RX0 21 "EvenLoads$Cluster" "moved" "[I", .fieldLink RX0 24 "EvenLoads$Cluster" "loads" "[I", .fieldLink RX0 27 "EvenLoads$Cluster" "opened" "[I", .fieldLink RX0 30 "EvenLoads$Cluster" "servers" "I", .fieldLink RX0 34 "EvenLoads$Cluster" "openServers" "I", .fieldLink RX0 37 "EvenLoads$Cluster" "jobs" "I", .fieldLink RX0 40 "EvenLoads$Cluster" "sum" "I", .fieldLink RX0 43 "EvenLoads$Cluster" "budget" "I", .fieldLink RX0 46 "EvenLoads$Cluster" "factor" "I", .fieldLink RX0 49 "EvenLoads$Cluster" "moves" "I", .static yX4_copyRow, .initialized RX4, .code yX4_copyRow cX4_copyRow 2 none, .methodLink RX4 244 Lib.Math.min.name, .static Lib.Math.min.name, .initialized "java/lang/Math", .code Lib.Math.min.name Lib.Math.min.code 2 (some .int), .methodLink RX4 249 arraycopyName, .native arraycopyName, .static arraycopyName, .initialized "java/lang/System"] ++ wsX00)
def wsX4_put : List Cond := .code yX4_put cX4_put 3 none :: ([])
def wsX0_newServer : List Cond := .code yX0_newServer cX0_newServer 1 (some .int) :: ([.fieldLink RX0 30 "EvenLoads$Cluster" "servers" "I", .fieldLink RX0 27 "EvenLoads$Cluster" "opened" "[I", .fieldLink RX0 34 "EvenLoads$Cluster" "openServers" "I", .static yX4_put, .initialized RX4, .code yX4_put cX4_put 3 none] ++ wsX00)
def wsX0_hasServer : List Cond := .code yX0_hasServer cX0_hasServer 2 (some .boolean) :: ([.fieldLink RX0 30 "EvenLoads$Cluster" "servers" "I"] ++ wsX00)
def wsX4_at : List Cond := .code yX4_at cX4_at 2 (some .int) :: ([])
def wsX0_isOpen : List Cond := .code yX0_isOpen cX0_isOpen 2 (some .boolean) :: ([.fieldLink RX0 27 "EvenLoads$Cluster" "opened" "[I", .static yX4_at, .initialized RX4, .code yX4_at cX4_at 2 (some .int)] ++ wsX00)
def wsX0_newJob : List Cond := .code yX0_newJob cX0_newJob 6 (some .int) :: ([.fieldLink RX0 37 "EvenLoads$Cluster" "jobs" "I", .fieldLink RX0 9 "EvenLoads$Cluster" "sizes" "[I", .fieldLink RX0 15 "EvenLoads$Cluster" "prices" "[I", .fieldLink RX0 18 "EvenLoads$Cluster" "places" "[I", .fieldLink RX0 21 "EvenLoads$Cluster" "moved" "[I", .fieldLink RX0 24 "EvenLoads$Cluster" "loads" "[I", .fieldLink RX0 40 "EvenLoads$Cluster" "sum" "I", .methodLink RX0 60 yX0_hasServer, .instanceMethod yX0_hasServer, .selects RX0 yX0_hasServer yX0_hasServer, .initialized RX0, .code yX0_hasServer cX0_hasServer 2 (some .boolean), .fieldLink RX0 30 "EvenLoads$Cluster" "servers" "I", .methodLink RX0 64 yX0_isOpen, .instanceMethod yX0_isOpen, .selects RX0 yX0_isOpen yX0_isOpen, .code yX0_isOpen cX0_isOpen 2 (some .boolean), .fieldLink RX0 27 "EvenLoads$Cluster" "opened" "[I", .static yX4_at, .initialized RX4, .code yX4_at cX4_at 2 (some .int), .static yX4_put, .code yX4_put cX4_put 3 none] ++ wsX00)
def wsX0_hasJob : List Cond := .code yX0_hasJob cX0_hasJob 2 (some .boolean) :: ([.fieldLink RX0 37 "EvenLoads$Cluster" "jobs" "I"] ++ wsX00)
def wsX0_isFinished : List Cond := .code yX0_isFinished cX0_isFinished 2 (some .boolean) :: ([.fieldLink RX0 18 "EvenLoads$Cluster" "places" "[I", .static yX4_at, .initialized RX4, .code yX4_at cX4_at 2 (some .int)] ++ wsX00)
def wsX0_endJob : List Cond := .code yX0_endJob cX0_endJob 3 (some .int) :: ([.fieldLink RX0 18 "EvenLoads$Cluster" "places" "[I", .fieldLink RX0 24 "EvenLoads$Cluster" "loads" "[I", .fieldLink RX0 9 "EvenLoads$Cluster" "sizes" "[I", .fieldLink RX0 40 "EvenLoads$Cluster" "sum" "I", .methodLink RX0 71 yX0_hasJob, .instanceMethod yX0_hasJob, .selects RX0 yX0_hasJob yX0_hasJob, .initialized RX0, .code yX0_hasJob cX0_hasJob 2 (some .boolean), .fieldLink RX0 37 "EvenLoads$Cluster" "jobs" "I", .methodLink RX0 74 yX0_isFinished, .instanceMethod yX0_isFinished, .selects RX0 yX0_isFinished yX0_isFinished, .code yX0_isFinished cX0_isFinished 2 (some .boolean), .static yX4_at, .initialized RX4, .code yX4_at cX4_at 2 (some .int), .static yX4_put, .code yX4_put cX4_put 3 none] ++ wsX00)
def wsX0_changeBudget : List Cond := .code yX0_changeBudget cX0_changeBudget 3 (some .int) :: ([.fieldLink RX0 43 "EvenLoads$Cluster" "budget" "I"] ++ wsX00)
def wsX0_bound : List Cond := .code yX0_bound cX0_bound 3 (some .int) :: ([.fieldLink RX0 37 "EvenLoads$Cluster" "jobs" "I", .fieldLink RX0 18 "EvenLoads$Cluster" "places" "[I", .fieldLink RX0 9 "EvenLoads$Cluster" "sizes" "[I", .methodLink RX0 127 Lib.Math.max.name, .static Lib.Math.max.name, .initialized "java/lang/Math", .code Lib.Math.max.name Lib.Math.max.code 2 (some .int), .fieldLink RX0 34 "EvenLoads$Cluster" "openServers" "I", .fieldLink RX0 40 "EvenLoads$Cluster" "sum" "I", .static yX4_at, .initialized RX4, .code yX4_at cX4_at 2 (some .int)] ++ wsX00)
def wsX0_target : List Cond := .code yX0_target cX0_target 1 (some .int) :: ([.fieldLink RX0 46 "EvenLoads$Cluster" "factor" "I", .methodLink RX0 132 yX0_bound, .instanceMethod yX0_bound, .selects RX0 yX0_bound yX0_bound, .initialized RX0, .code yX0_bound cX0_bound 3 (some .int), .fieldLink RX0 37 "EvenLoads$Cluster" "jobs" "I", .fieldLink RX0 18 "EvenLoads$Cluster" "places" "[I", .fieldLink RX0 9 "EvenLoads$Cluster" "sizes" "[I", .methodLink RX0 127 Lib.Math.max.name, .static Lib.Math.max.name, .initialized "java/lang/Math", .code Lib.Math.max.name Lib.Math.max.code 2 (some .int), .fieldLink RX0 34 "EvenLoads$Cluster" "openServers" "I", .fieldLink RX0 40 "EvenLoads$Cluster" "sum" "I", .static yX4_at, .initialized RX4, .code yX4_at cX4_at 2 (some .int)] ++ wsX00)
def wsX0_changeFactor : List Cond := .code yX0_changeFactor cX0_changeFactor 2 (some .int) :: ([.fieldLink RX0 46 "EvenLoads$Cluster" "factor" "I", .methodLink RX0 77 yX0_target, .instanceMethod yX0_target, .selects RX0 yX0_target yX0_target, .initialized RX0, .code yX0_target cX0_target 1 (some .int), .methodLink RX0 132 yX0_bound, .instanceMethod yX0_bound, .selects RX0 yX0_bound yX0_bound, .code yX0_bound cX0_bound 3 (some .int), .fieldLink RX0 37 "EvenLoads$Cluster" "jobs" "I", .fieldLink RX0 18 "EvenLoads$Cluster" "places" "[I", .fieldLink RX0 9 "EvenLoads$Cluster" "sizes" "[I", .methodLink RX0 127 Lib.Math.max.name, .static Lib.Math.max.name, .initialized "java/lang/Math", .code Lib.Math.max.name Lib.Math.max.code 2 (some .int), .fieldLink RX0 34 "EvenLoads$Cluster" "openServers" "I", .fieldLink RX0 40 "EvenLoads$Cluster" "sum" "I", .static yX4_at, .initialized RX4, .code yX4_at cX4_at 2 (some .int)] ++ wsX00)
def wsX0_shiftLoad : List Cond := .code yX0_shiftLoad cX0_shiftLoad 4 none :: ([.fieldLink RX0 24 "EvenLoads$Cluster" "loads" "[I", .static yX4_at, .initialized RX4, .code yX4_at cX4_at 2 (some .int), .static yX4_put, .code yX4_put cX4_put 3 none] ++ wsX00)
def wsX0_takeTo : List Cond := .code yX0_takeTo cX0_takeTo 3 none :: ([.fieldLink RX0 9 "EvenLoads$Cluster" "sizes" "[I", .fieldLink RX0 18 "EvenLoads$Cluster" "places" "[I", .fieldLink RX0 21 "EvenLoads$Cluster" "moved" "[I", .fieldLink RX0 49 "EvenLoads$Cluster" "moves" "I", .fieldLink RX0 43 "EvenLoads$Cluster" "budget" "I", .fieldLink RX0 15 "EvenLoads$Cluster" "prices" "[I", .static yX4_at, .initialized RX4, .code yX4_at cX4_at 2 (some .int), .methodLink RX0 114 yX0_shiftLoad, .instanceMethod yX0_shiftLoad, .selects RX0 yX0_shiftLoad yX0_shiftLoad, .initialized RX0, .code yX0_shiftLoad cX0_shiftLoad 4 none, .fieldLink RX0 24 "EvenLoads$Cluster" "loads" "[I", .static yX4_put, .code yX4_put cX4_put 3 none] ++ wsX00)
def wsX0_fullestServer : List Cond := .code yX0_fullestServer cX0_fullestServer 4 (some .int) :: ([.fieldLink RX0 30 "EvenLoads$Cluster" "servers" "I", .fieldLink RX0 24 "EvenLoads$Cluster" "loads" "[I", .fieldLink RX0 27 "EvenLoads$Cluster" "opened" "[I", .static yX4_at, .initialized RX4, .code yX4_at cX4_at 2 (some .int)] ++ wsX00)
def wsX0_greatestLoad : List Cond := .code yX0_greatestLoad cX0_greatestLoad 1 (some .int) :: ([.fieldLink RX0 24 "EvenLoads$Cluster" "loads" "[I", .methodLink RX0 124 yX0_fullestServer, .instanceMethod yX0_fullestServer, .selects RX0 yX0_fullestServer yX0_fullestServer, .initialized RX0, .code yX0_fullestServer cX0_fullestServer 4 (some .int), .fieldLink RX0 30 "EvenLoads$Cluster" "servers" "I", .fieldLink RX0 27 "EvenLoads$Cluster" "opened" "[I", .static yX4_at, .initialized RX4, .code yX4_at cX4_at 2 (some .int)] ++ wsX00)
def wsX0_moveJob_r1 : List Cond := [Cond.fieldLink RX0 18 "EvenLoads$Cluster" "places" "[I", Cond.fieldLink RX0 15 "EvenLoads$Cluster" "prices" "[I", Cond.fieldLink RX0 43 "EvenLoads$Cluster" "budget" "I", Cond.methodLink RX0 71 yX0_hasJob, Cond.instanceMethod yX0_hasJob, Cond.selects RX0 yX0_hasJob yX0_hasJob, Cond.initialized RX0, Cond.code yX0_hasJob cX0_hasJob 2 (some .boolean), Cond.fieldLink RX0 37 "EvenLoads$Cluster" "jobs" "I", Cond.methodLink RX0 60 yX0_hasServer, Cond.instanceMethod yX0_hasServer, Cond.selects RX0 yX0_hasServer yX0_hasServer, Cond.code yX0_hasServer cX0_hasServer 2 (some .boolean), Cond.fieldLink RX0 30 "EvenLoads$Cluster" "servers" "I", Cond.methodLink RX0 74 yX0_isFinished, Cond.instanceMethod yX0_isFinished, Cond.selects RX0 yX0_isFinished yX0_isFinished, Cond.code yX0_isFinished cX0_isFinished 2 (some .boolean), Cond.static yX4_at, Cond.initialized RX4, Cond.code yX4_at cX4_at 2 (some .int), Cond.methodLink RX0 64 yX0_isOpen, Cond.instanceMethod yX0_isOpen, Cond.selects RX0 yX0_isOpen yX0_isOpen]
def wsX0_moveJob_r2 : List Cond := [Cond.code yX0_isOpen cX0_isOpen 2 (some .boolean), Cond.fieldLink RX0 27 "EvenLoads$Cluster" "opened" "[I", Cond.methodLink RX0 81 yX0_takeTo, Cond.instanceMethod yX0_takeTo, Cond.selects RX0 yX0_takeTo yX0_takeTo, Cond.code yX0_takeTo cX0_takeTo 3 none, Cond.fieldLink RX0 9 "EvenLoads$Cluster" "sizes" "[I", Cond.fieldLink RX0 21 "EvenLoads$Cluster" "moved" "[I", Cond.fieldLink RX0 49 "EvenLoads$Cluster" "moves" "I", Cond.methodLink RX0 114 yX0_shiftLoad, Cond.instanceMethod yX0_shiftLoad, Cond.selects RX0 yX0_shiftLoad yX0_shiftLoad, Cond.code yX0_shiftLoad cX0_shiftLoad 4 none, Cond.fieldLink RX0 24 "EvenLoads$Cluster" "loads" "[I", Cond.static yX4_put, Cond.code yX4_put cX4_put 3 none, Cond.methodLink RX0 85 yX0_greatestLoad, Cond.instanceMethod yX0_greatestLoad, Cond.selects RX0 yX0_greatestLoad yX0_greatestLoad, Cond.code yX0_greatestLoad cX0_greatestLoad 1 (some .int), Cond.methodLink RX0 124 yX0_fullestServer, Cond.instanceMethod yX0_fullestServer, Cond.selects RX0 yX0_fullestServer yX0_fullestServer, Cond.code yX0_fullestServer cX0_fullestServer 4 (some .int)]
def wsX0_moveJob : List Cond := .code yX0_moveJob cX0_moveJob 3 (some .int) :: ((wsX0_moveJob_r1 ++ wsX0_moveJob_r2) ++ wsX00)
def wsX0_areApart : List Cond := .code yX0_areApart cX0_areApart 3 (some .boolean) :: ([.fieldLink RX0 18 "EvenLoads$Cluster" "places" "[I", .methodLink RX0 74 yX0_isFinished, .instanceMethod yX0_isFinished, .selects RX0 yX0_isFinished yX0_isFinished, .initialized RX0, .code yX0_isFinished cX0_isFinished 2 (some .boolean), .static yX4_at, .initialized RX4, .code yX4_at cX4_at 2 (some .int)] ++ wsX00)
def wsX0_exchangeJobs_r1 : List Cond := [Cond.fieldLink RX0 15 "EvenLoads$Cluster" "prices" "[I", Cond.fieldLink RX0 43 "EvenLoads$Cluster" "budget" "I", Cond.fieldLink RX0 18 "EvenLoads$Cluster" "places" "[I", Cond.methodLink RX0 71 yX0_hasJob, Cond.instanceMethod yX0_hasJob, Cond.selects RX0 yX0_hasJob yX0_hasJob, Cond.initialized RX0, Cond.code yX0_hasJob cX0_hasJob 2 (some .boolean), Cond.fieldLink RX0 37 "EvenLoads$Cluster" "jobs" "I", Cond.methodLink RX0 88 yX0_areApart, Cond.instanceMethod yX0_areApart, Cond.selects RX0 yX0_areApart yX0_areApart, Cond.code yX0_areApart cX0_areApart 3 (some .boolean), Cond.methodLink RX0 74 yX0_isFinished, Cond.instanceMethod yX0_isFinished, Cond.selects RX0 yX0_isFinished yX0_isFinished, Cond.code yX0_isFinished cX0_isFinished 2 (some .boolean), Cond.static yX4_at, Cond.initialized RX4, Cond.code yX4_at cX4_at 2 (some .int), Cond.methodLink RX0 81 yX0_takeTo, Cond.instanceMethod yX0_takeTo, Cond.selects RX0 yX0_takeTo yX0_takeTo, Cond.code yX0_takeTo cX0_takeTo 3 none]
def wsX0_exchangeJobs_r2 : List Cond := [Cond.fieldLink RX0 9 "EvenLoads$Cluster" "sizes" "[I", Cond.fieldLink RX0 21 "EvenLoads$Cluster" "moved" "[I", Cond.fieldLink RX0 49 "EvenLoads$Cluster" "moves" "I", Cond.methodLink RX0 114 yX0_shiftLoad, Cond.instanceMethod yX0_shiftLoad, Cond.selects RX0 yX0_shiftLoad yX0_shiftLoad, Cond.code yX0_shiftLoad cX0_shiftLoad 4 none, Cond.fieldLink RX0 24 "EvenLoads$Cluster" "loads" "[I", Cond.static yX4_put, Cond.code yX4_put cX4_put 3 none, Cond.methodLink RX0 85 yX0_greatestLoad, Cond.instanceMethod yX0_greatestLoad, Cond.selects RX0 yX0_greatestLoad yX0_greatestLoad, Cond.code yX0_greatestLoad cX0_greatestLoad 1 (some .int), Cond.methodLink RX0 124 yX0_fullestServer, Cond.instanceMethod yX0_fullestServer, Cond.selects RX0 yX0_fullestServer yX0_fullestServer, Cond.code yX0_fullestServer cX0_fullestServer 4 (some .int), Cond.fieldLink RX0 30 "EvenLoads$Cluster" "servers" "I", Cond.fieldLink RX0 27 "EvenLoads$Cluster" "opened" "[I"]
def wsX0_exchangeJobs : List Cond := .code yX0_exchangeJobs cX0_exchangeJobs 4 (some .int) :: ((wsX0_exchangeJobs_r1 ++ wsX0_exchangeJobs_r2) ++ wsX00)
def wsX0_moveRing_r1 : List Cond := [Cond.fieldLink RX0 15 "EvenLoads$Cluster" "prices" "[I", Cond.fieldLink RX0 43 "EvenLoads$Cluster" "budget" "I", Cond.fieldLink RX0 18 "EvenLoads$Cluster" "places" "[I", Cond.methodLink RX0 71 yX0_hasJob, Cond.instanceMethod yX0_hasJob, Cond.selects RX0 yX0_hasJob yX0_hasJob, Cond.initialized RX0, Cond.code yX0_hasJob cX0_hasJob 2 (some .boolean), Cond.fieldLink RX0 37 "EvenLoads$Cluster" "jobs" "I", Cond.methodLink RX0 88 yX0_areApart, Cond.instanceMethod yX0_areApart, Cond.selects RX0 yX0_areApart yX0_areApart, Cond.code yX0_areApart cX0_areApart 3 (some .boolean), Cond.methodLink RX0 74 yX0_isFinished, Cond.instanceMethod yX0_isFinished, Cond.selects RX0 yX0_isFinished yX0_isFinished, Cond.code yX0_isFinished cX0_isFinished 2 (some .boolean), Cond.static yX4_at, Cond.initialized RX4, Cond.code yX4_at cX4_at 2 (some .int), Cond.methodLink RX0 81 yX0_takeTo, Cond.instanceMethod yX0_takeTo, Cond.selects RX0 yX0_takeTo yX0_takeTo, Cond.code yX0_takeTo cX0_takeTo 3 none]
def wsX0_moveRing_r2 : List Cond := [Cond.fieldLink RX0 9 "EvenLoads$Cluster" "sizes" "[I", Cond.fieldLink RX0 21 "EvenLoads$Cluster" "moved" "[I", Cond.fieldLink RX0 49 "EvenLoads$Cluster" "moves" "I", Cond.methodLink RX0 114 yX0_shiftLoad, Cond.instanceMethod yX0_shiftLoad, Cond.selects RX0 yX0_shiftLoad yX0_shiftLoad, Cond.code yX0_shiftLoad cX0_shiftLoad 4 none, Cond.fieldLink RX0 24 "EvenLoads$Cluster" "loads" "[I", Cond.static yX4_put, Cond.code yX4_put cX4_put 3 none, Cond.methodLink RX0 85 yX0_greatestLoad, Cond.instanceMethod yX0_greatestLoad, Cond.selects RX0 yX0_greatestLoad yX0_greatestLoad, Cond.code yX0_greatestLoad cX0_greatestLoad 1 (some .int), Cond.methodLink RX0 124 yX0_fullestServer, Cond.instanceMethod yX0_fullestServer, Cond.selects RX0 yX0_fullestServer yX0_fullestServer, Cond.code yX0_fullestServer cX0_fullestServer 4 (some .int), Cond.fieldLink RX0 30 "EvenLoads$Cluster" "servers" "I", Cond.fieldLink RX0 27 "EvenLoads$Cluster" "opened" "[I"]
def wsX0_moveRing : List Cond := .code yX0_moveRing cX0_moveRing 5 (some .int) :: ((wsX0_moveRing_r1 ++ wsX0_moveRing_r2) ++ wsX00)
def wsX0_priceOfAll : List Cond := .code yX0_priceOfAll cX0_priceOfAll 4 (some .int) :: ([.fieldLink RX0 37 "EvenLoads$Cluster" "jobs" "I", .fieldLink RX0 18 "EvenLoads$Cluster" "places" "[I", .fieldLink RX0 15 "EvenLoads$Cluster" "prices" "[I", .static yX4_at, .initialized RX4, .code yX4_at cX4_at 2 (some .int)] ++ wsX00)
def wsX0_jobsOn : List Cond := .code yX0_jobsOn cX0_jobsOn 4 (some .int) :: ([.fieldLink RX0 37 "EvenLoads$Cluster" "jobs" "I", .fieldLink RX0 18 "EvenLoads$Cluster" "places" "[I", .static yX4_at, .initialized RX4, .code yX4_at cX4_at 2 (some .int)] ++ wsX00)
def wsJ6_bitCount_0f7a4 : List Cond := .code yJ6_bitCount_0f7a4 cJ6_bitCount_0f7a4 1 (some .int) :: ([.constant RJ6 265 (1431655765), .constant RJ6 266 (858993459), .constant RJ6 267 (252645135)])
def wsX0_leavesBefore : List Cond := .code yX0_leavesBefore cX0_leavesBefore 3 (some .boolean) :: ([.fieldLink RX0 9 "EvenLoads$Cluster" "sizes" "[I", .fieldLink RX0 15 "EvenLoads$Cluster" "prices" "[I", .static yX4_at, .initialized RX4, .code yX4_at cX4_at 2 (some .int)] ++ wsX00)
def wsX0_jobsLeavingBefore : List Cond := .code yX0_jobsLeavingBefore cX0_jobsLeavingBefore 4 (some .int) :: ([.fieldLink RX0 37 "EvenLoads$Cluster" "jobs" "I", .fieldLink RX0 18 "EvenLoads$Cluster" "places" "[I", .static yX4_at, .initialized RX4, .code yX4_at cX4_at 2 (some .int), .methodLink RX0 121 yX0_leavesBefore, .instanceMethod yX0_leavesBefore, .selects RX0 yX0_leavesBefore yX0_leavesBefore, .initialized RX0, .code yX0_leavesBefore cX0_leavesBefore 3 (some .boolean), .fieldLink RX0 9 "EvenLoads$Cluster" "sizes" "[I", .fieldLink RX0 15 "EvenLoads$Cluster" "prices" "[I"] ++ wsX00)
def wsX0_leavingJob : List Cond := .code yX0_leavingJob cX0_leavingJob 4 (some .int) :: ([.fieldLink RX0 37 "EvenLoads$Cluster" "jobs" "I", .fieldLink RX0 18 "EvenLoads$Cluster" "places" "[I", .static yX4_at, .initialized RX4, .code yX4_at cX4_at 2 (some .int), .methodLink RX0 118 yX0_jobsLeavingBefore, .instanceMethod yX0_jobsLeavingBefore, .selects RX0 yX0_jobsLeavingBefore yX0_jobsLeavingBefore, .initialized RX0, .code yX0_jobsLeavingBefore cX0_jobsLeavingBefore 4 (some .int), .methodLink RX0 121 yX0_leavesBefore, .instanceMethod yX0_leavesBefore, .selects RX0 yX0_leavesBefore yX0_leavesBefore, .code yX0_leavesBefore cX0_leavesBefore 3 (some .boolean), .fieldLink RX0 9 "EvenLoads$Cluster" "sizes" "[I", .fieldLink RX0 15 "EvenLoads$Cluster" "prices" "[I"] ++ wsX00)
def wsX0_emptiestServer : List Cond := .code yX0_emptiestServer cX0_emptiestServer 4 (some .int) :: ([.fieldLink RX0 30 "EvenLoads$Cluster" "servers" "I", .fieldLink RX0 24 "EvenLoads$Cluster" "loads" "[I", .fieldLink RX0 27 "EvenLoads$Cluster" "opened" "[I", .static yX4_at, .initialized RX4, .code yX4_at cX4_at 2 (some .int)] ++ wsX00)
def wsX0_closeAndEmpty_r1 : List Cond := [Cond.fieldLink RX0 27 "EvenLoads$Cluster" "opened" "[I", Cond.fieldLink RX0 34 "EvenLoads$Cluster" "openServers" "I", Cond.static yX4_put, Cond.initialized RX4, Cond.code yX4_put cX4_put 3 none, Cond.methodLink RX0 99 yX0_jobsOn, Cond.instanceMethod yX0_jobsOn, Cond.selects RX0 yX0_jobsOn yX0_jobsOn, Cond.initialized RX0, Cond.code yX0_jobsOn cX0_jobsOn 4 (some .int), Cond.fieldLink RX0 37 "EvenLoads$Cluster" "jobs" "I", Cond.fieldLink RX0 18 "EvenLoads$Cluster" "places" "[I", Cond.static yX4_at, Cond.code yX4_at cX4_at 2 (some .int), Cond.methodLink RX0 102 yJ6_bitCount_0f7a4, Cond.static yJ6_bitCount_0f7a4, Cond.initialized RJ6, Cond.code yJ6_bitCount_0f7a4 cJ6_bitCount_0f7a4 1 (some .int), Cond.constant RJ6 265 (1431655765), Cond.constant RJ6 266 (858993459), Cond.constant RJ6 267 (252645135), Cond.methodLink RX0 107 yX0_leavingJob, Cond.instanceMethod yX0_leavingJob, Cond.selects RX0 yX0_leavingJob yX0_leavingJob]
def wsX0_closeAndEmpty_r2 : List Cond := [Cond.code yX0_leavingJob cX0_leavingJob 4 (some .int), Cond.methodLink RX0 118 yX0_jobsLeavingBefore, Cond.instanceMethod yX0_jobsLeavingBefore, Cond.selects RX0 yX0_jobsLeavingBefore yX0_jobsLeavingBefore, Cond.code yX0_jobsLeavingBefore cX0_jobsLeavingBefore 4 (some .int), Cond.methodLink RX0 121 yX0_leavesBefore, Cond.instanceMethod yX0_leavesBefore, Cond.selects RX0 yX0_leavesBefore yX0_leavesBefore, Cond.code yX0_leavesBefore cX0_leavesBefore 3 (some .boolean), Cond.fieldLink RX0 9 "EvenLoads$Cluster" "sizes" "[I", Cond.fieldLink RX0 15 "EvenLoads$Cluster" "prices" "[I", Cond.methodLink RX0 111 yX0_emptiestServer, Cond.instanceMethod yX0_emptiestServer, Cond.selects RX0 yX0_emptiestServer yX0_emptiestServer, Cond.code yX0_emptiestServer cX0_emptiestServer 4 (some .int), Cond.fieldLink RX0 30 "EvenLoads$Cluster" "servers" "I", Cond.fieldLink RX0 24 "EvenLoads$Cluster" "loads" "[I", Cond.methodLink RX0 81 yX0_takeTo, Cond.instanceMethod yX0_takeTo, Cond.selects RX0 yX0_takeTo yX0_takeTo, Cond.code yX0_takeTo cX0_takeTo 3 none, Cond.fieldLink RX0 21 "EvenLoads$Cluster" "moved" "[I", Cond.fieldLink RX0 49 "EvenLoads$Cluster" "moves" "I", Cond.fieldLink RX0 43 "EvenLoads$Cluster" "budget" "I"]
def wsX0_closeAndEmpty_r3 : List Cond := [Cond.methodLink RX0 114 yX0_shiftLoad, Cond.instanceMethod yX0_shiftLoad, Cond.selects RX0 yX0_shiftLoad yX0_shiftLoad, Cond.code yX0_shiftLoad cX0_shiftLoad 4 none]
def wsX0_closeAndEmpty : List Cond := .code yX0_closeAndEmpty cX0_closeAndEmpty 4 (some .int) :: ((wsX0_closeAndEmpty_r1 ++ (wsX0_closeAndEmpty_r2 ++ wsX0_closeAndEmpty_r3)) ++ wsX00)
def wsX0_closeServer_r1 : List Cond := [Cond.fieldLink RX0 34 "EvenLoads$Cluster" "openServers" "I", Cond.fieldLink RX0 43 "EvenLoads$Cluster" "budget" "I", Cond.methodLink RX0 60 yX0_hasServer, Cond.instanceMethod yX0_hasServer, Cond.selects RX0 yX0_hasServer yX0_hasServer, Cond.initialized RX0, Cond.code yX0_hasServer cX0_hasServer 2 (some .boolean), Cond.fieldLink RX0 30 "EvenLoads$Cluster" "servers" "I", Cond.methodLink RX0 64 yX0_isOpen, Cond.instanceMethod yX0_isOpen, Cond.selects RX0 yX0_isOpen yX0_isOpen, Cond.code yX0_isOpen cX0_isOpen 2 (some .boolean), Cond.fieldLink RX0 27 "EvenLoads$Cluster" "opened" "[I", Cond.static yX4_at, Cond.initialized RX4, Cond.code yX4_at cX4_at 2 (some .int), Cond.methodLink RX0 92 yX0_priceOfAll, Cond.instanceMethod yX0_priceOfAll, Cond.selects RX0 yX0_priceOfAll yX0_priceOfAll, Cond.code yX0_priceOfAll cX0_priceOfAll 4 (some .int), Cond.fieldLink RX0 37 "EvenLoads$Cluster" "jobs" "I", Cond.fieldLink RX0 18 "EvenLoads$Cluster" "places" "[I", Cond.fieldLink RX0 15 "EvenLoads$Cluster" "prices" "[I", Cond.methodLink RX0 96 yX0_closeAndEmpty]
def wsX0_closeServer_r2 : List Cond := [Cond.instanceMethod yX0_closeAndEmpty, Cond.selects RX0 yX0_closeAndEmpty yX0_closeAndEmpty, Cond.code yX0_closeAndEmpty cX0_closeAndEmpty 4 (some .int), Cond.static yX4_put, Cond.code yX4_put cX4_put 3 none, Cond.methodLink RX0 99 yX0_jobsOn, Cond.instanceMethod yX0_jobsOn, Cond.selects RX0 yX0_jobsOn yX0_jobsOn, Cond.code yX0_jobsOn cX0_jobsOn 4 (some .int), Cond.methodLink RX0 102 yJ6_bitCount_0f7a4, Cond.static yJ6_bitCount_0f7a4, Cond.initialized RJ6, Cond.code yJ6_bitCount_0f7a4 cJ6_bitCount_0f7a4 1 (some .int), Cond.constant RJ6 265 (1431655765), Cond.constant RJ6 266 (858993459), Cond.constant RJ6 267 (252645135), Cond.methodLink RX0 107 yX0_leavingJob, Cond.instanceMethod yX0_leavingJob, Cond.selects RX0 yX0_leavingJob yX0_leavingJob, Cond.code yX0_leavingJob cX0_leavingJob 4 (some .int), Cond.methodLink RX0 118 yX0_jobsLeavingBefore, Cond.instanceMethod yX0_jobsLeavingBefore, Cond.selects RX0 yX0_jobsLeavingBefore yX0_jobsLeavingBefore, Cond.code yX0_jobsLeavingBefore cX0_jobsLeavingBefore 4 (some .int)]
def wsX0_closeServer_r3 : List Cond := [Cond.methodLink RX0 121 yX0_leavesBefore, Cond.instanceMethod yX0_leavesBefore, Cond.selects RX0 yX0_leavesBefore yX0_leavesBefore, Cond.code yX0_leavesBefore cX0_leavesBefore 3 (some .boolean), Cond.fieldLink RX0 9 "EvenLoads$Cluster" "sizes" "[I", Cond.methodLink RX0 111 yX0_emptiestServer, Cond.instanceMethod yX0_emptiestServer, Cond.selects RX0 yX0_emptiestServer yX0_emptiestServer, Cond.code yX0_emptiestServer cX0_emptiestServer 4 (some .int), Cond.fieldLink RX0 24 "EvenLoads$Cluster" "loads" "[I", Cond.methodLink RX0 81 yX0_takeTo, Cond.instanceMethod yX0_takeTo, Cond.selects RX0 yX0_takeTo yX0_takeTo, Cond.code yX0_takeTo cX0_takeTo 3 none, Cond.fieldLink RX0 21 "EvenLoads$Cluster" "moved" "[I", Cond.fieldLink RX0 49 "EvenLoads$Cluster" "moves" "I", Cond.methodLink RX0 114 yX0_shiftLoad, Cond.instanceMethod yX0_shiftLoad, Cond.selects RX0 yX0_shiftLoad yX0_shiftLoad, Cond.code yX0_shiftLoad cX0_shiftLoad 4 none]
def wsX0_closeServer : List Cond := .code yX0_closeServer cX0_closeServer 2 (some .int) :: ((wsX0_closeServer_r1 ++ (wsX0_closeServer_r2 ++ wsX0_closeServer_r3)) ++ wsX00)
def wsX0_openServer : List Cond := .code yX0_openServer cX0_openServer 2 (some .int) :: ([.fieldLink RX0 27 "EvenLoads$Cluster" "opened" "[I", .fieldLink RX0 34 "EvenLoads$Cluster" "openServers" "I", .methodLink RX0 60 yX0_hasServer, .instanceMethod yX0_hasServer, .selects RX0 yX0_hasServer yX0_hasServer, .initialized RX0, .code yX0_hasServer cX0_hasServer 2 (some .boolean), .fieldLink RX0 30 "EvenLoads$Cluster" "servers" "I", .methodLink RX0 64 yX0_isOpen, .instanceMethod yX0_isOpen, .selects RX0 yX0_isOpen yX0_isOpen, .code yX0_isOpen cX0_isOpen 2 (some .boolean), .static yX4_at, .initialized RX4, .code yX4_at cX4_at 2 (some .int), .static yX4_put, .code yX4_put cX4_put 3 none] ++ wsX00)
def wsX0_finishedJobs : List Cond := .code yX0_finishedJobs cX0_finishedJobs 3 (some .int) :: ([.fieldLink RX0 37 "EvenLoads$Cluster" "jobs" "I", .methodLink RX0 74 yX0_isFinished, .instanceMethod yX0_isFinished, .selects RX0 yX0_isFinished yX0_isFinished, .initialized RX0, .code yX0_isFinished cX0_isFinished 2 (some .boolean), .fieldLink RX0 18 "EvenLoads$Cluster" "places" "[I", .static yX4_at, .initialized RX4, .code yX4_at cX4_at 2 (some .int)] ++ wsX00)
def wsX0_isEven_r1 : List Cond := [Cond.methodLink RX0 85 yX0_greatestLoad, Cond.instanceMethod yX0_greatestLoad, Cond.selects RX0 yX0_greatestLoad yX0_greatestLoad, Cond.initialized RX0, Cond.code yX0_greatestLoad cX0_greatestLoad 1 (some .int), Cond.fieldLink RX0 24 "EvenLoads$Cluster" "loads" "[I", Cond.methodLink RX0 124 yX0_fullestServer, Cond.instanceMethod yX0_fullestServer, Cond.selects RX0 yX0_fullestServer yX0_fullestServer, Cond.code yX0_fullestServer cX0_fullestServer 4 (some .int), Cond.fieldLink RX0 30 "EvenLoads$Cluster" "servers" "I", Cond.fieldLink RX0 27 "EvenLoads$Cluster" "opened" "[I", Cond.static yX4_at, Cond.initialized RX4, Cond.code yX4_at cX4_at 2 (some .int), Cond.methodLink RX0 77 yX0_target, Cond.instanceMethod yX0_target, Cond.selects RX0 yX0_target yX0_target, Cond.code yX0_target cX0_target 1 (some .int), Cond.fieldLink RX0 46 "EvenLoads$Cluster" "factor" "I", Cond.methodLink RX0 132 yX0_bound, Cond.instanceMethod yX0_bound, Cond.selects RX0 yX0_bound yX0_bound, Cond.code yX0_bound cX0_bound 3 (some .int)]
def wsX0_isEven_r2 : List Cond := [Cond.fieldLink RX0 37 "EvenLoads$Cluster" "jobs" "I", Cond.fieldLink RX0 18 "EvenLoads$Cluster" "places" "[I", Cond.fieldLink RX0 9 "EvenLoads$Cluster" "sizes" "[I", Cond.methodLink RX0 127 Lib.Math.max.name, Cond.static Lib.Math.max.name, Cond.initialized "java/lang/Math", Cond.code Lib.Math.max.name Lib.Math.max.code 2 (some .int), Cond.fieldLink RX0 34 "EvenLoads$Cluster" "openServers" "I", Cond.fieldLink RX0 40 "EvenLoads$Cluster" "sum" "I"]
def wsX0_isEven : List Cond := .code yX0_isEven cX0_isEven 1 (some .boolean) :: ((wsX0_isEven_r1 ++ wsX0_isEven_r2) ++ wsX00)
def wsX0_serversAbove : List Cond := .code yX0_serversAbove cX0_serversAbove 4 (some .int) :: ([.fieldLink RX0 30 "EvenLoads$Cluster" "servers" "I", .fieldLink RX0 24 "EvenLoads$Cluster" "loads" "[I", .static yX4_at, .initialized RX4, .code yX4_at cX4_at 2 (some .int)] ++ wsX00)
def wsX1_init_r1 : List Cond := [Cond.methodLink RX1 3 objectInit, Cond.instanceMethod objectInit, Cond.code objectInit ⟨#[0xb1]⟩ 1 none, Cond.classLink RX1 9 RX0, Cond.fieldLink RX1 11 "EvenLoads$History" "states" "[LEvenLoads$Cluster;", Cond.fieldLink RX1 17 "EvenLoads$History" "depth" "I", Cond.fieldLink RX1 21 "EvenLoads$History" "free" "I", Cond.instantiable RX0 13, Cond.initialized RX0, Cond.instanceMethod yX0_init, Cond.code yX0_init cX0_init 1 none, Cond.methodLink RX0 3 objectInit, Cond.arrayClass .int, Cond.fieldLink RX0 9 "EvenLoads$Cluster" "sizes" "[I", Cond.fieldLink RX0 15 "EvenLoads$Cluster" "prices" "[I", Cond.fieldLink RX0 18 "EvenLoads$Cluster" "places" "[I", Cond.fieldLink RX0 21 "EvenLoads$Cluster" "moved" "[I", Cond.fieldLink RX0 24 "EvenLoads$Cluster" "loads" "[I", Cond.fieldLink RX0 27 "EvenLoads$Cluster" "opened" "[I", Cond.fieldLink RX0 30 "EvenLoads$Cluster" "servers" "I", Cond.fieldLink RX0 34 "EvenLoads$Cluster" "openServers" "I", Cond.fieldLink RX0 37 "EvenLoads$Cluster" "jobs" "I", Cond.fieldLink RX0 40 "EvenLoads$Cluster" "sum" "I", Cond.fieldLink RX0 43 "EvenLoads$Cluster" "budget" "I"]
def wsX1_init_r2 : List Cond := [Cond.fieldLink RX0 46 "EvenLoads$Cluster" "factor" "I", Cond.fieldLink RX0 49 "EvenLoads$Cluster" "moves" "I"]
def wsX1_init : List Cond := .code yX1_init cX1_init 2 none :: ((wsX1_init_r1 ++ wsX1_init_r2) ++ wsX10 ++ wsX00)
def wsX1_stateAt : List Cond := .code yX1_stateAt cX1_stateAt 2 (some (.object "EvenLoads$Cluster")) :: ([.fieldLink RX1 11 "EvenLoads$History" "states" "[LEvenLoads$Cluster;"] ++ wsX10)
def wsX1_keep_r1 : List Cond := [Cond.fieldLink RX1 21 "EvenLoads$History" "free" "I", Cond.fieldLink RX1 17 "EvenLoads$History" "depth" "I", Cond.methodLink RX1 33 Lib.Math.min.name, Cond.static Lib.Math.min.name, Cond.initialized "java/lang/Math", Cond.code Lib.Math.min.name Lib.Math.min.code 2 (some .int), Cond.methodLink RX1 25 yX1_stateAt, Cond.instanceMethod yX1_stateAt, Cond.selects RX1 yX1_stateAt yX1_stateAt, Cond.initialized RX1, Cond.code yX1_stateAt cX1_stateAt 2 (some (.object "EvenLoads$Cluster")), Cond.fieldLink RX1 11 "EvenLoads$History" "states" "[LEvenLoads$Cluster;", Cond.methodLink RX1 29 yX0_copyFrom, Cond.instanceMethod yX0_copyFrom, Cond.selects RX0 yX0_copyFrom yX0_copyFrom, Cond.initialized RX0, Cond.code yX0_copyFrom cX0_copyFrom 2 none, Cond.fieldLink RX0 9 "EvenLoads$Cluster" "sizes" "[I", Cond.fieldLink RX0 15 "EvenLoads$Cluster" "prices" "[I", Cond.fieldLink RX0 18 "EvenLoads$Cluster" "places" "[I", Cond.fieldLink RX0 21 "EvenLoads$Cluster" "moved" "[I", Cond.fieldLink RX0 24 "EvenLoads$Cluster" "loads" "[I", Cond.fieldLink RX0 27 "EvenLoads$Cluster" "opened" "[I", Cond.fieldLink RX0 30 "EvenLoads$Cluster" "servers" "I"]
def wsX1_keep_r2 : List Cond := [Cond.fieldLink RX0 34 "EvenLoads$Cluster" "openServers" "I", Cond.fieldLink RX0 37 "EvenLoads$Cluster" "jobs" "I", Cond.fieldLink RX0 40 "EvenLoads$Cluster" "sum" "I", Cond.fieldLink RX0 43 "EvenLoads$Cluster" "budget" "I", Cond.fieldLink RX0 46 "EvenLoads$Cluster" "factor" "I", Cond.fieldLink RX0 49 "EvenLoads$Cluster" "moves" "I", Cond.static yX4_copyRow, Cond.initialized RX4, Cond.code yX4_copyRow cX4_copyRow 2 none, Cond.methodLink RX4 244 Lib.Math.min.name, Cond.methodLink RX4 249 arraycopyName, Cond.native arraycopyName, Cond.static arraycopyName, Cond.initialized "java/lang/System"]
def wsX1_keep : List Cond := .code yX1_keep cX1_keep 3 none :: ((wsX1_keep_r1 ++ wsX1_keep_r2) ++ wsX10 ++ wsX00)
def wsX1_takeLatest_r1 : List Cond := [Cond.fieldLink RX1 21 "EvenLoads$History" "free" "I", Cond.fieldLink RX1 17 "EvenLoads$History" "depth" "I", Cond.methodLink RX1 25 yX1_stateAt, Cond.instanceMethod yX1_stateAt, Cond.selects RX1 yX1_stateAt yX1_stateAt, Cond.initialized RX1, Cond.code yX1_stateAt cX1_stateAt 2 (some (.object "EvenLoads$Cluster")), Cond.fieldLink RX1 11 "EvenLoads$History" "states" "[LEvenLoads$Cluster;", Cond.methodLink RX1 29 yX0_copyFrom, Cond.instanceMethod yX0_copyFrom, Cond.selects RX0 yX0_copyFrom yX0_copyFrom, Cond.initialized RX0, Cond.code yX0_copyFrom cX0_copyFrom 2 none, Cond.fieldLink RX0 9 "EvenLoads$Cluster" "sizes" "[I", Cond.fieldLink RX0 15 "EvenLoads$Cluster" "prices" "[I", Cond.fieldLink RX0 18 "EvenLoads$Cluster" "places" "[I", Cond.fieldLink RX0 21 "EvenLoads$Cluster" "moved" "[I", Cond.fieldLink RX0 24 "EvenLoads$Cluster" "loads" "[I", Cond.fieldLink RX0 27 "EvenLoads$Cluster" "opened" "[I", Cond.fieldLink RX0 30 "EvenLoads$Cluster" "servers" "I", Cond.fieldLink RX0 34 "EvenLoads$Cluster" "openServers" "I", Cond.fieldLink RX0 37 "EvenLoads$Cluster" "jobs" "I", Cond.fieldLink RX0 40 "EvenLoads$Cluster" "sum" "I", Cond.fieldLink RX0 43 "EvenLoads$Cluster" "budget" "I"]
def wsX1_takeLatest_r2 : List Cond := [Cond.fieldLink RX0 46 "EvenLoads$Cluster" "factor" "I", Cond.fieldLink RX0 49 "EvenLoads$Cluster" "moves" "I", Cond.static yX4_copyRow, Cond.initialized RX4, Cond.code yX4_copyRow cX4_copyRow 2 none, Cond.methodLink RX4 244 Lib.Math.min.name, Cond.static Lib.Math.min.name, Cond.initialized "java/lang/Math", Cond.code Lib.Math.min.name Lib.Math.min.code 2 (some .int), Cond.methodLink RX4 249 arraycopyName, Cond.native arraycopyName, Cond.static arraycopyName, Cond.initialized "java/lang/System"]
def wsX1_takeLatest : List Cond := .code yX1_takeLatest cX1_takeLatest 4 (some .boolean) :: ((wsX1_takeLatest_r1 ++ wsX1_takeLatest_r2) ++ wsX10 ++ wsX00)
def wsX2_init : List Cond := .code yX2_init cX2_init 1 none :: ([.methodLink RX2 3 objectInit, .instanceMethod objectInit, .code objectInit ⟨#[0xb1]⟩ 1 none, .arrayClass .int, .fieldLink RX2 9 "EvenLoads$Program" "signs" "[I", .fieldLink RX2 15 "EvenLoads$Program" "length" "I", .fieldLink RX2 19 "EvenLoads$Program" "letter" "I", .fieldLink RX2 22 "EvenLoads$Program" "letterPlace" "I", .fieldLink RX2 25 "EvenLoads$Program" "isOrderRead" "Z", .fieldLink RX2 29 "EvenLoads$Program" "numbers" "[I", .fieldLink RX2 32 "EvenLoads$Program" "begun" "I", .fieldLink RX2 35 "EvenLoads$Program" "digits" "I"] ++ wsX20)
def wsX2_addSign : List Cond := .code yX2_addSign cX2_addSign 2 (some .int) :: ([.fieldLink RX2 15 "EvenLoads$Program" "length" "I", .fieldLink RX2 9 "EvenLoads$Program" "signs" "[I", .static yX4_put, .initialized RX4, .code yX4_put cX4_put 3 none] ++ wsX20)
def wsX2_startReading : List Cond := .code yX2_startReading cX2_startReading 1 none :: ([.fieldLink RX2 19 "EvenLoads$Program" "letter" "I", .fieldLink RX2 25 "EvenLoads$Program" "isOrderRead" "Z"] ++ wsX20)
def wsX2_isInOrder : List Cond := .code yX2_isInOrder cX2_isInOrder 1 (some .boolean) :: ([.fieldLink RX2 19 "EvenLoads$Program" "letter" "I", .fieldLink RX2 25 "EvenLoads$Program" "isOrderRead" "Z"] ++ wsX20)
def wsX2_numbersOf : List Cond := .code yX2_numbersOf cX2_numbersOf 1 (some .int) :: ([])
def wsX2_readLetter : List Cond := .code yX2_readLetter cX2_readLetter 3 (some .boolean) :: ([.fieldLink RX2 19 "EvenLoads$Program" "letter" "I", .fieldLink RX2 22 "EvenLoads$Program" "letterPlace" "I", .fieldLink RX2 32 "EvenLoads$Program" "begun" "I", .fieldLink RX2 35 "EvenLoads$Program" "digits" "I", .methodLink RX2 53 yX2_numbersOf, .static yX2_numbersOf, .initialized RX2, .code yX2_numbersOf cX2_numbersOf 1 (some .int)] ++ wsX20)
def wsX2_beginNumber : List Cond := .code yX2_beginNumber cX2_beginNumber 2 (some .boolean) :: ([.fieldLink RX2 32 "EvenLoads$Program" "begun" "I", .fieldLink RX2 19 "EvenLoads$Program" "letter" "I", .fieldLink RX2 29 "EvenLoads$Program" "numbers" "[I", .fieldLink RX2 35 "EvenLoads$Program" "digits" "I", .methodLink RX2 53 yX2_numbersOf, .static yX2_numbersOf, .initialized RX2, .code yX2_numbersOf cX2_numbersOf 1 (some .int), .static yX4_put, .initialized RX4, .code yX4_put cX4_put 3 none] ++ wsX20)
def wsX2_readDigit : List Cond := .code yX2_readDigit cX2_readDigit 3 (some .boolean) :: ([.fieldLink RX2 35 "EvenLoads$Program" "digits" "I", .fieldLink RX2 29 "EvenLoads$Program" "numbers" "[I", .fieldLink RX2 32 "EvenLoads$Program" "begun" "I", .methodLink RX2 61 yX2_beginNumber, .instanceMethod yX2_beginNumber, .selects RX2 yX2_beginNumber yX2_beginNumber, .initialized RX2, .code yX2_beginNumber cX2_beginNumber 2 (some .boolean), .fieldLink RX2 19 "EvenLoads$Program" "letter" "I", .methodLink RX2 53 yX2_numbersOf, .static yX2_numbersOf, .code yX2_numbersOf cX2_numbersOf 1 (some .int), .static yX4_put, .initialized RX4, .code yX4_put cX4_put 3 none, .static yX4_at, .code yX4_at cX4_at 2 (some .int)] ++ wsX20)
def wsX2_read_r1 : List Cond := [Cond.fieldLink RX2 9 "EvenLoads$Program" "signs" "[I", Cond.fieldLink RX2 25 "EvenLoads$Program" "isOrderRead" "Z", Cond.fieldLink RX2 35 "EvenLoads$Program" "digits" "I", Cond.fieldLink RX2 19 "EvenLoads$Program" "letter" "I", Cond.fieldLink RX2 32 "EvenLoads$Program" "begun" "I", Cond.static yX4_at, Cond.initialized RX4, Cond.code yX4_at cX4_at 2 (some .int), Cond.methodLink RX2 46 yX2_startReading, Cond.instanceMethod yX2_startReading, Cond.selects RX2 yX2_startReading yX2_startReading, Cond.initialized RX2, Cond.code yX2_startReading cX2_startReading 1 none, Cond.methodLink RX2 49 yX2_readLetter, Cond.instanceMethod yX2_readLetter, Cond.selects RX2 yX2_readLetter yX2_readLetter, Cond.code yX2_readLetter cX2_readLetter 3 (some .boolean), Cond.fieldLink RX2 22 "EvenLoads$Program" "letterPlace" "I", Cond.methodLink RX2 53 yX2_numbersOf, Cond.static yX2_numbersOf, Cond.code yX2_numbersOf cX2_numbersOf 1 (some .int), Cond.methodLink RX2 57 yX2_readDigit, Cond.instanceMethod yX2_readDigit, Cond.selects RX2 yX2_readDigit yX2_readDigit]
def wsX2_read_r2 : List Cond := [Cond.code yX2_readDigit cX2_readDigit 3 (some .boolean), Cond.fieldLink RX2 29 "EvenLoads$Program" "numbers" "[I", Cond.methodLink RX2 61 yX2_beginNumber, Cond.instanceMethod yX2_beginNumber, Cond.selects RX2 yX2_beginNumber yX2_beginNumber, Cond.code yX2_beginNumber cX2_beginNumber 2 (some .boolean), Cond.static yX4_put, Cond.code yX4_put cX4_put 3 none]
def wsX2_read : List Cond := .code yX2_read cX2_read 3 (some .boolean) :: ((wsX2_read_r1 ++ wsX2_read_r2) ++ wsX20)
def wsX3_init : List Cond := .code yX3_init cX3_init 1 none :: ([.methodLink RX3 3 objectInit, .instanceMethod objectInit, .code objectInit ⟨#[0xb1]⟩ 1 none, .fieldLink RX3 9 "EvenLoads$Step" "job" "I", .fieldLink RX3 15 "EvenLoads$Step" "goal" "I", .fieldLink RX3 18 "EvenLoads$Step" "other" "I", .fieldLink RX3 21 "EvenLoads$Step" "price" "I", .fieldLink RX3 24 "EvenLoads$Step" "greater" "I"] ++ wsX30)
def wsX3_startBelow : List Cond := .code yX3_startBelow cX3_startBelow 2 none :: ([.fieldLink RX3 9 "EvenLoads$Step" "job" "I", .fieldLink RX3 24 "EvenLoads$Step" "greater" "I"] ++ wsX30)
def wsX3_offer : List Cond := .code yX3_offer cX3_offer 7 none :: ([.fieldLink RX3 9 "EvenLoads$Step" "job" "I", .fieldLink RX3 24 "EvenLoads$Step" "greater" "I", .fieldLink RX3 21 "EvenLoads$Step" "price" "I", .fieldLink RX3 15 "EvenLoads$Step" "goal" "I", .fieldLink RX3 18 "EvenLoads$Step" "other" "I"] ++ wsX30)
def wsX3_chooseMove : List Cond := .code yX3_chooseMove cX3_chooseMove 8 none :: ([.methodLink RX3 85 Lib.Math.max.name, .static Lib.Math.max.name, .initialized "java/lang/Math", .code Lib.Math.max.name Lib.Math.max.code 2 (some .int), .static yX4_at, .initialized RX4, .code yX4_at cX4_at 2 (some .int), .methodLink RX3 69 yX3_startBelow, .instanceMethod yX3_startBelow, .selects RX3 yX3_startBelow yX3_startBelow, .initialized RX3, .code yX3_startBelow cX3_startBelow 2 none, .fieldLink RX3 9 "EvenLoads$Step" "job" "I", .fieldLink RX3 24 "EvenLoads$Step" "greater" "I", .methodLink RX3 94 yX3_offer, .instanceMethod yX3_offer, .selects RX3 yX3_offer yX3_offer, .code yX3_offer cX3_offer 7 none, .fieldLink RX3 21 "EvenLoads$Step" "price" "I", .fieldLink RX3 15 "EvenLoads$Step" "goal" "I", .fieldLink RX3 18 "EvenLoads$Step" "other" "I"] ++ wsX00 ++ wsX30)
def wsX3_isPossible : List Cond := .code yX3_isPossible cX3_isPossible 2 (some .boolean) :: ([.fieldLink RX3 9 "EvenLoads$Step" "job" "I", .fieldLink RX3 21 "EvenLoads$Step" "price" "I"] ++ wsX30 ++ wsX00)
def wsX3_chooseExchange : List Cond := .code yX3_chooseExchange cX3_chooseExchange 10 none :: ([.methodLink RX3 85 Lib.Math.max.name, .static Lib.Math.max.name, .initialized "java/lang/Math", .code Lib.Math.max.name Lib.Math.max.code 2 (some .int), .static yX4_at, .initialized RX4, .code yX4_at cX4_at 2 (some .int), .methodLink RX3 69 yX3_startBelow, .instanceMethod yX3_startBelow, .selects RX3 yX3_startBelow yX3_startBelow, .initialized RX3, .code yX3_startBelow cX3_startBelow 2 none, .fieldLink RX3 9 "EvenLoads$Step" "job" "I", .fieldLink RX3 24 "EvenLoads$Step" "greater" "I", .methodLink RX3 94 yX3_offer, .instanceMethod yX3_offer, .selects RX3 yX3_offer yX3_offer, .code yX3_offer cX3_offer 7 none, .fieldLink RX3 21 "EvenLoads$Step" "price" "I", .fieldLink RX3 15 "EvenLoads$Step" "goal" "I", .fieldLink RX3 18 "EvenLoads$Step" "other" "I"] ++ wsX00 ++ wsX30)
def wsX3_choose_r1 : List Cond := [Cond.methodLink RX3 49 yX0_fullestServer, Cond.instanceMethod yX0_fullestServer, Cond.selects RX0 yX0_fullestServer yX0_fullestServer, Cond.initialized RX0, Cond.code yX0_fullestServer cX0_fullestServer 4 (some .int), Cond.fieldLink RX0 30 "EvenLoads$Cluster" "servers" "I", Cond.fieldLink RX0 24 "EvenLoads$Cluster" "loads" "[I", Cond.fieldLink RX0 27 "EvenLoads$Cluster" "opened" "[I", Cond.static yX4_at, Cond.initialized RX4, Cond.code yX4_at cX4_at 2 (some .int), Cond.methodLink RX3 55 yX3_chooseMove, Cond.instanceMethod yX3_chooseMove, Cond.selects RX3 yX3_chooseMove yX3_chooseMove, Cond.initialized RX3, Cond.code yX3_chooseMove cX3_chooseMove 8 none, Cond.methodLink RX3 85 Lib.Math.max.name, Cond.static Lib.Math.max.name, Cond.initialized "java/lang/Math", Cond.code Lib.Math.max.name Lib.Math.max.code 2 (some .int), Cond.methodLink RX3 69 yX3_startBelow, Cond.instanceMethod yX3_startBelow, Cond.selects RX3 yX3_startBelow yX3_startBelow, Cond.code yX3_startBelow cX3_startBelow 2 none]
def wsX3_choose_r2 : List Cond := [Cond.fieldLink RX3 9 "EvenLoads$Step" "job" "I", Cond.fieldLink RX3 24 "EvenLoads$Step" "greater" "I", Cond.methodLink RX3 94 yX3_offer, Cond.instanceMethod yX3_offer, Cond.selects RX3 yX3_offer yX3_offer, Cond.code yX3_offer cX3_offer 7 none, Cond.fieldLink RX3 21 "EvenLoads$Step" "price" "I", Cond.fieldLink RX3 15 "EvenLoads$Step" "goal" "I", Cond.fieldLink RX3 18 "EvenLoads$Step" "other" "I", Cond.methodLink RX3 59 yX3_isPossible, Cond.instanceMethod yX3_isPossible, Cond.selects RX3 yX3_isPossible yX3_isPossible, Cond.code yX3_isPossible cX3_isPossible 2 (some .boolean), Cond.methodLink RX3 63 yX3_chooseExchange, Cond.instanceMethod yX3_chooseExchange, Cond.selects RX3 yX3_chooseExchange yX3_chooseExchange, Cond.code yX3_chooseExchange cX3_chooseExchange 10 none]
def wsX3_choose : List Cond := .code yX3_choose cX3_choose 4 (some .boolean) :: ((wsX3_choose_r1 ++ wsX3_choose_r2) ++ wsX00 ++ wsX30)
def wsX3_walk_r1 : List Cond := [Cond.fieldLink RX3 9 "EvenLoads$Step" "job" "I", Cond.fieldLink RX3 15 "EvenLoads$Step" "goal" "I", Cond.fieldLink RX3 18 "EvenLoads$Step" "other" "I", Cond.methodLink RX3 27 yX0_target, Cond.instanceMethod yX0_target, Cond.selects RX0 yX0_target yX0_target, Cond.initialized RX0, Cond.code yX0_target cX0_target 1 (some .int), Cond.fieldLink RX0 46 "EvenLoads$Cluster" "factor" "I", Cond.methodLink RX0 132 yX0_bound, Cond.instanceMethod yX0_bound, Cond.selects RX0 yX0_bound yX0_bound, Cond.code yX0_bound cX0_bound 3 (some .int), Cond.fieldLink RX0 37 "EvenLoads$Cluster" "jobs" "I", Cond.fieldLink RX0 18 "EvenLoads$Cluster" "places" "[I", Cond.fieldLink RX0 9 "EvenLoads$Cluster" "sizes" "[I", Cond.methodLink RX0 127 Lib.Math.max.name, Cond.static Lib.Math.max.name, Cond.initialized "java/lang/Math", Cond.code Lib.Math.max.name Lib.Math.max.code 2 (some .int), Cond.fieldLink RX0 34 "EvenLoads$Cluster" "openServers" "I", Cond.fieldLink RX0 40 "EvenLoads$Cluster" "sum" "I", Cond.static yX4_at, Cond.initialized RX4]
def wsX3_walk_r2 : List Cond := [Cond.code yX4_at cX4_at 2 (some .int), Cond.methodLink RX3 33 yX3_choose, Cond.instanceMethod yX3_choose, Cond.selects RX3 yX3_choose yX3_choose, Cond.initialized RX3, Cond.code yX3_choose cX3_choose 4 (some .boolean), Cond.methodLink RX3 49 yX0_fullestServer, Cond.instanceMethod yX0_fullestServer, Cond.selects RX0 yX0_fullestServer yX0_fullestServer, Cond.code yX0_fullestServer cX0_fullestServer 4 (some .int), Cond.fieldLink RX0 30 "EvenLoads$Cluster" "servers" "I", Cond.fieldLink RX0 24 "EvenLoads$Cluster" "loads" "[I", Cond.fieldLink RX0 27 "EvenLoads$Cluster" "opened" "[I", Cond.methodLink RX3 55 yX3_chooseMove, Cond.instanceMethod yX3_chooseMove, Cond.selects RX3 yX3_chooseMove yX3_chooseMove, Cond.code yX3_chooseMove cX3_chooseMove 8 none, Cond.methodLink RX3 85 Lib.Math.max.name, Cond.methodLink RX3 69 yX3_startBelow, Cond.instanceMethod yX3_startBelow, Cond.selects RX3 yX3_startBelow yX3_startBelow, Cond.code yX3_startBelow cX3_startBelow 2 none, Cond.fieldLink RX3 24 "EvenLoads$Step" "greater" "I", Cond.methodLink RX3 94 yX3_offer]
def wsX3_walk_r3 : List Cond := [Cond.instanceMethod yX3_offer, Cond.selects RX3 yX3_offer yX3_offer, Cond.code yX3_offer cX3_offer 7 none, Cond.fieldLink RX3 21 "EvenLoads$Step" "price" "I", Cond.methodLink RX3 59 yX3_isPossible, Cond.instanceMethod yX3_isPossible, Cond.selects RX3 yX3_isPossible yX3_isPossible, Cond.code yX3_isPossible cX3_isPossible 2 (some .boolean), Cond.methodLink RX3 63 yX3_chooseExchange, Cond.instanceMethod yX3_chooseExchange, Cond.selects RX3 yX3_chooseExchange yX3_chooseExchange, Cond.code yX3_chooseExchange cX3_chooseExchange 10 none, Cond.methodLink RX3 45 yX0_takeTo, Cond.instanceMethod yX0_takeTo, Cond.selects RX0 yX0_takeTo yX0_takeTo, Cond.code yX0_takeTo cX0_takeTo 3 none, Cond.fieldLink RX0 21 "EvenLoads$Cluster" "moved" "[I", Cond.fieldLink RX0 49 "EvenLoads$Cluster" "moves" "I", Cond.fieldLink RX0 43 "EvenLoads$Cluster" "budget" "I", Cond.fieldLink RX0 15 "EvenLoads$Cluster" "prices" "[I", Cond.methodLink RX0 114 yX0_shiftLoad, Cond.instanceMethod yX0_shiftLoad, Cond.selects RX0 yX0_shiftLoad yX0_shiftLoad, Cond.code yX0_shiftLoad cX0_shiftLoad 4 none]
def wsX3_walk_r4 : List Cond := [Cond.static yX4_put, Cond.code yX4_put cX4_put 3 none]
def wsX3_walk : List Cond := .code yX3_walk cX3_walk 6 (some .int) :: ((wsX3_walk_r1 ++ (wsX3_walk_r2 ++ (wsX3_walk_r3 ++ wsX3_walk_r4))) ++ wsX00 ++ wsX30)
def wsX4_init_r1 : List Cond := [Cond.methodLink RX4 1 objectInit, Cond.instanceMethod objectInit, Cond.code objectInit ⟨#[0xb1]⟩ 1 none, Cond.classLink RX4 7 RX0, Cond.instantiable RX0 13, Cond.initialized RX0, Cond.fieldLink RX4 10 "EvenLoads" "now" "LEvenLoads$Cluster;", Cond.fieldLink RX4 16 "EvenLoads" "before" "LEvenLoads$Cluster;", Cond.fieldLink RX4 19 "EvenLoads" "trial" "LEvenLoads$Cluster;", Cond.classLink RX4 22 RX1, Cond.instantiable RX1 3, Cond.initialized RX1, Cond.fieldLink RX4 25 "EvenLoads" "history" "LEvenLoads$History;", Cond.classLink RX4 29 RX3, Cond.instantiable RX3 5, Cond.initialized RX3, Cond.fieldLink RX4 32 "EvenLoads" "next" "LEvenLoads$Step;", Cond.classLink RX4 36 RX2, Cond.instantiable RX2 8, Cond.initialized RX2, Cond.fieldLink RX4 39 "EvenLoads" "program" "LEvenLoads$Program;", Cond.instanceMethod yX0_init, Cond.code yX0_init cX0_init 1 none, Cond.methodLink RX0 3 objectInit]
def wsX4_init_r2 : List Cond := [Cond.arrayClass .int, Cond.fieldLink RX0 9 "EvenLoads$Cluster" "sizes" "[I", Cond.fieldLink RX0 15 "EvenLoads$Cluster" "prices" "[I", Cond.fieldLink RX0 18 "EvenLoads$Cluster" "places" "[I", Cond.fieldLink RX0 21 "EvenLoads$Cluster" "moved" "[I", Cond.fieldLink RX0 24 "EvenLoads$Cluster" "loads" "[I", Cond.fieldLink RX0 27 "EvenLoads$Cluster" "opened" "[I", Cond.fieldLink RX0 30 "EvenLoads$Cluster" "servers" "I", Cond.fieldLink RX0 34 "EvenLoads$Cluster" "openServers" "I", Cond.fieldLink RX0 37 "EvenLoads$Cluster" "jobs" "I", Cond.fieldLink RX0 40 "EvenLoads$Cluster" "sum" "I", Cond.fieldLink RX0 43 "EvenLoads$Cluster" "budget" "I", Cond.fieldLink RX0 46 "EvenLoads$Cluster" "factor" "I", Cond.fieldLink RX0 49 "EvenLoads$Cluster" "moves" "I", Cond.methodLink RX4 24 yX1_init, Cond.instanceMethod yX1_init, Cond.code yX1_init cX1_init 2 none, Cond.methodLink RX1 3 objectInit, Cond.classLink RX1 9 RX0, Cond.fieldLink RX1 11 "EvenLoads$History" "states" "[LEvenLoads$Cluster;", Cond.fieldLink RX1 17 "EvenLoads$History" "depth" "I", Cond.fieldLink RX1 21 "EvenLoads$History" "free" "I", Cond.instanceMethod yX3_init, Cond.code yX3_init cX3_init 1 none]
def wsX4_init_r3 : List Cond := [Cond.methodLink RX3 3 objectInit, Cond.fieldLink RX3 9 "EvenLoads$Step" "job" "I", Cond.fieldLink RX3 15 "EvenLoads$Step" "goal" "I", Cond.fieldLink RX3 18 "EvenLoads$Step" "other" "I", Cond.fieldLink RX3 21 "EvenLoads$Step" "price" "I", Cond.fieldLink RX3 24 "EvenLoads$Step" "greater" "I", Cond.instanceMethod yX2_init, Cond.code yX2_init cX2_init 1 none, Cond.methodLink RX2 3 objectInit, Cond.fieldLink RX2 9 "EvenLoads$Program" "signs" "[I", Cond.fieldLink RX2 15 "EvenLoads$Program" "length" "I", Cond.fieldLink RX2 19 "EvenLoads$Program" "letter" "I", Cond.fieldLink RX2 22 "EvenLoads$Program" "letterPlace" "I", Cond.fieldLink RX2 25 "EvenLoads$Program" "isOrderRead" "Z", Cond.fieldLink RX2 29 "EvenLoads$Program" "numbers" "[I", Cond.fieldLink RX2 32 "EvenLoads$Program" "begun" "I", Cond.fieldLink RX2 35 "EvenLoads$Program" "digits" "I"]
def wsX4_init : List Cond := .code yX4_init cX4_init 1 none :: ((wsX4_init_r1 ++ (wsX4_init_r2 ++ wsX4_init_r3)) ++ wsX00 ++ wsX40 ++ wsX10 ++ wsX30 ++ wsX20)
def wsX4_recorded_r1 : List Cond := [Cond.fieldLink RX4 25 "EvenLoads" "history" "LEvenLoads$History;", Cond.fieldLink RX4 16 "EvenLoads" "before" "LEvenLoads$Cluster;", Cond.methodLink RX4 209 yX1_keep, Cond.instanceMethod yX1_keep, Cond.selects RX1 yX1_keep yX1_keep, Cond.initialized RX1, Cond.code yX1_keep cX1_keep 3 none, Cond.fieldLink RX1 21 "EvenLoads$History" "free" "I", Cond.fieldLink RX1 17 "EvenLoads$History" "depth" "I", Cond.methodLink RX1 33 Lib.Math.min.name, Cond.static Lib.Math.min.name, Cond.initialized "java/lang/Math", Cond.code Lib.Math.min.name Lib.Math.min.code 2 (some .int), Cond.methodLink RX1 25 yX1_stateAt, Cond.instanceMethod yX1_stateAt, Cond.selects RX1 yX1_stateAt yX1_stateAt, Cond.code yX1_stateAt cX1_stateAt 2 (some (.object "EvenLoads$Cluster")), Cond.fieldLink RX1 11 "EvenLoads$History" "states" "[LEvenLoads$Cluster;", Cond.methodLink RX1 29 yX0_copyFrom, Cond.instanceMethod yX0_copyFrom, Cond.selects RX0 yX0_copyFrom yX0_copyFrom, Cond.initialized RX0, Cond.code yX0_copyFrom cX0_copyFrom 2 none, Cond.fieldLink RX0 9 "EvenLoads$Cluster" "sizes" "[I"]
def wsX4_recorded_r2 : List Cond := [Cond.fieldLink RX0 15 "EvenLoads$Cluster" "prices" "[I", Cond.fieldLink RX0 18 "EvenLoads$Cluster" "places" "[I", Cond.fieldLink RX0 21 "EvenLoads$Cluster" "moved" "[I", Cond.fieldLink RX0 24 "EvenLoads$Cluster" "loads" "[I", Cond.fieldLink RX0 27 "EvenLoads$Cluster" "opened" "[I", Cond.fieldLink RX0 30 "EvenLoads$Cluster" "servers" "I", Cond.fieldLink RX0 34 "EvenLoads$Cluster" "openServers" "I", Cond.fieldLink RX0 37 "EvenLoads$Cluster" "jobs" "I", Cond.fieldLink RX0 40 "EvenLoads$Cluster" "sum" "I", Cond.fieldLink RX0 43 "EvenLoads$Cluster" "budget" "I", Cond.fieldLink RX0 46 "EvenLoads$Cluster" "factor" "I", Cond.fieldLink RX0 49 "EvenLoads$Cluster" "moves" "I", Cond.static yX4_copyRow, Cond.initialized RX4, Cond.code yX4_copyRow cX4_copyRow 2 none, Cond.methodLink RX4 244 Lib.Math.min.name, Cond.methodLink RX4 249 arraycopyName, Cond.native arraycopyName, Cond.static arraycopyName, Cond.initialized "java/lang/System"]
def wsX4_recorded : List Cond := .code yX4_recorded cX4_recorded 2 (some .int) :: ((wsX4_recorded_r1 ++ wsX4_recorded_r2) ++ wsX40 ++ wsX10 ++ wsX00)
def wsX4_addServer_r1 : List Cond := [Cond.fieldLink RX4 16 "EvenLoads" "before" "LEvenLoads$Cluster;", Cond.fieldLink RX4 10 "EvenLoads" "now" "LEvenLoads$Cluster;", Cond.methodLink RX4 43 yX0_copyFrom, Cond.instanceMethod yX0_copyFrom, Cond.selects RX0 yX0_copyFrom yX0_copyFrom, Cond.initialized RX0, Cond.code yX0_copyFrom cX0_copyFrom 2 none, Cond.fieldLink RX0 9 "EvenLoads$Cluster" "sizes" "[I", Cond.fieldLink RX0 15 "EvenLoads$Cluster" "prices" "[I", Cond.fieldLink RX0 18 "EvenLoads$Cluster" "places" "[I", Cond.fieldLink RX0 21 "EvenLoads$Cluster" "moved" "[I", Cond.fieldLink RX0 24 "EvenLoads$Cluster" "loads" "[I", Cond.fieldLink RX0 27 "EvenLoads$Cluster" "opened" "[I", Cond.fieldLink RX0 30 "EvenLoads$Cluster" "servers" "I", Cond.fieldLink RX0 34 "EvenLoads$Cluster" "openServers" "I", Cond.fieldLink RX0 37 "EvenLoads$Cluster" "jobs" "I", Cond.fieldLink RX0 40 "EvenLoads$Cluster" "sum" "I", Cond.fieldLink RX0 43 "EvenLoads$Cluster" "budget" "I", Cond.fieldLink RX0 46 "EvenLoads$Cluster" "factor" "I", Cond.fieldLink RX0 49 "EvenLoads$Cluster" "moves" "I", Cond.static yX4_copyRow, Cond.initialized RX4, Cond.code yX4_copyRow cX4_copyRow 2 none, Cond.methodLink RX4 244 Lib.Math.min.name]
def wsX4_addServer_r2 : List Cond := [Cond.static Lib.Math.min.name, Cond.initialized "java/lang/Math", Cond.code Lib.Math.min.name Lib.Math.min.code 2 (some .int), Cond.methodLink RX4 249 arraycopyName, Cond.native arraycopyName, Cond.static arraycopyName, Cond.initialized "java/lang/System", Cond.methodLink RX4 47 yX0_newServer, Cond.instanceMethod yX0_newServer, Cond.selects RX0 yX0_newServer yX0_newServer, Cond.code yX0_newServer cX0_newServer 1 (some .int), Cond.static yX4_put, Cond.code yX4_put cX4_put 3 none, Cond.methodLink RX4 51 yX4_recorded, Cond.instanceMethod yX4_recorded, Cond.selects RX4 yX4_recorded yX4_recorded, Cond.code yX4_recorded cX4_recorded 2 (some .int), Cond.fieldLink RX4 25 "EvenLoads" "history" "LEvenLoads$History;", Cond.methodLink RX4 209 yX1_keep, Cond.instanceMethod yX1_keep, Cond.selects RX1 yX1_keep yX1_keep, Cond.initialized RX1, Cond.code yX1_keep cX1_keep 3 none, Cond.fieldLink RX1 21 "EvenLoads$History" "free" "I"]
def wsX4_addServer_r3 : List Cond := [Cond.fieldLink RX1 17 "EvenLoads$History" "depth" "I", Cond.methodLink RX1 33 Lib.Math.min.name, Cond.methodLink RX1 25 yX1_stateAt, Cond.instanceMethod yX1_stateAt, Cond.selects RX1 yX1_stateAt yX1_stateAt, Cond.code yX1_stateAt cX1_stateAt 2 (some (.object "EvenLoads$Cluster")), Cond.fieldLink RX1 11 "EvenLoads$History" "states" "[LEvenLoads$Cluster;", Cond.methodLink RX1 29 yX0_copyFrom]
def wsX4_addServer : List Cond := .code yX4_addServer cX4_addServer 1 (some .int) :: ((wsX4_addServer_r1 ++ (wsX4_addServer_r2 ++ wsX4_addServer_r3)) ++ wsX40 ++ wsX00 ++ wsX10)
def wsX4_add_r1 : List Cond := [Cond.fieldLink RX4 16 "EvenLoads" "before" "LEvenLoads$Cluster;", Cond.fieldLink RX4 10 "EvenLoads" "now" "LEvenLoads$Cluster;", Cond.methodLink RX4 43 yX0_copyFrom, Cond.instanceMethod yX0_copyFrom, Cond.selects RX0 yX0_copyFrom yX0_copyFrom, Cond.initialized RX0, Cond.code yX0_copyFrom cX0_copyFrom 2 none, Cond.fieldLink RX0 9 "EvenLoads$Cluster" "sizes" "[I", Cond.fieldLink RX0 15 "EvenLoads$Cluster" "prices" "[I", Cond.fieldLink RX0 18 "EvenLoads$Cluster" "places" "[I", Cond.fieldLink RX0 21 "EvenLoads$Cluster" "moved" "[I", Cond.fieldLink RX0 24 "EvenLoads$Cluster" "loads" "[I", Cond.fieldLink RX0 27 "EvenLoads$Cluster" "opened" "[I", Cond.fieldLink RX0 30 "EvenLoads$Cluster" "servers" "I", Cond.fieldLink RX0 34 "EvenLoads$Cluster" "openServers" "I", Cond.fieldLink RX0 37 "EvenLoads$Cluster" "jobs" "I", Cond.fieldLink RX0 40 "EvenLoads$Cluster" "sum" "I", Cond.fieldLink RX0 43 "EvenLoads$Cluster" "budget" "I", Cond.fieldLink RX0 46 "EvenLoads$Cluster" "factor" "I", Cond.fieldLink RX0 49 "EvenLoads$Cluster" "moves" "I", Cond.static yX4_copyRow, Cond.initialized RX4, Cond.code yX4_copyRow cX4_copyRow 2 none, Cond.methodLink RX4 244 Lib.Math.min.name]
def wsX4_add_r2 : List Cond := [Cond.static Lib.Math.min.name, Cond.initialized "java/lang/Math", Cond.code Lib.Math.min.name Lib.Math.min.code 2 (some .int), Cond.methodLink RX4 249 arraycopyName, Cond.native arraycopyName, Cond.static arraycopyName, Cond.initialized "java/lang/System", Cond.methodLink RX4 55 yX0_newJob, Cond.instanceMethod yX0_newJob, Cond.selects RX0 yX0_newJob yX0_newJob, Cond.code yX0_newJob cX0_newJob 6 (some .int), Cond.methodLink RX0 60 yX0_hasServer, Cond.instanceMethod yX0_hasServer, Cond.selects RX0 yX0_hasServer yX0_hasServer, Cond.code yX0_hasServer cX0_hasServer 2 (some .boolean), Cond.methodLink RX0 64 yX0_isOpen, Cond.instanceMethod yX0_isOpen, Cond.selects RX0 yX0_isOpen yX0_isOpen, Cond.code yX0_isOpen cX0_isOpen 2 (some .boolean), Cond.static yX4_at, Cond.code yX4_at cX4_at 2 (some .int), Cond.static yX4_put, Cond.code yX4_put cX4_put 3 none, Cond.methodLink RX4 51 yX4_recorded]
def wsX4_add_r3 : List Cond := [Cond.instanceMethod yX4_recorded, Cond.selects RX4 yX4_recorded yX4_recorded, Cond.code yX4_recorded cX4_recorded 2 (some .int), Cond.fieldLink RX4 25 "EvenLoads" "history" "LEvenLoads$History;", Cond.methodLink RX4 209 yX1_keep, Cond.instanceMethod yX1_keep, Cond.selects RX1 yX1_keep yX1_keep, Cond.initialized RX1, Cond.code yX1_keep cX1_keep 3 none, Cond.fieldLink RX1 21 "EvenLoads$History" "free" "I", Cond.fieldLink RX1 17 "EvenLoads$History" "depth" "I", Cond.methodLink RX1 33 Lib.Math.min.name, Cond.methodLink RX1 25 yX1_stateAt, Cond.instanceMethod yX1_stateAt, Cond.selects RX1 yX1_stateAt yX1_stateAt, Cond.code yX1_stateAt cX1_stateAt 2 (some (.object "EvenLoads$Cluster")), Cond.fieldLink RX1 11 "EvenLoads$History" "states" "[LEvenLoads$Cluster;", Cond.methodLink RX1 29 yX0_copyFrom]
def wsX4_add : List Cond := .code yX4_add cX4_add 4 (some .int) :: ((wsX4_add_r1 ++ (wsX4_add_r2 ++ wsX4_add_r3)) ++ wsX40 ++ wsX00 ++ wsX10)
def wsX4_finish_r1 : List Cond := [Cond.fieldLink RX4 16 "EvenLoads" "before" "LEvenLoads$Cluster;", Cond.fieldLink RX4 10 "EvenLoads" "now" "LEvenLoads$Cluster;", Cond.methodLink RX4 43 yX0_copyFrom, Cond.instanceMethod yX0_copyFrom, Cond.selects RX0 yX0_copyFrom yX0_copyFrom, Cond.initialized RX0, Cond.code yX0_copyFrom cX0_copyFrom 2 none, Cond.fieldLink RX0 9 "EvenLoads$Cluster" "sizes" "[I", Cond.fieldLink RX0 15 "EvenLoads$Cluster" "prices" "[I", Cond.fieldLink RX0 18 "EvenLoads$Cluster" "places" "[I", Cond.fieldLink RX0 21 "EvenLoads$Cluster" "moved" "[I", Cond.fieldLink RX0 24 "EvenLoads$Cluster" "loads" "[I", Cond.fieldLink RX0 27 "EvenLoads$Cluster" "opened" "[I", Cond.fieldLink RX0 30 "EvenLoads$Cluster" "servers" "I", Cond.fieldLink RX0 34 "EvenLoads$Cluster" "openServers" "I", Cond.fieldLink RX0 37 "EvenLoads$Cluster" "jobs" "I", Cond.fieldLink RX0 40 "EvenLoads$Cluster" "sum" "I", Cond.fieldLink RX0 43 "EvenLoads$Cluster" "budget" "I", Cond.fieldLink RX0 46 "EvenLoads$Cluster" "factor" "I", Cond.fieldLink RX0 49 "EvenLoads$Cluster" "moves" "I", Cond.static yX4_copyRow, Cond.initialized RX4, Cond.code yX4_copyRow cX4_copyRow 2 none, Cond.methodLink RX4 244 Lib.Math.min.name]
def wsX4_finish_r2 : List Cond := [Cond.static Lib.Math.min.name, Cond.initialized "java/lang/Math", Cond.code Lib.Math.min.name Lib.Math.min.code 2 (some .int), Cond.methodLink RX4 249 arraycopyName, Cond.native arraycopyName, Cond.static arraycopyName, Cond.initialized "java/lang/System", Cond.methodLink RX4 59 yX0_endJob, Cond.instanceMethod yX0_endJob, Cond.selects RX0 yX0_endJob yX0_endJob, Cond.code yX0_endJob cX0_endJob 3 (some .int), Cond.methodLink RX0 71 yX0_hasJob, Cond.instanceMethod yX0_hasJob, Cond.selects RX0 yX0_hasJob yX0_hasJob, Cond.code yX0_hasJob cX0_hasJob 2 (some .boolean), Cond.methodLink RX0 74 yX0_isFinished, Cond.instanceMethod yX0_isFinished, Cond.selects RX0 yX0_isFinished yX0_isFinished, Cond.code yX0_isFinished cX0_isFinished 2 (some .boolean), Cond.static yX4_at, Cond.code yX4_at cX4_at 2 (some .int), Cond.static yX4_put, Cond.code yX4_put cX4_put 3 none, Cond.methodLink RX4 51 yX4_recorded]
def wsX4_finish_r3 : List Cond := [Cond.instanceMethod yX4_recorded, Cond.selects RX4 yX4_recorded yX4_recorded, Cond.code yX4_recorded cX4_recorded 2 (some .int), Cond.fieldLink RX4 25 "EvenLoads" "history" "LEvenLoads$History;", Cond.methodLink RX4 209 yX1_keep, Cond.instanceMethod yX1_keep, Cond.selects RX1 yX1_keep yX1_keep, Cond.initialized RX1, Cond.code yX1_keep cX1_keep 3 none, Cond.fieldLink RX1 21 "EvenLoads$History" "free" "I", Cond.fieldLink RX1 17 "EvenLoads$History" "depth" "I", Cond.methodLink RX1 33 Lib.Math.min.name, Cond.methodLink RX1 25 yX1_stateAt, Cond.instanceMethod yX1_stateAt, Cond.selects RX1 yX1_stateAt yX1_stateAt, Cond.code yX1_stateAt cX1_stateAt 2 (some (.object "EvenLoads$Cluster")), Cond.fieldLink RX1 11 "EvenLoads$History" "states" "[LEvenLoads$Cluster;", Cond.methodLink RX1 29 yX0_copyFrom]
def wsX4_finish : List Cond := .code yX4_finish cX4_finish 2 (some .int) :: ((wsX4_finish_r1 ++ (wsX4_finish_r2 ++ wsX4_finish_r3)) ++ wsX40 ++ wsX00 ++ wsX10)
def wsX4_setBudget_r1 : List Cond := [Cond.fieldLink RX4 16 "EvenLoads" "before" "LEvenLoads$Cluster;", Cond.fieldLink RX4 10 "EvenLoads" "now" "LEvenLoads$Cluster;", Cond.methodLink RX4 43 yX0_copyFrom, Cond.instanceMethod yX0_copyFrom, Cond.selects RX0 yX0_copyFrom yX0_copyFrom, Cond.initialized RX0, Cond.code yX0_copyFrom cX0_copyFrom 2 none, Cond.fieldLink RX0 9 "EvenLoads$Cluster" "sizes" "[I", Cond.fieldLink RX0 15 "EvenLoads$Cluster" "prices" "[I", Cond.fieldLink RX0 18 "EvenLoads$Cluster" "places" "[I", Cond.fieldLink RX0 21 "EvenLoads$Cluster" "moved" "[I", Cond.fieldLink RX0 24 "EvenLoads$Cluster" "loads" "[I", Cond.fieldLink RX0 27 "EvenLoads$Cluster" "opened" "[I", Cond.fieldLink RX0 30 "EvenLoads$Cluster" "servers" "I", Cond.fieldLink RX0 34 "EvenLoads$Cluster" "openServers" "I", Cond.fieldLink RX0 37 "EvenLoads$Cluster" "jobs" "I", Cond.fieldLink RX0 40 "EvenLoads$Cluster" "sum" "I", Cond.fieldLink RX0 43 "EvenLoads$Cluster" "budget" "I", Cond.fieldLink RX0 46 "EvenLoads$Cluster" "factor" "I", Cond.fieldLink RX0 49 "EvenLoads$Cluster" "moves" "I", Cond.static yX4_copyRow, Cond.initialized RX4, Cond.code yX4_copyRow cX4_copyRow 2 none, Cond.methodLink RX4 244 Lib.Math.min.name]
def wsX4_setBudget_r2 : List Cond := [Cond.static Lib.Math.min.name, Cond.initialized "java/lang/Math", Cond.code Lib.Math.min.name Lib.Math.min.code 2 (some .int), Cond.methodLink RX4 249 arraycopyName, Cond.native arraycopyName, Cond.static arraycopyName, Cond.initialized "java/lang/System", Cond.methodLink RX4 62 yX0_changeBudget, Cond.instanceMethod yX0_changeBudget, Cond.selects RX0 yX0_changeBudget yX0_changeBudget, Cond.code yX0_changeBudget cX0_changeBudget 3 (some .int), Cond.methodLink RX4 51 yX4_recorded, Cond.instanceMethod yX4_recorded, Cond.selects RX4 yX4_recorded yX4_recorded, Cond.code yX4_recorded cX4_recorded 2 (some .int), Cond.fieldLink RX4 25 "EvenLoads" "history" "LEvenLoads$History;", Cond.methodLink RX4 209 yX1_keep, Cond.instanceMethod yX1_keep, Cond.selects RX1 yX1_keep yX1_keep, Cond.initialized RX1, Cond.code yX1_keep cX1_keep 3 none, Cond.fieldLink RX1 21 "EvenLoads$History" "free" "I", Cond.fieldLink RX1 17 "EvenLoads$History" "depth" "I", Cond.methodLink RX1 33 Lib.Math.min.name]
def wsX4_setBudget_r3 : List Cond := [Cond.methodLink RX1 25 yX1_stateAt, Cond.instanceMethod yX1_stateAt, Cond.selects RX1 yX1_stateAt yX1_stateAt, Cond.code yX1_stateAt cX1_stateAt 2 (some (.object "EvenLoads$Cluster")), Cond.fieldLink RX1 11 "EvenLoads$History" "states" "[LEvenLoads$Cluster;", Cond.methodLink RX1 29 yX0_copyFrom]
def wsX4_setBudget : List Cond := .code yX4_setBudget cX4_setBudget 2 (some .int) :: ((wsX4_setBudget_r1 ++ (wsX4_setBudget_r2 ++ wsX4_setBudget_r3)) ++ wsX40 ++ wsX00 ++ wsX10)
def wsX4_setFactor_r1 : List Cond := [Cond.fieldLink RX4 16 "EvenLoads" "before" "LEvenLoads$Cluster;", Cond.fieldLink RX4 10 "EvenLoads" "now" "LEvenLoads$Cluster;", Cond.methodLink RX4 43 yX0_copyFrom, Cond.instanceMethod yX0_copyFrom, Cond.selects RX0 yX0_copyFrom yX0_copyFrom, Cond.initialized RX0, Cond.code yX0_copyFrom cX0_copyFrom 2 none, Cond.fieldLink RX0 9 "EvenLoads$Cluster" "sizes" "[I", Cond.fieldLink RX0 15 "EvenLoads$Cluster" "prices" "[I", Cond.fieldLink RX0 18 "EvenLoads$Cluster" "places" "[I", Cond.fieldLink RX0 21 "EvenLoads$Cluster" "moved" "[I", Cond.fieldLink RX0 24 "EvenLoads$Cluster" "loads" "[I", Cond.fieldLink RX0 27 "EvenLoads$Cluster" "opened" "[I", Cond.fieldLink RX0 30 "EvenLoads$Cluster" "servers" "I", Cond.fieldLink RX0 34 "EvenLoads$Cluster" "openServers" "I", Cond.fieldLink RX0 37 "EvenLoads$Cluster" "jobs" "I", Cond.fieldLink RX0 40 "EvenLoads$Cluster" "sum" "I", Cond.fieldLink RX0 43 "EvenLoads$Cluster" "budget" "I", Cond.fieldLink RX0 46 "EvenLoads$Cluster" "factor" "I", Cond.fieldLink RX0 49 "EvenLoads$Cluster" "moves" "I", Cond.static yX4_copyRow, Cond.initialized RX4, Cond.code yX4_copyRow cX4_copyRow 2 none, Cond.methodLink RX4 244 Lib.Math.min.name]
def wsX4_setFactor_r2 : List Cond := [Cond.static Lib.Math.min.name, Cond.initialized "java/lang/Math", Cond.code Lib.Math.min.name Lib.Math.min.code 2 (some .int), Cond.methodLink RX4 249 arraycopyName, Cond.native arraycopyName, Cond.static arraycopyName, Cond.initialized "java/lang/System", Cond.methodLink RX4 65 yX0_changeFactor, Cond.instanceMethod yX0_changeFactor, Cond.selects RX0 yX0_changeFactor yX0_changeFactor, Cond.code yX0_changeFactor cX0_changeFactor 2 (some .int), Cond.methodLink RX0 77 yX0_target, Cond.instanceMethod yX0_target, Cond.selects RX0 yX0_target yX0_target, Cond.code yX0_target cX0_target 1 (some .int), Cond.methodLink RX0 132 yX0_bound, Cond.instanceMethod yX0_bound, Cond.selects RX0 yX0_bound yX0_bound, Cond.code yX0_bound cX0_bound 3 (some .int), Cond.methodLink RX0 127 Lib.Math.max.name, Cond.static Lib.Math.max.name, Cond.code Lib.Math.max.name Lib.Math.max.code 2 (some .int), Cond.static yX4_at, Cond.code yX4_at cX4_at 2 (some .int)]
def wsX4_setFactor_r3 : List Cond := [Cond.methodLink RX4 51 yX4_recorded, Cond.instanceMethod yX4_recorded, Cond.selects RX4 yX4_recorded yX4_recorded, Cond.code yX4_recorded cX4_recorded 2 (some .int), Cond.fieldLink RX4 25 "EvenLoads" "history" "LEvenLoads$History;", Cond.methodLink RX4 209 yX1_keep, Cond.instanceMethod yX1_keep, Cond.selects RX1 yX1_keep yX1_keep, Cond.initialized RX1, Cond.code yX1_keep cX1_keep 3 none, Cond.fieldLink RX1 21 "EvenLoads$History" "free" "I", Cond.fieldLink RX1 17 "EvenLoads$History" "depth" "I", Cond.methodLink RX1 33 Lib.Math.min.name, Cond.methodLink RX1 25 yX1_stateAt, Cond.instanceMethod yX1_stateAt, Cond.selects RX1 yX1_stateAt yX1_stateAt, Cond.code yX1_stateAt cX1_stateAt 2 (some (.object "EvenLoads$Cluster")), Cond.fieldLink RX1 11 "EvenLoads$History" "states" "[LEvenLoads$Cluster;", Cond.methodLink RX1 29 yX0_copyFrom]
def wsX4_setFactor : List Cond := .code yX4_setFactor cX4_setFactor 2 (some .int) :: ((wsX4_setFactor_r1 ++ (wsX4_setFactor_r2 ++ wsX4_setFactor_r3)) ++ wsX40 ++ wsX00 ++ wsX10)
def wsX4_move_r1 : List Cond := [Cond.fieldLink RX4 16 "EvenLoads" "before" "LEvenLoads$Cluster;", Cond.fieldLink RX4 10 "EvenLoads" "now" "LEvenLoads$Cluster;", Cond.methodLink RX4 43 yX0_copyFrom, Cond.instanceMethod yX0_copyFrom, Cond.selects RX0 yX0_copyFrom yX0_copyFrom, Cond.initialized RX0, Cond.code yX0_copyFrom cX0_copyFrom 2 none, Cond.fieldLink RX0 9 "EvenLoads$Cluster" "sizes" "[I", Cond.fieldLink RX0 15 "EvenLoads$Cluster" "prices" "[I", Cond.fieldLink RX0 18 "EvenLoads$Cluster" "places" "[I", Cond.fieldLink RX0 21 "EvenLoads$Cluster" "moved" "[I", Cond.fieldLink RX0 24 "EvenLoads$Cluster" "loads" "[I", Cond.fieldLink RX0 27 "EvenLoads$Cluster" "opened" "[I", Cond.fieldLink RX0 30 "EvenLoads$Cluster" "servers" "I", Cond.fieldLink RX0 34 "EvenLoads$Cluster" "openServers" "I", Cond.fieldLink RX0 37 "EvenLoads$Cluster" "jobs" "I", Cond.fieldLink RX0 40 "EvenLoads$Cluster" "sum" "I", Cond.fieldLink RX0 43 "EvenLoads$Cluster" "budget" "I", Cond.fieldLink RX0 46 "EvenLoads$Cluster" "factor" "I", Cond.fieldLink RX0 49 "EvenLoads$Cluster" "moves" "I", Cond.static yX4_copyRow, Cond.initialized RX4, Cond.code yX4_copyRow cX4_copyRow 2 none, Cond.methodLink RX4 244 Lib.Math.min.name]
def wsX4_move_r2 : List Cond := [Cond.static Lib.Math.min.name, Cond.initialized "java/lang/Math", Cond.code Lib.Math.min.name Lib.Math.min.code 2 (some .int), Cond.methodLink RX4 249 arraycopyName, Cond.native arraycopyName, Cond.static arraycopyName, Cond.initialized "java/lang/System", Cond.methodLink RX4 68 yX0_moveJob, Cond.instanceMethod yX0_moveJob, Cond.selects RX0 yX0_moveJob yX0_moveJob, Cond.code yX0_moveJob cX0_moveJob 3 (some .int), Cond.methodLink RX0 71 yX0_hasJob, Cond.instanceMethod yX0_hasJob, Cond.selects RX0 yX0_hasJob yX0_hasJob, Cond.code yX0_hasJob cX0_hasJob 2 (some .boolean), Cond.methodLink RX0 60 yX0_hasServer, Cond.instanceMethod yX0_hasServer, Cond.selects RX0 yX0_hasServer yX0_hasServer, Cond.code yX0_hasServer cX0_hasServer 2 (some .boolean), Cond.methodLink RX0 74 yX0_isFinished, Cond.instanceMethod yX0_isFinished, Cond.selects RX0 yX0_isFinished yX0_isFinished, Cond.code yX0_isFinished cX0_isFinished 2 (some .boolean), Cond.static yX4_at]
def wsX4_move_r3 : List Cond := [Cond.code yX4_at cX4_at 2 (some .int), Cond.methodLink RX0 64 yX0_isOpen, Cond.instanceMethod yX0_isOpen, Cond.selects RX0 yX0_isOpen yX0_isOpen, Cond.code yX0_isOpen cX0_isOpen 2 (some .boolean), Cond.methodLink RX0 81 yX0_takeTo, Cond.instanceMethod yX0_takeTo, Cond.selects RX0 yX0_takeTo yX0_takeTo, Cond.code yX0_takeTo cX0_takeTo 3 none, Cond.methodLink RX0 114 yX0_shiftLoad, Cond.instanceMethod yX0_shiftLoad, Cond.selects RX0 yX0_shiftLoad yX0_shiftLoad, Cond.code yX0_shiftLoad cX0_shiftLoad 4 none, Cond.static yX4_put, Cond.code yX4_put cX4_put 3 none, Cond.methodLink RX0 85 yX0_greatestLoad, Cond.instanceMethod yX0_greatestLoad, Cond.selects RX0 yX0_greatestLoad yX0_greatestLoad, Cond.code yX0_greatestLoad cX0_greatestLoad 1 (some .int), Cond.methodLink RX0 124 yX0_fullestServer, Cond.instanceMethod yX0_fullestServer, Cond.selects RX0 yX0_fullestServer yX0_fullestServer, Cond.code yX0_fullestServer cX0_fullestServer 4 (some .int), Cond.methodLink RX4 51 yX4_recorded]
def wsX4_move_r4 : List Cond := [Cond.instanceMethod yX4_recorded, Cond.selects RX4 yX4_recorded yX4_recorded, Cond.code yX4_recorded cX4_recorded 2 (some .int), Cond.fieldLink RX4 25 "EvenLoads" "history" "LEvenLoads$History;", Cond.methodLink RX4 209 yX1_keep, Cond.instanceMethod yX1_keep, Cond.selects RX1 yX1_keep yX1_keep, Cond.initialized RX1, Cond.code yX1_keep cX1_keep 3 none, Cond.fieldLink RX1 21 "EvenLoads$History" "free" "I", Cond.fieldLink RX1 17 "EvenLoads$History" "depth" "I", Cond.methodLink RX1 33 Lib.Math.min.name, Cond.methodLink RX1 25 yX1_stateAt, Cond.instanceMethod yX1_stateAt, Cond.selects RX1 yX1_stateAt yX1_stateAt, Cond.code yX1_stateAt cX1_stateAt 2 (some (.object "EvenLoads$Cluster")), Cond.fieldLink RX1 11 "EvenLoads$History" "states" "[LEvenLoads$Cluster;", Cond.methodLink RX1 29 yX0_copyFrom]
def wsX4_move : List Cond := .code yX4_move cX4_move 3 (some .int) :: ((wsX4_move_r1 ++ (wsX4_move_r2 ++ (wsX4_move_r3 ++ wsX4_move_r4))) ++ wsX40 ++ wsX00 ++ wsX10)
def wsX4_exchange_r1 : List Cond := [Cond.fieldLink RX4 16 "EvenLoads" "before" "LEvenLoads$Cluster;", Cond.fieldLink RX4 10 "EvenLoads" "now" "LEvenLoads$Cluster;", Cond.methodLink RX4 43 yX0_copyFrom, Cond.instanceMethod yX0_copyFrom, Cond.selects RX0 yX0_copyFrom yX0_copyFrom, Cond.initialized RX0, Cond.code yX0_copyFrom cX0_copyFrom 2 none, Cond.fieldLink RX0 9 "EvenLoads$Cluster" "sizes" "[I", Cond.fieldLink RX0 15 "EvenLoads$Cluster" "prices" "[I", Cond.fieldLink RX0 18 "EvenLoads$Cluster" "places" "[I", Cond.fieldLink RX0 21 "EvenLoads$Cluster" "moved" "[I", Cond.fieldLink RX0 24 "EvenLoads$Cluster" "loads" "[I", Cond.fieldLink RX0 27 "EvenLoads$Cluster" "opened" "[I", Cond.fieldLink RX0 30 "EvenLoads$Cluster" "servers" "I", Cond.fieldLink RX0 34 "EvenLoads$Cluster" "openServers" "I", Cond.fieldLink RX0 37 "EvenLoads$Cluster" "jobs" "I", Cond.fieldLink RX0 40 "EvenLoads$Cluster" "sum" "I", Cond.fieldLink RX0 43 "EvenLoads$Cluster" "budget" "I", Cond.fieldLink RX0 46 "EvenLoads$Cluster" "factor" "I", Cond.fieldLink RX0 49 "EvenLoads$Cluster" "moves" "I", Cond.static yX4_copyRow, Cond.initialized RX4, Cond.code yX4_copyRow cX4_copyRow 2 none, Cond.methodLink RX4 244 Lib.Math.min.name]
def wsX4_exchange_r2 : List Cond := [Cond.static Lib.Math.min.name, Cond.initialized "java/lang/Math", Cond.code Lib.Math.min.name Lib.Math.min.code 2 (some .int), Cond.methodLink RX4 249 arraycopyName, Cond.native arraycopyName, Cond.static arraycopyName, Cond.initialized "java/lang/System", Cond.methodLink RX4 72 yX0_exchangeJobs, Cond.instanceMethod yX0_exchangeJobs, Cond.selects RX0 yX0_exchangeJobs yX0_exchangeJobs, Cond.code yX0_exchangeJobs cX0_exchangeJobs 4 (some .int), Cond.methodLink RX0 71 yX0_hasJob, Cond.instanceMethod yX0_hasJob, Cond.selects RX0 yX0_hasJob yX0_hasJob, Cond.code yX0_hasJob cX0_hasJob 2 (some .boolean), Cond.methodLink RX0 88 yX0_areApart, Cond.instanceMethod yX0_areApart, Cond.selects RX0 yX0_areApart yX0_areApart, Cond.code yX0_areApart cX0_areApart 3 (some .boolean), Cond.methodLink RX0 74 yX0_isFinished, Cond.instanceMethod yX0_isFinished, Cond.selects RX0 yX0_isFinished yX0_isFinished, Cond.code yX0_isFinished cX0_isFinished 2 (some .boolean), Cond.static yX4_at]
def wsX4_exchange_r3 : List Cond := [Cond.code yX4_at cX4_at 2 (some .int), Cond.methodLink RX0 81 yX0_takeTo, Cond.instanceMethod yX0_takeTo, Cond.selects RX0 yX0_takeTo yX0_takeTo, Cond.code yX0_takeTo cX0_takeTo 3 none, Cond.methodLink RX0 114 yX0_shiftLoad, Cond.instanceMethod yX0_shiftLoad, Cond.selects RX0 yX0_shiftLoad yX0_shiftLoad, Cond.code yX0_shiftLoad cX0_shiftLoad 4 none, Cond.static yX4_put, Cond.code yX4_put cX4_put 3 none, Cond.methodLink RX0 85 yX0_greatestLoad, Cond.instanceMethod yX0_greatestLoad, Cond.selects RX0 yX0_greatestLoad yX0_greatestLoad, Cond.code yX0_greatestLoad cX0_greatestLoad 1 (some .int), Cond.methodLink RX0 124 yX0_fullestServer, Cond.instanceMethod yX0_fullestServer, Cond.selects RX0 yX0_fullestServer yX0_fullestServer, Cond.code yX0_fullestServer cX0_fullestServer 4 (some .int), Cond.methodLink RX4 51 yX4_recorded, Cond.instanceMethod yX4_recorded, Cond.selects RX4 yX4_recorded yX4_recorded, Cond.code yX4_recorded cX4_recorded 2 (some .int), Cond.fieldLink RX4 25 "EvenLoads" "history" "LEvenLoads$History;"]
def wsX4_exchange_r4 : List Cond := [Cond.methodLink RX4 209 yX1_keep, Cond.instanceMethod yX1_keep, Cond.selects RX1 yX1_keep yX1_keep, Cond.initialized RX1, Cond.code yX1_keep cX1_keep 3 none, Cond.fieldLink RX1 21 "EvenLoads$History" "free" "I", Cond.fieldLink RX1 17 "EvenLoads$History" "depth" "I", Cond.methodLink RX1 33 Lib.Math.min.name, Cond.methodLink RX1 25 yX1_stateAt, Cond.instanceMethod yX1_stateAt, Cond.selects RX1 yX1_stateAt yX1_stateAt, Cond.code yX1_stateAt cX1_stateAt 2 (some (.object "EvenLoads$Cluster")), Cond.fieldLink RX1 11 "EvenLoads$History" "states" "[LEvenLoads$Cluster;", Cond.methodLink RX1 29 yX0_copyFrom]
def wsX4_exchange : List Cond := .code yX4_exchange cX4_exchange 3 (some .int) :: ((wsX4_exchange_r1 ++ (wsX4_exchange_r2 ++ (wsX4_exchange_r3 ++ wsX4_exchange_r4))) ++ wsX40 ++ wsX00 ++ wsX10)
def wsX4_ring_r1 : List Cond := [Cond.fieldLink RX4 16 "EvenLoads" "before" "LEvenLoads$Cluster;", Cond.fieldLink RX4 10 "EvenLoads" "now" "LEvenLoads$Cluster;", Cond.methodLink RX4 43 yX0_copyFrom, Cond.instanceMethod yX0_copyFrom, Cond.selects RX0 yX0_copyFrom yX0_copyFrom, Cond.initialized RX0, Cond.code yX0_copyFrom cX0_copyFrom 2 none, Cond.fieldLink RX0 9 "EvenLoads$Cluster" "sizes" "[I", Cond.fieldLink RX0 15 "EvenLoads$Cluster" "prices" "[I", Cond.fieldLink RX0 18 "EvenLoads$Cluster" "places" "[I", Cond.fieldLink RX0 21 "EvenLoads$Cluster" "moved" "[I", Cond.fieldLink RX0 24 "EvenLoads$Cluster" "loads" "[I", Cond.fieldLink RX0 27 "EvenLoads$Cluster" "opened" "[I", Cond.fieldLink RX0 30 "EvenLoads$Cluster" "servers" "I", Cond.fieldLink RX0 34 "EvenLoads$Cluster" "openServers" "I", Cond.fieldLink RX0 37 "EvenLoads$Cluster" "jobs" "I", Cond.fieldLink RX0 40 "EvenLoads$Cluster" "sum" "I", Cond.fieldLink RX0 43 "EvenLoads$Cluster" "budget" "I", Cond.fieldLink RX0 46 "EvenLoads$Cluster" "factor" "I", Cond.fieldLink RX0 49 "EvenLoads$Cluster" "moves" "I", Cond.static yX4_copyRow, Cond.initialized RX4, Cond.code yX4_copyRow cX4_copyRow 2 none, Cond.methodLink RX4 244 Lib.Math.min.name]
def wsX4_ring_r2 : List Cond := [Cond.static Lib.Math.min.name, Cond.initialized "java/lang/Math", Cond.code Lib.Math.min.name Lib.Math.min.code 2 (some .int), Cond.methodLink RX4 249 arraycopyName, Cond.native arraycopyName, Cond.static arraycopyName, Cond.initialized "java/lang/System", Cond.methodLink RX4 75 yX0_moveRing, Cond.instanceMethod yX0_moveRing, Cond.selects RX0 yX0_moveRing yX0_moveRing, Cond.code yX0_moveRing cX0_moveRing 5 (some .int), Cond.methodLink RX0 71 yX0_hasJob, Cond.instanceMethod yX0_hasJob, Cond.selects RX0 yX0_hasJob yX0_hasJob, Cond.code yX0_hasJob cX0_hasJob 2 (some .boolean), Cond.methodLink RX0 88 yX0_areApart, Cond.instanceMethod yX0_areApart, Cond.selects RX0 yX0_areApart yX0_areApart, Cond.code yX0_areApart cX0_areApart 3 (some .boolean), Cond.methodLink RX0 74 yX0_isFinished, Cond.instanceMethod yX0_isFinished, Cond.selects RX0 yX0_isFinished yX0_isFinished, Cond.code yX0_isFinished cX0_isFinished 2 (some .boolean), Cond.static yX4_at]
def wsX4_ring_r3 : List Cond := [Cond.code yX4_at cX4_at 2 (some .int), Cond.methodLink RX0 81 yX0_takeTo, Cond.instanceMethod yX0_takeTo, Cond.selects RX0 yX0_takeTo yX0_takeTo, Cond.code yX0_takeTo cX0_takeTo 3 none, Cond.methodLink RX0 114 yX0_shiftLoad, Cond.instanceMethod yX0_shiftLoad, Cond.selects RX0 yX0_shiftLoad yX0_shiftLoad, Cond.code yX0_shiftLoad cX0_shiftLoad 4 none, Cond.static yX4_put, Cond.code yX4_put cX4_put 3 none, Cond.methodLink RX0 85 yX0_greatestLoad, Cond.instanceMethod yX0_greatestLoad, Cond.selects RX0 yX0_greatestLoad yX0_greatestLoad, Cond.code yX0_greatestLoad cX0_greatestLoad 1 (some .int), Cond.methodLink RX0 124 yX0_fullestServer, Cond.instanceMethod yX0_fullestServer, Cond.selects RX0 yX0_fullestServer yX0_fullestServer, Cond.code yX0_fullestServer cX0_fullestServer 4 (some .int), Cond.methodLink RX4 51 yX4_recorded, Cond.instanceMethod yX4_recorded, Cond.selects RX4 yX4_recorded yX4_recorded, Cond.code yX4_recorded cX4_recorded 2 (some .int), Cond.fieldLink RX4 25 "EvenLoads" "history" "LEvenLoads$History;"]
def wsX4_ring_r4 : List Cond := [Cond.methodLink RX4 209 yX1_keep, Cond.instanceMethod yX1_keep, Cond.selects RX1 yX1_keep yX1_keep, Cond.initialized RX1, Cond.code yX1_keep cX1_keep 3 none, Cond.fieldLink RX1 21 "EvenLoads$History" "free" "I", Cond.fieldLink RX1 17 "EvenLoads$History" "depth" "I", Cond.methodLink RX1 33 Lib.Math.min.name, Cond.methodLink RX1 25 yX1_stateAt, Cond.instanceMethod yX1_stateAt, Cond.selects RX1 yX1_stateAt yX1_stateAt, Cond.code yX1_stateAt cX1_stateAt 2 (some (.object "EvenLoads$Cluster")), Cond.fieldLink RX1 11 "EvenLoads$History" "states" "[LEvenLoads$Cluster;", Cond.methodLink RX1 29 yX0_copyFrom]
def wsX4_ring : List Cond := .code yX4_ring cX4_ring 4 (some .int) :: ((wsX4_ring_r1 ++ (wsX4_ring_r2 ++ (wsX4_ring_r3 ++ wsX4_ring_r4))) ++ wsX40 ++ wsX00 ++ wsX10)
def wsX4_even_r1 : List Cond := [Cond.fieldLink RX4 16 "EvenLoads" "before" "LEvenLoads$Cluster;", Cond.fieldLink RX4 10 "EvenLoads" "now" "LEvenLoads$Cluster;", Cond.fieldLink RX4 32 "EvenLoads" "next" "LEvenLoads$Step;", Cond.methodLink RX4 43 yX0_copyFrom, Cond.instanceMethod yX0_copyFrom, Cond.selects RX0 yX0_copyFrom yX0_copyFrom, Cond.initialized RX0, Cond.code yX0_copyFrom cX0_copyFrom 2 none, Cond.fieldLink RX0 9 "EvenLoads$Cluster" "sizes" "[I", Cond.fieldLink RX0 15 "EvenLoads$Cluster" "prices" "[I", Cond.fieldLink RX0 18 "EvenLoads$Cluster" "places" "[I", Cond.fieldLink RX0 21 "EvenLoads$Cluster" "moved" "[I", Cond.fieldLink RX0 24 "EvenLoads$Cluster" "loads" "[I", Cond.fieldLink RX0 27 "EvenLoads$Cluster" "opened" "[I", Cond.fieldLink RX0 30 "EvenLoads$Cluster" "servers" "I", Cond.fieldLink RX0 34 "EvenLoads$Cluster" "openServers" "I", Cond.fieldLink RX0 37 "EvenLoads$Cluster" "jobs" "I", Cond.fieldLink RX0 40 "EvenLoads$Cluster" "sum" "I", Cond.fieldLink RX0 43 "EvenLoads$Cluster" "budget" "I", Cond.fieldLink RX0 46 "EvenLoads$Cluster" "factor" "I", Cond.fieldLink RX0 49 "EvenLoads$Cluster" "moves" "I", Cond.static yX4_copyRow, Cond.initialized RX4, Cond.code yX4_copyRow cX4_copyRow 2 none]
def wsX4_even_r2 : List Cond := [Cond.methodLink RX4 244 Lib.Math.min.name, Cond.static Lib.Math.min.name, Cond.initialized "java/lang/Math", Cond.code Lib.Math.min.name Lib.Math.min.code 2 (some .int), Cond.methodLink RX4 249 arraycopyName, Cond.native arraycopyName, Cond.static arraycopyName, Cond.initialized "java/lang/System", Cond.methodLink RX4 78 yX3_walk, Cond.instanceMethod yX3_walk, Cond.selects RX3 yX3_walk yX3_walk, Cond.initialized RX3, Cond.code yX3_walk cX3_walk 6 (some .int), Cond.fieldLink RX3 9 "EvenLoads$Step" "job" "I", Cond.fieldLink RX3 15 "EvenLoads$Step" "goal" "I", Cond.fieldLink RX3 18 "EvenLoads$Step" "other" "I", Cond.methodLink RX3 27 yX0_target, Cond.instanceMethod yX0_target, Cond.selects RX0 yX0_target yX0_target, Cond.code yX0_target cX0_target 1 (some .int), Cond.methodLink RX0 132 yX0_bound, Cond.instanceMethod yX0_bound, Cond.selects RX0 yX0_bound yX0_bound, Cond.code yX0_bound cX0_bound 3 (some .int)]
def wsX4_even_r3 : List Cond := [Cond.methodLink RX0 127 Lib.Math.max.name, Cond.static Lib.Math.max.name, Cond.code Lib.Math.max.name Lib.Math.max.code 2 (some .int), Cond.static yX4_at, Cond.code yX4_at cX4_at 2 (some .int), Cond.methodLink RX3 33 yX3_choose, Cond.instanceMethod yX3_choose, Cond.selects RX3 yX3_choose yX3_choose, Cond.code yX3_choose cX3_choose 4 (some .boolean), Cond.methodLink RX3 49 yX0_fullestServer, Cond.instanceMethod yX0_fullestServer, Cond.selects RX0 yX0_fullestServer yX0_fullestServer, Cond.code yX0_fullestServer cX0_fullestServer 4 (some .int), Cond.methodLink RX3 55 yX3_chooseMove, Cond.instanceMethod yX3_chooseMove, Cond.selects RX3 yX3_chooseMove yX3_chooseMove, Cond.code yX3_chooseMove cX3_chooseMove 8 none, Cond.methodLink RX3 85 Lib.Math.max.name, Cond.methodLink RX3 69 yX3_startBelow, Cond.instanceMethod yX3_startBelow, Cond.selects RX3 yX3_startBelow yX3_startBelow, Cond.code yX3_startBelow cX3_startBelow 2 none, Cond.fieldLink RX3 24 "EvenLoads$Step" "greater" "I", Cond.methodLink RX3 94 yX3_offer]
def wsX4_even_r4 : List Cond := [Cond.instanceMethod yX3_offer, Cond.selects RX3 yX3_offer yX3_offer, Cond.code yX3_offer cX3_offer 7 none, Cond.fieldLink RX3 21 "EvenLoads$Step" "price" "I", Cond.methodLink RX3 59 yX3_isPossible, Cond.instanceMethod yX3_isPossible, Cond.selects RX3 yX3_isPossible yX3_isPossible, Cond.code yX3_isPossible cX3_isPossible 2 (some .boolean), Cond.methodLink RX3 63 yX3_chooseExchange, Cond.instanceMethod yX3_chooseExchange, Cond.selects RX3 yX3_chooseExchange yX3_chooseExchange, Cond.code yX3_chooseExchange cX3_chooseExchange 10 none, Cond.methodLink RX3 45 yX0_takeTo, Cond.instanceMethod yX0_takeTo, Cond.selects RX0 yX0_takeTo yX0_takeTo, Cond.code yX0_takeTo cX0_takeTo 3 none, Cond.methodLink RX0 114 yX0_shiftLoad, Cond.instanceMethod yX0_shiftLoad, Cond.selects RX0 yX0_shiftLoad yX0_shiftLoad, Cond.code yX0_shiftLoad cX0_shiftLoad 4 none, Cond.static yX4_put, Cond.code yX4_put cX4_put 3 none, Cond.methodLink RX4 51 yX4_recorded, Cond.instanceMethod yX4_recorded]
def wsX4_even_r5 : List Cond := [Cond.selects RX4 yX4_recorded yX4_recorded, Cond.code yX4_recorded cX4_recorded 2 (some .int), Cond.fieldLink RX4 25 "EvenLoads" "history" "LEvenLoads$History;", Cond.methodLink RX4 209 yX1_keep, Cond.instanceMethod yX1_keep, Cond.selects RX1 yX1_keep yX1_keep, Cond.initialized RX1, Cond.code yX1_keep cX1_keep 3 none, Cond.fieldLink RX1 21 "EvenLoads$History" "free" "I", Cond.fieldLink RX1 17 "EvenLoads$History" "depth" "I", Cond.methodLink RX1 33 Lib.Math.min.name, Cond.methodLink RX1 25 yX1_stateAt, Cond.instanceMethod yX1_stateAt, Cond.selects RX1 yX1_stateAt yX1_stateAt, Cond.code yX1_stateAt cX1_stateAt 2 (some (.object "EvenLoads$Cluster")), Cond.fieldLink RX1 11 "EvenLoads$History" "states" "[LEvenLoads$Cluster;", Cond.methodLink RX1 29 yX0_copyFrom]
def wsX4_even : List Cond := .code yX4_even cX4_even 2 (some .int) :: ((wsX4_even_r1 ++ (wsX4_even_r2 ++ (wsX4_even_r3 ++ (wsX4_even_r4 ++ wsX4_even_r5)))) ++ wsX40 ++ wsX00 ++ wsX30 ++ wsX10)
def wsX4_close_r1 : List Cond := [Cond.fieldLink RX4 16 "EvenLoads" "before" "LEvenLoads$Cluster;", Cond.fieldLink RX4 10 "EvenLoads" "now" "LEvenLoads$Cluster;", Cond.methodLink RX4 43 yX0_copyFrom, Cond.instanceMethod yX0_copyFrom, Cond.selects RX0 yX0_copyFrom yX0_copyFrom, Cond.initialized RX0, Cond.code yX0_copyFrom cX0_copyFrom 2 none, Cond.fieldLink RX0 9 "EvenLoads$Cluster" "sizes" "[I", Cond.fieldLink RX0 15 "EvenLoads$Cluster" "prices" "[I", Cond.fieldLink RX0 18 "EvenLoads$Cluster" "places" "[I", Cond.fieldLink RX0 21 "EvenLoads$Cluster" "moved" "[I", Cond.fieldLink RX0 24 "EvenLoads$Cluster" "loads" "[I", Cond.fieldLink RX0 27 "EvenLoads$Cluster" "opened" "[I", Cond.fieldLink RX0 30 "EvenLoads$Cluster" "servers" "I", Cond.fieldLink RX0 34 "EvenLoads$Cluster" "openServers" "I", Cond.fieldLink RX0 37 "EvenLoads$Cluster" "jobs" "I", Cond.fieldLink RX0 40 "EvenLoads$Cluster" "sum" "I", Cond.fieldLink RX0 43 "EvenLoads$Cluster" "budget" "I", Cond.fieldLink RX0 46 "EvenLoads$Cluster" "factor" "I", Cond.fieldLink RX0 49 "EvenLoads$Cluster" "moves" "I", Cond.static yX4_copyRow, Cond.initialized RX4, Cond.code yX4_copyRow cX4_copyRow 2 none, Cond.methodLink RX4 244 Lib.Math.min.name]
def wsX4_close_r2 : List Cond := [Cond.static Lib.Math.min.name, Cond.initialized "java/lang/Math", Cond.code Lib.Math.min.name Lib.Math.min.code 2 (some .int), Cond.methodLink RX4 249 arraycopyName, Cond.native arraycopyName, Cond.static arraycopyName, Cond.initialized "java/lang/System", Cond.methodLink RX4 82 yX0_closeServer, Cond.instanceMethod yX0_closeServer, Cond.selects RX0 yX0_closeServer yX0_closeServer, Cond.code yX0_closeServer cX0_closeServer 2 (some .int), Cond.methodLink RX0 60 yX0_hasServer, Cond.instanceMethod yX0_hasServer, Cond.selects RX0 yX0_hasServer yX0_hasServer, Cond.code yX0_hasServer cX0_hasServer 2 (some .boolean), Cond.methodLink RX0 64 yX0_isOpen, Cond.instanceMethod yX0_isOpen, Cond.selects RX0 yX0_isOpen yX0_isOpen, Cond.code yX0_isOpen cX0_isOpen 2 (some .boolean), Cond.static yX4_at, Cond.code yX4_at cX4_at 2 (some .int), Cond.methodLink RX0 92 yX0_priceOfAll, Cond.instanceMethod yX0_priceOfAll, Cond.selects RX0 yX0_priceOfAll yX0_priceOfAll]
def wsX4_close_r3 : List Cond := [Cond.code yX0_priceOfAll cX0_priceOfAll 4 (some .int), Cond.methodLink RX0 96 yX0_closeAndEmpty, Cond.instanceMethod yX0_closeAndEmpty, Cond.selects RX0 yX0_closeAndEmpty yX0_closeAndEmpty, Cond.code yX0_closeAndEmpty cX0_closeAndEmpty 4 (some .int), Cond.static yX4_put, Cond.code yX4_put cX4_put 3 none, Cond.methodLink RX0 99 yX0_jobsOn, Cond.instanceMethod yX0_jobsOn, Cond.selects RX0 yX0_jobsOn yX0_jobsOn, Cond.code yX0_jobsOn cX0_jobsOn 4 (some .int), Cond.methodLink RX0 102 yJ6_bitCount_0f7a4, Cond.static yJ6_bitCount_0f7a4, Cond.initialized RJ6, Cond.code yJ6_bitCount_0f7a4 cJ6_bitCount_0f7a4 1 (some .int), Cond.constant RJ6 265 (1431655765), Cond.constant RJ6 266 (858993459), Cond.constant RJ6 267 (252645135), Cond.methodLink RX0 107 yX0_leavingJob, Cond.instanceMethod yX0_leavingJob, Cond.selects RX0 yX0_leavingJob yX0_leavingJob, Cond.code yX0_leavingJob cX0_leavingJob 4 (some .int), Cond.methodLink RX0 118 yX0_jobsLeavingBefore, Cond.instanceMethod yX0_jobsLeavingBefore]
def wsX4_close_r4 : List Cond := [Cond.selects RX0 yX0_jobsLeavingBefore yX0_jobsLeavingBefore, Cond.code yX0_jobsLeavingBefore cX0_jobsLeavingBefore 4 (some .int), Cond.methodLink RX0 121 yX0_leavesBefore, Cond.instanceMethod yX0_leavesBefore, Cond.selects RX0 yX0_leavesBefore yX0_leavesBefore, Cond.code yX0_leavesBefore cX0_leavesBefore 3 (some .boolean), Cond.methodLink RX0 111 yX0_emptiestServer, Cond.instanceMethod yX0_emptiestServer, Cond.selects RX0 yX0_emptiestServer yX0_emptiestServer, Cond.code yX0_emptiestServer cX0_emptiestServer 4 (some .int), Cond.methodLink RX0 81 yX0_takeTo, Cond.instanceMethod yX0_takeTo, Cond.selects RX0 yX0_takeTo yX0_takeTo, Cond.code yX0_takeTo cX0_takeTo 3 none, Cond.methodLink RX0 114 yX0_shiftLoad, Cond.instanceMethod yX0_shiftLoad, Cond.selects RX0 yX0_shiftLoad yX0_shiftLoad, Cond.code yX0_shiftLoad cX0_shiftLoad 4 none, Cond.methodLink RX4 51 yX4_recorded, Cond.instanceMethod yX4_recorded, Cond.selects RX4 yX4_recorded yX4_recorded, Cond.code yX4_recorded cX4_recorded 2 (some .int), Cond.fieldLink RX4 25 "EvenLoads" "history" "LEvenLoads$History;", Cond.methodLink RX4 209 yX1_keep]
def wsX4_close_r5 : List Cond := [Cond.instanceMethod yX1_keep, Cond.selects RX1 yX1_keep yX1_keep, Cond.initialized RX1, Cond.code yX1_keep cX1_keep 3 none, Cond.fieldLink RX1 21 "EvenLoads$History" "free" "I", Cond.fieldLink RX1 17 "EvenLoads$History" "depth" "I", Cond.methodLink RX1 33 Lib.Math.min.name, Cond.methodLink RX1 25 yX1_stateAt, Cond.instanceMethod yX1_stateAt, Cond.selects RX1 yX1_stateAt yX1_stateAt, Cond.code yX1_stateAt cX1_stateAt 2 (some (.object "EvenLoads$Cluster")), Cond.fieldLink RX1 11 "EvenLoads$History" "states" "[LEvenLoads$Cluster;", Cond.methodLink RX1 29 yX0_copyFrom]
def wsX4_close : List Cond := .code yX4_close cX4_close 2 (some .int) :: ((wsX4_close_r1 ++ (wsX4_close_r2 ++ (wsX4_close_r3 ++ (wsX4_close_r4 ++ wsX4_close_r5)))) ++ wsX40 ++ wsX00 ++ wsX10)
def wsX4_open_r1 : List Cond := [Cond.fieldLink RX4 16 "EvenLoads" "before" "LEvenLoads$Cluster;", Cond.fieldLink RX4 10 "EvenLoads" "now" "LEvenLoads$Cluster;", Cond.methodLink RX4 43 yX0_copyFrom, Cond.instanceMethod yX0_copyFrom, Cond.selects RX0 yX0_copyFrom yX0_copyFrom, Cond.initialized RX0, Cond.code yX0_copyFrom cX0_copyFrom 2 none, Cond.fieldLink RX0 9 "EvenLoads$Cluster" "sizes" "[I", Cond.fieldLink RX0 15 "EvenLoads$Cluster" "prices" "[I", Cond.fieldLink RX0 18 "EvenLoads$Cluster" "places" "[I", Cond.fieldLink RX0 21 "EvenLoads$Cluster" "moved" "[I", Cond.fieldLink RX0 24 "EvenLoads$Cluster" "loads" "[I", Cond.fieldLink RX0 27 "EvenLoads$Cluster" "opened" "[I", Cond.fieldLink RX0 30 "EvenLoads$Cluster" "servers" "I", Cond.fieldLink RX0 34 "EvenLoads$Cluster" "openServers" "I", Cond.fieldLink RX0 37 "EvenLoads$Cluster" "jobs" "I", Cond.fieldLink RX0 40 "EvenLoads$Cluster" "sum" "I", Cond.fieldLink RX0 43 "EvenLoads$Cluster" "budget" "I", Cond.fieldLink RX0 46 "EvenLoads$Cluster" "factor" "I", Cond.fieldLink RX0 49 "EvenLoads$Cluster" "moves" "I", Cond.static yX4_copyRow, Cond.initialized RX4, Cond.code yX4_copyRow cX4_copyRow 2 none, Cond.methodLink RX4 244 Lib.Math.min.name]
def wsX4_open_r2 : List Cond := [Cond.static Lib.Math.min.name, Cond.initialized "java/lang/Math", Cond.code Lib.Math.min.name Lib.Math.min.code 2 (some .int), Cond.methodLink RX4 249 arraycopyName, Cond.native arraycopyName, Cond.static arraycopyName, Cond.initialized "java/lang/System", Cond.methodLink RX4 85 yX0_openServer, Cond.instanceMethod yX0_openServer, Cond.selects RX0 yX0_openServer yX0_openServer, Cond.code yX0_openServer cX0_openServer 2 (some .int), Cond.methodLink RX0 60 yX0_hasServer, Cond.instanceMethod yX0_hasServer, Cond.selects RX0 yX0_hasServer yX0_hasServer, Cond.code yX0_hasServer cX0_hasServer 2 (some .boolean), Cond.methodLink RX0 64 yX0_isOpen, Cond.instanceMethod yX0_isOpen, Cond.selects RX0 yX0_isOpen yX0_isOpen, Cond.code yX0_isOpen cX0_isOpen 2 (some .boolean), Cond.static yX4_at, Cond.code yX4_at cX4_at 2 (some .int), Cond.static yX4_put, Cond.code yX4_put cX4_put 3 none, Cond.methodLink RX4 51 yX4_recorded]
def wsX4_open_r3 : List Cond := [Cond.instanceMethod yX4_recorded, Cond.selects RX4 yX4_recorded yX4_recorded, Cond.code yX4_recorded cX4_recorded 2 (some .int), Cond.fieldLink RX4 25 "EvenLoads" "history" "LEvenLoads$History;", Cond.methodLink RX4 209 yX1_keep, Cond.instanceMethod yX1_keep, Cond.selects RX1 yX1_keep yX1_keep, Cond.initialized RX1, Cond.code yX1_keep cX1_keep 3 none, Cond.fieldLink RX1 21 "EvenLoads$History" "free" "I", Cond.fieldLink RX1 17 "EvenLoads$History" "depth" "I", Cond.methodLink RX1 33 Lib.Math.min.name, Cond.methodLink RX1 25 yX1_stateAt, Cond.instanceMethod yX1_stateAt, Cond.selects RX1 yX1_stateAt yX1_stateAt, Cond.code yX1_stateAt cX1_stateAt 2 (some (.object "EvenLoads$Cluster")), Cond.fieldLink RX1 11 "EvenLoads$History" "states" "[LEvenLoads$Cluster;", Cond.methodLink RX1 29 yX0_copyFrom]
def wsX4_open : List Cond := .code yX4_open cX4_open 2 (some .int) :: ((wsX4_open_r1 ++ (wsX4_open_r2 ++ wsX4_open_r3)) ++ wsX40 ++ wsX00 ++ wsX10)
def wsX4_undo_r1 : List Cond := [Cond.fieldLink RX4 25 "EvenLoads" "history" "LEvenLoads$History;", Cond.fieldLink RX4 10 "EvenLoads" "now" "LEvenLoads$Cluster;", Cond.methodLink RX4 88 yX1_takeLatest, Cond.instanceMethod yX1_takeLatest, Cond.selects RX1 yX1_takeLatest yX1_takeLatest, Cond.initialized RX1, Cond.code yX1_takeLatest cX1_takeLatest 4 (some .boolean), Cond.fieldLink RX1 21 "EvenLoads$History" "free" "I", Cond.fieldLink RX1 17 "EvenLoads$History" "depth" "I", Cond.methodLink RX1 25 yX1_stateAt, Cond.instanceMethod yX1_stateAt, Cond.selects RX1 yX1_stateAt yX1_stateAt, Cond.code yX1_stateAt cX1_stateAt 2 (some (.object "EvenLoads$Cluster")), Cond.fieldLink RX1 11 "EvenLoads$History" "states" "[LEvenLoads$Cluster;", Cond.methodLink RX1 29 yX0_copyFrom, Cond.instanceMethod yX0_copyFrom, Cond.selects RX0 yX0_copyFrom yX0_copyFrom, Cond.initialized RX0, Cond.code yX0_copyFrom cX0_copyFrom 2 none, Cond.fieldLink RX0 9 "EvenLoads$Cluster" "sizes" "[I", Cond.fieldLink RX0 15 "EvenLoads$Cluster" "prices" "[I", Cond.fieldLink RX0 18 "EvenLoads$Cluster" "places" "[I", Cond.fieldLink RX0 21 "EvenLoads$Cluster" "moved" "[I", Cond.fieldLink RX0 24 "EvenLoads$Cluster" "loads" "[I"]
def wsX4_undo_r2 : List Cond := [Cond.fieldLink RX0 27 "EvenLoads$Cluster" "opened" "[I", Cond.fieldLink RX0 30 "EvenLoads$Cluster" "servers" "I", Cond.fieldLink RX0 34 "EvenLoads$Cluster" "openServers" "I", Cond.fieldLink RX0 37 "EvenLoads$Cluster" "jobs" "I", Cond.fieldLink RX0 40 "EvenLoads$Cluster" "sum" "I", Cond.fieldLink RX0 43 "EvenLoads$Cluster" "budget" "I", Cond.fieldLink RX0 46 "EvenLoads$Cluster" "factor" "I", Cond.fieldLink RX0 49 "EvenLoads$Cluster" "moves" "I", Cond.static yX4_copyRow, Cond.initialized RX4, Cond.code yX4_copyRow cX4_copyRow 2 none, Cond.methodLink RX4 244 Lib.Math.min.name, Cond.static Lib.Math.min.name, Cond.initialized "java/lang/Math", Cond.code Lib.Math.min.name Lib.Math.min.code 2 (some .int), Cond.methodLink RX4 249 arraycopyName, Cond.native arraycopyName, Cond.static arraycopyName, Cond.initialized "java/lang/System"]
def wsX4_undo : List Cond := .code yX4_undo cX4_undo 1 (some .int) :: ((wsX4_undo_r1 ++ wsX4_undo_r2) ++ wsX40 ++ wsX10 ++ wsX00)
def wsX4_append : List Cond := .code yX4_append cX4_append 2 (some .int) :: ([.fieldLink RX4 39 "EvenLoads" "program" "LEvenLoads$Program;", .methodLink RX4 96 yX2_addSign, .instanceMethod yX2_addSign, .selects RX2 yX2_addSign yX2_addSign, .initialized RX2, .code yX2_addSign cX2_addSign 2 (some .int), .fieldLink RX2 15 "EvenLoads$Program" "length" "I", .fieldLink RX2 9 "EvenLoads$Program" "signs" "[I", .static yX4_put, .initialized RX4, .code yX4_put cX4_put 3 none] ++ wsX40 ++ wsX20)
def wsX4_clearText : List Cond := .code yX4_clearText cX4_clearText 2 (some .int) :: ([.fieldLink RX4 39 "EvenLoads" "program" "LEvenLoads$Program;"] ++ wsX40 ++ wsX20)
def wsX4_callOrder_r1 : List Cond := [Cond.fieldLink RX4 39 "EvenLoads" "program" "LEvenLoads$Program;", Cond.fieldLink RX4 10 "EvenLoads" "now" "LEvenLoads$Cluster;", Cond.fieldLink RX4 32 "EvenLoads" "next" "LEvenLoads$Step;", Cond.methodLink RX4 130 yX4_at, Cond.static yX4_at, Cond.initialized RX4, Cond.code yX4_at cX4_at 2 (some .int), Cond.methodLink RX4 55 yX0_newJob, Cond.instanceMethod yX0_newJob, Cond.selects RX0 yX0_newJob yX0_newJob, Cond.initialized RX0, Cond.code yX0_newJob cX0_newJob 6 (some .int), Cond.fieldLink RX0 37 "EvenLoads$Cluster" "jobs" "I", Cond.fieldLink RX0 9 "EvenLoads$Cluster" "sizes" "[I", Cond.fieldLink RX0 15 "EvenLoads$Cluster" "prices" "[I", Cond.fieldLink RX0 18 "EvenLoads$Cluster" "places" "[I", Cond.fieldLink RX0 21 "EvenLoads$Cluster" "moved" "[I", Cond.fieldLink RX0 24 "EvenLoads$Cluster" "loads" "[I", Cond.fieldLink RX0 40 "EvenLoads$Cluster" "sum" "I", Cond.methodLink RX0 60 yX0_hasServer, Cond.instanceMethod yX0_hasServer, Cond.selects RX0 yX0_hasServer yX0_hasServer, Cond.code yX0_hasServer cX0_hasServer 2 (some .boolean), Cond.fieldLink RX0 30 "EvenLoads$Cluster" "servers" "I"]
def wsX4_callOrder_r2 : List Cond := [Cond.methodLink RX0 64 yX0_isOpen, Cond.instanceMethod yX0_isOpen, Cond.selects RX0 yX0_isOpen yX0_isOpen, Cond.code yX0_isOpen cX0_isOpen 2 (some .boolean), Cond.fieldLink RX0 27 "EvenLoads$Cluster" "opened" "[I", Cond.static yX4_put, Cond.code yX4_put cX4_put 3 none, Cond.methodLink RX4 59 yX0_endJob, Cond.instanceMethod yX0_endJob, Cond.selects RX0 yX0_endJob yX0_endJob, Cond.code yX0_endJob cX0_endJob 3 (some .int), Cond.methodLink RX0 71 yX0_hasJob, Cond.instanceMethod yX0_hasJob, Cond.selects RX0 yX0_hasJob yX0_hasJob, Cond.code yX0_hasJob cX0_hasJob 2 (some .boolean), Cond.methodLink RX0 74 yX0_isFinished, Cond.instanceMethod yX0_isFinished, Cond.selects RX0 yX0_isFinished yX0_isFinished, Cond.code yX0_isFinished cX0_isFinished 2 (some .boolean), Cond.methodLink RX4 68 yX0_moveJob, Cond.instanceMethod yX0_moveJob, Cond.selects RX0 yX0_moveJob yX0_moveJob, Cond.code yX0_moveJob cX0_moveJob 3 (some .int), Cond.fieldLink RX0 43 "EvenLoads$Cluster" "budget" "I"]
def wsX4_callOrder_r3 : List Cond := [Cond.methodLink RX0 81 yX0_takeTo, Cond.instanceMethod yX0_takeTo, Cond.selects RX0 yX0_takeTo yX0_takeTo, Cond.code yX0_takeTo cX0_takeTo 3 none, Cond.fieldLink RX0 49 "EvenLoads$Cluster" "moves" "I", Cond.methodLink RX0 114 yX0_shiftLoad, Cond.instanceMethod yX0_shiftLoad, Cond.selects RX0 yX0_shiftLoad yX0_shiftLoad, Cond.code yX0_shiftLoad cX0_shiftLoad 4 none, Cond.methodLink RX0 85 yX0_greatestLoad, Cond.instanceMethod yX0_greatestLoad, Cond.selects RX0 yX0_greatestLoad yX0_greatestLoad, Cond.code yX0_greatestLoad cX0_greatestLoad 1 (some .int), Cond.methodLink RX0 124 yX0_fullestServer, Cond.instanceMethod yX0_fullestServer, Cond.selects RX0 yX0_fullestServer yX0_fullestServer, Cond.code yX0_fullestServer cX0_fullestServer 4 (some .int), Cond.methodLink RX4 72 yX0_exchangeJobs, Cond.instanceMethod yX0_exchangeJobs, Cond.selects RX0 yX0_exchangeJobs yX0_exchangeJobs, Cond.code yX0_exchangeJobs cX0_exchangeJobs 4 (some .int), Cond.methodLink RX0 88 yX0_areApart, Cond.instanceMethod yX0_areApart, Cond.selects RX0 yX0_areApart yX0_areApart]
def wsX4_callOrder_r4 : List Cond := [Cond.code yX0_areApart cX0_areApart 3 (some .boolean), Cond.methodLink RX4 75 yX0_moveRing, Cond.instanceMethod yX0_moveRing, Cond.selects RX0 yX0_moveRing yX0_moveRing, Cond.code yX0_moveRing cX0_moveRing 5 (some .int), Cond.methodLink RX4 78 yX3_walk, Cond.instanceMethod yX3_walk, Cond.selects RX3 yX3_walk yX3_walk, Cond.initialized RX3, Cond.code yX3_walk cX3_walk 6 (some .int), Cond.fieldLink RX3 9 "EvenLoads$Step" "job" "I", Cond.fieldLink RX3 15 "EvenLoads$Step" "goal" "I", Cond.fieldLink RX3 18 "EvenLoads$Step" "other" "I", Cond.methodLink RX3 27 yX0_target, Cond.instanceMethod yX0_target, Cond.selects RX0 yX0_target yX0_target, Cond.code yX0_target cX0_target 1 (some .int), Cond.fieldLink RX0 46 "EvenLoads$Cluster" "factor" "I", Cond.methodLink RX0 132 yX0_bound, Cond.instanceMethod yX0_bound, Cond.selects RX0 yX0_bound yX0_bound, Cond.code yX0_bound cX0_bound 3 (some .int), Cond.methodLink RX0 127 Lib.Math.max.name, Cond.static Lib.Math.max.name]
def wsX4_callOrder_r5 : List Cond := [Cond.initialized "java/lang/Math", Cond.code Lib.Math.max.name Lib.Math.max.code 2 (some .int), Cond.fieldLink RX0 34 "EvenLoads$Cluster" "openServers" "I", Cond.methodLink RX3 33 yX3_choose, Cond.instanceMethod yX3_choose, Cond.selects RX3 yX3_choose yX3_choose, Cond.code yX3_choose cX3_choose 4 (some .boolean), Cond.methodLink RX3 49 yX0_fullestServer, Cond.methodLink RX3 55 yX3_chooseMove, Cond.instanceMethod yX3_chooseMove, Cond.selects RX3 yX3_chooseMove yX3_chooseMove, Cond.code yX3_chooseMove cX3_chooseMove 8 none, Cond.methodLink RX3 85 Lib.Math.max.name, Cond.methodLink RX3 69 yX3_startBelow, Cond.instanceMethod yX3_startBelow, Cond.selects RX3 yX3_startBelow yX3_startBelow, Cond.code yX3_startBelow cX3_startBelow 2 none, Cond.fieldLink RX3 24 "EvenLoads$Step" "greater" "I", Cond.methodLink RX3 94 yX3_offer, Cond.instanceMethod yX3_offer, Cond.selects RX3 yX3_offer yX3_offer, Cond.code yX3_offer cX3_offer 7 none, Cond.fieldLink RX3 21 "EvenLoads$Step" "price" "I", Cond.methodLink RX3 59 yX3_isPossible]
def wsX4_callOrder_r6 : List Cond := [Cond.instanceMethod yX3_isPossible, Cond.selects RX3 yX3_isPossible yX3_isPossible, Cond.code yX3_isPossible cX3_isPossible 2 (some .boolean), Cond.methodLink RX3 63 yX3_chooseExchange, Cond.instanceMethod yX3_chooseExchange, Cond.selects RX3 yX3_chooseExchange yX3_chooseExchange, Cond.code yX3_chooseExchange cX3_chooseExchange 10 none, Cond.methodLink RX3 45 yX0_takeTo]
def wsX4_callOrder : List Cond := .code yX4_callOrder cX4_callOrder 4 (some .int) :: ((wsX4_callOrder_r1 ++ (wsX4_callOrder_r2 ++ (wsX4_callOrder_r3 ++ (wsX4_callOrder_r4 ++ (wsX4_callOrder_r5 ++ wsX4_callOrder_r6))))) ++ wsX40 ++ wsX20 ++ wsX00 ++ wsX30)
def wsX4_runOrders_r1 : List Cond := [Cond.fieldLink RX4 39 "EvenLoads" "program" "LEvenLoads$Program;", Cond.methodLink RX4 212 yX2_startReading, Cond.instanceMethod yX2_startReading, Cond.selects RX2 yX2_startReading yX2_startReading, Cond.initialized RX2, Cond.code yX2_startReading cX2_startReading 1 none, Cond.fieldLink RX2 19 "EvenLoads$Program" "letter" "I", Cond.fieldLink RX2 25 "EvenLoads$Program" "isOrderRead" "Z", Cond.methodLink RX4 215 yX2_read, Cond.instanceMethod yX2_read, Cond.selects RX2 yX2_read yX2_read, Cond.code yX2_read cX2_read 3 (some .boolean), Cond.fieldLink RX2 9 "EvenLoads$Program" "signs" "[I", Cond.fieldLink RX2 35 "EvenLoads$Program" "digits" "I", Cond.fieldLink RX2 32 "EvenLoads$Program" "begun" "I", Cond.static yX4_at, Cond.initialized RX4, Cond.code yX4_at cX4_at 2 (some .int), Cond.methodLink RX2 46 yX2_startReading, Cond.methodLink RX2 49 yX2_readLetter, Cond.instanceMethod yX2_readLetter, Cond.selects RX2 yX2_readLetter yX2_readLetter, Cond.code yX2_readLetter cX2_readLetter 3 (some .boolean), Cond.fieldLink RX2 22 "EvenLoads$Program" "letterPlace" "I"]
def wsX4_runOrders_r2 : List Cond := [Cond.methodLink RX2 53 yX2_numbersOf, Cond.static yX2_numbersOf, Cond.code yX2_numbersOf cX2_numbersOf 1 (some .int), Cond.methodLink RX2 57 yX2_readDigit, Cond.instanceMethod yX2_readDigit, Cond.selects RX2 yX2_readDigit yX2_readDigit, Cond.code yX2_readDigit cX2_readDigit 3 (some .boolean), Cond.fieldLink RX2 29 "EvenLoads$Program" "numbers" "[I", Cond.methodLink RX2 61 yX2_beginNumber, Cond.instanceMethod yX2_beginNumber, Cond.selects RX2 yX2_beginNumber yX2_beginNumber, Cond.code yX2_beginNumber cX2_beginNumber 2 (some .boolean), Cond.static yX4_put, Cond.code yX4_put cX4_put 3 none, Cond.methodLink RX4 222 yX4_callOrder, Cond.instanceMethod yX4_callOrder, Cond.selects RX4 yX4_callOrder yX4_callOrder, Cond.code yX4_callOrder cX4_callOrder 4 (some .int), Cond.fieldLink RX4 10 "EvenLoads" "now" "LEvenLoads$Cluster;", Cond.fieldLink RX4 32 "EvenLoads" "next" "LEvenLoads$Step;", Cond.methodLink RX4 130 yX4_at, Cond.methodLink RX4 55 yX0_newJob, Cond.instanceMethod yX0_newJob, Cond.selects RX0 yX0_newJob yX0_newJob]
def wsX4_runOrders_r3 : List Cond := [Cond.initialized RX0, Cond.code yX0_newJob cX0_newJob 6 (some .int), Cond.fieldLink RX0 37 "EvenLoads$Cluster" "jobs" "I", Cond.fieldLink RX0 9 "EvenLoads$Cluster" "sizes" "[I", Cond.fieldLink RX0 15 "EvenLoads$Cluster" "prices" "[I", Cond.fieldLink RX0 18 "EvenLoads$Cluster" "places" "[I", Cond.fieldLink RX0 21 "EvenLoads$Cluster" "moved" "[I", Cond.fieldLink RX0 24 "EvenLoads$Cluster" "loads" "[I", Cond.fieldLink RX0 40 "EvenLoads$Cluster" "sum" "I", Cond.methodLink RX0 60 yX0_hasServer, Cond.instanceMethod yX0_hasServer, Cond.selects RX0 yX0_hasServer yX0_hasServer, Cond.code yX0_hasServer cX0_hasServer 2 (some .boolean), Cond.fieldLink RX0 30 "EvenLoads$Cluster" "servers" "I", Cond.methodLink RX0 64 yX0_isOpen, Cond.instanceMethod yX0_isOpen, Cond.selects RX0 yX0_isOpen yX0_isOpen, Cond.code yX0_isOpen cX0_isOpen 2 (some .boolean), Cond.fieldLink RX0 27 "EvenLoads$Cluster" "opened" "[I", Cond.methodLink RX4 59 yX0_endJob, Cond.instanceMethod yX0_endJob, Cond.selects RX0 yX0_endJob yX0_endJob, Cond.code yX0_endJob cX0_endJob 3 (some .int), Cond.methodLink RX0 71 yX0_hasJob]
def wsX4_runOrders_r4 : List Cond := [Cond.instanceMethod yX0_hasJob, Cond.selects RX0 yX0_hasJob yX0_hasJob, Cond.code yX0_hasJob cX0_hasJob 2 (some .boolean), Cond.methodLink RX0 74 yX0_isFinished, Cond.instanceMethod yX0_isFinished, Cond.selects RX0 yX0_isFinished yX0_isFinished, Cond.code yX0_isFinished cX0_isFinished 2 (some .boolean), Cond.methodLink RX4 68 yX0_moveJob, Cond.instanceMethod yX0_moveJob, Cond.selects RX0 yX0_moveJob yX0_moveJob, Cond.code yX0_moveJob cX0_moveJob 3 (some .int), Cond.fieldLink RX0 43 "EvenLoads$Cluster" "budget" "I", Cond.methodLink RX0 81 yX0_takeTo, Cond.instanceMethod yX0_takeTo, Cond.selects RX0 yX0_takeTo yX0_takeTo, Cond.code yX0_takeTo cX0_takeTo 3 none, Cond.fieldLink RX0 49 "EvenLoads$Cluster" "moves" "I", Cond.methodLink RX0 114 yX0_shiftLoad, Cond.instanceMethod yX0_shiftLoad, Cond.selects RX0 yX0_shiftLoad yX0_shiftLoad, Cond.code yX0_shiftLoad cX0_shiftLoad 4 none, Cond.methodLink RX0 85 yX0_greatestLoad, Cond.instanceMethod yX0_greatestLoad, Cond.selects RX0 yX0_greatestLoad yX0_greatestLoad]
def wsX4_runOrders_r5 : List Cond := [Cond.code yX0_greatestLoad cX0_greatestLoad 1 (some .int), Cond.methodLink RX0 124 yX0_fullestServer, Cond.instanceMethod yX0_fullestServer, Cond.selects RX0 yX0_fullestServer yX0_fullestServer, Cond.code yX0_fullestServer cX0_fullestServer 4 (some .int), Cond.methodLink RX4 72 yX0_exchangeJobs, Cond.instanceMethod yX0_exchangeJobs, Cond.selects RX0 yX0_exchangeJobs yX0_exchangeJobs, Cond.code yX0_exchangeJobs cX0_exchangeJobs 4 (some .int), Cond.methodLink RX0 88 yX0_areApart, Cond.instanceMethod yX0_areApart, Cond.selects RX0 yX0_areApart yX0_areApart, Cond.code yX0_areApart cX0_areApart 3 (some .boolean), Cond.methodLink RX4 75 yX0_moveRing, Cond.instanceMethod yX0_moveRing, Cond.selects RX0 yX0_moveRing yX0_moveRing, Cond.code yX0_moveRing cX0_moveRing 5 (some .int), Cond.methodLink RX4 78 yX3_walk, Cond.instanceMethod yX3_walk, Cond.selects RX3 yX3_walk yX3_walk, Cond.initialized RX3, Cond.code yX3_walk cX3_walk 6 (some .int), Cond.fieldLink RX3 9 "EvenLoads$Step" "job" "I", Cond.fieldLink RX3 15 "EvenLoads$Step" "goal" "I"]
def wsX4_runOrders_r6 : List Cond := [Cond.fieldLink RX3 18 "EvenLoads$Step" "other" "I", Cond.methodLink RX3 27 yX0_target, Cond.instanceMethod yX0_target, Cond.selects RX0 yX0_target yX0_target, Cond.code yX0_target cX0_target 1 (some .int), Cond.fieldLink RX0 46 "EvenLoads$Cluster" "factor" "I", Cond.methodLink RX0 132 yX0_bound, Cond.instanceMethod yX0_bound, Cond.selects RX0 yX0_bound yX0_bound, Cond.code yX0_bound cX0_bound 3 (some .int), Cond.methodLink RX0 127 Lib.Math.max.name, Cond.static Lib.Math.max.name, Cond.initialized "java/lang/Math", Cond.code Lib.Math.max.name Lib.Math.max.code 2 (some .int), Cond.fieldLink RX0 34 "EvenLoads$Cluster" "openServers" "I", Cond.methodLink RX3 33 yX3_choose, Cond.instanceMethod yX3_choose, Cond.selects RX3 yX3_choose yX3_choose, Cond.code yX3_choose cX3_choose 4 (some .boolean), Cond.methodLink RX3 49 yX0_fullestServer, Cond.methodLink RX3 55 yX3_chooseMove, Cond.instanceMethod yX3_chooseMove, Cond.selects RX3 yX3_chooseMove yX3_chooseMove, Cond.code yX3_chooseMove cX3_chooseMove 8 none]
def wsX4_runOrders_r7 : List Cond := [Cond.methodLink RX3 85 Lib.Math.max.name, Cond.methodLink RX3 69 yX3_startBelow, Cond.instanceMethod yX3_startBelow, Cond.selects RX3 yX3_startBelow yX3_startBelow, Cond.code yX3_startBelow cX3_startBelow 2 none, Cond.fieldLink RX3 24 "EvenLoads$Step" "greater" "I", Cond.methodLink RX3 94 yX3_offer, Cond.instanceMethod yX3_offer, Cond.selects RX3 yX3_offer yX3_offer, Cond.code yX3_offer cX3_offer 7 none, Cond.fieldLink RX3 21 "EvenLoads$Step" "price" "I", Cond.methodLink RX3 59 yX3_isPossible, Cond.instanceMethod yX3_isPossible, Cond.selects RX3 yX3_isPossible yX3_isPossible, Cond.code yX3_isPossible cX3_isPossible 2 (some .boolean), Cond.methodLink RX3 63 yX3_chooseExchange, Cond.instanceMethod yX3_chooseExchange, Cond.selects RX3 yX3_chooseExchange yX3_chooseExchange, Cond.code yX3_chooseExchange cX3_chooseExchange 10 none, Cond.methodLink RX3 45 yX0_takeTo, Cond.methodLink RX4 228 yX2_isInOrder, Cond.instanceMethod yX2_isInOrder, Cond.selects RX2 yX2_isInOrder yX2_isInOrder, Cond.code yX2_isInOrder cX2_isInOrder 1 (some .boolean)]
def wsX4_runOrders : List Cond := .code yX4_runOrders cX4_runOrders 4 (some .int) :: ((wsX4_runOrders_r1 ++ (wsX4_runOrders_r2 ++ (wsX4_runOrders_r3 ++ (wsX4_runOrders_r4 ++ (wsX4_runOrders_r5 ++ (wsX4_runOrders_r6 ++ wsX4_runOrders_r7)))))) ++ wsX40 ++ wsX20 ++ wsX00 ++ wsX30)
def wsX4_run_r1 : List Cond := [Cond.fieldLink RX4 16 "EvenLoads" "before" "LEvenLoads$Cluster;", Cond.fieldLink RX4 10 "EvenLoads" "now" "LEvenLoads$Cluster;", Cond.fieldLink RX4 39 "EvenLoads" "program" "LEvenLoads$Program;", Cond.methodLink RX4 43 yX0_copyFrom, Cond.instanceMethod yX0_copyFrom, Cond.selects RX0 yX0_copyFrom yX0_copyFrom, Cond.initialized RX0, Cond.code yX0_copyFrom cX0_copyFrom 2 none, Cond.fieldLink RX0 9 "EvenLoads$Cluster" "sizes" "[I", Cond.fieldLink RX0 15 "EvenLoads$Cluster" "prices" "[I", Cond.fieldLink RX0 18 "EvenLoads$Cluster" "places" "[I", Cond.fieldLink RX0 21 "EvenLoads$Cluster" "moved" "[I", Cond.fieldLink RX0 24 "EvenLoads$Cluster" "loads" "[I", Cond.fieldLink RX0 27 "EvenLoads$Cluster" "opened" "[I", Cond.fieldLink RX0 30 "EvenLoads$Cluster" "servers" "I", Cond.fieldLink RX0 34 "EvenLoads$Cluster" "openServers" "I", Cond.fieldLink RX0 37 "EvenLoads$Cluster" "jobs" "I", Cond.fieldLink RX0 40 "EvenLoads$Cluster" "sum" "I", Cond.fieldLink RX0 43 "EvenLoads$Cluster" "budget" "I", Cond.fieldLink RX0 46 "EvenLoads$Cluster" "factor" "I", Cond.fieldLink RX0 49 "EvenLoads$Cluster" "moves" "I", Cond.static yX4_copyRow, Cond.initialized RX4, Cond.code yX4_copyRow cX4_copyRow 2 none]
def wsX4_run_r2 : List Cond := [Cond.methodLink RX4 244 Lib.Math.min.name, Cond.static Lib.Math.min.name, Cond.initialized "java/lang/Math", Cond.code Lib.Math.min.name Lib.Math.min.code 2 (some .int), Cond.methodLink RX4 249 arraycopyName, Cond.native arraycopyName, Cond.static arraycopyName, Cond.initialized "java/lang/System", Cond.methodLink RX4 102 yX4_runOrders, Cond.instanceMethod yX4_runOrders, Cond.selects RX4 yX4_runOrders yX4_runOrders, Cond.code yX4_runOrders cX4_runOrders 4 (some .int), Cond.methodLink RX4 212 yX2_startReading, Cond.instanceMethod yX2_startReading, Cond.selects RX2 yX2_startReading yX2_startReading, Cond.initialized RX2, Cond.code yX2_startReading cX2_startReading 1 none, Cond.fieldLink RX2 19 "EvenLoads$Program" "letter" "I", Cond.fieldLink RX2 25 "EvenLoads$Program" "isOrderRead" "Z", Cond.methodLink RX4 215 yX2_read, Cond.instanceMethod yX2_read, Cond.selects RX2 yX2_read yX2_read, Cond.code yX2_read cX2_read 3 (some .boolean), Cond.fieldLink RX2 9 "EvenLoads$Program" "signs" "[I"]
def wsX4_run_r3 : List Cond := [Cond.fieldLink RX2 35 "EvenLoads$Program" "digits" "I", Cond.fieldLink RX2 32 "EvenLoads$Program" "begun" "I", Cond.static yX4_at, Cond.code yX4_at cX4_at 2 (some .int), Cond.methodLink RX2 46 yX2_startReading, Cond.methodLink RX2 49 yX2_readLetter, Cond.instanceMethod yX2_readLetter, Cond.selects RX2 yX2_readLetter yX2_readLetter, Cond.code yX2_readLetter cX2_readLetter 3 (some .boolean), Cond.fieldLink RX2 22 "EvenLoads$Program" "letterPlace" "I", Cond.methodLink RX2 53 yX2_numbersOf, Cond.static yX2_numbersOf, Cond.code yX2_numbersOf cX2_numbersOf 1 (some .int), Cond.methodLink RX2 57 yX2_readDigit, Cond.instanceMethod yX2_readDigit, Cond.selects RX2 yX2_readDigit yX2_readDigit, Cond.code yX2_readDigit cX2_readDigit 3 (some .boolean), Cond.fieldLink RX2 29 "EvenLoads$Program" "numbers" "[I", Cond.methodLink RX2 61 yX2_beginNumber, Cond.instanceMethod yX2_beginNumber, Cond.selects RX2 yX2_beginNumber yX2_beginNumber, Cond.code yX2_beginNumber cX2_beginNumber 2 (some .boolean), Cond.static yX4_put, Cond.code yX4_put cX4_put 3 none]
def wsX4_run_r4 : List Cond := [Cond.methodLink RX4 222 yX4_callOrder, Cond.instanceMethod yX4_callOrder, Cond.selects RX4 yX4_callOrder yX4_callOrder, Cond.code yX4_callOrder cX4_callOrder 4 (some .int), Cond.fieldLink RX4 32 "EvenLoads" "next" "LEvenLoads$Step;", Cond.methodLink RX4 130 yX4_at, Cond.methodLink RX4 55 yX0_newJob, Cond.instanceMethod yX0_newJob, Cond.selects RX0 yX0_newJob yX0_newJob, Cond.code yX0_newJob cX0_newJob 6 (some .int), Cond.methodLink RX0 60 yX0_hasServer, Cond.instanceMethod yX0_hasServer, Cond.selects RX0 yX0_hasServer yX0_hasServer, Cond.code yX0_hasServer cX0_hasServer 2 (some .boolean), Cond.methodLink RX0 64 yX0_isOpen, Cond.instanceMethod yX0_isOpen, Cond.selects RX0 yX0_isOpen yX0_isOpen, Cond.code yX0_isOpen cX0_isOpen 2 (some .boolean), Cond.methodLink RX4 59 yX0_endJob, Cond.instanceMethod yX0_endJob, Cond.selects RX0 yX0_endJob yX0_endJob, Cond.code yX0_endJob cX0_endJob 3 (some .int), Cond.methodLink RX0 71 yX0_hasJob, Cond.instanceMethod yX0_hasJob]
def wsX4_run_r5 : List Cond := [Cond.selects RX0 yX0_hasJob yX0_hasJob, Cond.code yX0_hasJob cX0_hasJob 2 (some .boolean), Cond.methodLink RX0 74 yX0_isFinished, Cond.instanceMethod yX0_isFinished, Cond.selects RX0 yX0_isFinished yX0_isFinished, Cond.code yX0_isFinished cX0_isFinished 2 (some .boolean), Cond.methodLink RX4 68 yX0_moveJob, Cond.instanceMethod yX0_moveJob, Cond.selects RX0 yX0_moveJob yX0_moveJob, Cond.code yX0_moveJob cX0_moveJob 3 (some .int), Cond.methodLink RX0 81 yX0_takeTo, Cond.instanceMethod yX0_takeTo, Cond.selects RX0 yX0_takeTo yX0_takeTo, Cond.code yX0_takeTo cX0_takeTo 3 none, Cond.methodLink RX0 114 yX0_shiftLoad, Cond.instanceMethod yX0_shiftLoad, Cond.selects RX0 yX0_shiftLoad yX0_shiftLoad, Cond.code yX0_shiftLoad cX0_shiftLoad 4 none, Cond.methodLink RX0 85 yX0_greatestLoad, Cond.instanceMethod yX0_greatestLoad, Cond.selects RX0 yX0_greatestLoad yX0_greatestLoad, Cond.code yX0_greatestLoad cX0_greatestLoad 1 (some .int), Cond.methodLink RX0 124 yX0_fullestServer, Cond.instanceMethod yX0_fullestServer]
def wsX4_run_r6 : List Cond := [Cond.selects RX0 yX0_fullestServer yX0_fullestServer, Cond.code yX0_fullestServer cX0_fullestServer 4 (some .int), Cond.methodLink RX4 72 yX0_exchangeJobs, Cond.instanceMethod yX0_exchangeJobs, Cond.selects RX0 yX0_exchangeJobs yX0_exchangeJobs, Cond.code yX0_exchangeJobs cX0_exchangeJobs 4 (some .int), Cond.methodLink RX0 88 yX0_areApart, Cond.instanceMethod yX0_areApart, Cond.selects RX0 yX0_areApart yX0_areApart, Cond.code yX0_areApart cX0_areApart 3 (some .boolean), Cond.methodLink RX4 75 yX0_moveRing, Cond.instanceMethod yX0_moveRing, Cond.selects RX0 yX0_moveRing yX0_moveRing, Cond.code yX0_moveRing cX0_moveRing 5 (some .int), Cond.methodLink RX4 78 yX3_walk, Cond.instanceMethod yX3_walk, Cond.selects RX3 yX3_walk yX3_walk, Cond.initialized RX3, Cond.code yX3_walk cX3_walk 6 (some .int), Cond.fieldLink RX3 9 "EvenLoads$Step" "job" "I", Cond.fieldLink RX3 15 "EvenLoads$Step" "goal" "I", Cond.fieldLink RX3 18 "EvenLoads$Step" "other" "I", Cond.methodLink RX3 27 yX0_target, Cond.instanceMethod yX0_target]
def wsX4_run_r7 : List Cond := [Cond.selects RX0 yX0_target yX0_target, Cond.code yX0_target cX0_target 1 (some .int), Cond.methodLink RX0 132 yX0_bound, Cond.instanceMethod yX0_bound, Cond.selects RX0 yX0_bound yX0_bound, Cond.code yX0_bound cX0_bound 3 (some .int), Cond.methodLink RX0 127 Lib.Math.max.name, Cond.static Lib.Math.max.name, Cond.code Lib.Math.max.name Lib.Math.max.code 2 (some .int), Cond.methodLink RX3 33 yX3_choose, Cond.instanceMethod yX3_choose, Cond.selects RX3 yX3_choose yX3_choose, Cond.code yX3_choose cX3_choose 4 (some .boolean), Cond.methodLink RX3 49 yX0_fullestServer, Cond.methodLink RX3 55 yX3_chooseMove, Cond.instanceMethod yX3_chooseMove, Cond.selects RX3 yX3_chooseMove yX3_chooseMove, Cond.code yX3_chooseMove cX3_chooseMove 8 none, Cond.methodLink RX3 85 Lib.Math.max.name, Cond.methodLink RX3 69 yX3_startBelow, Cond.instanceMethod yX3_startBelow, Cond.selects RX3 yX3_startBelow yX3_startBelow, Cond.code yX3_startBelow cX3_startBelow 2 none, Cond.fieldLink RX3 24 "EvenLoads$Step" "greater" "I"]
def wsX4_run_r8 : List Cond := [Cond.methodLink RX3 94 yX3_offer, Cond.instanceMethod yX3_offer, Cond.selects RX3 yX3_offer yX3_offer, Cond.code yX3_offer cX3_offer 7 none, Cond.fieldLink RX3 21 "EvenLoads$Step" "price" "I", Cond.methodLink RX3 59 yX3_isPossible, Cond.instanceMethod yX3_isPossible, Cond.selects RX3 yX3_isPossible yX3_isPossible, Cond.code yX3_isPossible cX3_isPossible 2 (some .boolean), Cond.methodLink RX3 63 yX3_chooseExchange, Cond.instanceMethod yX3_chooseExchange, Cond.selects RX3 yX3_chooseExchange yX3_chooseExchange, Cond.code yX3_chooseExchange cX3_chooseExchange 10 none, Cond.methodLink RX3 45 yX0_takeTo, Cond.methodLink RX4 228 yX2_isInOrder, Cond.instanceMethod yX2_isInOrder, Cond.selects RX2 yX2_isInOrder yX2_isInOrder, Cond.code yX2_isInOrder cX2_isInOrder 1 (some .boolean), Cond.methodLink RX4 51 yX4_recorded, Cond.instanceMethod yX4_recorded, Cond.selects RX4 yX4_recorded yX4_recorded, Cond.code yX4_recorded cX4_recorded 2 (some .int), Cond.fieldLink RX4 25 "EvenLoads" "history" "LEvenLoads$History;", Cond.methodLink RX4 209 yX1_keep]
def wsX4_run_r9 : List Cond := [Cond.instanceMethod yX1_keep, Cond.selects RX1 yX1_keep yX1_keep, Cond.initialized RX1, Cond.code yX1_keep cX1_keep 3 none, Cond.fieldLink RX1 21 "EvenLoads$History" "free" "I", Cond.fieldLink RX1 17 "EvenLoads$History" "depth" "I", Cond.methodLink RX1 33 Lib.Math.min.name, Cond.methodLink RX1 25 yX1_stateAt, Cond.instanceMethod yX1_stateAt, Cond.selects RX1 yX1_stateAt yX1_stateAt, Cond.code yX1_stateAt cX1_stateAt 2 (some (.object "EvenLoads$Cluster")), Cond.fieldLink RX1 11 "EvenLoads$History" "states" "[LEvenLoads$Cluster;", Cond.methodLink RX1 29 yX0_copyFrom]
def wsX4_run : List Cond := .code yX4_run cX4_run 2 (some .int) :: ((wsX4_run_r1 ++ (wsX4_run_r2 ++ (wsX4_run_r3 ++ (wsX4_run_r4 ++ (wsX4_run_r5 ++ (wsX4_run_r6 ++ (wsX4_run_r7 ++ (wsX4_run_r8 ++ wsX4_run_r9)))))))) ++ wsX40 ++ wsX20 ++ wsX00 ++ wsX30 ++ wsX10)
def wsX4_count_r1 : List Cond := [Cond.fieldLink RX4 10 "EvenLoads" "now" "LEvenLoads$Cluster;", Cond.fieldLink RX4 25 "EvenLoads" "history" "LEvenLoads$History;", Cond.fieldLink RX4 39 "EvenLoads" "program" "LEvenLoads$Program;", Cond.methodLink RX4 114 yX0_finishedJobs, Cond.instanceMethod yX0_finishedJobs, Cond.selects RX0 yX0_finishedJobs yX0_finishedJobs, Cond.initialized RX0, Cond.code yX0_finishedJobs cX0_finishedJobs 3 (some .int), Cond.fieldLink RX0 37 "EvenLoads$Cluster" "jobs" "I", Cond.methodLink RX0 74 yX0_isFinished, Cond.instanceMethod yX0_isFinished, Cond.selects RX0 yX0_isFinished yX0_isFinished, Cond.code yX0_isFinished cX0_isFinished 2 (some .boolean), Cond.fieldLink RX0 18 "EvenLoads$Cluster" "places" "[I", Cond.static yX4_at, Cond.initialized RX4, Cond.code yX4_at cX4_at 2 (some .int), Cond.methodLink RX4 120 yX0_greatestLoad, Cond.instanceMethod yX0_greatestLoad, Cond.selects RX0 yX0_greatestLoad yX0_greatestLoad, Cond.code yX0_greatestLoad cX0_greatestLoad 1 (some .int), Cond.fieldLink RX0 24 "EvenLoads$Cluster" "loads" "[I", Cond.methodLink RX0 124 yX0_fullestServer, Cond.instanceMethod yX0_fullestServer]
def wsX4_count_r2 : List Cond := [Cond.selects RX0 yX0_fullestServer yX0_fullestServer, Cond.code yX0_fullestServer cX0_fullestServer 4 (some .int), Cond.fieldLink RX0 30 "EvenLoads$Cluster" "servers" "I", Cond.fieldLink RX0 27 "EvenLoads$Cluster" "opened" "[I", Cond.methodLink RX4 127 yX0_emptiestServer, Cond.instanceMethod yX0_emptiestServer, Cond.selects RX0 yX0_emptiestServer yX0_emptiestServer, Cond.code yX0_emptiestServer cX0_emptiestServer 4 (some .int), Cond.methodLink RX4 130 yX4_at, Cond.methodLink RX4 134 yX0_bound, Cond.instanceMethod yX0_bound, Cond.selects RX0 yX0_bound yX0_bound, Cond.code yX0_bound cX0_bound 3 (some .int), Cond.fieldLink RX0 9 "EvenLoads$Cluster" "sizes" "[I", Cond.methodLink RX0 127 Lib.Math.max.name, Cond.static Lib.Math.max.name, Cond.initialized "java/lang/Math", Cond.code Lib.Math.max.name Lib.Math.max.code 2 (some .int), Cond.fieldLink RX0 34 "EvenLoads$Cluster" "openServers" "I", Cond.fieldLink RX0 40 "EvenLoads$Cluster" "sum" "I", Cond.methodLink RX4 137 yX0_target, Cond.instanceMethod yX0_target, Cond.selects RX0 yX0_target yX0_target, Cond.code yX0_target cX0_target 1 (some .int)]
def wsX4_count_r3 : List Cond := [Cond.fieldLink RX0 46 "EvenLoads$Cluster" "factor" "I", Cond.methodLink RX0 132 yX0_bound, Cond.methodLink RX4 140 yX0_isEven, Cond.instanceMethod yX0_isEven, Cond.selects RX0 yX0_isEven yX0_isEven, Cond.code yX0_isEven cX0_isEven 1 (some .boolean), Cond.methodLink RX0 85 yX0_greatestLoad, Cond.methodLink RX0 77 yX0_target]
def wsX4_count : List Cond := .code yX4_count cX4_count 2 (some .int) :: ((wsX4_count_r1 ++ (wsX4_count_r2 ++ wsX4_count_r3)) ++ wsX40 ++ wsX00 ++ wsX10 ++ wsX20)
def wsX4_server_r1 : List Cond := [Cond.fieldLink RX4 10 "EvenLoads" "now" "LEvenLoads$Cluster;", Cond.methodLink RX4 153 yX0_hasServer, Cond.instanceMethod yX0_hasServer, Cond.selects RX0 yX0_hasServer yX0_hasServer, Cond.initialized RX0, Cond.code yX0_hasServer cX0_hasServer 2 (some .boolean), Cond.fieldLink RX0 30 "EvenLoads$Cluster" "servers" "I", Cond.methodLink RX4 157 yX0_isOpen, Cond.instanceMethod yX0_isOpen, Cond.selects RX0 yX0_isOpen yX0_isOpen, Cond.code yX0_isOpen cX0_isOpen 2 (some .boolean), Cond.fieldLink RX0 27 "EvenLoads$Cluster" "opened" "[I", Cond.static yX4_at, Cond.initialized RX4, Cond.code yX4_at cX4_at 2 (some .int), Cond.methodLink RX4 130 yX4_at, Cond.methodLink RX4 160 yX0_jobsOn, Cond.instanceMethod yX0_jobsOn, Cond.selects RX0 yX0_jobsOn yX0_jobsOn, Cond.code yX0_jobsOn cX0_jobsOn 4 (some .int), Cond.fieldLink RX0 37 "EvenLoads$Cluster" "jobs" "I", Cond.fieldLink RX0 18 "EvenLoads$Cluster" "places" "[I", Cond.methodLink RX4 163 yJ6_bitCount_0f7a4, Cond.static yJ6_bitCount_0f7a4]
def wsX4_server_r2 : List Cond := [Cond.initialized RJ6, Cond.code yJ6_bitCount_0f7a4 cJ6_bitCount_0f7a4 1 (some .int), Cond.constant RJ6 265 (1431655765), Cond.constant RJ6 266 (858993459), Cond.constant RJ6 267 (252645135)]
def wsX4_server : List Cond := .code yX4_server cX4_server 3 (some .int) :: ((wsX4_server_r1 ++ wsX4_server_r2) ++ wsX40 ++ wsX00)
def wsX4_job : List Cond := .code yX4_job cX4_job 3 (some .int) :: ([.fieldLink RX4 10 "EvenLoads" "now" "LEvenLoads$Cluster;", .methodLink RX4 168 yX0_hasJob, .instanceMethod yX0_hasJob, .selects RX0 yX0_hasJob yX0_hasJob, .initialized RX0, .code yX0_hasJob cX0_hasJob 2 (some .boolean), .fieldLink RX0 37 "EvenLoads$Cluster" "jobs" "I", .methodLink RX4 130 yX4_at, .static yX4_at, .initialized RX4, .code yX4_at cX4_at 2 (some .int)] ++ wsX40 ++ wsX00)
def wsX4_leaving_r1 : List Cond := [Cond.fieldLink RX4 10 "EvenLoads" "now" "LEvenLoads$Cluster;", Cond.methodLink RX4 153 yX0_hasServer, Cond.instanceMethod yX0_hasServer, Cond.selects RX0 yX0_hasServer yX0_hasServer, Cond.initialized RX0, Cond.code yX0_hasServer cX0_hasServer 2 (some .boolean), Cond.fieldLink RX0 30 "EvenLoads$Cluster" "servers" "I", Cond.methodLink RX4 183 yX0_leavingJob, Cond.instanceMethod yX0_leavingJob, Cond.selects RX0 yX0_leavingJob yX0_leavingJob, Cond.code yX0_leavingJob cX0_leavingJob 4 (some .int), Cond.fieldLink RX0 37 "EvenLoads$Cluster" "jobs" "I", Cond.fieldLink RX0 18 "EvenLoads$Cluster" "places" "[I", Cond.static yX4_at, Cond.initialized RX4, Cond.code yX4_at cX4_at 2 (some .int), Cond.methodLink RX0 118 yX0_jobsLeavingBefore, Cond.instanceMethod yX0_jobsLeavingBefore, Cond.selects RX0 yX0_jobsLeavingBefore yX0_jobsLeavingBefore, Cond.code yX0_jobsLeavingBefore cX0_jobsLeavingBefore 4 (some .int), Cond.methodLink RX0 121 yX0_leavesBefore, Cond.instanceMethod yX0_leavesBefore, Cond.selects RX0 yX0_leavesBefore yX0_leavesBefore, Cond.code yX0_leavesBefore cX0_leavesBefore 3 (some .boolean)]
def wsX4_leaving_r2 : List Cond := [Cond.fieldLink RX0 9 "EvenLoads$Cluster" "sizes" "[I", Cond.fieldLink RX0 15 "EvenLoads$Cluster" "prices" "[I"]
def wsX4_leaving : List Cond := .code yX4_leaving cX4_leaving 3 (some .int) :: ((wsX4_leaving_r1 ++ wsX4_leaving_r2) ++ wsX40 ++ wsX00)
def wsX4_step_r1 : List Cond := [Cond.fieldLink RX4 32 "EvenLoads" "next" "LEvenLoads$Step;", Cond.fieldLink RX4 10 "EvenLoads" "now" "LEvenLoads$Cluster;", Cond.methodLink RX4 137 yX0_target, Cond.instanceMethod yX0_target, Cond.selects RX0 yX0_target yX0_target, Cond.initialized RX0, Cond.code yX0_target cX0_target 1 (some .int), Cond.fieldLink RX0 46 "EvenLoads$Cluster" "factor" "I", Cond.methodLink RX0 132 yX0_bound, Cond.instanceMethod yX0_bound, Cond.selects RX0 yX0_bound yX0_bound, Cond.code yX0_bound cX0_bound 3 (some .int), Cond.fieldLink RX0 37 "EvenLoads$Cluster" "jobs" "I", Cond.fieldLink RX0 18 "EvenLoads$Cluster" "places" "[I", Cond.fieldLink RX0 9 "EvenLoads$Cluster" "sizes" "[I", Cond.methodLink RX0 127 Lib.Math.max.name, Cond.static Lib.Math.max.name, Cond.initialized "java/lang/Math", Cond.code Lib.Math.max.name Lib.Math.max.code 2 (some .int), Cond.fieldLink RX0 34 "EvenLoads$Cluster" "openServers" "I", Cond.fieldLink RX0 40 "EvenLoads$Cluster" "sum" "I", Cond.static yX4_at, Cond.initialized RX4, Cond.code yX4_at cX4_at 2 (some .int)]
def wsX4_step_r2 : List Cond := [Cond.methodLink RX4 186 yX3_choose, Cond.instanceMethod yX3_choose, Cond.selects RX3 yX3_choose yX3_choose, Cond.initialized RX3, Cond.code yX3_choose cX3_choose 4 (some .boolean), Cond.methodLink RX3 49 yX0_fullestServer, Cond.instanceMethod yX0_fullestServer, Cond.selects RX0 yX0_fullestServer yX0_fullestServer, Cond.code yX0_fullestServer cX0_fullestServer 4 (some .int), Cond.fieldLink RX0 30 "EvenLoads$Cluster" "servers" "I", Cond.fieldLink RX0 24 "EvenLoads$Cluster" "loads" "[I", Cond.fieldLink RX0 27 "EvenLoads$Cluster" "opened" "[I", Cond.methodLink RX3 55 yX3_chooseMove, Cond.instanceMethod yX3_chooseMove, Cond.selects RX3 yX3_chooseMove yX3_chooseMove, Cond.code yX3_chooseMove cX3_chooseMove 8 none, Cond.methodLink RX3 85 Lib.Math.max.name, Cond.methodLink RX3 69 yX3_startBelow, Cond.instanceMethod yX3_startBelow, Cond.selects RX3 yX3_startBelow yX3_startBelow, Cond.code yX3_startBelow cX3_startBelow 2 none, Cond.fieldLink RX3 9 "EvenLoads$Step" "job" "I", Cond.fieldLink RX3 24 "EvenLoads$Step" "greater" "I", Cond.methodLink RX3 94 yX3_offer]
def wsX4_step_r3 : List Cond := [Cond.instanceMethod yX3_offer, Cond.selects RX3 yX3_offer yX3_offer, Cond.code yX3_offer cX3_offer 7 none, Cond.fieldLink RX3 21 "EvenLoads$Step" "price" "I", Cond.fieldLink RX3 15 "EvenLoads$Step" "goal" "I", Cond.fieldLink RX3 18 "EvenLoads$Step" "other" "I", Cond.methodLink RX3 59 yX3_isPossible, Cond.instanceMethod yX3_isPossible, Cond.selects RX3 yX3_isPossible yX3_isPossible, Cond.code yX3_isPossible cX3_isPossible 2 (some .boolean), Cond.methodLink RX3 63 yX3_chooseExchange, Cond.instanceMethod yX3_chooseExchange, Cond.selects RX3 yX3_chooseExchange yX3_chooseExchange, Cond.code yX3_chooseExchange cX3_chooseExchange 10 none]
def wsX4_step : List Cond := .code yX4_step cX4_step 2 (some .int) :: ((wsX4_step_r1 ++ (wsX4_step_r2 ++ wsX4_step_r3)) ++ wsX40 ++ wsX30 ++ wsX00)
def wsX4_plan_r1 : List Cond := [Cond.fieldLink RX4 19 "EvenLoads" "trial" "LEvenLoads$Cluster;", Cond.fieldLink RX4 10 "EvenLoads" "now" "LEvenLoads$Cluster;", Cond.fieldLink RX4 32 "EvenLoads" "next" "LEvenLoads$Step;", Cond.methodLink RX4 43 yX0_copyFrom, Cond.instanceMethod yX0_copyFrom, Cond.selects RX0 yX0_copyFrom yX0_copyFrom, Cond.initialized RX0, Cond.code yX0_copyFrom cX0_copyFrom 2 none, Cond.fieldLink RX0 9 "EvenLoads$Cluster" "sizes" "[I", Cond.fieldLink RX0 15 "EvenLoads$Cluster" "prices" "[I", Cond.fieldLink RX0 18 "EvenLoads$Cluster" "places" "[I", Cond.fieldLink RX0 21 "EvenLoads$Cluster" "moved" "[I", Cond.fieldLink RX0 24 "EvenLoads$Cluster" "loads" "[I", Cond.fieldLink RX0 27 "EvenLoads$Cluster" "opened" "[I", Cond.fieldLink RX0 30 "EvenLoads$Cluster" "servers" "I", Cond.fieldLink RX0 34 "EvenLoads$Cluster" "openServers" "I", Cond.fieldLink RX0 37 "EvenLoads$Cluster" "jobs" "I", Cond.fieldLink RX0 40 "EvenLoads$Cluster" "sum" "I", Cond.fieldLink RX0 43 "EvenLoads$Cluster" "budget" "I", Cond.fieldLink RX0 46 "EvenLoads$Cluster" "factor" "I", Cond.fieldLink RX0 49 "EvenLoads$Cluster" "moves" "I", Cond.static yX4_copyRow, Cond.initialized RX4, Cond.code yX4_copyRow cX4_copyRow 2 none]
def wsX4_plan_r2 : List Cond := [Cond.methodLink RX4 244 Lib.Math.min.name, Cond.static Lib.Math.min.name, Cond.initialized "java/lang/Math", Cond.code Lib.Math.min.name Lib.Math.min.code 2 (some .int), Cond.methodLink RX4 249 arraycopyName, Cond.native arraycopyName, Cond.static arraycopyName, Cond.initialized "java/lang/System", Cond.methodLink RX4 78 yX3_walk, Cond.instanceMethod yX3_walk, Cond.selects RX3 yX3_walk yX3_walk, Cond.initialized RX3, Cond.code yX3_walk cX3_walk 6 (some .int), Cond.fieldLink RX3 9 "EvenLoads$Step" "job" "I", Cond.fieldLink RX3 15 "EvenLoads$Step" "goal" "I", Cond.fieldLink RX3 18 "EvenLoads$Step" "other" "I", Cond.methodLink RX3 27 yX0_target, Cond.instanceMethod yX0_target, Cond.selects RX0 yX0_target yX0_target, Cond.code yX0_target cX0_target 1 (some .int), Cond.methodLink RX0 132 yX0_bound, Cond.instanceMethod yX0_bound, Cond.selects RX0 yX0_bound yX0_bound, Cond.code yX0_bound cX0_bound 3 (some .int)]
def wsX4_plan_r3 : List Cond := [Cond.methodLink RX0 127 Lib.Math.max.name, Cond.static Lib.Math.max.name, Cond.code Lib.Math.max.name Lib.Math.max.code 2 (some .int), Cond.static yX4_at, Cond.code yX4_at cX4_at 2 (some .int), Cond.methodLink RX3 33 yX3_choose, Cond.instanceMethod yX3_choose, Cond.selects RX3 yX3_choose yX3_choose, Cond.code yX3_choose cX3_choose 4 (some .boolean), Cond.methodLink RX3 49 yX0_fullestServer, Cond.instanceMethod yX0_fullestServer, Cond.selects RX0 yX0_fullestServer yX0_fullestServer, Cond.code yX0_fullestServer cX0_fullestServer 4 (some .int), Cond.methodLink RX3 55 yX3_chooseMove, Cond.instanceMethod yX3_chooseMove, Cond.selects RX3 yX3_chooseMove yX3_chooseMove, Cond.code yX3_chooseMove cX3_chooseMove 8 none, Cond.methodLink RX3 85 Lib.Math.max.name, Cond.methodLink RX3 69 yX3_startBelow, Cond.instanceMethod yX3_startBelow, Cond.selects RX3 yX3_startBelow yX3_startBelow, Cond.code yX3_startBelow cX3_startBelow 2 none, Cond.fieldLink RX3 24 "EvenLoads$Step" "greater" "I", Cond.methodLink RX3 94 yX3_offer]
def wsX4_plan_r4 : List Cond := [Cond.instanceMethod yX3_offer, Cond.selects RX3 yX3_offer yX3_offer, Cond.code yX3_offer cX3_offer 7 none, Cond.fieldLink RX3 21 "EvenLoads$Step" "price" "I", Cond.methodLink RX3 59 yX3_isPossible, Cond.instanceMethod yX3_isPossible, Cond.selects RX3 yX3_isPossible yX3_isPossible, Cond.code yX3_isPossible cX3_isPossible 2 (some .boolean), Cond.methodLink RX3 63 yX3_chooseExchange, Cond.instanceMethod yX3_chooseExchange, Cond.selects RX3 yX3_chooseExchange yX3_chooseExchange, Cond.code yX3_chooseExchange cX3_chooseExchange 10 none, Cond.methodLink RX3 45 yX0_takeTo, Cond.instanceMethod yX0_takeTo, Cond.selects RX0 yX0_takeTo yX0_takeTo, Cond.code yX0_takeTo cX0_takeTo 3 none, Cond.methodLink RX0 114 yX0_shiftLoad, Cond.instanceMethod yX0_shiftLoad, Cond.selects RX0 yX0_shiftLoad yX0_shiftLoad, Cond.code yX0_shiftLoad cX0_shiftLoad 4 none, Cond.static yX4_put, Cond.code yX4_put cX4_put 3 none, Cond.methodLink RX4 120 yX0_greatestLoad, Cond.instanceMethod yX0_greatestLoad]
def wsX4_plan_r5 : List Cond := [Cond.selects RX0 yX0_greatestLoad yX0_greatestLoad, Cond.code yX0_greatestLoad cX0_greatestLoad 1 (some .int), Cond.methodLink RX0 124 yX0_fullestServer, Cond.methodLink RX4 140 yX0_isEven, Cond.instanceMethod yX0_isEven, Cond.selects RX0 yX0_isEven yX0_isEven, Cond.code yX0_isEven cX0_isEven 1 (some .boolean), Cond.methodLink RX0 85 yX0_greatestLoad, Cond.methodLink RX0 77 yX0_target]
def wsX4_plan : List Cond := .code yX4_plan cX4_plan 3 (some .int) :: ((wsX4_plan_r1 ++ (wsX4_plan_r2 ++ (wsX4_plan_r3 ++ (wsX4_plan_r4 ++ wsX4_plan_r5)))) ++ wsX40 ++ wsX00 ++ wsX30)
def wsX4_cheapest : List Cond := .code yX4_cheapest cX4_cheapest 11 (some .int) :: ([.methodLink RX4 237 yX0_serversAbove, .instanceMethod yX0_serversAbove, .selects RX0 yX0_serversAbove yX0_serversAbove, .initialized RX0, .code yX0_serversAbove cX0_serversAbove 4 (some .int), .fieldLink RX0 30 "EvenLoads$Cluster" "servers" "I", .fieldLink RX0 24 "EvenLoads$Cluster" "loads" "[I", .static yX4_at, .initialized RX4, .code yX4_at cX4_at 2 (some .int), .methodLink RX4 130 yX4_at, .methodLink RX4 157 yX0_isOpen, .instanceMethod yX0_isOpen, .selects RX0 yX0_isOpen yX0_isOpen, .code yX0_isOpen cX0_isOpen 2 (some .boolean), .fieldLink RX0 27 "EvenLoads$Cluster" "opened" "[I", .methodLink RX4 240 yX0_shiftLoad, .instanceMethod yX0_shiftLoad, .selects RX0 yX0_shiftLoad yX0_shiftLoad, .code yX0_shiftLoad cX0_shiftLoad 4 none, .static yX4_put, .code yX4_put cX4_put 3 none, .methodLink RX4 202 yX4_cheapest, .static yX4_cheapest] ++ wsX00)
def wsX4_fewest_r1 : List Cond := [Cond.fieldLink RX4 19 "EvenLoads" "trial" "LEvenLoads$Cluster;", Cond.fieldLink RX4 10 "EvenLoads" "now" "LEvenLoads$Cluster;", Cond.methodLink RX4 43 yX0_copyFrom, Cond.instanceMethod yX0_copyFrom, Cond.selects RX0 yX0_copyFrom yX0_copyFrom, Cond.initialized RX0, Cond.code yX0_copyFrom cX0_copyFrom 2 none, Cond.fieldLink RX0 9 "EvenLoads$Cluster" "sizes" "[I", Cond.fieldLink RX0 15 "EvenLoads$Cluster" "prices" "[I", Cond.fieldLink RX0 18 "EvenLoads$Cluster" "places" "[I", Cond.fieldLink RX0 21 "EvenLoads$Cluster" "moved" "[I", Cond.fieldLink RX0 24 "EvenLoads$Cluster" "loads" "[I", Cond.fieldLink RX0 27 "EvenLoads$Cluster" "opened" "[I", Cond.fieldLink RX0 30 "EvenLoads$Cluster" "servers" "I", Cond.fieldLink RX0 34 "EvenLoads$Cluster" "openServers" "I", Cond.fieldLink RX0 37 "EvenLoads$Cluster" "jobs" "I", Cond.fieldLink RX0 40 "EvenLoads$Cluster" "sum" "I", Cond.fieldLink RX0 43 "EvenLoads$Cluster" "budget" "I", Cond.fieldLink RX0 46 "EvenLoads$Cluster" "factor" "I", Cond.fieldLink RX0 49 "EvenLoads$Cluster" "moves" "I", Cond.static yX4_copyRow, Cond.initialized RX4, Cond.code yX4_copyRow cX4_copyRow 2 none, Cond.methodLink RX4 244 Lib.Math.min.name]
def wsX4_fewest_r2 : List Cond := [Cond.static Lib.Math.min.name, Cond.initialized "java/lang/Math", Cond.code Lib.Math.min.name Lib.Math.min.code 2 (some .int), Cond.methodLink RX4 249 arraycopyName, Cond.native arraycopyName, Cond.static arraycopyName, Cond.initialized "java/lang/System", Cond.methodLink RX4 137 yX0_target, Cond.instanceMethod yX0_target, Cond.selects RX0 yX0_target yX0_target, Cond.code yX0_target cX0_target 1 (some .int), Cond.methodLink RX0 132 yX0_bound, Cond.instanceMethod yX0_bound, Cond.selects RX0 yX0_bound yX0_bound, Cond.code yX0_bound cX0_bound 3 (some .int), Cond.methodLink RX0 127 Lib.Math.max.name, Cond.static Lib.Math.max.name, Cond.code Lib.Math.max.name Lib.Math.max.code 2 (some .int), Cond.static yX4_at, Cond.code yX4_at cX4_at 2 (some .int), Cond.methodLink RX4 202 yX4_cheapest, Cond.static yX4_cheapest, Cond.code yX4_cheapest cX4_cheapest 11 (some .int), Cond.methodLink RX4 237 yX0_serversAbove]
def wsX4_fewest_r3 : List Cond := [Cond.instanceMethod yX0_serversAbove, Cond.selects RX0 yX0_serversAbove yX0_serversAbove, Cond.code yX0_serversAbove cX0_serversAbove 4 (some .int), Cond.methodLink RX4 130 yX4_at, Cond.methodLink RX4 157 yX0_isOpen, Cond.instanceMethod yX0_isOpen, Cond.selects RX0 yX0_isOpen yX0_isOpen, Cond.code yX0_isOpen cX0_isOpen 2 (some .boolean), Cond.methodLink RX4 240 yX0_shiftLoad, Cond.instanceMethod yX0_shiftLoad, Cond.selects RX0 yX0_shiftLoad yX0_shiftLoad, Cond.code yX0_shiftLoad cX0_shiftLoad 4 none, Cond.static yX4_put, Cond.code yX4_put cX4_put 3 none]
def wsX4_fewest : List Cond := .code yX4_fewest cX4_fewest 5 (some .int) :: ((wsX4_fewest_r1 ++ (wsX4_fewest_r2 ++ wsX4_fewest_r3)) ++ wsX40 ++ wsX00)
def wsX4_without_r1 : List Cond := [Cond.fieldLink RX4 10 "EvenLoads" "now" "LEvenLoads$Cluster;", Cond.fieldLink RX4 19 "EvenLoads" "trial" "LEvenLoads$Cluster;", Cond.methodLink RX4 153 yX0_hasServer, Cond.instanceMethod yX0_hasServer, Cond.selects RX0 yX0_hasServer yX0_hasServer, Cond.initialized RX0, Cond.code yX0_hasServer cX0_hasServer 2 (some .boolean), Cond.fieldLink RX0 30 "EvenLoads$Cluster" "servers" "I", Cond.methodLink RX4 157 yX0_isOpen, Cond.instanceMethod yX0_isOpen, Cond.selects RX0 yX0_isOpen yX0_isOpen, Cond.code yX0_isOpen cX0_isOpen 2 (some .boolean), Cond.fieldLink RX0 27 "EvenLoads$Cluster" "opened" "[I", Cond.static yX4_at, Cond.initialized RX4, Cond.code yX4_at cX4_at 2 (some .int), Cond.methodLink RX4 43 yX0_copyFrom, Cond.instanceMethod yX0_copyFrom, Cond.selects RX0 yX0_copyFrom yX0_copyFrom, Cond.code yX0_copyFrom cX0_copyFrom 2 none, Cond.fieldLink RX0 9 "EvenLoads$Cluster" "sizes" "[I", Cond.fieldLink RX0 15 "EvenLoads$Cluster" "prices" "[I", Cond.fieldLink RX0 18 "EvenLoads$Cluster" "places" "[I", Cond.fieldLink RX0 21 "EvenLoads$Cluster" "moved" "[I"]
def wsX4_without_r2 : List Cond := [Cond.fieldLink RX0 24 "EvenLoads$Cluster" "loads" "[I", Cond.fieldLink RX0 34 "EvenLoads$Cluster" "openServers" "I", Cond.fieldLink RX0 37 "EvenLoads$Cluster" "jobs" "I", Cond.fieldLink RX0 40 "EvenLoads$Cluster" "sum" "I", Cond.fieldLink RX0 43 "EvenLoads$Cluster" "budget" "I", Cond.fieldLink RX0 46 "EvenLoads$Cluster" "factor" "I", Cond.fieldLink RX0 49 "EvenLoads$Cluster" "moves" "I", Cond.static yX4_copyRow, Cond.code yX4_copyRow cX4_copyRow 2 none, Cond.methodLink RX4 244 Lib.Math.min.name, Cond.static Lib.Math.min.name, Cond.initialized "java/lang/Math", Cond.code Lib.Math.min.name Lib.Math.min.code 2 (some .int), Cond.methodLink RX4 249 arraycopyName, Cond.native arraycopyName, Cond.static arraycopyName, Cond.initialized "java/lang/System", Cond.methodLink RX4 206 yX0_closeAndEmpty, Cond.instanceMethod yX0_closeAndEmpty, Cond.selects RX0 yX0_closeAndEmpty yX0_closeAndEmpty, Cond.code yX0_closeAndEmpty cX0_closeAndEmpty 4 (some .int), Cond.static yX4_put, Cond.code yX4_put cX4_put 3 none, Cond.methodLink RX0 99 yX0_jobsOn]
def wsX4_without_r3 : List Cond := [Cond.instanceMethod yX0_jobsOn, Cond.selects RX0 yX0_jobsOn yX0_jobsOn, Cond.code yX0_jobsOn cX0_jobsOn 4 (some .int), Cond.methodLink RX0 102 yJ6_bitCount_0f7a4, Cond.static yJ6_bitCount_0f7a4, Cond.initialized RJ6, Cond.code yJ6_bitCount_0f7a4 cJ6_bitCount_0f7a4 1 (some .int), Cond.constant RJ6 265 (1431655765), Cond.constant RJ6 266 (858993459), Cond.constant RJ6 267 (252645135), Cond.methodLink RX0 107 yX0_leavingJob, Cond.instanceMethod yX0_leavingJob, Cond.selects RX0 yX0_leavingJob yX0_leavingJob, Cond.code yX0_leavingJob cX0_leavingJob 4 (some .int), Cond.methodLink RX0 118 yX0_jobsLeavingBefore, Cond.instanceMethod yX0_jobsLeavingBefore, Cond.selects RX0 yX0_jobsLeavingBefore yX0_jobsLeavingBefore, Cond.code yX0_jobsLeavingBefore cX0_jobsLeavingBefore 4 (some .int), Cond.methodLink RX0 121 yX0_leavesBefore, Cond.instanceMethod yX0_leavesBefore, Cond.selects RX0 yX0_leavesBefore yX0_leavesBefore, Cond.code yX0_leavesBefore cX0_leavesBefore 3 (some .boolean), Cond.methodLink RX0 111 yX0_emptiestServer, Cond.instanceMethod yX0_emptiestServer]
def wsX4_without_r4 : List Cond := [Cond.selects RX0 yX0_emptiestServer yX0_emptiestServer, Cond.code yX0_emptiestServer cX0_emptiestServer 4 (some .int), Cond.methodLink RX0 81 yX0_takeTo, Cond.instanceMethod yX0_takeTo, Cond.selects RX0 yX0_takeTo yX0_takeTo, Cond.code yX0_takeTo cX0_takeTo 3 none, Cond.methodLink RX0 114 yX0_shiftLoad, Cond.instanceMethod yX0_shiftLoad, Cond.selects RX0 yX0_shiftLoad yX0_shiftLoad, Cond.code yX0_shiftLoad cX0_shiftLoad 4 none, Cond.methodLink RX4 120 yX0_greatestLoad, Cond.instanceMethod yX0_greatestLoad, Cond.selects RX0 yX0_greatestLoad yX0_greatestLoad, Cond.code yX0_greatestLoad cX0_greatestLoad 1 (some .int), Cond.methodLink RX0 124 yX0_fullestServer, Cond.instanceMethod yX0_fullestServer, Cond.selects RX0 yX0_fullestServer yX0_fullestServer, Cond.code yX0_fullestServer cX0_fullestServer 4 (some .int)]
def wsX4_without : List Cond := .code yX4_without cX4_without 2 (some .int) :: ((wsX4_without_r1 ++ (wsX4_without_r2 ++ (wsX4_without_r3 ++ wsX4_without_r4))) ++ wsX40 ++ wsX00)
def wsX5_init : List Cond := .code yX5_init cX5_init 1 none :: ([.methodLink RX5 1 objectInit, .instanceMethod objectInit, .code objectInit ⟨#[0xb1]⟩ 1 none, .arrayClass .int, .fieldLink RX5 7 "EvenLoadsModel" "s" "[I", .fieldLink RX5 13 "EvenLoadsModel" "past" "[I", .fieldLink RX5 16 "EvenLoadsModel" "before" "[I", .fieldLink RX5 19 "EvenLoadsModel" "text" "[I", .fieldLink RX5 22 "EvenLoadsModel" "numbers" "[I", .fieldLink RX5 25 "EvenLoadsModel" "loads" "[I"] ++ wsX50)
def wsX5_in : List Cond := .code yX5_in cX5_in 3 (some .boolean) :: ([])
def wsX5_greater : List Cond := .code yX5_greater cX5_greater 2 (some .int) :: ([])
def wsX5_aside : List Cond := .code yX5_aside cX5_aside 2 none :: ([.fieldLink RX5 16 "EvenLoadsModel" "before" "[I", .fieldLink RX5 7 "EvenLoadsModel" "s" "[I"] ++ wsX50)
def wsX5_layBack : List Cond := .code yX5_layBack cX5_layBack 2 none :: ([.fieldLink RX5 7 "EvenLoadsModel" "s" "[I", .fieldLink RX5 16 "EvenLoadsModel" "before" "[I"] ++ wsX50)
def wsX5_keeps : List Cond := .code yX5_keeps cX5_keeps 2 none :: ([.fieldLink RX5 28 "EvenLoadsModel" "kept" "I", .fieldLink RX5 13 "EvenLoadsModel" "past" "[I", .fieldLink RX5 16 "EvenLoadsModel" "before" "[I"] ++ wsX50)
def wsX5_acted : List Cond := .code yX5_acted cX5_acted 2 (some .int) :: ([.methodLink RX5 32 yX5_keeps, .instanceMethod yX5_keeps, .selects RX5 yX5_keeps yX5_keeps, .initialized RX5, .code yX5_keeps cX5_keeps 2 none, .fieldLink RX5 28 "EvenLoadsModel" "kept" "I", .fieldLink RX5 13 "EvenLoadsModel" "past" "[I", .fieldLink RX5 16 "EvenLoadsModel" "before" "[I"] ++ wsX50)
def wsX5_undo : List Cond := .code yX5_undo cX5_undo 2 (some .int) :: ([.fieldLink RX5 28 "EvenLoadsModel" "kept" "I", .fieldLink RX5 7 "EvenLoadsModel" "s" "[I", .fieldLink RX5 13 "EvenLoadsModel" "past" "[I"] ++ wsX50)
def wsX5_isServer : List Cond := .code yX5_isServer cX5_isServer 2 (some .boolean) :: ([.fieldLink RX5 7 "EvenLoadsModel" "s" "[I", .methodLink RX5 35 yX5_in, .static yX5_in, .initialized RX5, .code yX5_in cX5_in 3 (some .boolean)] ++ wsX50)
def wsX5_isJob : List Cond := .code yX5_isJob cX5_isJob 2 (some .boolean) :: ([.fieldLink RX5 7 "EvenLoadsModel" "s" "[I", .methodLink RX5 35 yX5_in, .static yX5_in, .initialized RX5, .code yX5_in cX5_in 3 (some .boolean)] ++ wsX50)
def wsX5_of : List Cond := .code yX5_of cX5_of 3 (some .int) :: ([.fieldLink RX5 7 "EvenLoadsModel" "s" "[I"] ++ wsX50)
def wsX5_isOpen : List Cond := .code yX5_isOpen cX5_isOpen 2 (some .boolean) :: ([.fieldLink RX5 7 "EvenLoadsModel" "s" "[I", .methodLink RX5 39 yX5_isServer, .instanceMethod yX5_isServer, .selects RX5 yX5_isServer yX5_isServer, .initialized RX5, .code yX5_isServer cX5_isServer 2 (some .boolean), .methodLink RX5 35 yX5_in, .static yX5_in, .code yX5_in cX5_in 3 (some .boolean)] ++ wsX50)
def wsX5_isDone : List Cond := .code yX5_isDone cX5_isDone 2 (some .boolean) :: ([.methodLink RX5 43 yX5_of, .instanceMethod yX5_of, .selects RX5 yX5_of yX5_of, .initialized RX5, .code yX5_of cX5_of 3 (some .int), .fieldLink RX5 7 "EvenLoadsModel" "s" "[I"] ++ wsX50)
def wsX5_opens : List Cond := .code yX5_opens cX5_opens 3 (some .int) :: ([.fieldLink RX5 7 "EvenLoadsModel" "s" "[I"] ++ wsX50)
def wsX5_load : List Cond := .code yX5_load cX5_load 4 (some .int) :: ([.fieldLink RX5 7 "EvenLoadsModel" "s" "[I", .methodLink RX5 43 yX5_of, .instanceMethod yX5_of, .selects RX5 yX5_of yX5_of, .initialized RX5, .code yX5_of cX5_of 3 (some .int)] ++ wsX50)
def wsX5_allLoads : List Cond := .code yX5_allLoads cX5_allLoads 3 (some .int) :: ([.fieldLink RX5 7 "EvenLoadsModel" "s" "[I", .methodLink RX5 47 yX5_isDone, .instanceMethod yX5_isDone, .selects RX5 yX5_isDone yX5_isDone, .initialized RX5, .code yX5_isDone cX5_isDone 2 (some .boolean), .methodLink RX5 43 yX5_of, .instanceMethod yX5_of, .selects RX5 yX5_of yX5_of, .code yX5_of cX5_of 3 (some .int)] ++ wsX50)
def wsX5_greatest : List Cond := .code yX5_greatest cX5_greatest 3 (some .int) :: ([.fieldLink RX5 7 "EvenLoadsModel" "s" "[I", .methodLink RX5 50 yX5_load, .instanceMethod yX5_load, .selects RX5 yX5_load yX5_load, .initialized RX5, .code yX5_load cX5_load 4 (some .int), .methodLink RX5 43 yX5_of, .instanceMethod yX5_of, .selects RX5 yX5_of yX5_of, .code yX5_of cX5_of 3 (some .int), .methodLink RX5 54 yX5_greater, .static yX5_greater, .code yX5_greater cX5_greater 2 (some .int)] ++ wsX50)
def wsX5_bound : List Cond := .code yX5_bound cX5_bound 3 (some .int) :: ([.fieldLink RX5 7 "EvenLoadsModel" "s" "[I", .methodLink RX5 47 yX5_isDone, .instanceMethod yX5_isDone, .selects RX5 yX5_isDone yX5_isDone, .initialized RX5, .code yX5_isDone cX5_isDone 2 (some .boolean), .methodLink RX5 43 yX5_of, .instanceMethod yX5_of, .selects RX5 yX5_of yX5_of, .code yX5_of cX5_of 3 (some .int), .methodLink RX5 54 yX5_greater, .static yX5_greater, .code yX5_greater cX5_greater 2 (some .int), .methodLink RX5 57 yX5_opens, .instanceMethod yX5_opens, .selects RX5 yX5_opens yX5_opens, .code yX5_opens cX5_opens 3 (some .int), .methodLink RX5 61 yX5_allLoads, .instanceMethod yX5_allLoads, .selects RX5 yX5_allLoads yX5_allLoads, .code yX5_allLoads cX5_allLoads 3 (some .int)] ++ wsX50)
def wsX5_target_r1 : List Cond := [Cond.fieldLink RX5 7 "EvenLoadsModel" "s" "[I", Cond.methodLink RX5 64 yX5_bound, Cond.instanceMethod yX5_bound, Cond.selects RX5 yX5_bound yX5_bound, Cond.initialized RX5, Cond.code yX5_bound cX5_bound 3 (some .int), Cond.methodLink RX5 47 yX5_isDone, Cond.instanceMethod yX5_isDone, Cond.selects RX5 yX5_isDone yX5_isDone, Cond.code yX5_isDone cX5_isDone 2 (some .boolean), Cond.methodLink RX5 43 yX5_of, Cond.instanceMethod yX5_of, Cond.selects RX5 yX5_of yX5_of, Cond.code yX5_of cX5_of 3 (some .int), Cond.methodLink RX5 54 yX5_greater, Cond.static yX5_greater, Cond.code yX5_greater cX5_greater 2 (some .int), Cond.methodLink RX5 57 yX5_opens, Cond.instanceMethod yX5_opens, Cond.selects RX5 yX5_opens yX5_opens, Cond.code yX5_opens cX5_opens 3 (some .int), Cond.methodLink RX5 61 yX5_allLoads, Cond.instanceMethod yX5_allLoads, Cond.selects RX5 yX5_allLoads yX5_allLoads]
def wsX5_target_r2 : List Cond := [Cond.code yX5_allLoads cX5_allLoads 3 (some .int)]
def wsX5_target : List Cond := .code yX5_target cX5_target 1 (some .int) :: ((wsX5_target_r1 ++ wsX5_target_r2) ++ wsX50)
def wsX5_areEven_r1 : List Cond := [Cond.methodLink RX5 67 yX5_greatest, Cond.instanceMethod yX5_greatest, Cond.selects RX5 yX5_greatest yX5_greatest, Cond.initialized RX5, Cond.code yX5_greatest cX5_greatest 3 (some .int), Cond.fieldLink RX5 7 "EvenLoadsModel" "s" "[I", Cond.methodLink RX5 50 yX5_load, Cond.instanceMethod yX5_load, Cond.selects RX5 yX5_load yX5_load, Cond.code yX5_load cX5_load 4 (some .int), Cond.methodLink RX5 43 yX5_of, Cond.instanceMethod yX5_of, Cond.selects RX5 yX5_of yX5_of, Cond.code yX5_of cX5_of 3 (some .int), Cond.methodLink RX5 54 yX5_greater, Cond.static yX5_greater, Cond.code yX5_greater cX5_greater 2 (some .int), Cond.methodLink RX5 70 yX5_target, Cond.instanceMethod yX5_target, Cond.selects RX5 yX5_target yX5_target, Cond.code yX5_target cX5_target 1 (some .int), Cond.methodLink RX5 64 yX5_bound, Cond.instanceMethod yX5_bound, Cond.selects RX5 yX5_bound yX5_bound]
def wsX5_areEven_r2 : List Cond := [Cond.code yX5_bound cX5_bound 3 (some .int), Cond.methodLink RX5 47 yX5_isDone, Cond.instanceMethod yX5_isDone, Cond.selects RX5 yX5_isDone yX5_isDone, Cond.code yX5_isDone cX5_isDone 2 (some .boolean), Cond.methodLink RX5 57 yX5_opens, Cond.instanceMethod yX5_opens, Cond.selects RX5 yX5_opens yX5_opens, Cond.code yX5_opens cX5_opens 3 (some .int), Cond.methodLink RX5 61 yX5_allLoads, Cond.instanceMethod yX5_allLoads, Cond.selects RX5 yX5_allLoads yX5_allLoads, Cond.code yX5_allLoads cX5_allLoads 3 (some .int)]
def wsX5_areEven : List Cond := .code yX5_areEven cX5_areEven 1 (some .boolean) :: ((wsX5_areEven_r1 ++ wsX5_areEven_r2) ++ wsX50)
def wsX5_addServer : List Cond := .code yX5_addServer cX5_addServer 1 (some .int) :: ([.fieldLink RX5 7 "EvenLoadsModel" "s" "[I", .methodLink RX5 73 yX5_aside, .instanceMethod yX5_aside, .selects RX5 yX5_aside yX5_aside, .initialized RX5, .code yX5_aside cX5_aside 2 none, .fieldLink RX5 16 "EvenLoadsModel" "before" "[I", .methodLink RX5 76 yX5_acted, .instanceMethod yX5_acted, .selects RX5 yX5_acted yX5_acted, .code yX5_acted cX5_acted 2 (some .int), .methodLink RX5 32 yX5_keeps, .instanceMethod yX5_keeps, .selects RX5 yX5_keeps yX5_keeps, .code yX5_keeps cX5_keeps 2 none, .fieldLink RX5 28 "EvenLoadsModel" "kept" "I", .fieldLink RX5 13 "EvenLoadsModel" "past" "[I"] ++ wsX50)
def wsX5_adds : List Cond := .code yX5_adds cX5_adds 5 (some .int) :: ([.fieldLink RX5 7 "EvenLoadsModel" "s" "[I", .methodLink RX5 35 yX5_in, .static yX5_in, .initialized RX5, .code yX5_in cX5_in 3 (some .boolean), .methodLink RX5 39 yX5_isServer, .instanceMethod yX5_isServer, .selects RX5 yX5_isServer yX5_isServer, .code yX5_isServer cX5_isServer 2 (some .boolean), .methodLink RX5 79 yX5_isOpen, .instanceMethod yX5_isOpen, .selects RX5 yX5_isOpen yX5_isOpen, .code yX5_isOpen cX5_isOpen 2 (some .boolean)] ++ wsX50)
def wsX5_add_r1 : List Cond := [Cond.methodLink RX5 73 yX5_aside, Cond.instanceMethod yX5_aside, Cond.selects RX5 yX5_aside yX5_aside, Cond.initialized RX5, Cond.code yX5_aside cX5_aside 2 none, Cond.fieldLink RX5 16 "EvenLoadsModel" "before" "[I", Cond.fieldLink RX5 7 "EvenLoadsModel" "s" "[I", Cond.methodLink RX5 82 yX5_adds, Cond.instanceMethod yX5_adds, Cond.selects RX5 yX5_adds yX5_adds, Cond.code yX5_adds cX5_adds 5 (some .int), Cond.methodLink RX5 35 yX5_in, Cond.static yX5_in, Cond.code yX5_in cX5_in 3 (some .boolean), Cond.methodLink RX5 39 yX5_isServer, Cond.instanceMethod yX5_isServer, Cond.selects RX5 yX5_isServer yX5_isServer, Cond.code yX5_isServer cX5_isServer 2 (some .boolean), Cond.methodLink RX5 79 yX5_isOpen, Cond.instanceMethod yX5_isOpen, Cond.selects RX5 yX5_isOpen yX5_isOpen, Cond.code yX5_isOpen cX5_isOpen 2 (some .boolean), Cond.methodLink RX5 76 yX5_acted, Cond.instanceMethod yX5_acted]
def wsX5_add_r2 : List Cond := [Cond.selects RX5 yX5_acted yX5_acted, Cond.code yX5_acted cX5_acted 2 (some .int), Cond.methodLink RX5 32 yX5_keeps, Cond.instanceMethod yX5_keeps, Cond.selects RX5 yX5_keeps yX5_keeps, Cond.code yX5_keeps cX5_keeps 2 none, Cond.fieldLink RX5 28 "EvenLoadsModel" "kept" "I", Cond.fieldLink RX5 13 "EvenLoadsModel" "past" "[I"]
def wsX5_add : List Cond := .code yX5_add cX5_add 4 (some .int) :: ((wsX5_add_r1 ++ wsX5_add_r2) ++ wsX50)
def wsX5_finishes : List Cond := .code yX5_finishes cX5_finishes 3 (some .int) :: ([.fieldLink RX5 7 "EvenLoadsModel" "s" "[I", .methodLink RX5 86 yX5_isJob, .instanceMethod yX5_isJob, .selects RX5 yX5_isJob yX5_isJob, .initialized RX5, .code yX5_isJob cX5_isJob 2 (some .boolean), .methodLink RX5 35 yX5_in, .static yX5_in, .code yX5_in cX5_in 3 (some .boolean), .methodLink RX5 43 yX5_of, .instanceMethod yX5_of, .selects RX5 yX5_of yX5_of, .code yX5_of cX5_of 3 (some .int), .methodLink RX5 50 yX5_load, .instanceMethod yX5_load, .selects RX5 yX5_load yX5_load, .code yX5_load cX5_load 4 (some .int)] ++ wsX50)
def wsX5_finish_r1 : List Cond := [Cond.methodLink RX5 73 yX5_aside, Cond.instanceMethod yX5_aside, Cond.selects RX5 yX5_aside yX5_aside, Cond.initialized RX5, Cond.code yX5_aside cX5_aside 2 none, Cond.fieldLink RX5 16 "EvenLoadsModel" "before" "[I", Cond.fieldLink RX5 7 "EvenLoadsModel" "s" "[I", Cond.methodLink RX5 89 yX5_finishes, Cond.instanceMethod yX5_finishes, Cond.selects RX5 yX5_finishes yX5_finishes, Cond.code yX5_finishes cX5_finishes 3 (some .int), Cond.methodLink RX5 86 yX5_isJob, Cond.instanceMethod yX5_isJob, Cond.selects RX5 yX5_isJob yX5_isJob, Cond.code yX5_isJob cX5_isJob 2 (some .boolean), Cond.methodLink RX5 35 yX5_in, Cond.static yX5_in, Cond.code yX5_in cX5_in 3 (some .boolean), Cond.methodLink RX5 43 yX5_of, Cond.instanceMethod yX5_of, Cond.selects RX5 yX5_of yX5_of, Cond.code yX5_of cX5_of 3 (some .int), Cond.methodLink RX5 50 yX5_load, Cond.instanceMethod yX5_load]
def wsX5_finish_r2 : List Cond := [Cond.selects RX5 yX5_load yX5_load, Cond.code yX5_load cX5_load 4 (some .int), Cond.methodLink RX5 76 yX5_acted, Cond.instanceMethod yX5_acted, Cond.selects RX5 yX5_acted yX5_acted, Cond.code yX5_acted cX5_acted 2 (some .int), Cond.methodLink RX5 32 yX5_keeps, Cond.instanceMethod yX5_keeps, Cond.selects RX5 yX5_keeps yX5_keeps, Cond.code yX5_keeps cX5_keeps 2 none, Cond.fieldLink RX5 28 "EvenLoadsModel" "kept" "I", Cond.fieldLink RX5 13 "EvenLoadsModel" "past" "[I"]
def wsX5_finish : List Cond := .code yX5_finish cX5_finish 2 (some .int) :: ((wsX5_finish_r1 ++ wsX5_finish_r2) ++ wsX50)
def wsX5_setBudget : List Cond := .code yX5_setBudget cX5_setBudget 3 (some .int) :: ([.fieldLink RX5 7 "EvenLoadsModel" "s" "[I", .methodLink RX5 35 yX5_in, .static yX5_in, .initialized RX5, .code yX5_in cX5_in 3 (some .boolean), .methodLink RX5 73 yX5_aside, .instanceMethod yX5_aside, .selects RX5 yX5_aside yX5_aside, .code yX5_aside cX5_aside 2 none, .fieldLink RX5 16 "EvenLoadsModel" "before" "[I", .methodLink RX5 76 yX5_acted, .instanceMethod yX5_acted, .selects RX5 yX5_acted yX5_acted, .code yX5_acted cX5_acted 2 (some .int), .methodLink RX5 32 yX5_keeps, .instanceMethod yX5_keeps, .selects RX5 yX5_keeps yX5_keeps, .code yX5_keeps cX5_keeps 2 none, .fieldLink RX5 28 "EvenLoadsModel" "kept" "I", .fieldLink RX5 13 "EvenLoadsModel" "past" "[I"] ++ wsX50)
def wsX5_setFactor_r1 : List Cond := [Cond.fieldLink RX5 7 "EvenLoadsModel" "s" "[I", Cond.methodLink RX5 35 yX5_in, Cond.static yX5_in, Cond.initialized RX5, Cond.code yX5_in cX5_in 3 (some .boolean), Cond.methodLink RX5 73 yX5_aside, Cond.instanceMethod yX5_aside, Cond.selects RX5 yX5_aside yX5_aside, Cond.code yX5_aside cX5_aside 2 none, Cond.fieldLink RX5 16 "EvenLoadsModel" "before" "[I", Cond.methodLink RX5 70 yX5_target, Cond.instanceMethod yX5_target, Cond.selects RX5 yX5_target yX5_target, Cond.code yX5_target cX5_target 1 (some .int), Cond.methodLink RX5 64 yX5_bound, Cond.instanceMethod yX5_bound, Cond.selects RX5 yX5_bound yX5_bound, Cond.code yX5_bound cX5_bound 3 (some .int), Cond.methodLink RX5 47 yX5_isDone, Cond.instanceMethod yX5_isDone, Cond.selects RX5 yX5_isDone yX5_isDone, Cond.code yX5_isDone cX5_isDone 2 (some .boolean), Cond.methodLink RX5 43 yX5_of, Cond.instanceMethod yX5_of]
def wsX5_setFactor_r2 : List Cond := [Cond.selects RX5 yX5_of yX5_of, Cond.code yX5_of cX5_of 3 (some .int), Cond.methodLink RX5 54 yX5_greater, Cond.static yX5_greater, Cond.code yX5_greater cX5_greater 2 (some .int), Cond.methodLink RX5 57 yX5_opens, Cond.instanceMethod yX5_opens, Cond.selects RX5 yX5_opens yX5_opens, Cond.code yX5_opens cX5_opens 3 (some .int), Cond.methodLink RX5 61 yX5_allLoads, Cond.instanceMethod yX5_allLoads, Cond.selects RX5 yX5_allLoads yX5_allLoads, Cond.code yX5_allLoads cX5_allLoads 3 (some .int), Cond.methodLink RX5 76 yX5_acted, Cond.instanceMethod yX5_acted, Cond.selects RX5 yX5_acted yX5_acted, Cond.code yX5_acted cX5_acted 2 (some .int), Cond.methodLink RX5 32 yX5_keeps, Cond.instanceMethod yX5_keeps, Cond.selects RX5 yX5_keeps yX5_keeps, Cond.code yX5_keeps cX5_keeps 2 none, Cond.fieldLink RX5 28 "EvenLoadsModel" "kept" "I", Cond.fieldLink RX5 13 "EvenLoadsModel" "past" "[I"]
def wsX5_setFactor : List Cond := .code yX5_setFactor cX5_setFactor 2 (some .int) :: ((wsX5_setFactor_r1 ++ wsX5_setFactor_r2) ++ wsX50)
def wsX5_goes : List Cond := .code yX5_goes cX5_goes 3 none :: ([.fieldLink RX5 7 "EvenLoadsModel" "s" "[I", .methodLink RX5 43 yX5_of, .instanceMethod yX5_of, .selects RX5 yX5_of yX5_of, .initialized RX5, .code yX5_of cX5_of 3 (some .int)] ++ wsX50)
def wsX5_moves_r1 : List Cond := [Cond.fieldLink RX5 7 "EvenLoadsModel" "s" "[I", Cond.methodLink RX5 86 yX5_isJob, Cond.instanceMethod yX5_isJob, Cond.selects RX5 yX5_isJob yX5_isJob, Cond.initialized RX5, Cond.code yX5_isJob cX5_isJob 2 (some .boolean), Cond.methodLink RX5 35 yX5_in, Cond.static yX5_in, Cond.code yX5_in cX5_in 3 (some .boolean), Cond.methodLink RX5 39 yX5_isServer, Cond.instanceMethod yX5_isServer, Cond.selects RX5 yX5_isServer yX5_isServer, Cond.code yX5_isServer cX5_isServer 2 (some .boolean), Cond.methodLink RX5 47 yX5_isDone, Cond.instanceMethod yX5_isDone, Cond.selects RX5 yX5_isDone yX5_isDone, Cond.code yX5_isDone cX5_isDone 2 (some .boolean), Cond.methodLink RX5 43 yX5_of, Cond.instanceMethod yX5_of, Cond.selects RX5 yX5_of yX5_of, Cond.code yX5_of cX5_of 3 (some .int), Cond.methodLink RX5 79 yX5_isOpen, Cond.instanceMethod yX5_isOpen, Cond.selects RX5 yX5_isOpen yX5_isOpen]
def wsX5_moves_r2 : List Cond := [Cond.code yX5_isOpen cX5_isOpen 2 (some .boolean), Cond.methodLink RX5 92 yX5_goes, Cond.instanceMethod yX5_goes, Cond.selects RX5 yX5_goes yX5_goes, Cond.code yX5_goes cX5_goes 3 none, Cond.methodLink RX5 67 yX5_greatest, Cond.instanceMethod yX5_greatest, Cond.selects RX5 yX5_greatest yX5_greatest, Cond.code yX5_greatest cX5_greatest 3 (some .int), Cond.methodLink RX5 50 yX5_load, Cond.instanceMethod yX5_load, Cond.selects RX5 yX5_load yX5_load, Cond.code yX5_load cX5_load 4 (some .int), Cond.methodLink RX5 54 yX5_greater, Cond.static yX5_greater, Cond.code yX5_greater cX5_greater 2 (some .int)]
def wsX5_moves : List Cond := .code yX5_moves cX5_moves 3 (some .int) :: ((wsX5_moves_r1 ++ wsX5_moves_r2) ++ wsX50)
def wsX5_move_r1 : List Cond := [Cond.methodLink RX5 73 yX5_aside, Cond.instanceMethod yX5_aside, Cond.selects RX5 yX5_aside yX5_aside, Cond.initialized RX5, Cond.code yX5_aside cX5_aside 2 none, Cond.fieldLink RX5 16 "EvenLoadsModel" "before" "[I", Cond.fieldLink RX5 7 "EvenLoadsModel" "s" "[I", Cond.methodLink RX5 96 yX5_moves, Cond.instanceMethod yX5_moves, Cond.selects RX5 yX5_moves yX5_moves, Cond.code yX5_moves cX5_moves 3 (some .int), Cond.methodLink RX5 86 yX5_isJob, Cond.instanceMethod yX5_isJob, Cond.selects RX5 yX5_isJob yX5_isJob, Cond.code yX5_isJob cX5_isJob 2 (some .boolean), Cond.methodLink RX5 35 yX5_in, Cond.static yX5_in, Cond.code yX5_in cX5_in 3 (some .boolean), Cond.methodLink RX5 39 yX5_isServer, Cond.instanceMethod yX5_isServer, Cond.selects RX5 yX5_isServer yX5_isServer, Cond.code yX5_isServer cX5_isServer 2 (some .boolean), Cond.methodLink RX5 47 yX5_isDone, Cond.instanceMethod yX5_isDone]
def wsX5_move_r2 : List Cond := [Cond.selects RX5 yX5_isDone yX5_isDone, Cond.code yX5_isDone cX5_isDone 2 (some .boolean), Cond.methodLink RX5 43 yX5_of, Cond.instanceMethod yX5_of, Cond.selects RX5 yX5_of yX5_of, Cond.code yX5_of cX5_of 3 (some .int), Cond.methodLink RX5 79 yX5_isOpen, Cond.instanceMethod yX5_isOpen, Cond.selects RX5 yX5_isOpen yX5_isOpen, Cond.code yX5_isOpen cX5_isOpen 2 (some .boolean), Cond.methodLink RX5 92 yX5_goes, Cond.instanceMethod yX5_goes, Cond.selects RX5 yX5_goes yX5_goes, Cond.code yX5_goes cX5_goes 3 none, Cond.methodLink RX5 67 yX5_greatest, Cond.instanceMethod yX5_greatest, Cond.selects RX5 yX5_greatest yX5_greatest, Cond.code yX5_greatest cX5_greatest 3 (some .int), Cond.methodLink RX5 50 yX5_load, Cond.instanceMethod yX5_load, Cond.selects RX5 yX5_load yX5_load, Cond.code yX5_load cX5_load 4 (some .int), Cond.methodLink RX5 54 yX5_greater, Cond.static yX5_greater]
def wsX5_move_r3 : List Cond := [Cond.code yX5_greater cX5_greater 2 (some .int), Cond.methodLink RX5 76 yX5_acted, Cond.instanceMethod yX5_acted, Cond.selects RX5 yX5_acted yX5_acted, Cond.code yX5_acted cX5_acted 2 (some .int), Cond.methodLink RX5 32 yX5_keeps, Cond.instanceMethod yX5_keeps, Cond.selects RX5 yX5_keeps yX5_keeps, Cond.code yX5_keeps cX5_keeps 2 none, Cond.fieldLink RX5 28 "EvenLoadsModel" "kept" "I", Cond.fieldLink RX5 13 "EvenLoadsModel" "past" "[I"]
def wsX5_move : List Cond := .code yX5_move cX5_move 3 (some .int) :: ((wsX5_move_r1 ++ (wsX5_move_r2 ++ wsX5_move_r3)) ++ wsX50)
def wsX5_exchanges_r1 : List Cond := [Cond.fieldLink RX5 7 "EvenLoadsModel" "s" "[I", Cond.methodLink RX5 86 yX5_isJob, Cond.instanceMethod yX5_isJob, Cond.selects RX5 yX5_isJob yX5_isJob, Cond.initialized RX5, Cond.code yX5_isJob cX5_isJob 2 (some .boolean), Cond.methodLink RX5 35 yX5_in, Cond.static yX5_in, Cond.code yX5_in cX5_in 3 (some .boolean), Cond.methodLink RX5 43 yX5_of, Cond.instanceMethod yX5_of, Cond.selects RX5 yX5_of yX5_of, Cond.code yX5_of cX5_of 3 (some .int), Cond.methodLink RX5 47 yX5_isDone, Cond.instanceMethod yX5_isDone, Cond.selects RX5 yX5_isDone yX5_isDone, Cond.code yX5_isDone cX5_isDone 2 (some .boolean), Cond.methodLink RX5 92 yX5_goes, Cond.instanceMethod yX5_goes, Cond.selects RX5 yX5_goes yX5_goes, Cond.code yX5_goes cX5_goes 3 none, Cond.methodLink RX5 67 yX5_greatest, Cond.instanceMethod yX5_greatest, Cond.selects RX5 yX5_greatest yX5_greatest]
def wsX5_exchanges_r2 : List Cond := [Cond.code yX5_greatest cX5_greatest 3 (some .int), Cond.methodLink RX5 50 yX5_load, Cond.instanceMethod yX5_load, Cond.selects RX5 yX5_load yX5_load, Cond.code yX5_load cX5_load 4 (some .int), Cond.methodLink RX5 54 yX5_greater, Cond.static yX5_greater, Cond.code yX5_greater cX5_greater 2 (some .int)]
def wsX5_exchanges : List Cond := .code yX5_exchanges cX5_exchanges 5 (some .int) :: ((wsX5_exchanges_r1 ++ wsX5_exchanges_r2) ++ wsX50)
def wsX5_exchange_r1 : List Cond := [Cond.methodLink RX5 73 yX5_aside, Cond.instanceMethod yX5_aside, Cond.selects RX5 yX5_aside yX5_aside, Cond.initialized RX5, Cond.code yX5_aside cX5_aside 2 none, Cond.fieldLink RX5 16 "EvenLoadsModel" "before" "[I", Cond.fieldLink RX5 7 "EvenLoadsModel" "s" "[I", Cond.methodLink RX5 99 yX5_exchanges, Cond.instanceMethod yX5_exchanges, Cond.selects RX5 yX5_exchanges yX5_exchanges, Cond.code yX5_exchanges cX5_exchanges 5 (some .int), Cond.methodLink RX5 86 yX5_isJob, Cond.instanceMethod yX5_isJob, Cond.selects RX5 yX5_isJob yX5_isJob, Cond.code yX5_isJob cX5_isJob 2 (some .boolean), Cond.methodLink RX5 35 yX5_in, Cond.static yX5_in, Cond.code yX5_in cX5_in 3 (some .boolean), Cond.methodLink RX5 43 yX5_of, Cond.instanceMethod yX5_of, Cond.selects RX5 yX5_of yX5_of, Cond.code yX5_of cX5_of 3 (some .int), Cond.methodLink RX5 47 yX5_isDone, Cond.instanceMethod yX5_isDone]
def wsX5_exchange_r2 : List Cond := [Cond.selects RX5 yX5_isDone yX5_isDone, Cond.code yX5_isDone cX5_isDone 2 (some .boolean), Cond.methodLink RX5 92 yX5_goes, Cond.instanceMethod yX5_goes, Cond.selects RX5 yX5_goes yX5_goes, Cond.code yX5_goes cX5_goes 3 none, Cond.methodLink RX5 67 yX5_greatest, Cond.instanceMethod yX5_greatest, Cond.selects RX5 yX5_greatest yX5_greatest, Cond.code yX5_greatest cX5_greatest 3 (some .int), Cond.methodLink RX5 50 yX5_load, Cond.instanceMethod yX5_load, Cond.selects RX5 yX5_load yX5_load, Cond.code yX5_load cX5_load 4 (some .int), Cond.methodLink RX5 54 yX5_greater, Cond.static yX5_greater, Cond.code yX5_greater cX5_greater 2 (some .int), Cond.methodLink RX5 76 yX5_acted, Cond.instanceMethod yX5_acted, Cond.selects RX5 yX5_acted yX5_acted, Cond.code yX5_acted cX5_acted 2 (some .int), Cond.methodLink RX5 32 yX5_keeps, Cond.instanceMethod yX5_keeps, Cond.selects RX5 yX5_keeps yX5_keeps]
def wsX5_exchange_r3 : List Cond := [Cond.code yX5_keeps cX5_keeps 2 none, Cond.fieldLink RX5 28 "EvenLoadsModel" "kept" "I", Cond.fieldLink RX5 13 "EvenLoadsModel" "past" "[I"]
def wsX5_exchange : List Cond := .code yX5_exchange cX5_exchange 3 (some .int) :: ((wsX5_exchange_r1 ++ (wsX5_exchange_r2 ++ wsX5_exchange_r3)) ++ wsX50)
def wsX5_rings_r1 : List Cond := [Cond.fieldLink RX5 7 "EvenLoadsModel" "s" "[I", Cond.methodLink RX5 86 yX5_isJob, Cond.instanceMethod yX5_isJob, Cond.selects RX5 yX5_isJob yX5_isJob, Cond.initialized RX5, Cond.code yX5_isJob cX5_isJob 2 (some .boolean), Cond.methodLink RX5 35 yX5_in, Cond.static yX5_in, Cond.code yX5_in cX5_in 3 (some .boolean), Cond.methodLink RX5 43 yX5_of, Cond.instanceMethod yX5_of, Cond.selects RX5 yX5_of yX5_of, Cond.code yX5_of cX5_of 3 (some .int), Cond.methodLink RX5 47 yX5_isDone, Cond.instanceMethod yX5_isDone, Cond.selects RX5 yX5_isDone yX5_isDone, Cond.code yX5_isDone cX5_isDone 2 (some .boolean), Cond.methodLink RX5 92 yX5_goes, Cond.instanceMethod yX5_goes, Cond.selects RX5 yX5_goes yX5_goes, Cond.code yX5_goes cX5_goes 3 none, Cond.methodLink RX5 67 yX5_greatest, Cond.instanceMethod yX5_greatest, Cond.selects RX5 yX5_greatest yX5_greatest]
def wsX5_rings_r2 : List Cond := [Cond.code yX5_greatest cX5_greatest 3 (some .int), Cond.methodLink RX5 50 yX5_load, Cond.instanceMethod yX5_load, Cond.selects RX5 yX5_load yX5_load, Cond.code yX5_load cX5_load 4 (some .int), Cond.methodLink RX5 54 yX5_greater, Cond.static yX5_greater, Cond.code yX5_greater cX5_greater 2 (some .int)]
def wsX5_rings : List Cond := .code yX5_rings cX5_rings 8 (some .int) :: ((wsX5_rings_r1 ++ wsX5_rings_r2) ++ wsX50)
def wsX5_ring_r1 : List Cond := [Cond.methodLink RX5 73 yX5_aside, Cond.instanceMethod yX5_aside, Cond.selects RX5 yX5_aside yX5_aside, Cond.initialized RX5, Cond.code yX5_aside cX5_aside 2 none, Cond.fieldLink RX5 16 "EvenLoadsModel" "before" "[I", Cond.fieldLink RX5 7 "EvenLoadsModel" "s" "[I", Cond.methodLink RX5 102 yX5_rings, Cond.instanceMethod yX5_rings, Cond.selects RX5 yX5_rings yX5_rings, Cond.code yX5_rings cX5_rings 8 (some .int), Cond.methodLink RX5 86 yX5_isJob, Cond.instanceMethod yX5_isJob, Cond.selects RX5 yX5_isJob yX5_isJob, Cond.code yX5_isJob cX5_isJob 2 (some .boolean), Cond.methodLink RX5 35 yX5_in, Cond.static yX5_in, Cond.code yX5_in cX5_in 3 (some .boolean), Cond.methodLink RX5 43 yX5_of, Cond.instanceMethod yX5_of, Cond.selects RX5 yX5_of yX5_of, Cond.code yX5_of cX5_of 3 (some .int), Cond.methodLink RX5 47 yX5_isDone, Cond.instanceMethod yX5_isDone]
def wsX5_ring_r2 : List Cond := [Cond.selects RX5 yX5_isDone yX5_isDone, Cond.code yX5_isDone cX5_isDone 2 (some .boolean), Cond.methodLink RX5 92 yX5_goes, Cond.instanceMethod yX5_goes, Cond.selects RX5 yX5_goes yX5_goes, Cond.code yX5_goes cX5_goes 3 none, Cond.methodLink RX5 67 yX5_greatest, Cond.instanceMethod yX5_greatest, Cond.selects RX5 yX5_greatest yX5_greatest, Cond.code yX5_greatest cX5_greatest 3 (some .int), Cond.methodLink RX5 50 yX5_load, Cond.instanceMethod yX5_load, Cond.selects RX5 yX5_load yX5_load, Cond.code yX5_load cX5_load 4 (some .int), Cond.methodLink RX5 54 yX5_greater, Cond.static yX5_greater, Cond.code yX5_greater cX5_greater 2 (some .int), Cond.methodLink RX5 76 yX5_acted, Cond.instanceMethod yX5_acted, Cond.selects RX5 yX5_acted yX5_acted, Cond.code yX5_acted cX5_acted 2 (some .int), Cond.methodLink RX5 32 yX5_keeps, Cond.instanceMethod yX5_keeps, Cond.selects RX5 yX5_keeps yX5_keeps]
def wsX5_ring_r3 : List Cond := [Cond.code yX5_keeps cX5_keeps 2 none, Cond.fieldLink RX5 28 "EvenLoadsModel" "kept" "I", Cond.fieldLink RX5 13 "EvenLoadsModel" "past" "[I"]
def wsX5_ring : List Cond := .code yX5_ring cX5_ring 4 (some .int) :: ((wsX5_ring_r1 ++ (wsX5_ring_r2 ++ wsX5_ring_r3)) ++ wsX50)
def wsX5_full : List Cond := .code yX5_full cX5_full 3 (some .int) :: ([.fieldLink RX5 7 "EvenLoadsModel" "s" "[I", .methodLink RX5 79 yX5_isOpen, .instanceMethod yX5_isOpen, .selects RX5 yX5_isOpen yX5_isOpen, .initialized RX5, .code yX5_isOpen cX5_isOpen 2 (some .boolean), .methodLink RX5 39 yX5_isServer, .instanceMethod yX5_isServer, .selects RX5 yX5_isServer yX5_isServer, .code yX5_isServer cX5_isServer 2 (some .boolean), .methodLink RX5 35 yX5_in, .static yX5_in, .code yX5_in cX5_in 3 (some .boolean), .methodLink RX5 50 yX5_load, .instanceMethod yX5_load, .selects RX5 yX5_load yX5_load, .code yX5_load cX5_load 4 (some .int), .methodLink RX5 43 yX5_of, .instanceMethod yX5_of, .selects RX5 yX5_of yX5_of, .code yX5_of cX5_of 3 (some .int)] ++ wsX50)
def wsX5_findsMove_r1 : List Cond := [Cond.constantLong RX5 105 (100000000), Cond.fieldLink RX5 107 "EvenLoadsModel" "stepJob" "I", Cond.fieldLink RX5 7 "EvenLoadsModel" "s" "[I", Cond.constantLong RX5 110 (10000), Cond.constantLong RX5 112 (100), Cond.fieldLink RX5 114 "EvenLoadsModel" "stepServer" "I", Cond.fieldLink RX5 117 "EvenLoadsModel" "stepOther" "I", Cond.fieldLink RX5 120 "EvenLoadsModel" "stepPrice" "I", Cond.methodLink RX5 50 yX5_load, Cond.instanceMethod yX5_load, Cond.selects RX5 yX5_load yX5_load, Cond.initialized RX5, Cond.code yX5_load cX5_load 4 (some .int), Cond.methodLink RX5 43 yX5_of, Cond.instanceMethod yX5_of, Cond.selects RX5 yX5_of yX5_of, Cond.code yX5_of cX5_of 3 (some .int), Cond.methodLink RX5 79 yX5_isOpen, Cond.instanceMethod yX5_isOpen, Cond.selects RX5 yX5_isOpen yX5_isOpen, Cond.code yX5_isOpen cX5_isOpen 2 (some .boolean), Cond.methodLink RX5 39 yX5_isServer, Cond.instanceMethod yX5_isServer, Cond.selects RX5 yX5_isServer yX5_isServer]
def wsX5_findsMove_r2 : List Cond := [Cond.code yX5_isServer cX5_isServer 2 (some .boolean), Cond.methodLink RX5 35 yX5_in, Cond.static yX5_in, Cond.code yX5_in cX5_in 3 (some .boolean), Cond.methodLink RX5 54 yX5_greater, Cond.static yX5_greater, Cond.code yX5_greater cX5_greater 2 (some .int)]
def wsX5_findsMove : List Cond := .code yX5_findsMove cX5_findsMove 9 (some .boolean) :: ((wsX5_findsMove_r1 ++ wsX5_findsMove_r2) ++ wsX50)
def wsX5_findsExchange : List Cond := .code yX5_findsExchange cX5_findsExchange 12 (some .boolean) :: ([.constantLong RX5 105 (100000000), .fieldLink RX5 107 "EvenLoadsModel" "stepJob" "I", .fieldLink RX5 7 "EvenLoadsModel" "s" "[I", .constantLong RX5 110 (10000), .constantLong RX5 112 (100), .fieldLink RX5 114 "EvenLoadsModel" "stepServer" "I", .fieldLink RX5 117 "EvenLoadsModel" "stepOther" "I", .fieldLink RX5 120 "EvenLoadsModel" "stepPrice" "I", .methodLink RX5 50 yX5_load, .instanceMethod yX5_load, .selects RX5 yX5_load yX5_load, .initialized RX5, .code yX5_load cX5_load 4 (some .int), .methodLink RX5 43 yX5_of, .instanceMethod yX5_of, .selects RX5 yX5_of yX5_of, .code yX5_of cX5_of 3 (some .int), .methodLink RX5 54 yX5_greater, .static yX5_greater, .code yX5_greater cX5_greater 2 (some .int)] ++ wsX50)
def wsX5_findsStep_r1 : List Cond := [Cond.methodLink RX5 123 yX5_areEven, Cond.instanceMethod yX5_areEven, Cond.selects RX5 yX5_areEven yX5_areEven, Cond.initialized RX5, Cond.code yX5_areEven cX5_areEven 1 (some .boolean), Cond.methodLink RX5 67 yX5_greatest, Cond.instanceMethod yX5_greatest, Cond.selects RX5 yX5_greatest yX5_greatest, Cond.code yX5_greatest cX5_greatest 3 (some .int), Cond.fieldLink RX5 7 "EvenLoadsModel" "s" "[I", Cond.methodLink RX5 50 yX5_load, Cond.instanceMethod yX5_load, Cond.selects RX5 yX5_load yX5_load, Cond.code yX5_load cX5_load 4 (some .int), Cond.methodLink RX5 43 yX5_of, Cond.instanceMethod yX5_of, Cond.selects RX5 yX5_of yX5_of, Cond.code yX5_of cX5_of 3 (some .int), Cond.methodLink RX5 54 yX5_greater, Cond.static yX5_greater, Cond.code yX5_greater cX5_greater 2 (some .int), Cond.methodLink RX5 70 yX5_target, Cond.instanceMethod yX5_target, Cond.selects RX5 yX5_target yX5_target]
def wsX5_findsStep_r2 : List Cond := [Cond.code yX5_target cX5_target 1 (some .int), Cond.methodLink RX5 64 yX5_bound, Cond.instanceMethod yX5_bound, Cond.selects RX5 yX5_bound yX5_bound, Cond.code yX5_bound cX5_bound 3 (some .int), Cond.methodLink RX5 47 yX5_isDone, Cond.instanceMethod yX5_isDone, Cond.selects RX5 yX5_isDone yX5_isDone, Cond.code yX5_isDone cX5_isDone 2 (some .boolean), Cond.methodLink RX5 57 yX5_opens, Cond.instanceMethod yX5_opens, Cond.selects RX5 yX5_opens yX5_opens, Cond.code yX5_opens cX5_opens 3 (some .int), Cond.methodLink RX5 61 yX5_allLoads, Cond.instanceMethod yX5_allLoads, Cond.selects RX5 yX5_allLoads yX5_allLoads, Cond.code yX5_allLoads cX5_allLoads 3 (some .int), Cond.methodLink RX5 127 yX5_full, Cond.instanceMethod yX5_full, Cond.selects RX5 yX5_full yX5_full, Cond.code yX5_full cX5_full 3 (some .int), Cond.methodLink RX5 79 yX5_isOpen, Cond.instanceMethod yX5_isOpen, Cond.selects RX5 yX5_isOpen yX5_isOpen]
def wsX5_findsStep_r3 : List Cond := [Cond.code yX5_isOpen cX5_isOpen 2 (some .boolean), Cond.methodLink RX5 39 yX5_isServer, Cond.instanceMethod yX5_isServer, Cond.selects RX5 yX5_isServer yX5_isServer, Cond.code yX5_isServer cX5_isServer 2 (some .boolean), Cond.methodLink RX5 35 yX5_in, Cond.static yX5_in, Cond.code yX5_in cX5_in 3 (some .boolean), Cond.methodLink RX5 130 yX5_findsMove, Cond.instanceMethod yX5_findsMove, Cond.selects RX5 yX5_findsMove yX5_findsMove, Cond.code yX5_findsMove cX5_findsMove 9 (some .boolean), Cond.constantLong RX5 105 (100000000), Cond.fieldLink RX5 107 "EvenLoadsModel" "stepJob" "I", Cond.constantLong RX5 110 (10000), Cond.constantLong RX5 112 (100), Cond.fieldLink RX5 114 "EvenLoadsModel" "stepServer" "I", Cond.fieldLink RX5 117 "EvenLoadsModel" "stepOther" "I", Cond.fieldLink RX5 120 "EvenLoadsModel" "stepPrice" "I", Cond.methodLink RX5 133 yX5_findsExchange, Cond.instanceMethod yX5_findsExchange, Cond.selects RX5 yX5_findsExchange yX5_findsExchange, Cond.code yX5_findsExchange cX5_findsExchange 12 (some .boolean)]
def wsX5_findsStep : List Cond := .code yX5_findsStep cX5_findsStep 2 (some .boolean) :: ((wsX5_findsStep_r1 ++ (wsX5_findsStep_r2 ++ wsX5_findsStep_r3)) ++ wsX50)
def wsX5_evens_r1 : List Cond := [Cond.fieldLink RX5 117 "EvenLoadsModel" "stepOther" "I", Cond.fieldLink RX5 107 "EvenLoadsModel" "stepJob" "I", Cond.fieldLink RX5 114 "EvenLoadsModel" "stepServer" "I", Cond.methodLink RX5 136 yX5_findsStep, Cond.instanceMethod yX5_findsStep, Cond.selects RX5 yX5_findsStep yX5_findsStep, Cond.initialized RX5, Cond.code yX5_findsStep cX5_findsStep 2 (some .boolean), Cond.methodLink RX5 123 yX5_areEven, Cond.instanceMethod yX5_areEven, Cond.selects RX5 yX5_areEven yX5_areEven, Cond.code yX5_areEven cX5_areEven 1 (some .boolean), Cond.methodLink RX5 67 yX5_greatest, Cond.instanceMethod yX5_greatest, Cond.selects RX5 yX5_greatest yX5_greatest, Cond.code yX5_greatest cX5_greatest 3 (some .int), Cond.fieldLink RX5 7 "EvenLoadsModel" "s" "[I", Cond.methodLink RX5 50 yX5_load, Cond.instanceMethod yX5_load, Cond.selects RX5 yX5_load yX5_load, Cond.code yX5_load cX5_load 4 (some .int), Cond.methodLink RX5 43 yX5_of, Cond.instanceMethod yX5_of, Cond.selects RX5 yX5_of yX5_of]
def wsX5_evens_r2 : List Cond := [Cond.code yX5_of cX5_of 3 (some .int), Cond.methodLink RX5 54 yX5_greater, Cond.static yX5_greater, Cond.code yX5_greater cX5_greater 2 (some .int), Cond.methodLink RX5 70 yX5_target, Cond.instanceMethod yX5_target, Cond.selects RX5 yX5_target yX5_target, Cond.code yX5_target cX5_target 1 (some .int), Cond.methodLink RX5 64 yX5_bound, Cond.instanceMethod yX5_bound, Cond.selects RX5 yX5_bound yX5_bound, Cond.code yX5_bound cX5_bound 3 (some .int), Cond.methodLink RX5 47 yX5_isDone, Cond.instanceMethod yX5_isDone, Cond.selects RX5 yX5_isDone yX5_isDone, Cond.code yX5_isDone cX5_isDone 2 (some .boolean), Cond.methodLink RX5 57 yX5_opens, Cond.instanceMethod yX5_opens, Cond.selects RX5 yX5_opens yX5_opens, Cond.code yX5_opens cX5_opens 3 (some .int), Cond.methodLink RX5 61 yX5_allLoads, Cond.instanceMethod yX5_allLoads, Cond.selects RX5 yX5_allLoads yX5_allLoads, Cond.code yX5_allLoads cX5_allLoads 3 (some .int)]
def wsX5_evens_r3 : List Cond := [Cond.methodLink RX5 127 yX5_full, Cond.instanceMethod yX5_full, Cond.selects RX5 yX5_full yX5_full, Cond.code yX5_full cX5_full 3 (some .int), Cond.methodLink RX5 79 yX5_isOpen, Cond.instanceMethod yX5_isOpen, Cond.selects RX5 yX5_isOpen yX5_isOpen, Cond.code yX5_isOpen cX5_isOpen 2 (some .boolean), Cond.methodLink RX5 39 yX5_isServer, Cond.instanceMethod yX5_isServer, Cond.selects RX5 yX5_isServer yX5_isServer, Cond.code yX5_isServer cX5_isServer 2 (some .boolean), Cond.methodLink RX5 35 yX5_in, Cond.static yX5_in, Cond.code yX5_in cX5_in 3 (some .boolean), Cond.methodLink RX5 130 yX5_findsMove, Cond.instanceMethod yX5_findsMove, Cond.selects RX5 yX5_findsMove yX5_findsMove, Cond.code yX5_findsMove cX5_findsMove 9 (some .boolean), Cond.constantLong RX5 105 (100000000), Cond.constantLong RX5 110 (10000), Cond.constantLong RX5 112 (100), Cond.fieldLink RX5 120 "EvenLoadsModel" "stepPrice" "I", Cond.methodLink RX5 133 yX5_findsExchange]
def wsX5_evens_r4 : List Cond := [Cond.instanceMethod yX5_findsExchange, Cond.selects RX5 yX5_findsExchange yX5_findsExchange, Cond.code yX5_findsExchange cX5_findsExchange 12 (some .boolean), Cond.methodLink RX5 96 yX5_moves, Cond.instanceMethod yX5_moves, Cond.selects RX5 yX5_moves yX5_moves, Cond.code yX5_moves cX5_moves 3 (some .int), Cond.methodLink RX5 86 yX5_isJob, Cond.instanceMethod yX5_isJob, Cond.selects RX5 yX5_isJob yX5_isJob, Cond.code yX5_isJob cX5_isJob 2 (some .boolean), Cond.methodLink RX5 92 yX5_goes, Cond.instanceMethod yX5_goes, Cond.selects RX5 yX5_goes yX5_goes, Cond.code yX5_goes cX5_goes 3 none, Cond.methodLink RX5 99 yX5_exchanges, Cond.instanceMethod yX5_exchanges, Cond.selects RX5 yX5_exchanges yX5_exchanges, Cond.code yX5_exchanges cX5_exchanges 5 (some .int)]
def wsX5_evens : List Cond := .code yX5_evens cX5_evens 4 (some .int) :: ((wsX5_evens_r1 ++ (wsX5_evens_r2 ++ (wsX5_evens_r3 ++ wsX5_evens_r4))) ++ wsX50)
def wsX5_evensBy_r1 : List Cond := [Cond.methodLink RX5 35 yX5_in, Cond.static yX5_in, Cond.initialized RX5, Cond.code yX5_in cX5_in 3 (some .boolean), Cond.methodLink RX5 139 yX5_evens, Cond.instanceMethod yX5_evens, Cond.selects RX5 yX5_evens yX5_evens, Cond.code yX5_evens cX5_evens 4 (some .int), Cond.fieldLink RX5 117 "EvenLoadsModel" "stepOther" "I", Cond.fieldLink RX5 107 "EvenLoadsModel" "stepJob" "I", Cond.fieldLink RX5 114 "EvenLoadsModel" "stepServer" "I", Cond.methodLink RX5 136 yX5_findsStep, Cond.instanceMethod yX5_findsStep, Cond.selects RX5 yX5_findsStep yX5_findsStep, Cond.code yX5_findsStep cX5_findsStep 2 (some .boolean), Cond.methodLink RX5 123 yX5_areEven, Cond.instanceMethod yX5_areEven, Cond.selects RX5 yX5_areEven yX5_areEven, Cond.code yX5_areEven cX5_areEven 1 (some .boolean), Cond.methodLink RX5 67 yX5_greatest, Cond.instanceMethod yX5_greatest, Cond.selects RX5 yX5_greatest yX5_greatest, Cond.code yX5_greatest cX5_greatest 3 (some .int), Cond.fieldLink RX5 7 "EvenLoadsModel" "s" "[I"]
def wsX5_evensBy_r2 : List Cond := [Cond.methodLink RX5 50 yX5_load, Cond.instanceMethod yX5_load, Cond.selects RX5 yX5_load yX5_load, Cond.code yX5_load cX5_load 4 (some .int), Cond.methodLink RX5 43 yX5_of, Cond.instanceMethod yX5_of, Cond.selects RX5 yX5_of yX5_of, Cond.code yX5_of cX5_of 3 (some .int), Cond.methodLink RX5 54 yX5_greater, Cond.static yX5_greater, Cond.code yX5_greater cX5_greater 2 (some .int), Cond.methodLink RX5 70 yX5_target, Cond.instanceMethod yX5_target, Cond.selects RX5 yX5_target yX5_target, Cond.code yX5_target cX5_target 1 (some .int), Cond.methodLink RX5 64 yX5_bound, Cond.instanceMethod yX5_bound, Cond.selects RX5 yX5_bound yX5_bound, Cond.code yX5_bound cX5_bound 3 (some .int), Cond.methodLink RX5 47 yX5_isDone, Cond.instanceMethod yX5_isDone, Cond.selects RX5 yX5_isDone yX5_isDone, Cond.code yX5_isDone cX5_isDone 2 (some .boolean), Cond.methodLink RX5 57 yX5_opens]
def wsX5_evensBy_r3 : List Cond := [Cond.instanceMethod yX5_opens, Cond.selects RX5 yX5_opens yX5_opens, Cond.code yX5_opens cX5_opens 3 (some .int), Cond.methodLink RX5 61 yX5_allLoads, Cond.instanceMethod yX5_allLoads, Cond.selects RX5 yX5_allLoads yX5_allLoads, Cond.code yX5_allLoads cX5_allLoads 3 (some .int), Cond.methodLink RX5 127 yX5_full, Cond.instanceMethod yX5_full, Cond.selects RX5 yX5_full yX5_full, Cond.code yX5_full cX5_full 3 (some .int), Cond.methodLink RX5 79 yX5_isOpen, Cond.instanceMethod yX5_isOpen, Cond.selects RX5 yX5_isOpen yX5_isOpen, Cond.code yX5_isOpen cX5_isOpen 2 (some .boolean), Cond.methodLink RX5 39 yX5_isServer, Cond.instanceMethod yX5_isServer, Cond.selects RX5 yX5_isServer yX5_isServer, Cond.code yX5_isServer cX5_isServer 2 (some .boolean), Cond.methodLink RX5 130 yX5_findsMove, Cond.instanceMethod yX5_findsMove, Cond.selects RX5 yX5_findsMove yX5_findsMove, Cond.code yX5_findsMove cX5_findsMove 9 (some .boolean), Cond.constantLong RX5 105 (100000000)]
def wsX5_evensBy_r4 : List Cond := [Cond.constantLong RX5 110 (10000), Cond.constantLong RX5 112 (100), Cond.fieldLink RX5 120 "EvenLoadsModel" "stepPrice" "I", Cond.methodLink RX5 133 yX5_findsExchange, Cond.instanceMethod yX5_findsExchange, Cond.selects RX5 yX5_findsExchange yX5_findsExchange, Cond.code yX5_findsExchange cX5_findsExchange 12 (some .boolean), Cond.methodLink RX5 96 yX5_moves, Cond.instanceMethod yX5_moves, Cond.selects RX5 yX5_moves yX5_moves, Cond.code yX5_moves cX5_moves 3 (some .int), Cond.methodLink RX5 86 yX5_isJob, Cond.instanceMethod yX5_isJob, Cond.selects RX5 yX5_isJob yX5_isJob, Cond.code yX5_isJob cX5_isJob 2 (some .boolean), Cond.methodLink RX5 92 yX5_goes, Cond.instanceMethod yX5_goes, Cond.selects RX5 yX5_goes yX5_goes, Cond.code yX5_goes cX5_goes 3 none, Cond.methodLink RX5 99 yX5_exchanges, Cond.instanceMethod yX5_exchanges, Cond.selects RX5 yX5_exchanges yX5_exchanges, Cond.code yX5_exchanges cX5_exchanges 5 (some .int)]
def wsX5_evensBy : List Cond := .code yX5_evensBy cX5_evensBy 2 (some .int) :: ((wsX5_evensBy_r1 ++ (wsX5_evensBy_r2 ++ (wsX5_evensBy_r3 ++ wsX5_evensBy_r4))) ++ wsX50)
def wsX5_even_r1 : List Cond := [Cond.methodLink RX5 73 yX5_aside, Cond.instanceMethod yX5_aside, Cond.selects RX5 yX5_aside yX5_aside, Cond.initialized RX5, Cond.code yX5_aside cX5_aside 2 none, Cond.fieldLink RX5 16 "EvenLoadsModel" "before" "[I", Cond.fieldLink RX5 7 "EvenLoadsModel" "s" "[I", Cond.methodLink RX5 142 yX5_evensBy, Cond.instanceMethod yX5_evensBy, Cond.selects RX5 yX5_evensBy yX5_evensBy, Cond.code yX5_evensBy cX5_evensBy 2 (some .int), Cond.methodLink RX5 35 yX5_in, Cond.static yX5_in, Cond.code yX5_in cX5_in 3 (some .boolean), Cond.methodLink RX5 139 yX5_evens, Cond.instanceMethod yX5_evens, Cond.selects RX5 yX5_evens yX5_evens, Cond.code yX5_evens cX5_evens 4 (some .int), Cond.fieldLink RX5 117 "EvenLoadsModel" "stepOther" "I", Cond.fieldLink RX5 107 "EvenLoadsModel" "stepJob" "I", Cond.fieldLink RX5 114 "EvenLoadsModel" "stepServer" "I", Cond.methodLink RX5 136 yX5_findsStep, Cond.instanceMethod yX5_findsStep, Cond.selects RX5 yX5_findsStep yX5_findsStep]
def wsX5_even_r2 : List Cond := [Cond.code yX5_findsStep cX5_findsStep 2 (some .boolean), Cond.methodLink RX5 123 yX5_areEven, Cond.instanceMethod yX5_areEven, Cond.selects RX5 yX5_areEven yX5_areEven, Cond.code yX5_areEven cX5_areEven 1 (some .boolean), Cond.methodLink RX5 67 yX5_greatest, Cond.instanceMethod yX5_greatest, Cond.selects RX5 yX5_greatest yX5_greatest, Cond.code yX5_greatest cX5_greatest 3 (some .int), Cond.methodLink RX5 50 yX5_load, Cond.instanceMethod yX5_load, Cond.selects RX5 yX5_load yX5_load, Cond.code yX5_load cX5_load 4 (some .int), Cond.methodLink RX5 43 yX5_of, Cond.instanceMethod yX5_of, Cond.selects RX5 yX5_of yX5_of, Cond.code yX5_of cX5_of 3 (some .int), Cond.methodLink RX5 54 yX5_greater, Cond.static yX5_greater, Cond.code yX5_greater cX5_greater 2 (some .int), Cond.methodLink RX5 70 yX5_target, Cond.instanceMethod yX5_target, Cond.selects RX5 yX5_target yX5_target, Cond.code yX5_target cX5_target 1 (some .int)]
def wsX5_even_r3 : List Cond := [Cond.methodLink RX5 64 yX5_bound, Cond.instanceMethod yX5_bound, Cond.selects RX5 yX5_bound yX5_bound, Cond.code yX5_bound cX5_bound 3 (some .int), Cond.methodLink RX5 47 yX5_isDone, Cond.instanceMethod yX5_isDone, Cond.selects RX5 yX5_isDone yX5_isDone, Cond.code yX5_isDone cX5_isDone 2 (some .boolean), Cond.methodLink RX5 57 yX5_opens, Cond.instanceMethod yX5_opens, Cond.selects RX5 yX5_opens yX5_opens, Cond.code yX5_opens cX5_opens 3 (some .int), Cond.methodLink RX5 61 yX5_allLoads, Cond.instanceMethod yX5_allLoads, Cond.selects RX5 yX5_allLoads yX5_allLoads, Cond.code yX5_allLoads cX5_allLoads 3 (some .int), Cond.methodLink RX5 127 yX5_full, Cond.instanceMethod yX5_full, Cond.selects RX5 yX5_full yX5_full, Cond.code yX5_full cX5_full 3 (some .int), Cond.methodLink RX5 79 yX5_isOpen, Cond.instanceMethod yX5_isOpen, Cond.selects RX5 yX5_isOpen yX5_isOpen, Cond.code yX5_isOpen cX5_isOpen 2 (some .boolean)]
def wsX5_even_r4 : List Cond := [Cond.methodLink RX5 39 yX5_isServer, Cond.instanceMethod yX5_isServer, Cond.selects RX5 yX5_isServer yX5_isServer, Cond.code yX5_isServer cX5_isServer 2 (some .boolean), Cond.methodLink RX5 130 yX5_findsMove, Cond.instanceMethod yX5_findsMove, Cond.selects RX5 yX5_findsMove yX5_findsMove, Cond.code yX5_findsMove cX5_findsMove 9 (some .boolean), Cond.constantLong RX5 105 (100000000), Cond.constantLong RX5 110 (10000), Cond.constantLong RX5 112 (100), Cond.fieldLink RX5 120 "EvenLoadsModel" "stepPrice" "I", Cond.methodLink RX5 133 yX5_findsExchange, Cond.instanceMethod yX5_findsExchange, Cond.selects RX5 yX5_findsExchange yX5_findsExchange, Cond.code yX5_findsExchange cX5_findsExchange 12 (some .boolean), Cond.methodLink RX5 96 yX5_moves, Cond.instanceMethod yX5_moves, Cond.selects RX5 yX5_moves yX5_moves, Cond.code yX5_moves cX5_moves 3 (some .int), Cond.methodLink RX5 86 yX5_isJob, Cond.instanceMethod yX5_isJob, Cond.selects RX5 yX5_isJob yX5_isJob, Cond.code yX5_isJob cX5_isJob 2 (some .boolean)]
def wsX5_even_r5 : List Cond := [Cond.methodLink RX5 92 yX5_goes, Cond.instanceMethod yX5_goes, Cond.selects RX5 yX5_goes yX5_goes, Cond.code yX5_goes cX5_goes 3 none, Cond.methodLink RX5 99 yX5_exchanges, Cond.instanceMethod yX5_exchanges, Cond.selects RX5 yX5_exchanges yX5_exchanges, Cond.code yX5_exchanges cX5_exchanges 5 (some .int), Cond.methodLink RX5 76 yX5_acted, Cond.instanceMethod yX5_acted, Cond.selects RX5 yX5_acted yX5_acted, Cond.code yX5_acted cX5_acted 2 (some .int), Cond.methodLink RX5 32 yX5_keeps, Cond.instanceMethod yX5_keeps, Cond.selects RX5 yX5_keeps yX5_keeps, Cond.code yX5_keeps cX5_keeps 2 none, Cond.fieldLink RX5 28 "EvenLoadsModel" "kept" "I", Cond.fieldLink RX5 13 "EvenLoadsModel" "past" "[I"]
def wsX5_even : List Cond := .code yX5_even cX5_even 2 (some .int) :: ((wsX5_even_r1 ++ (wsX5_even_r2 ++ (wsX5_even_r3 ++ (wsX5_even_r4 ++ wsX5_even_r5)))) ++ wsX50)
def wsX5_leaver : List Cond := .code yX5_leaver cX5_leaver 6 (some .int) :: ([.fieldLink RX5 7 "EvenLoadsModel" "s" "[I", .methodLink RX5 43 yX5_of, .instanceMethod yX5_of, .selects RX5 yX5_of yX5_of, .initialized RX5, .code yX5_of cX5_of 3 (some .int)] ++ wsX50)
def wsX5_emptiest : List Cond := .code yX5_emptiest cX5_emptiest 3 (some .int) :: ([.fieldLink RX5 7 "EvenLoadsModel" "s" "[I", .methodLink RX5 79 yX5_isOpen, .instanceMethod yX5_isOpen, .selects RX5 yX5_isOpen yX5_isOpen, .initialized RX5, .code yX5_isOpen cX5_isOpen 2 (some .boolean), .methodLink RX5 39 yX5_isServer, .instanceMethod yX5_isServer, .selects RX5 yX5_isServer yX5_isServer, .code yX5_isServer cX5_isServer 2 (some .boolean), .methodLink RX5 35 yX5_in, .static yX5_in, .code yX5_in cX5_in 3 (some .boolean), .methodLink RX5 50 yX5_load, .instanceMethod yX5_load, .selects RX5 yX5_load yX5_load, .code yX5_load cX5_load 4 (some .int), .methodLink RX5 43 yX5_of, .instanceMethod yX5_of, .selects RX5 yX5_of yX5_of, .code yX5_of cX5_of 3 (some .int)] ++ wsX50)
def wsX5_empties_r1 : List Cond := [Cond.fieldLink RX5 7 "EvenLoadsModel" "s" "[I", Cond.methodLink RX5 145 yX5_leaver, Cond.instanceMethod yX5_leaver, Cond.selects RX5 yX5_leaver yX5_leaver, Cond.initialized RX5, Cond.code yX5_leaver cX5_leaver 6 (some .int), Cond.methodLink RX5 43 yX5_of, Cond.instanceMethod yX5_of, Cond.selects RX5 yX5_of yX5_of, Cond.code yX5_of cX5_of 3 (some .int), Cond.methodLink RX5 148 yX5_emptiest, Cond.instanceMethod yX5_emptiest, Cond.selects RX5 yX5_emptiest yX5_emptiest, Cond.code yX5_emptiest cX5_emptiest 3 (some .int), Cond.methodLink RX5 79 yX5_isOpen, Cond.instanceMethod yX5_isOpen, Cond.selects RX5 yX5_isOpen yX5_isOpen, Cond.code yX5_isOpen cX5_isOpen 2 (some .boolean), Cond.methodLink RX5 39 yX5_isServer, Cond.instanceMethod yX5_isServer, Cond.selects RX5 yX5_isServer yX5_isServer, Cond.code yX5_isServer cX5_isServer 2 (some .boolean), Cond.methodLink RX5 35 yX5_in, Cond.static yX5_in]
def wsX5_empties_r2 : List Cond := [Cond.code yX5_in cX5_in 3 (some .boolean), Cond.methodLink RX5 50 yX5_load, Cond.instanceMethod yX5_load, Cond.selects RX5 yX5_load yX5_load, Cond.code yX5_load cX5_load 4 (some .int), Cond.methodLink RX5 92 yX5_goes, Cond.instanceMethod yX5_goes, Cond.selects RX5 yX5_goes yX5_goes, Cond.code yX5_goes cX5_goes 3 none]
def wsX5_empties : List Cond := .code yX5_empties cX5_empties 4 (some .int) :: ((wsX5_empties_r1 ++ wsX5_empties_r2) ++ wsX50)
def wsX5_closes_r1 : List Cond := [Cond.fieldLink RX5 7 "EvenLoadsModel" "s" "[I", Cond.methodLink RX5 39 yX5_isServer, Cond.instanceMethod yX5_isServer, Cond.selects RX5 yX5_isServer yX5_isServer, Cond.initialized RX5, Cond.code yX5_isServer cX5_isServer 2 (some .boolean), Cond.methodLink RX5 35 yX5_in, Cond.static yX5_in, Cond.code yX5_in cX5_in 3 (some .boolean), Cond.methodLink RX5 43 yX5_of, Cond.instanceMethod yX5_of, Cond.selects RX5 yX5_of yX5_of, Cond.code yX5_of cX5_of 3 (some .int), Cond.methodLink RX5 79 yX5_isOpen, Cond.instanceMethod yX5_isOpen, Cond.selects RX5 yX5_isOpen yX5_isOpen, Cond.code yX5_isOpen cX5_isOpen 2 (some .boolean), Cond.methodLink RX5 57 yX5_opens, Cond.instanceMethod yX5_opens, Cond.selects RX5 yX5_opens yX5_opens, Cond.code yX5_opens cX5_opens 3 (some .int), Cond.methodLink RX5 151 yX5_empties, Cond.instanceMethod yX5_empties, Cond.selects RX5 yX5_empties yX5_empties]
def wsX5_closes_r2 : List Cond := [Cond.code yX5_empties cX5_empties 4 (some .int), Cond.methodLink RX5 145 yX5_leaver, Cond.instanceMethod yX5_leaver, Cond.selects RX5 yX5_leaver yX5_leaver, Cond.code yX5_leaver cX5_leaver 6 (some .int), Cond.methodLink RX5 148 yX5_emptiest, Cond.instanceMethod yX5_emptiest, Cond.selects RX5 yX5_emptiest yX5_emptiest, Cond.code yX5_emptiest cX5_emptiest 3 (some .int), Cond.methodLink RX5 50 yX5_load, Cond.instanceMethod yX5_load, Cond.selects RX5 yX5_load yX5_load, Cond.code yX5_load cX5_load 4 (some .int), Cond.methodLink RX5 92 yX5_goes, Cond.instanceMethod yX5_goes, Cond.selects RX5 yX5_goes yX5_goes, Cond.code yX5_goes cX5_goes 3 none]
def wsX5_closes : List Cond := .code yX5_closes cX5_closes 4 (some .int) :: ((wsX5_closes_r1 ++ wsX5_closes_r2) ++ wsX50)
def wsX5_close_r1 : List Cond := [Cond.methodLink RX5 73 yX5_aside, Cond.instanceMethod yX5_aside, Cond.selects RX5 yX5_aside yX5_aside, Cond.initialized RX5, Cond.code yX5_aside cX5_aside 2 none, Cond.fieldLink RX5 16 "EvenLoadsModel" "before" "[I", Cond.fieldLink RX5 7 "EvenLoadsModel" "s" "[I", Cond.methodLink RX5 154 yX5_closes, Cond.instanceMethod yX5_closes, Cond.selects RX5 yX5_closes yX5_closes, Cond.code yX5_closes cX5_closes 4 (some .int), Cond.methodLink RX5 39 yX5_isServer, Cond.instanceMethod yX5_isServer, Cond.selects RX5 yX5_isServer yX5_isServer, Cond.code yX5_isServer cX5_isServer 2 (some .boolean), Cond.methodLink RX5 35 yX5_in, Cond.static yX5_in, Cond.code yX5_in cX5_in 3 (some .boolean), Cond.methodLink RX5 43 yX5_of, Cond.instanceMethod yX5_of, Cond.selects RX5 yX5_of yX5_of, Cond.code yX5_of cX5_of 3 (some .int), Cond.methodLink RX5 79 yX5_isOpen, Cond.instanceMethod yX5_isOpen]
def wsX5_close_r2 : List Cond := [Cond.selects RX5 yX5_isOpen yX5_isOpen, Cond.code yX5_isOpen cX5_isOpen 2 (some .boolean), Cond.methodLink RX5 57 yX5_opens, Cond.instanceMethod yX5_opens, Cond.selects RX5 yX5_opens yX5_opens, Cond.code yX5_opens cX5_opens 3 (some .int), Cond.methodLink RX5 151 yX5_empties, Cond.instanceMethod yX5_empties, Cond.selects RX5 yX5_empties yX5_empties, Cond.code yX5_empties cX5_empties 4 (some .int), Cond.methodLink RX5 145 yX5_leaver, Cond.instanceMethod yX5_leaver, Cond.selects RX5 yX5_leaver yX5_leaver, Cond.code yX5_leaver cX5_leaver 6 (some .int), Cond.methodLink RX5 148 yX5_emptiest, Cond.instanceMethod yX5_emptiest, Cond.selects RX5 yX5_emptiest yX5_emptiest, Cond.code yX5_emptiest cX5_emptiest 3 (some .int), Cond.methodLink RX5 50 yX5_load, Cond.instanceMethod yX5_load, Cond.selects RX5 yX5_load yX5_load, Cond.code yX5_load cX5_load 4 (some .int), Cond.methodLink RX5 92 yX5_goes, Cond.instanceMethod yX5_goes]
def wsX5_close_r3 : List Cond := [Cond.selects RX5 yX5_goes yX5_goes, Cond.code yX5_goes cX5_goes 3 none, Cond.methodLink RX5 76 yX5_acted, Cond.instanceMethod yX5_acted, Cond.selects RX5 yX5_acted yX5_acted, Cond.code yX5_acted cX5_acted 2 (some .int), Cond.methodLink RX5 32 yX5_keeps, Cond.instanceMethod yX5_keeps, Cond.selects RX5 yX5_keeps yX5_keeps, Cond.code yX5_keeps cX5_keeps 2 none, Cond.fieldLink RX5 28 "EvenLoadsModel" "kept" "I", Cond.fieldLink RX5 13 "EvenLoadsModel" "past" "[I"]
def wsX5_close : List Cond := .code yX5_close cX5_close 2 (some .int) :: ((wsX5_close_r1 ++ (wsX5_close_r2 ++ wsX5_close_r3)) ++ wsX50)
def wsX5_open_r1 : List Cond := [Cond.fieldLink RX5 7 "EvenLoadsModel" "s" "[I", Cond.methodLink RX5 39 yX5_isServer, Cond.instanceMethod yX5_isServer, Cond.selects RX5 yX5_isServer yX5_isServer, Cond.initialized RX5, Cond.code yX5_isServer cX5_isServer 2 (some .boolean), Cond.methodLink RX5 35 yX5_in, Cond.static yX5_in, Cond.code yX5_in cX5_in 3 (some .boolean), Cond.methodLink RX5 79 yX5_isOpen, Cond.instanceMethod yX5_isOpen, Cond.selects RX5 yX5_isOpen yX5_isOpen, Cond.code yX5_isOpen cX5_isOpen 2 (some .boolean), Cond.methodLink RX5 73 yX5_aside, Cond.instanceMethod yX5_aside, Cond.selects RX5 yX5_aside yX5_aside, Cond.code yX5_aside cX5_aside 2 none, Cond.fieldLink RX5 16 "EvenLoadsModel" "before" "[I", Cond.methodLink RX5 57 yX5_opens, Cond.instanceMethod yX5_opens, Cond.selects RX5 yX5_opens yX5_opens, Cond.code yX5_opens cX5_opens 3 (some .int), Cond.methodLink RX5 76 yX5_acted, Cond.instanceMethod yX5_acted]
def wsX5_open_r2 : List Cond := [Cond.selects RX5 yX5_acted yX5_acted, Cond.code yX5_acted cX5_acted 2 (some .int), Cond.methodLink RX5 32 yX5_keeps, Cond.instanceMethod yX5_keeps, Cond.selects RX5 yX5_keeps yX5_keeps, Cond.code yX5_keeps cX5_keeps 2 none, Cond.fieldLink RX5 28 "EvenLoadsModel" "kept" "I", Cond.fieldLink RX5 13 "EvenLoadsModel" "past" "[I"]
def wsX5_open : List Cond := .code yX5_open cX5_open 2 (some .int) :: ((wsX5_open_r1 ++ wsX5_open_r2) ++ wsX50)
def wsX5_append : List Cond := .code yX5_append cX5_append 2 (some .int) :: ([.fieldLink RX5 157 "EvenLoadsModel" "typed" "I", .fieldLink RX5 19 "EvenLoadsModel" "text" "[I", .methodLink RX5 35 yX5_in, .static yX5_in, .initialized RX5, .code yX5_in cX5_in 3 (some .boolean)] ++ wsX50)
def wsX5_clearText : List Cond := .code yX5_clearText cX5_clearText 2 (some .int) :: ([.fieldLink RX5 157 "EvenLoadsModel" "typed" "I"] ++ wsX50)
def wsX5_look : List Cond := .code yX5_look cX5_look 1 (some .int) :: ([.fieldLink RX5 160 "EvenLoadsModel" "at" "I", .fieldLink RX5 157 "EvenLoadsModel" "typed" "I", .fieldLink RX5 19 "EvenLoadsModel" "text" "[I"] ++ wsX50)
def wsX5_skips : List Cond := .code yX5_skips cX5_skips 2 (some .int) :: ([.fieldLink RX5 160 "EvenLoadsModel" "at" "I", .methodLink RX5 163 yX5_look, .instanceMethod yX5_look, .selects RX5 yX5_look yX5_look, .initialized RX5, .code yX5_look cX5_look 1 (some .int), .fieldLink RX5 157 "EvenLoadsModel" "typed" "I", .fieldLink RX5 19 "EvenLoadsModel" "text" "[I"] ++ wsX50)
def wsX5_manyOf : List Cond := .code yX5_manyOf cX5_manyOf 1 (some .int) :: ([])
def wsX5_reads : List Cond := .code yX5_reads cX5_reads 4 none :: ([.fieldLink RX5 160 "EvenLoadsModel" "at" "I", .fieldLink RX5 166 "EvenLoadsModel" "failing" "I", .fieldLink RX5 22 "EvenLoadsModel" "numbers" "[I", .methodLink RX5 163 yX5_look, .instanceMethod yX5_look, .selects RX5 yX5_look yX5_look, .initialized RX5, .code yX5_look cX5_look 1 (some .int), .fieldLink RX5 157 "EvenLoadsModel" "typed" "I", .fieldLink RX5 19 "EvenLoadsModel" "text" "[I", .methodLink RX5 35 yX5_in, .static yX5_in, .code yX5_in cX5_in 3 (some .boolean)] ++ wsX50)
def wsX5_does_r1 : List Cond := [Cond.fieldLink RX5 22 "EvenLoadsModel" "numbers" "[I", Cond.methodLink RX5 82 yX5_adds, Cond.instanceMethod yX5_adds, Cond.selects RX5 yX5_adds yX5_adds, Cond.initialized RX5, Cond.code yX5_adds cX5_adds 5 (some .int), Cond.fieldLink RX5 7 "EvenLoadsModel" "s" "[I", Cond.methodLink RX5 35 yX5_in, Cond.static yX5_in, Cond.code yX5_in cX5_in 3 (some .boolean), Cond.methodLink RX5 39 yX5_isServer, Cond.instanceMethod yX5_isServer, Cond.selects RX5 yX5_isServer yX5_isServer, Cond.code yX5_isServer cX5_isServer 2 (some .boolean), Cond.methodLink RX5 79 yX5_isOpen, Cond.instanceMethod yX5_isOpen, Cond.selects RX5 yX5_isOpen yX5_isOpen, Cond.code yX5_isOpen cX5_isOpen 2 (some .boolean), Cond.methodLink RX5 89 yX5_finishes, Cond.instanceMethod yX5_finishes, Cond.selects RX5 yX5_finishes yX5_finishes, Cond.code yX5_finishes cX5_finishes 3 (some .int), Cond.methodLink RX5 86 yX5_isJob, Cond.instanceMethod yX5_isJob]
def wsX5_does_r2 : List Cond := [Cond.selects RX5 yX5_isJob yX5_isJob, Cond.code yX5_isJob cX5_isJob 2 (some .boolean), Cond.methodLink RX5 43 yX5_of, Cond.instanceMethod yX5_of, Cond.selects RX5 yX5_of yX5_of, Cond.code yX5_of cX5_of 3 (some .int), Cond.methodLink RX5 50 yX5_load, Cond.instanceMethod yX5_load, Cond.selects RX5 yX5_load yX5_load, Cond.code yX5_load cX5_load 4 (some .int), Cond.methodLink RX5 96 yX5_moves, Cond.instanceMethod yX5_moves, Cond.selects RX5 yX5_moves yX5_moves, Cond.code yX5_moves cX5_moves 3 (some .int), Cond.methodLink RX5 47 yX5_isDone, Cond.instanceMethod yX5_isDone, Cond.selects RX5 yX5_isDone yX5_isDone, Cond.code yX5_isDone cX5_isDone 2 (some .boolean), Cond.methodLink RX5 92 yX5_goes, Cond.instanceMethod yX5_goes, Cond.selects RX5 yX5_goes yX5_goes, Cond.code yX5_goes cX5_goes 3 none, Cond.methodLink RX5 67 yX5_greatest, Cond.instanceMethod yX5_greatest]
def wsX5_does_r3 : List Cond := [Cond.selects RX5 yX5_greatest yX5_greatest, Cond.code yX5_greatest cX5_greatest 3 (some .int), Cond.methodLink RX5 54 yX5_greater, Cond.static yX5_greater, Cond.code yX5_greater cX5_greater 2 (some .int), Cond.methodLink RX5 99 yX5_exchanges, Cond.instanceMethod yX5_exchanges, Cond.selects RX5 yX5_exchanges yX5_exchanges, Cond.code yX5_exchanges cX5_exchanges 5 (some .int), Cond.methodLink RX5 102 yX5_rings, Cond.instanceMethod yX5_rings, Cond.selects RX5 yX5_rings yX5_rings, Cond.code yX5_rings cX5_rings 8 (some .int), Cond.methodLink RX5 142 yX5_evensBy, Cond.instanceMethod yX5_evensBy, Cond.selects RX5 yX5_evensBy yX5_evensBy, Cond.code yX5_evensBy cX5_evensBy 2 (some .int), Cond.methodLink RX5 139 yX5_evens, Cond.instanceMethod yX5_evens, Cond.selects RX5 yX5_evens yX5_evens, Cond.code yX5_evens cX5_evens 4 (some .int), Cond.fieldLink RX5 117 "EvenLoadsModel" "stepOther" "I", Cond.fieldLink RX5 107 "EvenLoadsModel" "stepJob" "I", Cond.fieldLink RX5 114 "EvenLoadsModel" "stepServer" "I"]
def wsX5_does_r4 : List Cond := [Cond.methodLink RX5 136 yX5_findsStep, Cond.instanceMethod yX5_findsStep, Cond.selects RX5 yX5_findsStep yX5_findsStep, Cond.code yX5_findsStep cX5_findsStep 2 (some .boolean), Cond.methodLink RX5 123 yX5_areEven, Cond.instanceMethod yX5_areEven, Cond.selects RX5 yX5_areEven yX5_areEven, Cond.code yX5_areEven cX5_areEven 1 (some .boolean), Cond.methodLink RX5 70 yX5_target, Cond.instanceMethod yX5_target, Cond.selects RX5 yX5_target yX5_target, Cond.code yX5_target cX5_target 1 (some .int), Cond.methodLink RX5 64 yX5_bound, Cond.instanceMethod yX5_bound, Cond.selects RX5 yX5_bound yX5_bound, Cond.code yX5_bound cX5_bound 3 (some .int), Cond.methodLink RX5 57 yX5_opens, Cond.instanceMethod yX5_opens, Cond.selects RX5 yX5_opens yX5_opens, Cond.code yX5_opens cX5_opens 3 (some .int), Cond.methodLink RX5 61 yX5_allLoads, Cond.instanceMethod yX5_allLoads, Cond.selects RX5 yX5_allLoads yX5_allLoads, Cond.code yX5_allLoads cX5_allLoads 3 (some .int)]
def wsX5_does_r5 : List Cond := [Cond.methodLink RX5 127 yX5_full, Cond.instanceMethod yX5_full, Cond.selects RX5 yX5_full yX5_full, Cond.code yX5_full cX5_full 3 (some .int), Cond.methodLink RX5 130 yX5_findsMove, Cond.instanceMethod yX5_findsMove, Cond.selects RX5 yX5_findsMove yX5_findsMove, Cond.code yX5_findsMove cX5_findsMove 9 (some .boolean), Cond.constantLong RX5 105 (100000000), Cond.constantLong RX5 110 (10000), Cond.constantLong RX5 112 (100), Cond.fieldLink RX5 120 "EvenLoadsModel" "stepPrice" "I", Cond.methodLink RX5 133 yX5_findsExchange, Cond.instanceMethod yX5_findsExchange, Cond.selects RX5 yX5_findsExchange yX5_findsExchange, Cond.code yX5_findsExchange cX5_findsExchange 12 (some .boolean)]
def wsX5_does : List Cond := .code yX5_does cX5_does 5 (some .int) :: ((wsX5_does_r1 ++ (wsX5_does_r2 ++ (wsX5_does_r3 ++ (wsX5_does_r4 ++ wsX5_does_r5)))) ++ wsX50)
def wsX5_order_r1 : List Cond := [Cond.fieldLink RX5 160 "EvenLoadsModel" "at" "I", Cond.fieldLink RX5 166 "EvenLoadsModel" "failing" "I", Cond.methodLink RX5 163 yX5_look, Cond.instanceMethod yX5_look, Cond.selects RX5 yX5_look yX5_look, Cond.initialized RX5, Cond.code yX5_look cX5_look 1 (some .int), Cond.fieldLink RX5 157 "EvenLoadsModel" "typed" "I", Cond.fieldLink RX5 19 "EvenLoadsModel" "text" "[I", Cond.methodLink RX5 169 yX5_manyOf, Cond.static yX5_manyOf, Cond.code yX5_manyOf cX5_manyOf 1 (some .int), Cond.methodLink RX5 172 yX5_skips, Cond.instanceMethod yX5_skips, Cond.selects RX5 yX5_skips yX5_skips, Cond.code yX5_skips cX5_skips 2 (some .int), Cond.methodLink RX5 175 yX5_reads, Cond.instanceMethod yX5_reads, Cond.selects RX5 yX5_reads yX5_reads, Cond.code yX5_reads cX5_reads 4 none, Cond.fieldLink RX5 22 "EvenLoadsModel" "numbers" "[I", Cond.methodLink RX5 35 yX5_in, Cond.static yX5_in, Cond.code yX5_in cX5_in 3 (some .boolean)]
def wsX5_order_r2 : List Cond := [Cond.methodLink RX5 179 yX5_does, Cond.instanceMethod yX5_does, Cond.selects RX5 yX5_does yX5_does, Cond.code yX5_does cX5_does 5 (some .int), Cond.methodLink RX5 82 yX5_adds, Cond.instanceMethod yX5_adds, Cond.selects RX5 yX5_adds yX5_adds, Cond.code yX5_adds cX5_adds 5 (some .int), Cond.fieldLink RX5 7 "EvenLoadsModel" "s" "[I", Cond.methodLink RX5 39 yX5_isServer, Cond.instanceMethod yX5_isServer, Cond.selects RX5 yX5_isServer yX5_isServer, Cond.code yX5_isServer cX5_isServer 2 (some .boolean), Cond.methodLink RX5 79 yX5_isOpen, Cond.instanceMethod yX5_isOpen, Cond.selects RX5 yX5_isOpen yX5_isOpen, Cond.code yX5_isOpen cX5_isOpen 2 (some .boolean), Cond.methodLink RX5 89 yX5_finishes, Cond.instanceMethod yX5_finishes, Cond.selects RX5 yX5_finishes yX5_finishes, Cond.code yX5_finishes cX5_finishes 3 (some .int), Cond.methodLink RX5 86 yX5_isJob, Cond.instanceMethod yX5_isJob, Cond.selects RX5 yX5_isJob yX5_isJob]
def wsX5_order_r3 : List Cond := [Cond.code yX5_isJob cX5_isJob 2 (some .boolean), Cond.methodLink RX5 43 yX5_of, Cond.instanceMethod yX5_of, Cond.selects RX5 yX5_of yX5_of, Cond.code yX5_of cX5_of 3 (some .int), Cond.methodLink RX5 50 yX5_load, Cond.instanceMethod yX5_load, Cond.selects RX5 yX5_load yX5_load, Cond.code yX5_load cX5_load 4 (some .int), Cond.methodLink RX5 96 yX5_moves, Cond.instanceMethod yX5_moves, Cond.selects RX5 yX5_moves yX5_moves, Cond.code yX5_moves cX5_moves 3 (some .int), Cond.methodLink RX5 47 yX5_isDone, Cond.instanceMethod yX5_isDone, Cond.selects RX5 yX5_isDone yX5_isDone, Cond.code yX5_isDone cX5_isDone 2 (some .boolean), Cond.methodLink RX5 92 yX5_goes, Cond.instanceMethod yX5_goes, Cond.selects RX5 yX5_goes yX5_goes, Cond.code yX5_goes cX5_goes 3 none, Cond.methodLink RX5 67 yX5_greatest, Cond.instanceMethod yX5_greatest, Cond.selects RX5 yX5_greatest yX5_greatest]
def wsX5_order_r4 : List Cond := [Cond.code yX5_greatest cX5_greatest 3 (some .int), Cond.methodLink RX5 54 yX5_greater, Cond.static yX5_greater, Cond.code yX5_greater cX5_greater 2 (some .int), Cond.methodLink RX5 99 yX5_exchanges, Cond.instanceMethod yX5_exchanges, Cond.selects RX5 yX5_exchanges yX5_exchanges, Cond.code yX5_exchanges cX5_exchanges 5 (some .int), Cond.methodLink RX5 102 yX5_rings, Cond.instanceMethod yX5_rings, Cond.selects RX5 yX5_rings yX5_rings, Cond.code yX5_rings cX5_rings 8 (some .int), Cond.methodLink RX5 142 yX5_evensBy, Cond.instanceMethod yX5_evensBy, Cond.selects RX5 yX5_evensBy yX5_evensBy, Cond.code yX5_evensBy cX5_evensBy 2 (some .int), Cond.methodLink RX5 139 yX5_evens, Cond.instanceMethod yX5_evens, Cond.selects RX5 yX5_evens yX5_evens, Cond.code yX5_evens cX5_evens 4 (some .int), Cond.fieldLink RX5 117 "EvenLoadsModel" "stepOther" "I", Cond.fieldLink RX5 107 "EvenLoadsModel" "stepJob" "I", Cond.fieldLink RX5 114 "EvenLoadsModel" "stepServer" "I", Cond.methodLink RX5 136 yX5_findsStep]
def wsX5_order_r5 : List Cond := [Cond.instanceMethod yX5_findsStep, Cond.selects RX5 yX5_findsStep yX5_findsStep, Cond.code yX5_findsStep cX5_findsStep 2 (some .boolean), Cond.methodLink RX5 123 yX5_areEven, Cond.instanceMethod yX5_areEven, Cond.selects RX5 yX5_areEven yX5_areEven, Cond.code yX5_areEven cX5_areEven 1 (some .boolean), Cond.methodLink RX5 70 yX5_target, Cond.instanceMethod yX5_target, Cond.selects RX5 yX5_target yX5_target, Cond.code yX5_target cX5_target 1 (some .int), Cond.methodLink RX5 64 yX5_bound, Cond.instanceMethod yX5_bound, Cond.selects RX5 yX5_bound yX5_bound, Cond.code yX5_bound cX5_bound 3 (some .int), Cond.methodLink RX5 57 yX5_opens, Cond.instanceMethod yX5_opens, Cond.selects RX5 yX5_opens yX5_opens, Cond.code yX5_opens cX5_opens 3 (some .int), Cond.methodLink RX5 61 yX5_allLoads, Cond.instanceMethod yX5_allLoads, Cond.selects RX5 yX5_allLoads yX5_allLoads, Cond.code yX5_allLoads cX5_allLoads 3 (some .int), Cond.methodLink RX5 127 yX5_full]
def wsX5_order_r6 : List Cond := [Cond.instanceMethod yX5_full, Cond.selects RX5 yX5_full yX5_full, Cond.code yX5_full cX5_full 3 (some .int), Cond.methodLink RX5 130 yX5_findsMove, Cond.instanceMethod yX5_findsMove, Cond.selects RX5 yX5_findsMove yX5_findsMove, Cond.code yX5_findsMove cX5_findsMove 9 (some .boolean), Cond.constantLong RX5 105 (100000000), Cond.constantLong RX5 110 (10000), Cond.constantLong RX5 112 (100), Cond.fieldLink RX5 120 "EvenLoadsModel" "stepPrice" "I", Cond.methodLink RX5 133 yX5_findsExchange, Cond.instanceMethod yX5_findsExchange, Cond.selects RX5 yX5_findsExchange yX5_findsExchange, Cond.code yX5_findsExchange cX5_findsExchange 12 (some .boolean)]
def wsX5_order : List Cond := .code yX5_order cX5_order 6 none :: ((wsX5_order_r1 ++ (wsX5_order_r2 ++ (wsX5_order_r3 ++ (wsX5_order_r4 ++ (wsX5_order_r5 ++ wsX5_order_r6))))) ++ wsX50)
def wsX5_run_r1 : List Cond := [Cond.fieldLink RX5 160 "EvenLoadsModel" "at" "I", Cond.fieldLink RX5 166 "EvenLoadsModel" "failing" "I", Cond.fieldLink RX5 157 "EvenLoadsModel" "typed" "I", Cond.methodLink RX5 73 yX5_aside, Cond.instanceMethod yX5_aside, Cond.selects RX5 yX5_aside yX5_aside, Cond.initialized RX5, Cond.code yX5_aside cX5_aside 2 none, Cond.fieldLink RX5 16 "EvenLoadsModel" "before" "[I", Cond.fieldLink RX5 7 "EvenLoadsModel" "s" "[I", Cond.methodLink RX5 172 yX5_skips, Cond.instanceMethod yX5_skips, Cond.selects RX5 yX5_skips yX5_skips, Cond.code yX5_skips cX5_skips 2 (some .int), Cond.methodLink RX5 163 yX5_look, Cond.instanceMethod yX5_look, Cond.selects RX5 yX5_look yX5_look, Cond.code yX5_look cX5_look 1 (some .int), Cond.fieldLink RX5 19 "EvenLoadsModel" "text" "[I", Cond.methodLink RX5 182 yX5_order, Cond.instanceMethod yX5_order, Cond.selects RX5 yX5_order yX5_order, Cond.code yX5_order cX5_order 6 none, Cond.methodLink RX5 169 yX5_manyOf]
def wsX5_run_r2 : List Cond := [Cond.static yX5_manyOf, Cond.code yX5_manyOf cX5_manyOf 1 (some .int), Cond.methodLink RX5 175 yX5_reads, Cond.instanceMethod yX5_reads, Cond.selects RX5 yX5_reads yX5_reads, Cond.code yX5_reads cX5_reads 4 none, Cond.fieldLink RX5 22 "EvenLoadsModel" "numbers" "[I", Cond.methodLink RX5 35 yX5_in, Cond.static yX5_in, Cond.code yX5_in cX5_in 3 (some .boolean), Cond.methodLink RX5 179 yX5_does, Cond.instanceMethod yX5_does, Cond.selects RX5 yX5_does yX5_does, Cond.code yX5_does cX5_does 5 (some .int), Cond.methodLink RX5 82 yX5_adds, Cond.instanceMethod yX5_adds, Cond.selects RX5 yX5_adds yX5_adds, Cond.code yX5_adds cX5_adds 5 (some .int), Cond.methodLink RX5 39 yX5_isServer, Cond.instanceMethod yX5_isServer, Cond.selects RX5 yX5_isServer yX5_isServer, Cond.code yX5_isServer cX5_isServer 2 (some .boolean), Cond.methodLink RX5 79 yX5_isOpen, Cond.instanceMethod yX5_isOpen]
def wsX5_run_r3 : List Cond := [Cond.selects RX5 yX5_isOpen yX5_isOpen, Cond.code yX5_isOpen cX5_isOpen 2 (some .boolean), Cond.methodLink RX5 89 yX5_finishes, Cond.instanceMethod yX5_finishes, Cond.selects RX5 yX5_finishes yX5_finishes, Cond.code yX5_finishes cX5_finishes 3 (some .int), Cond.methodLink RX5 86 yX5_isJob, Cond.instanceMethod yX5_isJob, Cond.selects RX5 yX5_isJob yX5_isJob, Cond.code yX5_isJob cX5_isJob 2 (some .boolean), Cond.methodLink RX5 43 yX5_of, Cond.instanceMethod yX5_of, Cond.selects RX5 yX5_of yX5_of, Cond.code yX5_of cX5_of 3 (some .int), Cond.methodLink RX5 50 yX5_load, Cond.instanceMethod yX5_load, Cond.selects RX5 yX5_load yX5_load, Cond.code yX5_load cX5_load 4 (some .int), Cond.methodLink RX5 96 yX5_moves, Cond.instanceMethod yX5_moves, Cond.selects RX5 yX5_moves yX5_moves, Cond.code yX5_moves cX5_moves 3 (some .int), Cond.methodLink RX5 47 yX5_isDone, Cond.instanceMethod yX5_isDone]
def wsX5_run_r4 : List Cond := [Cond.selects RX5 yX5_isDone yX5_isDone, Cond.code yX5_isDone cX5_isDone 2 (some .boolean), Cond.methodLink RX5 92 yX5_goes, Cond.instanceMethod yX5_goes, Cond.selects RX5 yX5_goes yX5_goes, Cond.code yX5_goes cX5_goes 3 none, Cond.methodLink RX5 67 yX5_greatest, Cond.instanceMethod yX5_greatest, Cond.selects RX5 yX5_greatest yX5_greatest, Cond.code yX5_greatest cX5_greatest 3 (some .int), Cond.methodLink RX5 54 yX5_greater, Cond.static yX5_greater, Cond.code yX5_greater cX5_greater 2 (some .int), Cond.methodLink RX5 99 yX5_exchanges, Cond.instanceMethod yX5_exchanges, Cond.selects RX5 yX5_exchanges yX5_exchanges, Cond.code yX5_exchanges cX5_exchanges 5 (some .int), Cond.methodLink RX5 102 yX5_rings, Cond.instanceMethod yX5_rings, Cond.selects RX5 yX5_rings yX5_rings, Cond.code yX5_rings cX5_rings 8 (some .int), Cond.methodLink RX5 142 yX5_evensBy, Cond.instanceMethod yX5_evensBy, Cond.selects RX5 yX5_evensBy yX5_evensBy]
def wsX5_run_r5 : List Cond := [Cond.code yX5_evensBy cX5_evensBy 2 (some .int), Cond.methodLink RX5 139 yX5_evens, Cond.instanceMethod yX5_evens, Cond.selects RX5 yX5_evens yX5_evens, Cond.code yX5_evens cX5_evens 4 (some .int), Cond.fieldLink RX5 117 "EvenLoadsModel" "stepOther" "I", Cond.fieldLink RX5 107 "EvenLoadsModel" "stepJob" "I", Cond.fieldLink RX5 114 "EvenLoadsModel" "stepServer" "I", Cond.methodLink RX5 136 yX5_findsStep, Cond.instanceMethod yX5_findsStep, Cond.selects RX5 yX5_findsStep yX5_findsStep, Cond.code yX5_findsStep cX5_findsStep 2 (some .boolean), Cond.methodLink RX5 123 yX5_areEven, Cond.instanceMethod yX5_areEven, Cond.selects RX5 yX5_areEven yX5_areEven, Cond.code yX5_areEven cX5_areEven 1 (some .boolean), Cond.methodLink RX5 70 yX5_target, Cond.instanceMethod yX5_target, Cond.selects RX5 yX5_target yX5_target, Cond.code yX5_target cX5_target 1 (some .int), Cond.methodLink RX5 64 yX5_bound, Cond.instanceMethod yX5_bound, Cond.selects RX5 yX5_bound yX5_bound, Cond.code yX5_bound cX5_bound 3 (some .int)]
def wsX5_run_r6 : List Cond := [Cond.methodLink RX5 57 yX5_opens, Cond.instanceMethod yX5_opens, Cond.selects RX5 yX5_opens yX5_opens, Cond.code yX5_opens cX5_opens 3 (some .int), Cond.methodLink RX5 61 yX5_allLoads, Cond.instanceMethod yX5_allLoads, Cond.selects RX5 yX5_allLoads yX5_allLoads, Cond.code yX5_allLoads cX5_allLoads 3 (some .int), Cond.methodLink RX5 127 yX5_full, Cond.instanceMethod yX5_full, Cond.selects RX5 yX5_full yX5_full, Cond.code yX5_full cX5_full 3 (some .int), Cond.methodLink RX5 130 yX5_findsMove, Cond.instanceMethod yX5_findsMove, Cond.selects RX5 yX5_findsMove yX5_findsMove, Cond.code yX5_findsMove cX5_findsMove 9 (some .boolean), Cond.constantLong RX5 105 (100000000), Cond.constantLong RX5 110 (10000), Cond.constantLong RX5 112 (100), Cond.fieldLink RX5 120 "EvenLoadsModel" "stepPrice" "I", Cond.methodLink RX5 133 yX5_findsExchange, Cond.instanceMethod yX5_findsExchange, Cond.selects RX5 yX5_findsExchange yX5_findsExchange, Cond.code yX5_findsExchange cX5_findsExchange 12 (some .boolean)]
def wsX5_run_r7 : List Cond := [Cond.methodLink RX5 185 yX5_layBack, Cond.instanceMethod yX5_layBack, Cond.selects RX5 yX5_layBack yX5_layBack, Cond.code yX5_layBack cX5_layBack 2 none, Cond.methodLink RX5 76 yX5_acted, Cond.instanceMethod yX5_acted, Cond.selects RX5 yX5_acted yX5_acted, Cond.code yX5_acted cX5_acted 2 (some .int), Cond.methodLink RX5 32 yX5_keeps, Cond.instanceMethod yX5_keeps, Cond.selects RX5 yX5_keeps yX5_keeps, Cond.code yX5_keeps cX5_keeps 2 none, Cond.fieldLink RX5 28 "EvenLoadsModel" "kept" "I", Cond.fieldLink RX5 13 "EvenLoadsModel" "past" "[I"]
def wsX5_run : List Cond := .code yX5_run cX5_run 2 (some .int) :: ((wsX5_run_r1 ++ (wsX5_run_r2 ++ (wsX5_run_r3 ++ (wsX5_run_r4 ++ (wsX5_run_r5 ++ (wsX5_run_r6 ++ wsX5_run_r7)))))) ++ wsX50)
def wsX5_manyOn : List Cond := .code yX5_manyOn cX5_manyOn 4 (some .int) :: ([.fieldLink RX5 7 "EvenLoadsModel" "s" "[I", .methodLink RX5 43 yX5_of, .instanceMethod yX5_of, .selects RX5 yX5_of yX5_of, .initialized RX5, .code yX5_of cX5_of 3 (some .int)] ++ wsX50)
def wsX5_count_r1 : List Cond := [Cond.fieldLink RX5 7 "EvenLoadsModel" "s" "[I", Cond.fieldLink RX5 28 "EvenLoadsModel" "kept" "I", Cond.fieldLink RX5 157 "EvenLoadsModel" "typed" "I", Cond.methodLink RX5 57 yX5_opens, Cond.instanceMethod yX5_opens, Cond.selects RX5 yX5_opens yX5_opens, Cond.initialized RX5, Cond.code yX5_opens cX5_opens 3 (some .int), Cond.methodLink RX5 188 yX5_manyOn, Cond.instanceMethod yX5_manyOn, Cond.selects RX5 yX5_manyOn yX5_manyOn, Cond.code yX5_manyOn cX5_manyOn 4 (some .int), Cond.methodLink RX5 43 yX5_of, Cond.instanceMethod yX5_of, Cond.selects RX5 yX5_of yX5_of, Cond.code yX5_of cX5_of 3 (some .int), Cond.methodLink RX5 61 yX5_allLoads, Cond.instanceMethod yX5_allLoads, Cond.selects RX5 yX5_allLoads yX5_allLoads, Cond.code yX5_allLoads cX5_allLoads 3 (some .int), Cond.methodLink RX5 47 yX5_isDone, Cond.instanceMethod yX5_isDone, Cond.selects RX5 yX5_isDone yX5_isDone, Cond.code yX5_isDone cX5_isDone 2 (some .boolean)]
def wsX5_count_r2 : List Cond := [Cond.methodLink RX5 67 yX5_greatest, Cond.instanceMethod yX5_greatest, Cond.selects RX5 yX5_greatest yX5_greatest, Cond.code yX5_greatest cX5_greatest 3 (some .int), Cond.methodLink RX5 50 yX5_load, Cond.instanceMethod yX5_load, Cond.selects RX5 yX5_load yX5_load, Cond.code yX5_load cX5_load 4 (some .int), Cond.methodLink RX5 54 yX5_greater, Cond.static yX5_greater, Cond.code yX5_greater cX5_greater 2 (some .int), Cond.methodLink RX5 148 yX5_emptiest, Cond.instanceMethod yX5_emptiest, Cond.selects RX5 yX5_emptiest yX5_emptiest, Cond.code yX5_emptiest cX5_emptiest 3 (some .int), Cond.methodLink RX5 79 yX5_isOpen, Cond.instanceMethod yX5_isOpen, Cond.selects RX5 yX5_isOpen yX5_isOpen, Cond.code yX5_isOpen cX5_isOpen 2 (some .boolean), Cond.methodLink RX5 39 yX5_isServer, Cond.instanceMethod yX5_isServer, Cond.selects RX5 yX5_isServer yX5_isServer, Cond.code yX5_isServer cX5_isServer 2 (some .boolean), Cond.methodLink RX5 35 yX5_in]
def wsX5_count_r3 : List Cond := [Cond.static yX5_in, Cond.code yX5_in cX5_in 3 (some .boolean), Cond.methodLink RX5 64 yX5_bound, Cond.instanceMethod yX5_bound, Cond.selects RX5 yX5_bound yX5_bound, Cond.code yX5_bound cX5_bound 3 (some .int), Cond.methodLink RX5 70 yX5_target, Cond.instanceMethod yX5_target, Cond.selects RX5 yX5_target yX5_target, Cond.code yX5_target cX5_target 1 (some .int), Cond.methodLink RX5 123 yX5_areEven, Cond.instanceMethod yX5_areEven, Cond.selects RX5 yX5_areEven yX5_areEven, Cond.code yX5_areEven cX5_areEven 1 (some .boolean)]
def wsX5_count : List Cond := .code yX5_count cX5_count 2 (some .int) :: ((wsX5_count_r1 ++ (wsX5_count_r2 ++ wsX5_count_r3)) ++ wsX50)
def wsX5_jobsOn : List Cond := .code yX5_jobsOn cX5_jobsOn 4 (some .int) :: ([.fieldLink RX5 7 "EvenLoadsModel" "s" "[I", .methodLink RX5 43 yX5_of, .instanceMethod yX5_of, .selects RX5 yX5_of yX5_of, .initialized RX5, .code yX5_of cX5_of 3 (some .int)] ++ wsX50)
def wsX5_server_r1 : List Cond := [Cond.methodLink RX5 39 yX5_isServer, Cond.instanceMethod yX5_isServer, Cond.selects RX5 yX5_isServer yX5_isServer, Cond.initialized RX5, Cond.code yX5_isServer cX5_isServer 2 (some .boolean), Cond.fieldLink RX5 7 "EvenLoadsModel" "s" "[I", Cond.methodLink RX5 35 yX5_in, Cond.static yX5_in, Cond.code yX5_in cX5_in 3 (some .boolean), Cond.methodLink RX5 79 yX5_isOpen, Cond.instanceMethod yX5_isOpen, Cond.selects RX5 yX5_isOpen yX5_isOpen, Cond.code yX5_isOpen cX5_isOpen 2 (some .boolean), Cond.methodLink RX5 50 yX5_load, Cond.instanceMethod yX5_load, Cond.selects RX5 yX5_load yX5_load, Cond.code yX5_load cX5_load 4 (some .int), Cond.methodLink RX5 43 yX5_of, Cond.instanceMethod yX5_of, Cond.selects RX5 yX5_of yX5_of, Cond.code yX5_of cX5_of 3 (some .int), Cond.methodLink RX5 188 yX5_manyOn, Cond.instanceMethod yX5_manyOn, Cond.selects RX5 yX5_manyOn yX5_manyOn]
def wsX5_server_r2 : List Cond := [Cond.code yX5_manyOn cX5_manyOn 4 (some .int), Cond.methodLink RX5 61 yX5_allLoads, Cond.instanceMethod yX5_allLoads, Cond.selects RX5 yX5_allLoads yX5_allLoads, Cond.code yX5_allLoads cX5_allLoads 3 (some .int), Cond.methodLink RX5 47 yX5_isDone, Cond.instanceMethod yX5_isDone, Cond.selects RX5 yX5_isDone yX5_isDone, Cond.code yX5_isDone cX5_isDone 2 (some .boolean), Cond.methodLink RX5 191 yX5_jobsOn, Cond.instanceMethod yX5_jobsOn, Cond.selects RX5 yX5_jobsOn yX5_jobsOn, Cond.code yX5_jobsOn cX5_jobsOn 4 (some .int)]
def wsX5_server : List Cond := .code yX5_server cX5_server 3 (some .int) :: ((wsX5_server_r1 ++ wsX5_server_r2) ++ wsX50)
def wsX5_job : List Cond := .code yX5_job cX5_job 3 (some .int) :: ([.methodLink RX5 86 yX5_isJob, .instanceMethod yX5_isJob, .selects RX5 yX5_isJob yX5_isJob, .initialized RX5, .code yX5_isJob cX5_isJob 2 (some .boolean), .fieldLink RX5 7 "EvenLoadsModel" "s" "[I", .methodLink RX5 35 yX5_in, .static yX5_in, .code yX5_in cX5_in 3 (some .boolean), .methodLink RX5 43 yX5_of, .instanceMethod yX5_of, .selects RX5 yX5_of yX5_of, .code yX5_of cX5_of 3 (some .int)] ++ wsX50)
def wsX5_leaving : List Cond := .code yX5_leaving cX5_leaving 6 (some .int) :: ([.methodLink RX5 39 yX5_isServer, .instanceMethod yX5_isServer, .selects RX5 yX5_isServer yX5_isServer, .initialized RX5, .code yX5_isServer cX5_isServer 2 (some .boolean), .fieldLink RX5 7 "EvenLoadsModel" "s" "[I", .methodLink RX5 35 yX5_in, .static yX5_in, .code yX5_in cX5_in 3 (some .boolean), .methodLink RX5 145 yX5_leaver, .instanceMethod yX5_leaver, .selects RX5 yX5_leaver yX5_leaver, .code yX5_leaver cX5_leaver 6 (some .int), .methodLink RX5 43 yX5_of, .instanceMethod yX5_of, .selects RX5 yX5_of yX5_of, .code yX5_of cX5_of 3 (some .int)] ++ wsX50)
def wsX5_step_r1 : List Cond := [Cond.fieldLink RX5 107 "EvenLoadsModel" "stepJob" "I", Cond.fieldLink RX5 114 "EvenLoadsModel" "stepServer" "I", Cond.fieldLink RX5 117 "EvenLoadsModel" "stepOther" "I", Cond.fieldLink RX5 120 "EvenLoadsModel" "stepPrice" "I", Cond.methodLink RX5 35 yX5_in, Cond.static yX5_in, Cond.initialized RX5, Cond.code yX5_in cX5_in 3 (some .boolean), Cond.methodLink RX5 136 yX5_findsStep, Cond.instanceMethod yX5_findsStep, Cond.selects RX5 yX5_findsStep yX5_findsStep, Cond.code yX5_findsStep cX5_findsStep 2 (some .boolean), Cond.methodLink RX5 123 yX5_areEven, Cond.instanceMethod yX5_areEven, Cond.selects RX5 yX5_areEven yX5_areEven, Cond.code yX5_areEven cX5_areEven 1 (some .boolean), Cond.methodLink RX5 67 yX5_greatest, Cond.instanceMethod yX5_greatest, Cond.selects RX5 yX5_greatest yX5_greatest, Cond.code yX5_greatest cX5_greatest 3 (some .int), Cond.fieldLink RX5 7 "EvenLoadsModel" "s" "[I", Cond.methodLink RX5 50 yX5_load, Cond.instanceMethod yX5_load, Cond.selects RX5 yX5_load yX5_load]
def wsX5_step_r2 : List Cond := [Cond.code yX5_load cX5_load 4 (some .int), Cond.methodLink RX5 43 yX5_of, Cond.instanceMethod yX5_of, Cond.selects RX5 yX5_of yX5_of, Cond.code yX5_of cX5_of 3 (some .int), Cond.methodLink RX5 54 yX5_greater, Cond.static yX5_greater, Cond.code yX5_greater cX5_greater 2 (some .int), Cond.methodLink RX5 70 yX5_target, Cond.instanceMethod yX5_target, Cond.selects RX5 yX5_target yX5_target, Cond.code yX5_target cX5_target 1 (some .int), Cond.methodLink RX5 64 yX5_bound, Cond.instanceMethod yX5_bound, Cond.selects RX5 yX5_bound yX5_bound, Cond.code yX5_bound cX5_bound 3 (some .int), Cond.methodLink RX5 47 yX5_isDone, Cond.instanceMethod yX5_isDone, Cond.selects RX5 yX5_isDone yX5_isDone, Cond.code yX5_isDone cX5_isDone 2 (some .boolean), Cond.methodLink RX5 57 yX5_opens, Cond.instanceMethod yX5_opens, Cond.selects RX5 yX5_opens yX5_opens, Cond.code yX5_opens cX5_opens 3 (some .int)]
def wsX5_step_r3 : List Cond := [Cond.methodLink RX5 61 yX5_allLoads, Cond.instanceMethod yX5_allLoads, Cond.selects RX5 yX5_allLoads yX5_allLoads, Cond.code yX5_allLoads cX5_allLoads 3 (some .int), Cond.methodLink RX5 127 yX5_full, Cond.instanceMethod yX5_full, Cond.selects RX5 yX5_full yX5_full, Cond.code yX5_full cX5_full 3 (some .int), Cond.methodLink RX5 79 yX5_isOpen, Cond.instanceMethod yX5_isOpen, Cond.selects RX5 yX5_isOpen yX5_isOpen, Cond.code yX5_isOpen cX5_isOpen 2 (some .boolean), Cond.methodLink RX5 39 yX5_isServer, Cond.instanceMethod yX5_isServer, Cond.selects RX5 yX5_isServer yX5_isServer, Cond.code yX5_isServer cX5_isServer 2 (some .boolean), Cond.methodLink RX5 130 yX5_findsMove, Cond.instanceMethod yX5_findsMove, Cond.selects RX5 yX5_findsMove yX5_findsMove, Cond.code yX5_findsMove cX5_findsMove 9 (some .boolean), Cond.constantLong RX5 105 (100000000), Cond.constantLong RX5 110 (10000), Cond.constantLong RX5 112 (100), Cond.methodLink RX5 133 yX5_findsExchange]
def wsX5_step_r4 : List Cond := [Cond.instanceMethod yX5_findsExchange, Cond.selects RX5 yX5_findsExchange yX5_findsExchange, Cond.code yX5_findsExchange cX5_findsExchange 12 (some .boolean)]
def wsX5_step : List Cond := .code yX5_step cX5_step 2 (some .int) :: ((wsX5_step_r1 ++ (wsX5_step_r2 ++ (wsX5_step_r3 ++ wsX5_step_r4))) ++ wsX50)
def wsX5_plan_r1 : List Cond := [Cond.fieldLink RX5 7 "EvenLoadsModel" "s" "[I", Cond.fieldLink RX5 16 "EvenLoadsModel" "before" "[I", Cond.methodLink RX5 35 yX5_in, Cond.static yX5_in, Cond.initialized RX5, Cond.code yX5_in cX5_in 3 (some .boolean), Cond.methodLink RX5 73 yX5_aside, Cond.instanceMethod yX5_aside, Cond.selects RX5 yX5_aside yX5_aside, Cond.code yX5_aside cX5_aside 2 none, Cond.methodLink RX5 139 yX5_evens, Cond.instanceMethod yX5_evens, Cond.selects RX5 yX5_evens yX5_evens, Cond.code yX5_evens cX5_evens 4 (some .int), Cond.fieldLink RX5 117 "EvenLoadsModel" "stepOther" "I", Cond.fieldLink RX5 107 "EvenLoadsModel" "stepJob" "I", Cond.fieldLink RX5 114 "EvenLoadsModel" "stepServer" "I", Cond.methodLink RX5 136 yX5_findsStep, Cond.instanceMethod yX5_findsStep, Cond.selects RX5 yX5_findsStep yX5_findsStep, Cond.code yX5_findsStep cX5_findsStep 2 (some .boolean), Cond.methodLink RX5 123 yX5_areEven, Cond.instanceMethod yX5_areEven, Cond.selects RX5 yX5_areEven yX5_areEven]
def wsX5_plan_r2 : List Cond := [Cond.code yX5_areEven cX5_areEven 1 (some .boolean), Cond.methodLink RX5 67 yX5_greatest, Cond.instanceMethod yX5_greatest, Cond.selects RX5 yX5_greatest yX5_greatest, Cond.code yX5_greatest cX5_greatest 3 (some .int), Cond.methodLink RX5 50 yX5_load, Cond.instanceMethod yX5_load, Cond.selects RX5 yX5_load yX5_load, Cond.code yX5_load cX5_load 4 (some .int), Cond.methodLink RX5 43 yX5_of, Cond.instanceMethod yX5_of, Cond.selects RX5 yX5_of yX5_of, Cond.code yX5_of cX5_of 3 (some .int), Cond.methodLink RX5 54 yX5_greater, Cond.static yX5_greater, Cond.code yX5_greater cX5_greater 2 (some .int), Cond.methodLink RX5 70 yX5_target, Cond.instanceMethod yX5_target, Cond.selects RX5 yX5_target yX5_target, Cond.code yX5_target cX5_target 1 (some .int), Cond.methodLink RX5 64 yX5_bound, Cond.instanceMethod yX5_bound, Cond.selects RX5 yX5_bound yX5_bound, Cond.code yX5_bound cX5_bound 3 (some .int)]
def wsX5_plan_r3 : List Cond := [Cond.methodLink RX5 47 yX5_isDone, Cond.instanceMethod yX5_isDone, Cond.selects RX5 yX5_isDone yX5_isDone, Cond.code yX5_isDone cX5_isDone 2 (some .boolean), Cond.methodLink RX5 57 yX5_opens, Cond.instanceMethod yX5_opens, Cond.selects RX5 yX5_opens yX5_opens, Cond.code yX5_opens cX5_opens 3 (some .int), Cond.methodLink RX5 61 yX5_allLoads, Cond.instanceMethod yX5_allLoads, Cond.selects RX5 yX5_allLoads yX5_allLoads, Cond.code yX5_allLoads cX5_allLoads 3 (some .int), Cond.methodLink RX5 127 yX5_full, Cond.instanceMethod yX5_full, Cond.selects RX5 yX5_full yX5_full, Cond.code yX5_full cX5_full 3 (some .int), Cond.methodLink RX5 79 yX5_isOpen, Cond.instanceMethod yX5_isOpen, Cond.selects RX5 yX5_isOpen yX5_isOpen, Cond.code yX5_isOpen cX5_isOpen 2 (some .boolean), Cond.methodLink RX5 39 yX5_isServer, Cond.instanceMethod yX5_isServer, Cond.selects RX5 yX5_isServer yX5_isServer, Cond.code yX5_isServer cX5_isServer 2 (some .boolean)]
def wsX5_plan_r4 : List Cond := [Cond.methodLink RX5 130 yX5_findsMove, Cond.instanceMethod yX5_findsMove, Cond.selects RX5 yX5_findsMove yX5_findsMove, Cond.code yX5_findsMove cX5_findsMove 9 (some .boolean), Cond.constantLong RX5 105 (100000000), Cond.constantLong RX5 110 (10000), Cond.constantLong RX5 112 (100), Cond.fieldLink RX5 120 "EvenLoadsModel" "stepPrice" "I", Cond.methodLink RX5 133 yX5_findsExchange, Cond.instanceMethod yX5_findsExchange, Cond.selects RX5 yX5_findsExchange yX5_findsExchange, Cond.code yX5_findsExchange cX5_findsExchange 12 (some .boolean), Cond.methodLink RX5 96 yX5_moves, Cond.instanceMethod yX5_moves, Cond.selects RX5 yX5_moves yX5_moves, Cond.code yX5_moves cX5_moves 3 (some .int), Cond.methodLink RX5 86 yX5_isJob, Cond.instanceMethod yX5_isJob, Cond.selects RX5 yX5_isJob yX5_isJob, Cond.code yX5_isJob cX5_isJob 2 (some .boolean), Cond.methodLink RX5 92 yX5_goes, Cond.instanceMethod yX5_goes, Cond.selects RX5 yX5_goes yX5_goes, Cond.code yX5_goes cX5_goes 3 none]
def wsX5_plan_r5 : List Cond := [Cond.methodLink RX5 99 yX5_exchanges, Cond.instanceMethod yX5_exchanges, Cond.selects RX5 yX5_exchanges yX5_exchanges, Cond.code yX5_exchanges cX5_exchanges 5 (some .int), Cond.methodLink RX5 185 yX5_layBack, Cond.instanceMethod yX5_layBack, Cond.selects RX5 yX5_layBack yX5_layBack, Cond.code yX5_layBack cX5_layBack 2 none]
def wsX5_plan : List Cond := .code yX5_plan cX5_plan 4 (some .int) :: ((wsX5_plan_r1 ++ (wsX5_plan_r2 ++ (wsX5_plan_r3 ++ (wsX5_plan_r4 ++ wsX5_plan_r5)))) ++ wsX50)
def wsX5_loadsMove : List Cond := .code yX5_loadsMove cX5_loadsMove 4 none :: ([.fieldLink RX5 25 "EvenLoadsModel" "loads" "[I", .methodLink RX5 43 yX5_of, .instanceMethod yX5_of, .selects RX5 yX5_of yX5_of, .initialized RX5, .code yX5_of cX5_of 3 (some .int), .fieldLink RX5 7 "EvenLoadsModel" "s" "[I"] ++ wsX50)
def wsX5_areBelow : List Cond := .code yX5_areBelow cX5_areBelow 4 (some .boolean) :: ([.fieldLink RX5 25 "EvenLoadsModel" "loads" "[I"] ++ wsX50)
def wsX5_triesMoves_r1 : List Cond := [Cond.fieldLink RX5 7 "EvenLoadsModel" "s" "[I", Cond.fieldLink RX5 201 "EvenLoadsModel" "cheapest" "I", Cond.methodLink RX5 43 yX5_of, Cond.instanceMethod yX5_of, Cond.selects RX5 yX5_of yX5_of, Cond.initialized RX5, Cond.code yX5_of cX5_of 3 (some .int), Cond.methodLink RX5 79 yX5_isOpen, Cond.instanceMethod yX5_isOpen, Cond.selects RX5 yX5_isOpen yX5_isOpen, Cond.code yX5_isOpen cX5_isOpen 2 (some .boolean), Cond.methodLink RX5 39 yX5_isServer, Cond.instanceMethod yX5_isServer, Cond.selects RX5 yX5_isServer yX5_isServer, Cond.code yX5_isServer cX5_isServer 2 (some .boolean), Cond.methodLink RX5 35 yX5_in, Cond.static yX5_in, Cond.code yX5_in cX5_in 3 (some .boolean), Cond.methodLink RX5 194 yX5_loadsMove, Cond.instanceMethod yX5_loadsMove, Cond.selects RX5 yX5_loadsMove yX5_loadsMove, Cond.code yX5_loadsMove cX5_loadsMove 4 none, Cond.fieldLink RX5 25 "EvenLoadsModel" "loads" "[I", Cond.methodLink RX5 198 yX5_areBelow]
def wsX5_triesMoves_r2 : List Cond := [Cond.instanceMethod yX5_areBelow, Cond.selects RX5 yX5_areBelow yX5_areBelow, Cond.code yX5_areBelow cX5_areBelow 4 (some .boolean)]
def wsX5_triesMoves : List Cond := .code yX5_triesMoves cX5_triesMoves 8 none :: ((wsX5_triesMoves_r1 ++ wsX5_triesMoves_r2) ++ wsX50)
def wsX5_fewest_r1 : List Cond := [Cond.fieldLink RX5 25 "EvenLoadsModel" "loads" "[I", Cond.fieldLink RX5 7 "EvenLoadsModel" "s" "[I", Cond.fieldLink RX5 201 "EvenLoadsModel" "cheapest" "I", Cond.methodLink RX5 35 yX5_in, Cond.static yX5_in, Cond.initialized RX5, Cond.code yX5_in cX5_in 3 (some .boolean), Cond.methodLink RX5 123 yX5_areEven, Cond.instanceMethod yX5_areEven, Cond.selects RX5 yX5_areEven yX5_areEven, Cond.code yX5_areEven cX5_areEven 1 (some .boolean), Cond.methodLink RX5 67 yX5_greatest, Cond.instanceMethod yX5_greatest, Cond.selects RX5 yX5_greatest yX5_greatest, Cond.code yX5_greatest cX5_greatest 3 (some .int), Cond.methodLink RX5 50 yX5_load, Cond.instanceMethod yX5_load, Cond.selects RX5 yX5_load yX5_load, Cond.code yX5_load cX5_load 4 (some .int), Cond.methodLink RX5 43 yX5_of, Cond.instanceMethod yX5_of, Cond.selects RX5 yX5_of yX5_of, Cond.code yX5_of cX5_of 3 (some .int), Cond.methodLink RX5 54 yX5_greater]
def wsX5_fewest_r2 : List Cond := [Cond.static yX5_greater, Cond.code yX5_greater cX5_greater 2 (some .int), Cond.methodLink RX5 70 yX5_target, Cond.instanceMethod yX5_target, Cond.selects RX5 yX5_target yX5_target, Cond.code yX5_target cX5_target 1 (some .int), Cond.methodLink RX5 64 yX5_bound, Cond.instanceMethod yX5_bound, Cond.selects RX5 yX5_bound yX5_bound, Cond.code yX5_bound cX5_bound 3 (some .int), Cond.methodLink RX5 47 yX5_isDone, Cond.instanceMethod yX5_isDone, Cond.selects RX5 yX5_isDone yX5_isDone, Cond.code yX5_isDone cX5_isDone 2 (some .boolean), Cond.methodLink RX5 57 yX5_opens, Cond.instanceMethod yX5_opens, Cond.selects RX5 yX5_opens yX5_opens, Cond.code yX5_opens cX5_opens 3 (some .int), Cond.methodLink RX5 61 yX5_allLoads, Cond.instanceMethod yX5_allLoads, Cond.selects RX5 yX5_allLoads yX5_allLoads, Cond.code yX5_allLoads cX5_allLoads 3 (some .int), Cond.methodLink RX5 204 yX5_triesMoves, Cond.instanceMethod yX5_triesMoves]
def wsX5_fewest_r3 : List Cond := [Cond.selects RX5 yX5_triesMoves yX5_triesMoves, Cond.code yX5_triesMoves cX5_triesMoves 8 none, Cond.methodLink RX5 79 yX5_isOpen, Cond.instanceMethod yX5_isOpen, Cond.selects RX5 yX5_isOpen yX5_isOpen, Cond.code yX5_isOpen cX5_isOpen 2 (some .boolean), Cond.methodLink RX5 39 yX5_isServer, Cond.instanceMethod yX5_isServer, Cond.selects RX5 yX5_isServer yX5_isServer, Cond.code yX5_isServer cX5_isServer 2 (some .boolean), Cond.methodLink RX5 194 yX5_loadsMove, Cond.instanceMethod yX5_loadsMove, Cond.selects RX5 yX5_loadsMove yX5_loadsMove, Cond.code yX5_loadsMove cX5_loadsMove 4 none, Cond.methodLink RX5 198 yX5_areBelow, Cond.instanceMethod yX5_areBelow, Cond.selects RX5 yX5_areBelow yX5_areBelow, Cond.code yX5_areBelow cX5_areBelow 4 (some .boolean)]
def wsX5_fewest : List Cond := .code yX5_fewest cX5_fewest 7 (some .int) :: ((wsX5_fewest_r1 ++ (wsX5_fewest_r2 ++ wsX5_fewest_r3)) ++ wsX50)
def wsX5_without_r1 : List Cond := [Cond.methodLink RX5 39 yX5_isServer, Cond.instanceMethod yX5_isServer, Cond.selects RX5 yX5_isServer yX5_isServer, Cond.initialized RX5, Cond.code yX5_isServer cX5_isServer 2 (some .boolean), Cond.fieldLink RX5 7 "EvenLoadsModel" "s" "[I", Cond.methodLink RX5 35 yX5_in, Cond.static yX5_in, Cond.code yX5_in cX5_in 3 (some .boolean), Cond.methodLink RX5 79 yX5_isOpen, Cond.instanceMethod yX5_isOpen, Cond.selects RX5 yX5_isOpen yX5_isOpen, Cond.code yX5_isOpen cX5_isOpen 2 (some .boolean), Cond.methodLink RX5 57 yX5_opens, Cond.instanceMethod yX5_opens, Cond.selects RX5 yX5_opens yX5_opens, Cond.code yX5_opens cX5_opens 3 (some .int), Cond.methodLink RX5 73 yX5_aside, Cond.instanceMethod yX5_aside, Cond.selects RX5 yX5_aside yX5_aside, Cond.code yX5_aside cX5_aside 2 none, Cond.fieldLink RX5 16 "EvenLoadsModel" "before" "[I", Cond.methodLink RX5 151 yX5_empties, Cond.instanceMethod yX5_empties]
def wsX5_without_r2 : List Cond := [Cond.selects RX5 yX5_empties yX5_empties, Cond.code yX5_empties cX5_empties 4 (some .int), Cond.methodLink RX5 145 yX5_leaver, Cond.instanceMethod yX5_leaver, Cond.selects RX5 yX5_leaver yX5_leaver, Cond.code yX5_leaver cX5_leaver 6 (some .int), Cond.methodLink RX5 43 yX5_of, Cond.instanceMethod yX5_of, Cond.selects RX5 yX5_of yX5_of, Cond.code yX5_of cX5_of 3 (some .int), Cond.methodLink RX5 148 yX5_emptiest, Cond.instanceMethod yX5_emptiest, Cond.selects RX5 yX5_emptiest yX5_emptiest, Cond.code yX5_emptiest cX5_emptiest 3 (some .int), Cond.methodLink RX5 50 yX5_load, Cond.instanceMethod yX5_load, Cond.selects RX5 yX5_load yX5_load, Cond.code yX5_load cX5_load 4 (some .int), Cond.methodLink RX5 92 yX5_goes, Cond.instanceMethod yX5_goes, Cond.selects RX5 yX5_goes yX5_goes, Cond.code yX5_goes cX5_goes 3 none, Cond.methodLink RX5 67 yX5_greatest, Cond.instanceMethod yX5_greatest]
def wsX5_without_r3 : List Cond := [Cond.selects RX5 yX5_greatest yX5_greatest, Cond.code yX5_greatest cX5_greatest 3 (some .int), Cond.methodLink RX5 54 yX5_greater, Cond.static yX5_greater, Cond.code yX5_greater cX5_greater 2 (some .int), Cond.methodLink RX5 185 yX5_layBack, Cond.instanceMethod yX5_layBack, Cond.selects RX5 yX5_layBack yX5_layBack, Cond.code yX5_layBack cX5_layBack 2 none]
def wsX5_without : List Cond := .code yX5_without cX5_without 4 (some .int) :: ((wsX5_without_r1 ++ (wsX5_without_r2 ++ wsX5_without_r3)) ++ wsX50)
def wsJ9_max_7cf53 : List Cond := .code yJ9_max_7cf53 cJ9_max_7cf53 2 (some .int) :: ([])
def wsJ9_min_7cf53 : List Cond := .code yJ9_min_7cf53 cJ9_min_7cf53 2 (some .int) :: ([])
abbrev vwCl : List vw_C := [(RX0, TX0, 13), (RX1, TX1, 3), (RX2, TX2, 8), (RX3, TX3, 5), (RX4, TX4, 6), (RX5, TX5, 15)]
end
section
theorem dX0_init_0 : decode cX0_init 0 = .ok (.aload_n 0, 1) := by decide +kernel
theorem dX0_init_1 : decode cX0_init 1 = .ok (.invokespecial 3, 3) := by decide +kernel
theorem dX0_init_4 : decode cX0_init 4 = .ok (.aload_n 0, 1) := by decide +kernel
theorem dX0_init_5 : decode cX0_init 5 = .ok (.bipush 24, 2) := by decide +kernel
theorem dX0_init_7 : decode cX0_init 7 = .ok (.newarray .int, 2) := by decide +kernel
theorem dX0_init_9 : decode cX0_init 9 = .ok (.putfield 9, 3) := by decide +kernel
theorem dX0_init_12 : decode cX0_init 12 = .ok (.aload_n 0, 1) := by decide +kernel
theorem dX0_init_13 : decode cX0_init 13 = .ok (.bipush 24, 2) := by decide +kernel
theorem dX0_init_15 : decode cX0_init 15 = .ok (.newarray .int, 2) := by decide +kernel
theorem dX0_init_17 : decode cX0_init 17 = .ok (.putfield 15, 3) := by decide +kernel
theorem dX0_init_20 : decode cX0_init 20 = .ok (.aload_n 0, 1) := by decide +kernel
theorem dX0_init_21 : decode cX0_init 21 = .ok (.bipush 24, 2) := by decide +kernel
theorem dX0_init_23 : decode cX0_init 23 = .ok (.newarray .int, 2) := by decide +kernel
theorem dX0_init_25 : decode cX0_init 25 = .ok (.putfield 18, 3) := by decide +kernel
theorem dX0_init_28 : decode cX0_init 28 = .ok (.aload_n 0, 1) := by decide +kernel
theorem dX0_init_29 : decode cX0_init 29 = .ok (.bipush 24, 2) := by decide +kernel
theorem dX0_init_31 : decode cX0_init 31 = .ok (.newarray .int, 2) := by decide +kernel
theorem dX0_init_33 : decode cX0_init 33 = .ok (.putfield 21, 3) := by decide +kernel
theorem dX0_init_36 : decode cX0_init 36 = .ok (.aload_n 0, 1) := by decide +kernel
theorem dX0_init_37 : decode cX0_init 37 = .ok (.bipush 6, 2) := by decide +kernel
theorem dX0_init_39 : decode cX0_init 39 = .ok (.newarray .int, 2) := by decide +kernel
theorem dX0_init_41 : decode cX0_init 41 = .ok (.putfield 24, 3) := by decide +kernel
theorem dX0_init_44 : decode cX0_init 44 = .ok (.aload_n 0, 1) := by decide +kernel
theorem dX0_init_45 : decode cX0_init 45 = .ok (.bipush 6, 2) := by decide +kernel
theorem dX0_init_47 : decode cX0_init 47 = .ok (.newarray .int, 2) := by decide +kernel
theorem dX0_init_49 : decode cX0_init 49 = .ok (.putfield 27, 3) := by decide +kernel
theorem dX0_init_52 : decode cX0_init 52 = .ok (.aload_n 0, 1) := by decide +kernel
theorem dX0_init_53 : decode cX0_init 53 = .ok (.iconst 0, 1) := by decide +kernel
theorem dX0_init_54 : decode cX0_init 54 = .ok (.putfield 30, 3) := by decide +kernel
theorem dX0_init_57 : decode cX0_init 57 = .ok (.aload_n 0, 1) := by decide +kernel
theorem dX0_init_58 : decode cX0_init 58 = .ok (.iconst 0, 1) := by decide +kernel
theorem dX0_init_59 : decode cX0_init 59 = .ok (.putfield 34, 3) := by decide +kernel
theorem dX0_init_62 : decode cX0_init 62 = .ok (.aload_n 0, 1) := by decide +kernel
theorem dX0_init_63 : decode cX0_init 63 = .ok (.iconst 0, 1) := by decide +kernel
theorem dX0_init_64 : decode cX0_init 64 = .ok (.putfield 37, 3) := by decide +kernel
theorem dX0_init_67 : decode cX0_init 67 = .ok (.aload_n 0, 1) := by decide +kernel
theorem dX0_init_68 : decode cX0_init 68 = .ok (.iconst 0, 1) := by decide +kernel
theorem dX0_init_69 : decode cX0_init 69 = .ok (.putfield 40, 3) := by decide +kernel
theorem dX0_init_72 : decode cX0_init 72 = .ok (.aload_n 0, 1) := by decide +kernel
theorem dX0_init_73 : decode cX0_init 73 = .ok (.sipush 500, 3) := by decide +kernel
theorem dX0_init_76 : decode cX0_init 76 = .ok (.putfield 43, 3) := by decide +kernel
theorem dX0_init_79 : decode cX0_init 79 = .ok (.aload_n 0, 1) := by decide +kernel
theorem dX0_init_80 : decode cX0_init 80 = .ok (.bipush 120, 2) := by decide +kernel
theorem dX0_init_82 : decode cX0_init 82 = .ok (.putfield 46, 3) := by decide +kernel
theorem dX0_init_85 : decode cX0_init 85 = .ok (.aload_n 0, 1) := by decide +kernel
theorem dX0_init_86 : decode cX0_init 86 = .ok (.iconst 0, 1) := by decide +kernel
theorem dX0_init_87 : decode cX0_init 87 = .ok (.putfield 49, 3) := by decide +kernel
theorem dX0_init_90 : decode cX0_init 90 = .ok (.return_, 1) := by decide +kernel
set_option maxRecDepth 20000 in
theorem ggX0_copyFrom_X4_copyRow : GoodIn wsX0_copyFrom wsX4_copyRow := goodIn_r _ [16, 17, 18, 19, 20, 21, 22, 23, 24] (by decide +kernel) (by decide +kernel)
set_option maxRecDepth 20000 in
theorem gX0_copyFrom_X4_copyRow_n52 : GoodIn wsX0_copyFrom (wsX4_copyRow) := ggX0_copyFrom_X4_copyRow
theorem dX0_copyFrom_0 : decode cX0_copyFrom 0 = .ok (.aload_n 1, 1) := by decide +kernel
theorem dX0_copyFrom_1 : decode cX0_copyFrom 1 = .ok (.getfield 9, 3) := by decide +kernel
theorem dX0_copyFrom_4 : decode cX0_copyFrom 4 = .ok (.aload_n 0, 1) := by decide +kernel
theorem dX0_copyFrom_5 : decode cX0_copyFrom 5 = .ok (.getfield 9, 3) := by decide +kernel
theorem dX0_copyFrom_8 : decode cX0_copyFrom 8 = .ok (.invokestatic 52, 3) := by decide +kernel
theorem dX0_copyFrom_11 : decode cX0_copyFrom 11 = .ok (.aload_n 1, 1) := by decide +kernel
theorem dX0_copyFrom_12 : decode cX0_copyFrom 12 = .ok (.getfield 15, 3) := by decide +kernel
theorem dX0_copyFrom_15 : decode cX0_copyFrom 15 = .ok (.aload_n 0, 1) := by decide +kernel
theorem dX0_copyFrom_16 : decode cX0_copyFrom 16 = .ok (.getfield 15, 3) := by decide +kernel
theorem dX0_copyFrom_19 : decode cX0_copyFrom 19 = .ok (.invokestatic 52, 3) := by decide +kernel
theorem dX0_copyFrom_22 : decode cX0_copyFrom 22 = .ok (.aload_n 1, 1) := by decide +kernel
theorem dX0_copyFrom_23 : decode cX0_copyFrom 23 = .ok (.getfield 18, 3) := by decide +kernel
theorem dX0_copyFrom_26 : decode cX0_copyFrom 26 = .ok (.aload_n 0, 1) := by decide +kernel
theorem dX0_copyFrom_27 : decode cX0_copyFrom 27 = .ok (.getfield 18, 3) := by decide +kernel
theorem dX0_copyFrom_30 : decode cX0_copyFrom 30 = .ok (.invokestatic 52, 3) := by decide +kernel
theorem dX0_copyFrom_33 : decode cX0_copyFrom 33 = .ok (.aload_n 1, 1) := by decide +kernel
theorem dX0_copyFrom_34 : decode cX0_copyFrom 34 = .ok (.getfield 21, 3) := by decide +kernel
theorem dX0_copyFrom_37 : decode cX0_copyFrom 37 = .ok (.aload_n 0, 1) := by decide +kernel
theorem dX0_copyFrom_38 : decode cX0_copyFrom 38 = .ok (.getfield 21, 3) := by decide +kernel
theorem dX0_copyFrom_41 : decode cX0_copyFrom 41 = .ok (.invokestatic 52, 3) := by decide +kernel
theorem dX0_copyFrom_44 : decode cX0_copyFrom 44 = .ok (.aload_n 1, 1) := by decide +kernel
theorem dX0_copyFrom_45 : decode cX0_copyFrom 45 = .ok (.getfield 24, 3) := by decide +kernel
theorem dX0_copyFrom_48 : decode cX0_copyFrom 48 = .ok (.aload_n 0, 1) := by decide +kernel
theorem dX0_copyFrom_49 : decode cX0_copyFrom 49 = .ok (.getfield 24, 3) := by decide +kernel
theorem dX0_copyFrom_52 : decode cX0_copyFrom 52 = .ok (.invokestatic 52, 3) := by decide +kernel
theorem dX0_copyFrom_55 : decode cX0_copyFrom 55 = .ok (.aload_n 1, 1) := by decide +kernel
theorem dX0_copyFrom_56 : decode cX0_copyFrom 56 = .ok (.getfield 27, 3) := by decide +kernel
theorem dX0_copyFrom_59 : decode cX0_copyFrom 59 = .ok (.aload_n 0, 1) := by decide +kernel
theorem dX0_copyFrom_60 : decode cX0_copyFrom 60 = .ok (.getfield 27, 3) := by decide +kernel
theorem dX0_copyFrom_63 : decode cX0_copyFrom 63 = .ok (.invokestatic 52, 3) := by decide +kernel
theorem dX0_copyFrom_66 : decode cX0_copyFrom 66 = .ok (.aload_n 0, 1) := by decide +kernel
theorem dX0_copyFrom_67 : decode cX0_copyFrom 67 = .ok (.aload_n 1, 1) := by decide +kernel
theorem dX0_copyFrom_68 : decode cX0_copyFrom 68 = .ok (.getfield 30, 3) := by decide +kernel
theorem dX0_copyFrom_71 : decode cX0_copyFrom 71 = .ok (.putfield 30, 3) := by decide +kernel
theorem dX0_copyFrom_74 : decode cX0_copyFrom 74 = .ok (.aload_n 0, 1) := by decide +kernel
theorem dX0_copyFrom_75 : decode cX0_copyFrom 75 = .ok (.aload_n 1, 1) := by decide +kernel
theorem dX0_copyFrom_76 : decode cX0_copyFrom 76 = .ok (.getfield 34, 3) := by decide +kernel
theorem dX0_copyFrom_79 : decode cX0_copyFrom 79 = .ok (.putfield 34, 3) := by decide +kernel
theorem dX0_copyFrom_82 : decode cX0_copyFrom 82 = .ok (.aload_n 0, 1) := by decide +kernel
theorem dX0_copyFrom_83 : decode cX0_copyFrom 83 = .ok (.aload_n 1, 1) := by decide +kernel
theorem dX0_copyFrom_84 : decode cX0_copyFrom 84 = .ok (.getfield 37, 3) := by decide +kernel
theorem dX0_copyFrom_87 : decode cX0_copyFrom 87 = .ok (.putfield 37, 3) := by decide +kernel
theorem dX0_copyFrom_90 : decode cX0_copyFrom 90 = .ok (.aload_n 0, 1) := by decide +kernel
theorem dX0_copyFrom_91 : decode cX0_copyFrom 91 = .ok (.aload_n 1, 1) := by decide +kernel
theorem dX0_copyFrom_92 : decode cX0_copyFrom 92 = .ok (.getfield 40, 3) := by decide +kernel
theorem dX0_copyFrom_95 : decode cX0_copyFrom 95 = .ok (.putfield 40, 3) := by decide +kernel
theorem dX0_copyFrom_98 : decode cX0_copyFrom 98 = .ok (.aload_n 0, 1) := by decide +kernel
theorem dX0_copyFrom_99 : decode cX0_copyFrom 99 = .ok (.aload_n 1, 1) := by decide +kernel
theorem dX0_copyFrom_100 : decode cX0_copyFrom 100 = .ok (.getfield 43, 3) := by decide +kernel
theorem dX0_copyFrom_103 : decode cX0_copyFrom 103 = .ok (.putfield 43, 3) := by decide +kernel
theorem dX0_copyFrom_106 : decode cX0_copyFrom 106 = .ok (.aload_n 0, 1) := by decide +kernel
theorem dX0_copyFrom_107 : decode cX0_copyFrom 107 = .ok (.aload_n 1, 1) := by decide +kernel
theorem dX0_copyFrom_108 : decode cX0_copyFrom 108 = .ok (.getfield 46, 3) := by decide +kernel
theorem dX0_copyFrom_111 : decode cX0_copyFrom 111 = .ok (.putfield 46, 3) := by decide +kernel
theorem dX0_copyFrom_114 : decode cX0_copyFrom 114 = .ok (.aload_n 0, 1) := by decide +kernel
theorem dX0_copyFrom_115 : decode cX0_copyFrom 115 = .ok (.aload_n 1, 1) := by decide +kernel
theorem dX0_copyFrom_116 : decode cX0_copyFrom 116 = .ok (.getfield 49, 3) := by decide +kernel
theorem dX0_copyFrom_119 : decode cX0_copyFrom 119 = .ok (.putfield 49, 3) := by decide +kernel
theorem dX0_copyFrom_122 : decode cX0_copyFrom 122 = .ok (.return_, 1) := by decide +kernel
set_option maxRecDepth 20000 in
theorem ggX0_newServer_X4_put : GoodIn wsX0_newServer wsX4_put := goodIn_r _ [6] (by decide +kernel) (by decide +kernel)
set_option maxRecDepth 20000 in
theorem gX0_newServer_X4_put_n56 : GoodIn wsX0_newServer (wsX4_put) := ggX0_newServer_X4_put
theorem dX0_newServer_0 : decode cX0_newServer 0 = .ok (.aload_n 0, 1) := by decide +kernel
theorem dX0_newServer_1 : decode cX0_newServer 1 = .ok (.getfield 30, 3) := by decide +kernel
theorem dX0_newServer_4 : decode cX0_newServer 4 = .ok (.bipush 6, 2) := by decide +kernel
theorem dX0_newServer_6 : decode cX0_newServer 6 = .ok (.if_icmp .lt 6, 3) := by decide +kernel
theorem dX0_newServer_9 : decode cX0_newServer 9 = .ok (.bipush (-3), 2) := by decide +kernel
theorem dX0_newServer_11 : decode cX0_newServer 11 = .ok (.ireturn, 1) := by decide +kernel
theorem dX0_newServer_12 : decode cX0_newServer 12 = .ok (.aload_n 0, 1) := by decide +kernel
theorem dX0_newServer_13 : decode cX0_newServer 13 = .ok (.getfield 27, 3) := by decide +kernel
theorem dX0_newServer_16 : decode cX0_newServer 16 = .ok (.aload_n 0, 1) := by decide +kernel
theorem dX0_newServer_17 : decode cX0_newServer 17 = .ok (.getfield 30, 3) := by decide +kernel
theorem dX0_newServer_20 : decode cX0_newServer 20 = .ok (.iconst 1, 1) := by decide +kernel
theorem dX0_newServer_21 : decode cX0_newServer 21 = .ok (.invokestatic 56, 3) := by decide +kernel
theorem dX0_newServer_24 : decode cX0_newServer 24 = .ok (.aload_n 0, 1) := by decide +kernel
theorem dX0_newServer_25 : decode cX0_newServer 25 = .ok (.dup, 1) := by decide +kernel
theorem dX0_newServer_26 : decode cX0_newServer 26 = .ok (.getfield 34, 3) := by decide +kernel
theorem dX0_newServer_29 : decode cX0_newServer 29 = .ok (.iconst 1, 1) := by decide +kernel
theorem dX0_newServer_30 : decode cX0_newServer 30 = .ok (.iadd, 1) := by decide +kernel
theorem dX0_newServer_31 : decode cX0_newServer 31 = .ok (.putfield 34, 3) := by decide +kernel
theorem dX0_newServer_34 : decode cX0_newServer 34 = .ok (.aload_n 0, 1) := by decide +kernel
theorem dX0_newServer_35 : decode cX0_newServer 35 = .ok (.dup, 1) := by decide +kernel
theorem dX0_newServer_36 : decode cX0_newServer 36 = .ok (.getfield 30, 3) := by decide +kernel
theorem dX0_newServer_39 : decode cX0_newServer 39 = .ok (.iconst 1, 1) := by decide +kernel
theorem dX0_newServer_40 : decode cX0_newServer 40 = .ok (.iadd, 1) := by decide +kernel
theorem dX0_newServer_41 : decode cX0_newServer 41 = .ok (.putfield 30, 3) := by decide +kernel
theorem dX0_newServer_44 : decode cX0_newServer 44 = .ok (.aload_n 0, 1) := by decide +kernel
theorem dX0_newServer_45 : decode cX0_newServer 45 = .ok (.getfield 30, 3) := by decide +kernel
theorem dX0_newServer_48 : decode cX0_newServer 48 = .ok (.iconst 1, 1) := by decide +kernel
theorem dX0_newServer_49 : decode cX0_newServer 49 = .ok (.isub, 1) := by decide +kernel
theorem dX0_newServer_50 : decode cX0_newServer 50 = .ok (.ireturn, 1) := by decide +kernel
set_option maxRecDepth 20000 in
theorem ggX0_newJob_X0_hasServer : GoodIn wsX0_newJob wsX0_hasServer := goodIn_r _ [12, 13, 24, 25, 26, 27, 28, 29, 30, 31, 32, 33, 34, 35, 36] (by decide +kernel) (by decide +kernel)
set_option maxRecDepth 20000 in
theorem gX0_newJob_X0_hasServer : GoodIn wsX0_newJob (wsV RX0 60 RX0 yX0_hasServer wsX0_hasServer) := goodIn_app (goodIn_of _ (by decide +kernel)) ggX0_newJob_X0_hasServer
set_option maxRecDepth 20000 in
theorem ggX0_newJob_X0_isOpen : GoodIn wsX0_newJob wsX0_isOpen := goodIn_r _ [17, 18, 19, 20, 21, 24, 25, 26, 27, 28, 29, 30, 31, 32, 33, 34, 35, 36] (by decide +kernel) (by decide +kernel)
set_option maxRecDepth 20000 in
theorem gX0_newJob_X0_isOpen : GoodIn wsX0_newJob (wsV RX0 64 RX0 yX0_isOpen wsX0_isOpen) := goodIn_app (goodIn_of _ (by decide +kernel)) ggX0_newJob_X0_isOpen
set_option maxRecDepth 20000 in
theorem ggX0_newJob_X4_put : GoodIn wsX0_newJob wsX4_put := goodIn_r _ [23] (by decide +kernel) (by decide +kernel)
set_option maxRecDepth 20000 in
theorem gX0_newJob_X4_put_n56 : GoodIn wsX0_newJob (wsX4_put) := ggX0_newJob_X4_put
set_option maxRecDepth 20000 in
theorem ggX0_newJob_X4_at : GoodIn wsX0_newJob wsX4_at := goodIn_r _ [21] (by decide +kernel) (by decide +kernel)
set_option maxRecDepth 20000 in
theorem gX0_newJob_X4_at_n67 : GoodIn wsX0_newJob (wsX4_at) := ggX0_newJob_X4_at
theorem dX0_newJob_0 : decode cX0_newJob 0 = .ok (.iload_n 1, 1) := by decide +kernel
theorem dX0_newJob_1 : decode cX0_newJob 1 = .ok (.iconst 1, 1) := by decide +kernel
theorem dX0_newJob_2 : decode cX0_newJob 2 = .ok (.if_icmp .lt 14, 3) := by decide +kernel
theorem dX0_newJob_5 : decode cX0_newJob 5 = .ok (.iload_n 1, 1) := by decide +kernel
theorem dX0_newJob_6 : decode cX0_newJob 6 = .ok (.sipush 1000, 3) := by decide +kernel
theorem dX0_newJob_9 : decode cX0_newJob 9 = .ok (.if_icmp .gt 7, 3) := by decide +kernel
theorem dX0_newJob_12 : decode cX0_newJob 12 = .ok (.iconst 1, 1) := by decide +kernel
theorem dX0_newJob_13 : decode cX0_newJob 13 = .ok (.goto 4, 3) := by decide +kernel
theorem dX0_newJob_16 : decode cX0_newJob 16 = .ok (.iconst 0, 1) := by decide +kernel
theorem dX0_newJob_17 : decode cX0_newJob 17 = .ok (.istore 4, 2) := by decide +kernel
theorem dX0_newJob_19 : decode cX0_newJob 19 = .ok (.iload_n 2, 1) := by decide +kernel
theorem dX0_newJob_20 : decode cX0_newJob 20 = .ok (.ifCond .lt 13, 3) := by decide +kernel
theorem dX0_newJob_23 : decode cX0_newJob 23 = .ok (.iload_n 2, 1) := by decide +kernel
theorem dX0_newJob_24 : decode cX0_newJob 24 = .ok (.bipush 100, 2) := by decide +kernel
theorem dX0_newJob_26 : decode cX0_newJob 26 = .ok (.if_icmp .gt 7, 3) := by decide +kernel
theorem dX0_newJob_29 : decode cX0_newJob 29 = .ok (.iconst 1, 1) := by decide +kernel
theorem dX0_newJob_30 : decode cX0_newJob 30 = .ok (.goto 4, 3) := by decide +kernel
theorem dX0_newJob_33 : decode cX0_newJob 33 = .ok (.iconst 0, 1) := by decide +kernel
theorem dX0_newJob_34 : decode cX0_newJob 34 = .ok (.istore 5, 2) := by decide +kernel
theorem dX0_newJob_36 : decode cX0_newJob 36 = .ok (.iload 4, 2) := by decide +kernel
theorem dX0_newJob_38 : decode cX0_newJob 38 = .ok (.ifCond .eq 16, 3) := by decide +kernel
theorem dX0_newJob_41 : decode cX0_newJob 41 = .ok (.iload 5, 2) := by decide +kernel
theorem dX0_newJob_43 : decode cX0_newJob 43 = .ok (.ifCond .eq 11, 3) := by decide +kernel
theorem dX0_newJob_46 : decode cX0_newJob 46 = .ok (.aload_n 0, 1) := by decide +kernel
theorem dX0_newJob_47 : decode cX0_newJob 47 = .ok (.iload_n 3, 1) := by decide +kernel
theorem dX0_newJob_48 : decode cX0_newJob 48 = .ok (.invokevirtual 60, 3) := by decide +kernel
theorem dX0_newJob_51 : decode cX0_newJob 51 = .ok (.ifCond .ne 5, 3) := by decide +kernel
theorem dX0_newJob_54 : decode cX0_newJob 54 = .ok (.iconst (-1), 1) := by decide +kernel
theorem dX0_newJob_55 : decode cX0_newJob 55 = .ok (.ireturn, 1) := by decide +kernel
theorem dX0_newJob_56 : decode cX0_newJob 56 = .ok (.aload_n 0, 1) := by decide +kernel
theorem dX0_newJob_57 : decode cX0_newJob 57 = .ok (.iload_n 3, 1) := by decide +kernel
theorem dX0_newJob_58 : decode cX0_newJob 58 = .ok (.invokevirtual 64, 3) := by decide +kernel
theorem dX0_newJob_61 : decode cX0_newJob 61 = .ok (.ifCond .ne 6, 3) := by decide +kernel
theorem dX0_newJob_64 : decode cX0_newJob 64 = .ok (.bipush (-2), 2) := by decide +kernel
theorem dX0_newJob_66 : decode cX0_newJob 66 = .ok (.ireturn, 1) := by decide +kernel
theorem dX0_newJob_67 : decode cX0_newJob 67 = .ok (.aload_n 0, 1) := by decide +kernel
theorem dX0_newJob_68 : decode cX0_newJob 68 = .ok (.getfield 37, 3) := by decide +kernel
theorem dX0_newJob_71 : decode cX0_newJob 71 = .ok (.bipush 24, 2) := by decide +kernel
theorem dX0_newJob_73 : decode cX0_newJob 73 = .ok (.if_icmp .lt 6, 3) := by decide +kernel
theorem dX0_newJob_76 : decode cX0_newJob 76 = .ok (.bipush (-3), 2) := by decide +kernel
theorem dX0_newJob_78 : decode cX0_newJob 78 = .ok (.ireturn, 1) := by decide +kernel
theorem dX0_newJob_79 : decode cX0_newJob 79 = .ok (.aload_n 0, 1) := by decide +kernel
theorem dX0_newJob_80 : decode cX0_newJob 80 = .ok (.getfield 9, 3) := by decide +kernel
theorem dX0_newJob_83 : decode cX0_newJob 83 = .ok (.aload_n 0, 1) := by decide +kernel
theorem dX0_newJob_84 : decode cX0_newJob 84 = .ok (.getfield 37, 3) := by decide +kernel
theorem dX0_newJob_87 : decode cX0_newJob 87 = .ok (.iload_n 1, 1) := by decide +kernel
theorem dX0_newJob_88 : decode cX0_newJob 88 = .ok (.invokestatic 56, 3) := by decide +kernel
theorem dX0_newJob_91 : decode cX0_newJob 91 = .ok (.aload_n 0, 1) := by decide +kernel
theorem dX0_newJob_92 : decode cX0_newJob 92 = .ok (.getfield 15, 3) := by decide +kernel
theorem dX0_newJob_95 : decode cX0_newJob 95 = .ok (.aload_n 0, 1) := by decide +kernel
theorem dX0_newJob_96 : decode cX0_newJob 96 = .ok (.getfield 37, 3) := by decide +kernel
theorem dX0_newJob_99 : decode cX0_newJob 99 = .ok (.iload_n 2, 1) := by decide +kernel
theorem dX0_newJob_100 : decode cX0_newJob 100 = .ok (.invokestatic 56, 3) := by decide +kernel
theorem dX0_newJob_103 : decode cX0_newJob 103 = .ok (.aload_n 0, 1) := by decide +kernel
theorem dX0_newJob_104 : decode cX0_newJob 104 = .ok (.getfield 18, 3) := by decide +kernel
theorem dX0_newJob_107 : decode cX0_newJob 107 = .ok (.aload_n 0, 1) := by decide +kernel
theorem dX0_newJob_108 : decode cX0_newJob 108 = .ok (.getfield 37, 3) := by decide +kernel
theorem dX0_newJob_111 : decode cX0_newJob 111 = .ok (.iload_n 3, 1) := by decide +kernel
theorem dX0_newJob_112 : decode cX0_newJob 112 = .ok (.invokestatic 56, 3) := by decide +kernel
theorem dX0_newJob_115 : decode cX0_newJob 115 = .ok (.aload_n 0, 1) := by decide +kernel
theorem dX0_newJob_116 : decode cX0_newJob 116 = .ok (.getfield 21, 3) := by decide +kernel
theorem dX0_newJob_119 : decode cX0_newJob 119 = .ok (.aload_n 0, 1) := by decide +kernel
theorem dX0_newJob_120 : decode cX0_newJob 120 = .ok (.getfield 37, 3) := by decide +kernel
theorem dX0_newJob_123 : decode cX0_newJob 123 = .ok (.iconst 0, 1) := by decide +kernel
theorem dX0_newJob_124 : decode cX0_newJob 124 = .ok (.invokestatic 56, 3) := by decide +kernel
theorem dX0_newJob_127 : decode cX0_newJob 127 = .ok (.aload_n 0, 1) := by decide +kernel
theorem dX0_newJob_128 : decode cX0_newJob 128 = .ok (.getfield 24, 3) := by decide +kernel
theorem dX0_newJob_131 : decode cX0_newJob 131 = .ok (.iload_n 3, 1) := by decide +kernel
theorem dX0_newJob_132 : decode cX0_newJob 132 = .ok (.aload_n 0, 1) := by decide +kernel
theorem dX0_newJob_133 : decode cX0_newJob 133 = .ok (.getfield 24, 3) := by decide +kernel
theorem dX0_newJob_136 : decode cX0_newJob 136 = .ok (.iload_n 3, 1) := by decide +kernel
theorem dX0_newJob_137 : decode cX0_newJob 137 = .ok (.invokestatic 67, 3) := by decide +kernel
theorem dX0_newJob_140 : decode cX0_newJob 140 = .ok (.iload_n 1, 1) := by decide +kernel
theorem dX0_newJob_141 : decode cX0_newJob 141 = .ok (.iadd, 1) := by decide +kernel
theorem dX0_newJob_142 : decode cX0_newJob 142 = .ok (.invokestatic 56, 3) := by decide +kernel
theorem dX0_newJob_145 : decode cX0_newJob 145 = .ok (.aload_n 0, 1) := by decide +kernel
theorem dX0_newJob_146 : decode cX0_newJob 146 = .ok (.dup, 1) := by decide +kernel
theorem dX0_newJob_147 : decode cX0_newJob 147 = .ok (.getfield 40, 3) := by decide +kernel
theorem dX0_newJob_150 : decode cX0_newJob 150 = .ok (.iload_n 1, 1) := by decide +kernel
theorem dX0_newJob_151 : decode cX0_newJob 151 = .ok (.iadd, 1) := by decide +kernel
theorem dX0_newJob_152 : decode cX0_newJob 152 = .ok (.putfield 40, 3) := by decide +kernel
theorem dX0_newJob_155 : decode cX0_newJob 155 = .ok (.aload_n 0, 1) := by decide +kernel
theorem dX0_newJob_156 : decode cX0_newJob 156 = .ok (.dup, 1) := by decide +kernel
theorem dX0_newJob_157 : decode cX0_newJob 157 = .ok (.getfield 37, 3) := by decide +kernel
theorem dX0_newJob_160 : decode cX0_newJob 160 = .ok (.iconst 1, 1) := by decide +kernel
theorem dX0_newJob_161 : decode cX0_newJob 161 = .ok (.iadd, 1) := by decide +kernel
theorem dX0_newJob_162 : decode cX0_newJob 162 = .ok (.putfield 37, 3) := by decide +kernel
theorem dX0_newJob_165 : decode cX0_newJob 165 = .ok (.aload_n 0, 1) := by decide +kernel
theorem dX0_newJob_166 : decode cX0_newJob 166 = .ok (.getfield 37, 3) := by decide +kernel
theorem dX0_newJob_169 : decode cX0_newJob 169 = .ok (.iconst 1, 1) := by decide +kernel
theorem dX0_newJob_170 : decode cX0_newJob 170 = .ok (.isub, 1) := by decide +kernel
theorem dX0_newJob_171 : decode cX0_newJob 171 = .ok (.ireturn, 1) := by decide +kernel
set_option maxRecDepth 20000 in
theorem ggX0_endJob_X0_hasJob : GoodIn wsX0_endJob wsX0_hasJob := goodIn_r _ [9, 10, 20, 21, 22, 23, 24, 25, 26, 27, 28, 29, 30, 31, 32] (by decide +kernel) (by decide +kernel)
set_option maxRecDepth 20000 in
theorem gX0_endJob_X0_hasJob : GoodIn wsX0_endJob (wsV RX0 71 RX0 yX0_hasJob wsX0_hasJob) := goodIn_app (goodIn_of _ (by decide +kernel)) ggX0_endJob_X0_hasJob
set_option maxRecDepth 20000 in
theorem ggX0_endJob_X0_isFinished : GoodIn wsX0_endJob wsX0_isFinished := goodIn_r _ [14, 1, 15, 16, 17, 20, 21, 22, 23, 24, 25, 26, 27, 28, 29, 30, 31, 32] (by decide +kernel) (by decide +kernel)
set_option maxRecDepth 20000 in
theorem gX0_endJob_X0_isFinished : GoodIn wsX0_endJob (wsV RX0 74 RX0 yX0_isFinished wsX0_isFinished) := goodIn_app (goodIn_of _ (by decide +kernel)) ggX0_endJob_X0_isFinished
set_option maxRecDepth 20000 in
theorem ggX0_endJob_X4_at : GoodIn wsX0_endJob wsX4_at := goodIn_r _ [17] (by decide +kernel) (by decide +kernel)
set_option maxRecDepth 20000 in
theorem gX0_endJob_X4_at_n67 : GoodIn wsX0_endJob (wsX4_at) := ggX0_endJob_X4_at
set_option maxRecDepth 20000 in
theorem ggX0_endJob_X4_put : GoodIn wsX0_endJob wsX4_put := goodIn_r _ [19] (by decide +kernel) (by decide +kernel)
set_option maxRecDepth 20000 in
theorem gX0_endJob_X4_put_n56 : GoodIn wsX0_endJob (wsX4_put) := ggX0_endJob_X4_put
theorem dX0_endJob_0 : decode cX0_endJob 0 = .ok (.aload_n 0, 1) := by decide +kernel
theorem dX0_endJob_1 : decode cX0_endJob 1 = .ok (.iload_n 1, 1) := by decide +kernel
theorem dX0_endJob_2 : decode cX0_endJob 2 = .ok (.invokevirtual 71, 3) := by decide +kernel
theorem dX0_endJob_5 : decode cX0_endJob 5 = .ok (.ifCond .ne 5, 3) := by decide +kernel
theorem dX0_endJob_8 : decode cX0_endJob 8 = .ok (.iconst (-1), 1) := by decide +kernel
theorem dX0_endJob_9 : decode cX0_endJob 9 = .ok (.ireturn, 1) := by decide +kernel
theorem dX0_endJob_10 : decode cX0_endJob 10 = .ok (.aload_n 0, 1) := by decide +kernel
theorem dX0_endJob_11 : decode cX0_endJob 11 = .ok (.iload_n 1, 1) := by decide +kernel
theorem dX0_endJob_12 : decode cX0_endJob 12 = .ok (.invokevirtual 74, 3) := by decide +kernel
theorem dX0_endJob_15 : decode cX0_endJob 15 = .ok (.ifCond .eq 6, 3) := by decide +kernel
theorem dX0_endJob_18 : decode cX0_endJob 18 = .ok (.bipush (-2), 2) := by decide +kernel
theorem dX0_endJob_20 : decode cX0_endJob 20 = .ok (.ireturn, 1) := by decide +kernel
theorem dX0_endJob_21 : decode cX0_endJob 21 = .ok (.aload_n 0, 1) := by decide +kernel
theorem dX0_endJob_22 : decode cX0_endJob 22 = .ok (.getfield 18, 3) := by decide +kernel
theorem dX0_endJob_25 : decode cX0_endJob 25 = .ok (.iload_n 1, 1) := by decide +kernel
theorem dX0_endJob_26 : decode cX0_endJob 26 = .ok (.invokestatic 67, 3) := by decide +kernel
theorem dX0_endJob_29 : decode cX0_endJob 29 = .ok (.istore_n 2, 1) := by decide +kernel
theorem dX0_endJob_30 : decode cX0_endJob 30 = .ok (.aload_n 0, 1) := by decide +kernel
theorem dX0_endJob_31 : decode cX0_endJob 31 = .ok (.getfield 24, 3) := by decide +kernel
theorem dX0_endJob_34 : decode cX0_endJob 34 = .ok (.iload_n 2, 1) := by decide +kernel
theorem dX0_endJob_35 : decode cX0_endJob 35 = .ok (.aload_n 0, 1) := by decide +kernel
theorem dX0_endJob_36 : decode cX0_endJob 36 = .ok (.getfield 24, 3) := by decide +kernel
theorem dX0_endJob_39 : decode cX0_endJob 39 = .ok (.iload_n 2, 1) := by decide +kernel
theorem dX0_endJob_40 : decode cX0_endJob 40 = .ok (.invokestatic 67, 3) := by decide +kernel
theorem dX0_endJob_43 : decode cX0_endJob 43 = .ok (.aload_n 0, 1) := by decide +kernel
theorem dX0_endJob_44 : decode cX0_endJob 44 = .ok (.getfield 9, 3) := by decide +kernel
theorem dX0_endJob_47 : decode cX0_endJob 47 = .ok (.iload_n 1, 1) := by decide +kernel
theorem dX0_endJob_48 : decode cX0_endJob 48 = .ok (.invokestatic 67, 3) := by decide +kernel
theorem dX0_endJob_51 : decode cX0_endJob 51 = .ok (.isub, 1) := by decide +kernel
theorem dX0_endJob_52 : decode cX0_endJob 52 = .ok (.invokestatic 56, 3) := by decide +kernel
theorem dX0_endJob_55 : decode cX0_endJob 55 = .ok (.aload_n 0, 1) := by decide +kernel
theorem dX0_endJob_56 : decode cX0_endJob 56 = .ok (.dup, 1) := by decide +kernel
theorem dX0_endJob_57 : decode cX0_endJob 57 = .ok (.getfield 40, 3) := by decide +kernel
theorem dX0_endJob_60 : decode cX0_endJob 60 = .ok (.aload_n 0, 1) := by decide +kernel
theorem dX0_endJob_61 : decode cX0_endJob 61 = .ok (.getfield 9, 3) := by decide +kernel
theorem dX0_endJob_64 : decode cX0_endJob 64 = .ok (.iload_n 1, 1) := by decide +kernel
theorem dX0_endJob_65 : decode cX0_endJob 65 = .ok (.invokestatic 67, 3) := by decide +kernel
theorem dX0_endJob_68 : decode cX0_endJob 68 = .ok (.isub, 1) := by decide +kernel
theorem dX0_endJob_69 : decode cX0_endJob 69 = .ok (.putfield 40, 3) := by decide +kernel
theorem dX0_endJob_72 : decode cX0_endJob 72 = .ok (.aload_n 0, 1) := by decide +kernel
theorem dX0_endJob_73 : decode cX0_endJob 73 = .ok (.getfield 18, 3) := by decide +kernel
theorem dX0_endJob_76 : decode cX0_endJob 76 = .ok (.iload_n 1, 1) := by decide +kernel
theorem dX0_endJob_77 : decode cX0_endJob 77 = .ok (.bipush (-9), 2) := by decide +kernel
theorem dX0_endJob_79 : decode cX0_endJob 79 = .ok (.invokestatic 56, 3) := by decide +kernel
theorem dX0_endJob_82 : decode cX0_endJob 82 = .ok (.aload_n 0, 1) := by decide +kernel
theorem dX0_endJob_83 : decode cX0_endJob 83 = .ok (.getfield 24, 3) := by decide +kernel
theorem dX0_endJob_86 : decode cX0_endJob 86 = .ok (.iload_n 2, 1) := by decide +kernel
theorem dX0_endJob_87 : decode cX0_endJob 87 = .ok (.invokestatic 67, 3) := by decide +kernel
theorem dX0_endJob_90 : decode cX0_endJob 90 = .ok (.ireturn, 1) := by decide +kernel
theorem dX0_changeBudget_0 : decode cX0_changeBudget 0 = .ok (.iload_n 1, 1) := by decide +kernel
theorem dX0_changeBudget_1 : decode cX0_changeBudget 1 = .ok (.ifCond .lt 10, 3) := by decide +kernel
theorem dX0_changeBudget_4 : decode cX0_changeBudget 4 = .ok (.iload_n 1, 1) := by decide +kernel
theorem dX0_changeBudget_5 : decode cX0_changeBudget 5 = .ok (.sipush 10000, 3) := by decide +kernel
theorem dX0_changeBudget_8 : decode cX0_changeBudget 8 = .ok (.if_icmp .le 5, 3) := by decide +kernel
theorem dX0_changeBudget_11 : decode cX0_changeBudget 11 = .ok (.iconst (-1), 1) := by decide +kernel
theorem dX0_changeBudget_12 : decode cX0_changeBudget 12 = .ok (.ireturn, 1) := by decide +kernel
theorem dX0_changeBudget_13 : decode cX0_changeBudget 13 = .ok (.aload_n 0, 1) := by decide +kernel
theorem dX0_changeBudget_14 : decode cX0_changeBudget 14 = .ok (.getfield 43, 3) := by decide +kernel
theorem dX0_changeBudget_17 : decode cX0_changeBudget 17 = .ok (.istore_n 2, 1) := by decide +kernel
theorem dX0_changeBudget_18 : decode cX0_changeBudget 18 = .ok (.aload_n 0, 1) := by decide +kernel
theorem dX0_changeBudget_19 : decode cX0_changeBudget 19 = .ok (.iload_n 1, 1) := by decide +kernel
theorem dX0_changeBudget_20 : decode cX0_changeBudget 20 = .ok (.putfield 43, 3) := by decide +kernel
theorem dX0_changeBudget_23 : decode cX0_changeBudget 23 = .ok (.iload_n 2, 1) := by decide +kernel
theorem dX0_changeBudget_24 : decode cX0_changeBudget 24 = .ok (.ireturn, 1) := by decide +kernel
set_option maxRecDepth 20000 in
theorem ggX0_changeFactor_X0_target : GoodIn wsX0_changeFactor wsX0_target := goodIn_r _ [6, 1, 7, 8, 9, 5, 10, 11, 12, 13, 14, 15, 16, 17, 18, 19, 20, 21, 22, 23, 24, 25, 26, 27, 28, 29, 30, 31, 32, 33, 34, 35] (by decide +kernel) (by decide +kernel)
set_option maxRecDepth 20000 in
theorem gX0_changeFactor_X0_target : GoodIn wsX0_changeFactor (wsV RX0 77 RX0 yX0_target wsX0_target) := goodIn_app (goodIn_of _ (by decide +kernel)) ggX0_changeFactor_X0_target
theorem dX0_changeFactor_0 : decode cX0_changeFactor 0 = .ok (.iload_n 1, 1) := by decide +kernel
theorem dX0_changeFactor_1 : decode cX0_changeFactor 1 = .ok (.bipush 100, 2) := by decide +kernel
theorem dX0_changeFactor_3 : decode cX0_changeFactor 3 = .ok (.if_icmp .lt 10, 3) := by decide +kernel
theorem dX0_changeFactor_6 : decode cX0_changeFactor 6 = .ok (.iload_n 1, 1) := by decide +kernel
theorem dX0_changeFactor_7 : decode cX0_changeFactor 7 = .ok (.sipush 400, 3) := by decide +kernel
theorem dX0_changeFactor_10 : decode cX0_changeFactor 10 = .ok (.if_icmp .le 5, 3) := by decide +kernel
theorem dX0_changeFactor_13 : decode cX0_changeFactor 13 = .ok (.iconst (-1), 1) := by decide +kernel
theorem dX0_changeFactor_14 : decode cX0_changeFactor 14 = .ok (.ireturn, 1) := by decide +kernel
theorem dX0_changeFactor_15 : decode cX0_changeFactor 15 = .ok (.aload_n 0, 1) := by decide +kernel
theorem dX0_changeFactor_16 : decode cX0_changeFactor 16 = .ok (.iload_n 1, 1) := by decide +kernel
theorem dX0_changeFactor_17 : decode cX0_changeFactor 17 = .ok (.putfield 46, 3) := by decide +kernel
theorem dX0_changeFactor_20 : decode cX0_changeFactor 20 = .ok (.aload_n 0, 1) := by decide +kernel
theorem dX0_changeFactor_21 : decode cX0_changeFactor 21 = .ok (.invokevirtual 77, 3) := by decide +kernel
theorem dX0_changeFactor_24 : decode cX0_changeFactor 24 = .ok (.ireturn, 1) := by decide +kernel
set_option maxRecDepth 20000 in
theorem ggX0_moveJob_X0_hasJob : GoodIn wsX0_moveJob wsX0_hasJob := goodIn_r _ [8, 9, 49, 50, 51, 52, 53, 54, 55, 56, 57, 58, 59, 60, 61] (by decide +kernel) (by decide +kernel)
set_option maxRecDepth 20000 in
theorem gX0_moveJob_X0_hasJob : GoodIn wsX0_moveJob (wsV RX0 71 RX0 yX0_hasJob wsX0_hasJob) := goodIn_app (goodIn_of _ (by decide +kernel)) ggX0_moveJob_X0_hasJob
set_option maxRecDepth 20000 in
theorem ggX0_moveJob_X0_hasServer : GoodIn wsX0_moveJob wsX0_hasServer := goodIn_r _ [13, 14, 49, 50, 51, 52, 53, 54, 55, 56, 57, 58, 59, 60, 61] (by decide +kernel) (by decide +kernel)
set_option maxRecDepth 20000 in
theorem gX0_moveJob_X0_hasServer : GoodIn wsX0_moveJob (wsV RX0 60 RX0 yX0_hasServer wsX0_hasServer) := goodIn_app (goodIn_of _ (by decide +kernel)) ggX0_moveJob_X0_hasServer
set_option maxRecDepth 20000 in
theorem ggX0_moveJob_X0_isFinished : GoodIn wsX0_moveJob wsX0_isFinished := goodIn_r _ [18, 1, 19, 20, 21, 49, 50, 51, 52, 53, 54, 55, 56, 57, 58, 59, 60, 61] (by decide +kernel) (by decide +kernel)
set_option maxRecDepth 20000 in
theorem gX0_moveJob_X0_isFinished : GoodIn wsX0_moveJob (wsV RX0 74 RX0 yX0_isFinished wsX0_isFinished) := goodIn_app (goodIn_of _ (by decide +kernel)) ggX0_moveJob_X0_isFinished
set_option maxRecDepth 20000 in
theorem ggX0_moveJob_X4_at : GoodIn wsX0_moveJob wsX4_at := goodIn_r _ [21] (by decide +kernel) (by decide +kernel)
set_option maxRecDepth 20000 in
theorem gX0_moveJob_X4_at_n67 : GoodIn wsX0_moveJob (wsX4_at) := ggX0_moveJob_X4_at
set_option maxRecDepth 20000 in
theorem ggX0_moveJob_X0_isOpen : GoodIn wsX0_moveJob wsX0_isOpen := goodIn_r _ [25, 26, 19, 20, 21, 49, 50, 51, 52, 53, 54, 55, 56, 57, 58, 59, 60, 61] (by decide +kernel) (by decide +kernel)
set_option maxRecDepth 20000 in
theorem gX0_moveJob_X0_isOpen : GoodIn wsX0_moveJob (wsV RX0 64 RX0 yX0_isOpen wsX0_isOpen) := goodIn_app (goodIn_of _ (by decide +kernel)) ggX0_moveJob_X0_isOpen
set_option maxRecDepth 20000 in
theorem ggX0_moveJob_X0_takeTo : GoodIn wsX0_moveJob wsX0_takeTo := goodIn_r _ [30, 31, 1, 32, 33, 3, 2, 19, 20, 21, 34, 35, 36, 7, 37, 38, 39, 40, 49, 50, 51, 52, 53, 54, 55, 56, 57, 58, 59, 60, 61] (by decide +kernel) (by decide +kernel)
set_option maxRecDepth 20000 in
theorem gX0_moveJob_X0_takeTo : GoodIn wsX0_moveJob (wsV RX0 81 RX0 yX0_takeTo wsX0_takeTo) := goodIn_app (goodIn_of _ (by decide +kernel)) ggX0_moveJob_X0_takeTo
set_option maxRecDepth 20000 in
theorem ggX0_moveJob_X0_greatestLoad : GoodIn wsX0_moveJob wsX0_greatestLoad := goodIn_r _ [44, 38, 45, 46, 47, 7, 48, 14, 26, 19, 20, 21, 49, 50, 51, 52, 53, 54, 55, 56, 57, 58, 59, 60, 61] (by decide +kernel) (by decide +kernel)
set_option maxRecDepth 20000 in
theorem gX0_moveJob_X0_greatestLoad : GoodIn wsX0_moveJob (wsV RX0 85 RX0 yX0_greatestLoad wsX0_greatestLoad) := goodIn_app (goodIn_of _ (by decide +kernel)) ggX0_moveJob_X0_greatestLoad
theorem dX0_moveJob_0 : decode cX0_moveJob 0 = .ok (.aload_n 0, 1) := by decide +kernel
theorem dX0_moveJob_1 : decode cX0_moveJob 1 = .ok (.iload_n 1, 1) := by decide +kernel
theorem dX0_moveJob_2 : decode cX0_moveJob 2 = .ok (.invokevirtual 71, 3) := by decide +kernel
theorem dX0_moveJob_5 : decode cX0_moveJob 5 = .ok (.ifCond .eq 11, 3) := by decide +kernel
theorem dX0_moveJob_8 : decode cX0_moveJob 8 = .ok (.aload_n 0, 1) := by decide +kernel
theorem dX0_moveJob_9 : decode cX0_moveJob 9 = .ok (.iload_n 2, 1) := by decide +kernel
theorem dX0_moveJob_10 : decode cX0_moveJob 10 = .ok (.invokevirtual 60, 3) := by decide +kernel
theorem dX0_moveJob_13 : decode cX0_moveJob 13 = .ok (.ifCond .ne 5, 3) := by decide +kernel
theorem dX0_moveJob_16 : decode cX0_moveJob 16 = .ok (.iconst (-1), 1) := by decide +kernel
theorem dX0_moveJob_17 : decode cX0_moveJob 17 = .ok (.ireturn, 1) := by decide +kernel
theorem dX0_moveJob_18 : decode cX0_moveJob 18 = .ok (.aload_n 0, 1) := by decide +kernel
theorem dX0_moveJob_19 : decode cX0_moveJob 19 = .ok (.iload_n 1, 1) := by decide +kernel
theorem dX0_moveJob_20 : decode cX0_moveJob 20 = .ok (.invokevirtual 74, 3) := by decide +kernel
theorem dX0_moveJob_23 : decode cX0_moveJob 23 = .ok (.ifCond .ne 23, 3) := by decide +kernel
theorem dX0_moveJob_26 : decode cX0_moveJob 26 = .ok (.aload_n 0, 1) := by decide +kernel
theorem dX0_moveJob_27 : decode cX0_moveJob 27 = .ok (.getfield 18, 3) := by decide +kernel
theorem dX0_moveJob_30 : decode cX0_moveJob 30 = .ok (.iload_n 1, 1) := by decide +kernel
theorem dX0_moveJob_31 : decode cX0_moveJob 31 = .ok (.invokestatic 67, 3) := by decide +kernel
theorem dX0_moveJob_34 : decode cX0_moveJob 34 = .ok (.iload_n 2, 1) := by decide +kernel
theorem dX0_moveJob_35 : decode cX0_moveJob 35 = .ok (.if_icmp .eq 11, 3) := by decide +kernel
theorem dX0_moveJob_38 : decode cX0_moveJob 38 = .ok (.aload_n 0, 1) := by decide +kernel
theorem dX0_moveJob_39 : decode cX0_moveJob 39 = .ok (.iload_n 2, 1) := by decide +kernel
theorem dX0_moveJob_40 : decode cX0_moveJob 40 = .ok (.invokevirtual 64, 3) := by decide +kernel
theorem dX0_moveJob_43 : decode cX0_moveJob 43 = .ok (.ifCond .ne 6, 3) := by decide +kernel
theorem dX0_moveJob_46 : decode cX0_moveJob 46 = .ok (.bipush (-2), 2) := by decide +kernel
theorem dX0_moveJob_48 : decode cX0_moveJob 48 = .ok (.ireturn, 1) := by decide +kernel
theorem dX0_moveJob_49 : decode cX0_moveJob 49 = .ok (.aload_n 0, 1) := by decide +kernel
theorem dX0_moveJob_50 : decode cX0_moveJob 50 = .ok (.getfield 15, 3) := by decide +kernel
theorem dX0_moveJob_53 : decode cX0_moveJob 53 = .ok (.iload_n 1, 1) := by decide +kernel
theorem dX0_moveJob_54 : decode cX0_moveJob 54 = .ok (.invokestatic 67, 3) := by decide +kernel
theorem dX0_moveJob_57 : decode cX0_moveJob 57 = .ok (.aload_n 0, 1) := by decide +kernel
theorem dX0_moveJob_58 : decode cX0_moveJob 58 = .ok (.getfield 43, 3) := by decide +kernel
theorem dX0_moveJob_61 : decode cX0_moveJob 61 = .ok (.if_icmp .le 6, 3) := by decide +kernel
theorem dX0_moveJob_64 : decode cX0_moveJob 64 = .ok (.bipush (-2), 2) := by decide +kernel
theorem dX0_moveJob_66 : decode cX0_moveJob 66 = .ok (.ireturn, 1) := by decide +kernel
theorem dX0_moveJob_67 : decode cX0_moveJob 67 = .ok (.aload_n 0, 1) := by decide +kernel
theorem dX0_moveJob_68 : decode cX0_moveJob 68 = .ok (.iload_n 1, 1) := by decide +kernel
theorem dX0_moveJob_69 : decode cX0_moveJob 69 = .ok (.iload_n 2, 1) := by decide +kernel
theorem dX0_moveJob_70 : decode cX0_moveJob 70 = .ok (.invokevirtual 81, 3) := by decide +kernel
theorem dX0_moveJob_73 : decode cX0_moveJob 73 = .ok (.aload_n 0, 1) := by decide +kernel
theorem dX0_moveJob_74 : decode cX0_moveJob 74 = .ok (.invokevirtual 85, 3) := by decide +kernel
theorem dX0_moveJob_77 : decode cX0_moveJob 77 = .ok (.ireturn, 1) := by decide +kernel
set_option maxRecDepth 20000 in
theorem ggX0_exchangeJobs_X0_hasJob : GoodIn wsX0_exchangeJobs wsX0_hasJob := goodIn_r _ [8, 9, 45, 46, 47, 48, 49, 50, 51, 52, 53, 54, 55, 56, 57] (by decide +kernel) (by decide +kernel)
set_option maxRecDepth 20000 in
theorem gX0_exchangeJobs_X0_hasJob : GoodIn wsX0_exchangeJobs (wsV RX0 71 RX0 yX0_hasJob wsX0_hasJob) := goodIn_app (goodIn_of _ (by decide +kernel)) ggX0_exchangeJobs_X0_hasJob
set_option maxRecDepth 20000 in
theorem ggX0_exchangeJobs_X0_areApart : GoodIn wsX0_exchangeJobs wsX0_areApart := goodIn_r _ [13, 3, 14, 15, 16, 7, 17, 18, 19, 20, 45, 46, 47, 48, 49, 50, 51, 52, 53, 54, 55, 56, 57] (by decide +kernel) (by decide +kernel)
set_option maxRecDepth 20000 in
theorem gX0_exchangeJobs_X0_areApart : GoodIn wsX0_exchangeJobs (wsV RX0 88 RX0 yX0_areApart wsX0_areApart) := goodIn_app (goodIn_of _ (by decide +kernel)) ggX0_exchangeJobs_X0_areApart
set_option maxRecDepth 20000 in
theorem ggX0_exchangeJobs_X4_at : GoodIn wsX0_exchangeJobs wsX4_at := goodIn_r _ [20] (by decide +kernel) (by decide +kernel)
set_option maxRecDepth 20000 in
theorem gX0_exchangeJobs_X4_at_n67 : GoodIn wsX0_exchangeJobs (wsX4_at) := ggX0_exchangeJobs_X4_at
set_option maxRecDepth 20000 in
theorem ggX0_exchangeJobs_X0_takeTo : GoodIn wsX0_exchangeJobs wsX0_takeTo := goodIn_r _ [24, 25, 3, 26, 27, 2, 1, 18, 19, 20, 28, 29, 30, 7, 31, 32, 33, 34, 45, 46, 47, 48, 49, 50, 51, 52, 53, 54, 55, 56, 57] (by decide +kernel) (by decide +kernel)
set_option maxRecDepth 20000 in
theorem gX0_exchangeJobs_X0_takeTo : GoodIn wsX0_exchangeJobs (wsV RX0 81 RX0 yX0_takeTo wsX0_takeTo) := goodIn_app (goodIn_of _ (by decide +kernel)) ggX0_exchangeJobs_X0_takeTo
set_option maxRecDepth 20000 in
theorem ggX0_exchangeJobs_X0_greatestLoad : GoodIn wsX0_exchangeJobs wsX0_greatestLoad := goodIn_r _ [38, 32, 39, 40, 41, 7, 42, 43, 44, 18, 19, 20, 45, 46, 47, 48, 49, 50, 51, 52, 53, 54, 55, 56, 57] (by decide +kernel) (by decide +kernel)
set_option maxRecDepth 20000 in
theorem gX0_exchangeJobs_X0_greatestLoad : GoodIn wsX0_exchangeJobs (wsV RX0 85 RX0 yX0_greatestLoad wsX0_greatestLoad) := goodIn_app (goodIn_of _ (by decide +kernel)) ggX0_exchangeJobs_X0_greatestLoad
theorem dX0_exchangeJobs_0 : decode cX0_exchangeJobs 0 = .ok (.aload_n 0, 1) := by decide +kernel
theorem dX0_exchangeJobs_1 : decode cX0_exchangeJobs 1 = .ok (.iload_n 1, 1) := by decide +kernel
theorem dX0_exchangeJobs_2 : decode cX0_exchangeJobs 2 = .ok (.invokevirtual 71, 3) := by decide +kernel
theorem dX0_exchangeJobs_5 : decode cX0_exchangeJobs 5 = .ok (.ifCond .eq 16, 3) := by decide +kernel
theorem dX0_exchangeJobs_8 : decode cX0_exchangeJobs 8 = .ok (.aload_n 0, 1) := by decide +kernel
theorem dX0_exchangeJobs_9 : decode cX0_exchangeJobs 9 = .ok (.iload_n 2, 1) := by decide +kernel
theorem dX0_exchangeJobs_10 : decode cX0_exchangeJobs 10 = .ok (.invokevirtual 71, 3) := by decide +kernel
theorem dX0_exchangeJobs_13 : decode cX0_exchangeJobs 13 = .ok (.ifCond .eq 8, 3) := by decide +kernel
theorem dX0_exchangeJobs_16 : decode cX0_exchangeJobs 16 = .ok (.iload_n 1, 1) := by decide +kernel
theorem dX0_exchangeJobs_17 : decode cX0_exchangeJobs 17 = .ok (.iload_n 2, 1) := by decide +kernel
theorem dX0_exchangeJobs_18 : decode cX0_exchangeJobs 18 = .ok (.if_icmp .ne 5, 3) := by decide +kernel
theorem dX0_exchangeJobs_21 : decode cX0_exchangeJobs 21 = .ok (.iconst (-1), 1) := by decide +kernel
theorem dX0_exchangeJobs_22 : decode cX0_exchangeJobs 22 = .ok (.ireturn, 1) := by decide +kernel
theorem dX0_exchangeJobs_23 : decode cX0_exchangeJobs 23 = .ok (.aload_n 0, 1) := by decide +kernel
theorem dX0_exchangeJobs_24 : decode cX0_exchangeJobs 24 = .ok (.iload_n 1, 1) := by decide +kernel
theorem dX0_exchangeJobs_25 : decode cX0_exchangeJobs 25 = .ok (.iload_n 2, 1) := by decide +kernel
theorem dX0_exchangeJobs_26 : decode cX0_exchangeJobs 26 = .ok (.invokevirtual 88, 3) := by decide +kernel
theorem dX0_exchangeJobs_29 : decode cX0_exchangeJobs 29 = .ok (.ifCond .eq 27, 3) := by decide +kernel
theorem dX0_exchangeJobs_32 : decode cX0_exchangeJobs 32 = .ok (.aload_n 0, 1) := by decide +kernel
theorem dX0_exchangeJobs_33 : decode cX0_exchangeJobs 33 = .ok (.getfield 15, 3) := by decide +kernel
theorem dX0_exchangeJobs_36 : decode cX0_exchangeJobs 36 = .ok (.iload_n 1, 1) := by decide +kernel
theorem dX0_exchangeJobs_37 : decode cX0_exchangeJobs 37 = .ok (.invokestatic 67, 3) := by decide +kernel
theorem dX0_exchangeJobs_40 : decode cX0_exchangeJobs 40 = .ok (.aload_n 0, 1) := by decide +kernel
theorem dX0_exchangeJobs_41 : decode cX0_exchangeJobs 41 = .ok (.getfield 15, 3) := by decide +kernel
theorem dX0_exchangeJobs_44 : decode cX0_exchangeJobs 44 = .ok (.iload_n 2, 1) := by decide +kernel
theorem dX0_exchangeJobs_45 : decode cX0_exchangeJobs 45 = .ok (.invokestatic 67, 3) := by decide +kernel
theorem dX0_exchangeJobs_48 : decode cX0_exchangeJobs 48 = .ok (.iadd, 1) := by decide +kernel
theorem dX0_exchangeJobs_49 : decode cX0_exchangeJobs 49 = .ok (.aload_n 0, 1) := by decide +kernel
theorem dX0_exchangeJobs_50 : decode cX0_exchangeJobs 50 = .ok (.getfield 43, 3) := by decide +kernel
theorem dX0_exchangeJobs_53 : decode cX0_exchangeJobs 53 = .ok (.if_icmp .le 6, 3) := by decide +kernel
theorem dX0_exchangeJobs_56 : decode cX0_exchangeJobs 56 = .ok (.bipush (-2), 2) := by decide +kernel
theorem dX0_exchangeJobs_58 : decode cX0_exchangeJobs 58 = .ok (.ireturn, 1) := by decide +kernel
theorem dX0_exchangeJobs_59 : decode cX0_exchangeJobs 59 = .ok (.aload_n 0, 1) := by decide +kernel
theorem dX0_exchangeJobs_60 : decode cX0_exchangeJobs 60 = .ok (.getfield 18, 3) := by decide +kernel
theorem dX0_exchangeJobs_63 : decode cX0_exchangeJobs 63 = .ok (.iload_n 1, 1) := by decide +kernel
theorem dX0_exchangeJobs_64 : decode cX0_exchangeJobs 64 = .ok (.invokestatic 67, 3) := by decide +kernel
theorem dX0_exchangeJobs_67 : decode cX0_exchangeJobs 67 = .ok (.istore_n 3, 1) := by decide +kernel
theorem dX0_exchangeJobs_68 : decode cX0_exchangeJobs 68 = .ok (.aload_n 0, 1) := by decide +kernel
theorem dX0_exchangeJobs_69 : decode cX0_exchangeJobs 69 = .ok (.iload_n 1, 1) := by decide +kernel
theorem dX0_exchangeJobs_70 : decode cX0_exchangeJobs 70 = .ok (.aload_n 0, 1) := by decide +kernel
theorem dX0_exchangeJobs_71 : decode cX0_exchangeJobs 71 = .ok (.getfield 18, 3) := by decide +kernel
theorem dX0_exchangeJobs_74 : decode cX0_exchangeJobs 74 = .ok (.iload_n 2, 1) := by decide +kernel
theorem dX0_exchangeJobs_75 : decode cX0_exchangeJobs 75 = .ok (.invokestatic 67, 3) := by decide +kernel
theorem dX0_exchangeJobs_78 : decode cX0_exchangeJobs 78 = .ok (.invokevirtual 81, 3) := by decide +kernel
theorem dX0_exchangeJobs_81 : decode cX0_exchangeJobs 81 = .ok (.aload_n 0, 1) := by decide +kernel
theorem dX0_exchangeJobs_82 : decode cX0_exchangeJobs 82 = .ok (.iload_n 2, 1) := by decide +kernel
theorem dX0_exchangeJobs_83 : decode cX0_exchangeJobs 83 = .ok (.iload_n 3, 1) := by decide +kernel
theorem dX0_exchangeJobs_84 : decode cX0_exchangeJobs 84 = .ok (.invokevirtual 81, 3) := by decide +kernel
theorem dX0_exchangeJobs_87 : decode cX0_exchangeJobs 87 = .ok (.aload_n 0, 1) := by decide +kernel
theorem dX0_exchangeJobs_88 : decode cX0_exchangeJobs 88 = .ok (.invokevirtual 85, 3) := by decide +kernel
theorem dX0_exchangeJobs_91 : decode cX0_exchangeJobs 91 = .ok (.ireturn, 1) := by decide +kernel
set_option maxRecDepth 20000 in
theorem ggX0_moveRing_X0_hasJob : GoodIn wsX0_moveRing wsX0_hasJob := goodIn_r _ [8, 9, 45, 46, 47, 48, 49, 50, 51, 52, 53, 54, 55, 56, 57] (by decide +kernel) (by decide +kernel)
set_option maxRecDepth 20000 in
theorem gX0_moveRing_X0_hasJob : GoodIn wsX0_moveRing (wsV RX0 71 RX0 yX0_hasJob wsX0_hasJob) := goodIn_app (goodIn_of _ (by decide +kernel)) ggX0_moveRing_X0_hasJob
set_option maxRecDepth 20000 in
theorem ggX0_moveRing_X0_areApart : GoodIn wsX0_moveRing wsX0_areApart := goodIn_r _ [13, 3, 14, 15, 16, 7, 17, 18, 19, 20, 45, 46, 47, 48, 49, 50, 51, 52, 53, 54, 55, 56, 57] (by decide +kernel) (by decide +kernel)
set_option maxRecDepth 20000 in
theorem gX0_moveRing_X0_areApart : GoodIn wsX0_moveRing (wsV RX0 88 RX0 yX0_areApart wsX0_areApart) := goodIn_app (goodIn_of _ (by decide +kernel)) ggX0_moveRing_X0_areApart
set_option maxRecDepth 20000 in
theorem ggX0_moveRing_X4_at : GoodIn wsX0_moveRing wsX4_at := goodIn_r _ [20] (by decide +kernel) (by decide +kernel)
set_option maxRecDepth 20000 in
theorem gX0_moveRing_X4_at_n67 : GoodIn wsX0_moveRing (wsX4_at) := ggX0_moveRing_X4_at
set_option maxRecDepth 20000 in
theorem ggX0_moveRing_X0_takeTo : GoodIn wsX0_moveRing wsX0_takeTo := goodIn_r _ [24, 25, 3, 26, 27, 2, 1, 18, 19, 20, 28, 29, 30, 7, 31, 32, 33, 34, 45, 46, 47, 48, 49, 50, 51, 52, 53, 54, 55, 56, 57] (by decide +kernel) (by decide +kernel)
set_option maxRecDepth 20000 in
theorem gX0_moveRing_X0_takeTo : GoodIn wsX0_moveRing (wsV RX0 81 RX0 yX0_takeTo wsX0_takeTo) := goodIn_app (goodIn_of _ (by decide +kernel)) ggX0_moveRing_X0_takeTo
set_option maxRecDepth 20000 in
theorem ggX0_moveRing_X0_greatestLoad : GoodIn wsX0_moveRing wsX0_greatestLoad := goodIn_r _ [38, 32, 39, 40, 41, 7, 42, 43, 44, 18, 19, 20, 45, 46, 47, 48, 49, 50, 51, 52, 53, 54, 55, 56, 57] (by decide +kernel) (by decide +kernel)
set_option maxRecDepth 20000 in
theorem gX0_moveRing_X0_greatestLoad : GoodIn wsX0_moveRing (wsV RX0 85 RX0 yX0_greatestLoad wsX0_greatestLoad) := goodIn_app (goodIn_of _ (by decide +kernel)) ggX0_moveRing_X0_greatestLoad
theorem dX0_moveRing_0 : decode cX0_moveRing 0 = .ok (.aload_n 0, 1) := by decide +kernel
theorem dX0_moveRing_1 : decode cX0_moveRing 1 = .ok (.iload_n 1, 1) := by decide +kernel
theorem dX0_moveRing_2 : decode cX0_moveRing 2 = .ok (.invokevirtual 71, 3) := by decide +kernel
theorem dX0_moveRing_5 : decode cX0_moveRing 5 = .ok (.ifCond .eq 19, 3) := by decide +kernel
theorem dX0_moveRing_8 : decode cX0_moveRing 8 = .ok (.aload_n 0, 1) := by decide +kernel
theorem dX0_moveRing_9 : decode cX0_moveRing 9 = .ok (.iload_n 2, 1) := by decide +kernel
theorem dX0_moveRing_10 : decode cX0_moveRing 10 = .ok (.invokevirtual 71, 3) := by decide +kernel
theorem dX0_moveRing_13 : decode cX0_moveRing 13 = .ok (.ifCond .eq 11, 3) := by decide +kernel
theorem dX0_moveRing_16 : decode cX0_moveRing 16 = .ok (.aload_n 0, 1) := by decide +kernel
theorem dX0_moveRing_17 : decode cX0_moveRing 17 = .ok (.iload_n 3, 1) := by decide +kernel
theorem dX0_moveRing_18 : decode cX0_moveRing 18 = .ok (.invokevirtual 71, 3) := by decide +kernel
theorem dX0_moveRing_21 : decode cX0_moveRing 21 = .ok (.ifCond .ne 5, 3) := by decide +kernel
theorem dX0_moveRing_24 : decode cX0_moveRing 24 = .ok (.iconst (-1), 1) := by decide +kernel
theorem dX0_moveRing_25 : decode cX0_moveRing 25 = .ok (.ireturn, 1) := by decide +kernel
theorem dX0_moveRing_26 : decode cX0_moveRing 26 = .ok (.iload_n 1, 1) := by decide +kernel
theorem dX0_moveRing_27 : decode cX0_moveRing 27 = .ok (.iload_n 2, 1) := by decide +kernel
theorem dX0_moveRing_28 : decode cX0_moveRing 28 = .ok (.if_icmp .eq 13, 3) := by decide +kernel
theorem dX0_moveRing_31 : decode cX0_moveRing 31 = .ok (.iload_n 2, 1) := by decide +kernel
theorem dX0_moveRing_32 : decode cX0_moveRing 32 = .ok (.iload_n 3, 1) := by decide +kernel
theorem dX0_moveRing_33 : decode cX0_moveRing 33 = .ok (.if_icmp .eq 8, 3) := by decide +kernel
theorem dX0_moveRing_36 : decode cX0_moveRing 36 = .ok (.iload_n 3, 1) := by decide +kernel
theorem dX0_moveRing_37 : decode cX0_moveRing 37 = .ok (.iload_n 1, 1) := by decide +kernel
theorem dX0_moveRing_38 : decode cX0_moveRing 38 = .ok (.if_icmp .ne 5, 3) := by decide +kernel
theorem dX0_moveRing_41 : decode cX0_moveRing 41 = .ok (.iconst (-1), 1) := by decide +kernel
theorem dX0_moveRing_42 : decode cX0_moveRing 42 = .ok (.ireturn, 1) := by decide +kernel
theorem dX0_moveRing_43 : decode cX0_moveRing 43 = .ok (.aload_n 0, 1) := by decide +kernel
theorem dX0_moveRing_44 : decode cX0_moveRing 44 = .ok (.iload_n 1, 1) := by decide +kernel
theorem dX0_moveRing_45 : decode cX0_moveRing 45 = .ok (.iload_n 2, 1) := by decide +kernel
theorem dX0_moveRing_46 : decode cX0_moveRing 46 = .ok (.invokevirtual 88, 3) := by decide +kernel
theorem dX0_moveRing_49 : decode cX0_moveRing 49 = .ok (.ifCond .eq 21, 3) := by decide +kernel
theorem dX0_moveRing_52 : decode cX0_moveRing 52 = .ok (.aload_n 0, 1) := by decide +kernel
theorem dX0_moveRing_53 : decode cX0_moveRing 53 = .ok (.iload_n 2, 1) := by decide +kernel
theorem dX0_moveRing_54 : decode cX0_moveRing 54 = .ok (.iload_n 3, 1) := by decide +kernel
theorem dX0_moveRing_55 : decode cX0_moveRing 55 = .ok (.invokevirtual 88, 3) := by decide +kernel
theorem dX0_moveRing_58 : decode cX0_moveRing 58 = .ok (.ifCond .eq 12, 3) := by decide +kernel
theorem dX0_moveRing_61 : decode cX0_moveRing 61 = .ok (.aload_n 0, 1) := by decide +kernel
theorem dX0_moveRing_62 : decode cX0_moveRing 62 = .ok (.iload_n 3, 1) := by decide +kernel
theorem dX0_moveRing_63 : decode cX0_moveRing 63 = .ok (.iload_n 1, 1) := by decide +kernel
theorem dX0_moveRing_64 : decode cX0_moveRing 64 = .ok (.invokevirtual 88, 3) := by decide +kernel
theorem dX0_moveRing_67 : decode cX0_moveRing 67 = .ok (.ifCond .ne 6, 3) := by decide +kernel
theorem dX0_moveRing_70 : decode cX0_moveRing 70 = .ok (.bipush (-2), 2) := by decide +kernel
theorem dX0_moveRing_72 : decode cX0_moveRing 72 = .ok (.ireturn, 1) := by decide +kernel
theorem dX0_moveRing_73 : decode cX0_moveRing 73 = .ok (.aload_n 0, 1) := by decide +kernel
theorem dX0_moveRing_74 : decode cX0_moveRing 74 = .ok (.getfield 15, 3) := by decide +kernel
theorem dX0_moveRing_77 : decode cX0_moveRing 77 = .ok (.iload_n 1, 1) := by decide +kernel
theorem dX0_moveRing_78 : decode cX0_moveRing 78 = .ok (.invokestatic 67, 3) := by decide +kernel
theorem dX0_moveRing_81 : decode cX0_moveRing 81 = .ok (.aload_n 0, 1) := by decide +kernel
theorem dX0_moveRing_82 : decode cX0_moveRing 82 = .ok (.getfield 15, 3) := by decide +kernel
theorem dX0_moveRing_85 : decode cX0_moveRing 85 = .ok (.iload_n 2, 1) := by decide +kernel
theorem dX0_moveRing_86 : decode cX0_moveRing 86 = .ok (.invokestatic 67, 3) := by decide +kernel
theorem dX0_moveRing_89 : decode cX0_moveRing 89 = .ok (.iadd, 1) := by decide +kernel
theorem dX0_moveRing_90 : decode cX0_moveRing 90 = .ok (.aload_n 0, 1) := by decide +kernel
theorem dX0_moveRing_91 : decode cX0_moveRing 91 = .ok (.getfield 15, 3) := by decide +kernel
theorem dX0_moveRing_94 : decode cX0_moveRing 94 = .ok (.iload_n 3, 1) := by decide +kernel
theorem dX0_moveRing_95 : decode cX0_moveRing 95 = .ok (.invokestatic 67, 3) := by decide +kernel
theorem dX0_moveRing_98 : decode cX0_moveRing 98 = .ok (.iadd, 1) := by decide +kernel
theorem dX0_moveRing_99 : decode cX0_moveRing 99 = .ok (.aload_n 0, 1) := by decide +kernel
theorem dX0_moveRing_100 : decode cX0_moveRing 100 = .ok (.getfield 43, 3) := by decide +kernel
theorem dX0_moveRing_103 : decode cX0_moveRing 103 = .ok (.if_icmp .le 6, 3) := by decide +kernel
theorem dX0_moveRing_106 : decode cX0_moveRing 106 = .ok (.bipush (-2), 2) := by decide +kernel
theorem dX0_moveRing_108 : decode cX0_moveRing 108 = .ok (.ireturn, 1) := by decide +kernel
theorem dX0_moveRing_109 : decode cX0_moveRing 109 = .ok (.aload_n 0, 1) := by decide +kernel
theorem dX0_moveRing_110 : decode cX0_moveRing 110 = .ok (.getfield 18, 3) := by decide +kernel
theorem dX0_moveRing_113 : decode cX0_moveRing 113 = .ok (.iload_n 1, 1) := by decide +kernel
theorem dX0_moveRing_114 : decode cX0_moveRing 114 = .ok (.invokestatic 67, 3) := by decide +kernel
theorem dX0_moveRing_117 : decode cX0_moveRing 117 = .ok (.istore 4, 2) := by decide +kernel
theorem dX0_moveRing_119 : decode cX0_moveRing 119 = .ok (.aload_n 0, 1) := by decide +kernel
theorem dX0_moveRing_120 : decode cX0_moveRing 120 = .ok (.iload_n 1, 1) := by decide +kernel
theorem dX0_moveRing_121 : decode cX0_moveRing 121 = .ok (.aload_n 0, 1) := by decide +kernel
theorem dX0_moveRing_122 : decode cX0_moveRing 122 = .ok (.getfield 18, 3) := by decide +kernel
theorem dX0_moveRing_125 : decode cX0_moveRing 125 = .ok (.iload_n 2, 1) := by decide +kernel
theorem dX0_moveRing_126 : decode cX0_moveRing 126 = .ok (.invokestatic 67, 3) := by decide +kernel
theorem dX0_moveRing_129 : decode cX0_moveRing 129 = .ok (.invokevirtual 81, 3) := by decide +kernel
theorem dX0_moveRing_132 : decode cX0_moveRing 132 = .ok (.aload_n 0, 1) := by decide +kernel
theorem dX0_moveRing_133 : decode cX0_moveRing 133 = .ok (.iload_n 2, 1) := by decide +kernel
theorem dX0_moveRing_134 : decode cX0_moveRing 134 = .ok (.aload_n 0, 1) := by decide +kernel
theorem dX0_moveRing_135 : decode cX0_moveRing 135 = .ok (.getfield 18, 3) := by decide +kernel
theorem dX0_moveRing_138 : decode cX0_moveRing 138 = .ok (.iload_n 3, 1) := by decide +kernel
theorem dX0_moveRing_139 : decode cX0_moveRing 139 = .ok (.invokestatic 67, 3) := by decide +kernel
theorem dX0_moveRing_142 : decode cX0_moveRing 142 = .ok (.invokevirtual 81, 3) := by decide +kernel
theorem dX0_moveRing_145 : decode cX0_moveRing 145 = .ok (.aload_n 0, 1) := by decide +kernel
theorem dX0_moveRing_146 : decode cX0_moveRing 146 = .ok (.iload_n 3, 1) := by decide +kernel
theorem dX0_moveRing_147 : decode cX0_moveRing 147 = .ok (.iload 4, 2) := by decide +kernel
theorem dX0_moveRing_149 : decode cX0_moveRing 149 = .ok (.invokevirtual 81, 3) := by decide +kernel
theorem dX0_moveRing_152 : decode cX0_moveRing 152 = .ok (.aload_n 0, 1) := by decide +kernel
theorem dX0_moveRing_153 : decode cX0_moveRing 153 = .ok (.invokevirtual 85, 3) := by decide +kernel
theorem dX0_moveRing_156 : decode cX0_moveRing 156 = .ok (.ireturn, 1) := by decide +kernel
set_option maxRecDepth 20000 in
theorem ggX0_closeServer_X0_hasServer : GoodIn wsX0_closeServer wsX0_hasServer := goodIn_r _ [7, 8, 69, 70, 71, 72, 73, 74, 75, 76, 77, 78, 79, 80, 81] (by decide +kernel) (by decide +kernel)
set_option maxRecDepth 20000 in
theorem gX0_closeServer_X0_hasServer : GoodIn wsX0_closeServer (wsV RX0 60 RX0 yX0_hasServer wsX0_hasServer) := goodIn_app (goodIn_of _ (by decide +kernel)) ggX0_closeServer_X0_hasServer
set_option maxRecDepth 20000 in
theorem ggX0_closeServer_X0_isOpen : GoodIn wsX0_closeServer wsX0_isOpen := goodIn_r _ [12, 13, 14, 15, 16, 69, 70, 71, 72, 73, 74, 75, 76, 77, 78, 79, 80, 81] (by decide +kernel) (by decide +kernel)
set_option maxRecDepth 20000 in
theorem gX0_closeServer_X0_isOpen : GoodIn wsX0_closeServer (wsV RX0 64 RX0 yX0_isOpen wsX0_isOpen) := goodIn_app (goodIn_of _ (by decide +kernel)) ggX0_closeServer_X0_isOpen
set_option maxRecDepth 20000 in
theorem ggX0_closeServer_X0_priceOfAll : GoodIn wsX0_closeServer wsX0_priceOfAll := goodIn_r _ [20, 21, 22, 23, 14, 15, 16, 69, 70, 71, 72, 73, 74, 75, 76, 77, 78, 79, 80, 81] (by decide +kernel) (by decide +kernel)
set_option maxRecDepth 20000 in
theorem gX0_closeServer_X0_priceOfAll : GoodIn wsX0_closeServer (wsV RX0 92 RX0 yX0_priceOfAll wsX0_priceOfAll) := goodIn_app (goodIn_of _ (by decide +kernel)) ggX0_closeServer_X0_priceOfAll
set_option maxRecDepth 20000 in
theorem ggX0_closeServer_X0_closeAndEmpty : GoodIn wsX0_closeServer wsX0_closeAndEmpty := goodIn_r _ [27, 13, 1, 28, 15, 29, 30, 31, 32, 6, 33, 21, 22, 14, 16, 34, 35, 36, 37, 38, 39, 40, 41, 42, 43, 44, 45, 46, 47, 48, 49, 50, 51, 52, 53, 23, 54, 55, 56, 57, 8, 58, 59, 60, 61, 62, 63, 64, 2, 65, 66, 67, 68, 69, 70, 71, 72, 73, 74, 75, 76, 77, 78, 79, 80, 81] (by decide +kernel) (by decide +kernel)
set_option maxRecDepth 20000 in
theorem gX0_closeServer_X0_closeAndEmpty : GoodIn wsX0_closeServer (wsV RX0 96 RX0 yX0_closeAndEmpty wsX0_closeAndEmpty) := goodIn_app (goodIn_of _ (by decide +kernel)) ggX0_closeServer_X0_closeAndEmpty
theorem dX0_closeServer_0 : decode cX0_closeServer 0 = .ok (.aload_n 0, 1) := by decide +kernel
theorem dX0_closeServer_1 : decode cX0_closeServer 1 = .ok (.iload_n 1, 1) := by decide +kernel
theorem dX0_closeServer_2 : decode cX0_closeServer 2 = .ok (.invokevirtual 60, 3) := by decide +kernel
theorem dX0_closeServer_5 : decode cX0_closeServer 5 = .ok (.ifCond .ne 5, 3) := by decide +kernel
theorem dX0_closeServer_8 : decode cX0_closeServer 8 = .ok (.iconst (-1), 1) := by decide +kernel
theorem dX0_closeServer_9 : decode cX0_closeServer 9 = .ok (.ireturn, 1) := by decide +kernel
theorem dX0_closeServer_10 : decode cX0_closeServer 10 = .ok (.aload_n 0, 1) := by decide +kernel
theorem dX0_closeServer_11 : decode cX0_closeServer 11 = .ok (.iload_n 1, 1) := by decide +kernel
theorem dX0_closeServer_12 : decode cX0_closeServer 12 = .ok (.invokevirtual 64, 3) := by decide +kernel
theorem dX0_closeServer_15 : decode cX0_closeServer 15 = .ok (.ifCond .eq 23, 3) := by decide +kernel
theorem dX0_closeServer_18 : decode cX0_closeServer 18 = .ok (.aload_n 0, 1) := by decide +kernel
theorem dX0_closeServer_19 : decode cX0_closeServer 19 = .ok (.getfield 34, 3) := by decide +kernel
theorem dX0_closeServer_22 : decode cX0_closeServer 22 = .ok (.iconst 1, 1) := by decide +kernel
theorem dX0_closeServer_23 : decode cX0_closeServer 23 = .ok (.if_icmp .le 15, 3) := by decide +kernel
theorem dX0_closeServer_26 : decode cX0_closeServer 26 = .ok (.aload_n 0, 1) := by decide +kernel
theorem dX0_closeServer_27 : decode cX0_closeServer 27 = .ok (.iload_n 1, 1) := by decide +kernel
theorem dX0_closeServer_28 : decode cX0_closeServer 28 = .ok (.invokevirtual 92, 3) := by decide +kernel
theorem dX0_closeServer_31 : decode cX0_closeServer 31 = .ok (.aload_n 0, 1) := by decide +kernel
theorem dX0_closeServer_32 : decode cX0_closeServer 32 = .ok (.getfield 43, 3) := by decide +kernel
theorem dX0_closeServer_35 : decode cX0_closeServer 35 = .ok (.if_icmp .le 6, 3) := by decide +kernel
theorem dX0_closeServer_38 : decode cX0_closeServer 38 = .ok (.bipush (-2), 2) := by decide +kernel
theorem dX0_closeServer_40 : decode cX0_closeServer 40 = .ok (.ireturn, 1) := by decide +kernel
theorem dX0_closeServer_41 : decode cX0_closeServer 41 = .ok (.aload_n 0, 1) := by decide +kernel
theorem dX0_closeServer_42 : decode cX0_closeServer 42 = .ok (.iload_n 1, 1) := by decide +kernel
theorem dX0_closeServer_43 : decode cX0_closeServer 43 = .ok (.invokevirtual 96, 3) := by decide +kernel
theorem dX0_closeServer_46 : decode cX0_closeServer 46 = .ok (.ireturn, 1) := by decide +kernel
set_option maxRecDepth 20000 in
theorem ggX0_openServer_X0_hasServer : GoodIn wsX0_openServer wsX0_hasServer := goodIn_r _ [7, 8, 18, 19, 20, 21, 22, 23, 24, 25, 26, 27, 28, 29, 30] (by decide +kernel) (by decide +kernel)
set_option maxRecDepth 20000 in
theorem gX0_openServer_X0_hasServer : GoodIn wsX0_openServer (wsV RX0 60 RX0 yX0_hasServer wsX0_hasServer) := goodIn_app (goodIn_of _ (by decide +kernel)) ggX0_openServer_X0_hasServer
set_option maxRecDepth 20000 in
theorem ggX0_openServer_X0_isOpen : GoodIn wsX0_openServer wsX0_isOpen := goodIn_r _ [12, 1, 13, 14, 15, 18, 19, 20, 21, 22, 23, 24, 25, 26, 27, 28, 29, 30] (by decide +kernel) (by decide +kernel)
set_option maxRecDepth 20000 in
theorem gX0_openServer_X0_isOpen : GoodIn wsX0_openServer (wsV RX0 64 RX0 yX0_isOpen wsX0_isOpen) := goodIn_app (goodIn_of _ (by decide +kernel)) ggX0_openServer_X0_isOpen
set_option maxRecDepth 20000 in
theorem ggX0_openServer_X4_put : GoodIn wsX0_openServer wsX4_put := goodIn_r _ [17] (by decide +kernel) (by decide +kernel)
set_option maxRecDepth 20000 in
theorem gX0_openServer_X4_put_n56 : GoodIn wsX0_openServer (wsX4_put) := ggX0_openServer_X4_put
theorem dX0_openServer_0 : decode cX0_openServer 0 = .ok (.aload_n 0, 1) := by decide +kernel
theorem dX0_openServer_1 : decode cX0_openServer 1 = .ok (.iload_n 1, 1) := by decide +kernel
theorem dX0_openServer_2 : decode cX0_openServer 2 = .ok (.invokevirtual 60, 3) := by decide +kernel
theorem dX0_openServer_5 : decode cX0_openServer 5 = .ok (.ifCond .ne 5, 3) := by decide +kernel
theorem dX0_openServer_8 : decode cX0_openServer 8 = .ok (.iconst (-1), 1) := by decide +kernel
theorem dX0_openServer_9 : decode cX0_openServer 9 = .ok (.ireturn, 1) := by decide +kernel
theorem dX0_openServer_10 : decode cX0_openServer 10 = .ok (.aload_n 0, 1) := by decide +kernel
theorem dX0_openServer_11 : decode cX0_openServer 11 = .ok (.iload_n 1, 1) := by decide +kernel
theorem dX0_openServer_12 : decode cX0_openServer 12 = .ok (.invokevirtual 64, 3) := by decide +kernel
theorem dX0_openServer_15 : decode cX0_openServer 15 = .ok (.ifCond .eq 6, 3) := by decide +kernel
theorem dX0_openServer_18 : decode cX0_openServer 18 = .ok (.bipush (-2), 2) := by decide +kernel
theorem dX0_openServer_20 : decode cX0_openServer 20 = .ok (.ireturn, 1) := by decide +kernel
theorem dX0_openServer_21 : decode cX0_openServer 21 = .ok (.aload_n 0, 1) := by decide +kernel
theorem dX0_openServer_22 : decode cX0_openServer 22 = .ok (.getfield 27, 3) := by decide +kernel
theorem dX0_openServer_25 : decode cX0_openServer 25 = .ok (.iload_n 1, 1) := by decide +kernel
theorem dX0_openServer_26 : decode cX0_openServer 26 = .ok (.iconst 1, 1) := by decide +kernel
theorem dX0_openServer_27 : decode cX0_openServer 27 = .ok (.invokestatic 56, 3) := by decide +kernel
theorem dX0_openServer_30 : decode cX0_openServer 30 = .ok (.aload_n 0, 1) := by decide +kernel
theorem dX0_openServer_31 : decode cX0_openServer 31 = .ok (.dup, 1) := by decide +kernel
theorem dX0_openServer_32 : decode cX0_openServer 32 = .ok (.getfield 34, 3) := by decide +kernel
theorem dX0_openServer_35 : decode cX0_openServer 35 = .ok (.iconst 1, 1) := by decide +kernel
theorem dX0_openServer_36 : decode cX0_openServer 36 = .ok (.iadd, 1) := by decide +kernel
theorem dX0_openServer_37 : decode cX0_openServer 37 = .ok (.putfield 34, 3) := by decide +kernel
theorem dX0_openServer_40 : decode cX0_openServer 40 = .ok (.aload_n 0, 1) := by decide +kernel
theorem dX0_openServer_41 : decode cX0_openServer 41 = .ok (.getfield 34, 3) := by decide +kernel
theorem dX0_openServer_44 : decode cX0_openServer 44 = .ok (.ireturn, 1) := by decide +kernel
set_option maxRecDepth 20000 in
theorem ggX0_closeAndEmpty_X4_put : GoodIn wsX0_closeAndEmpty wsX4_put := goodIn_r _ [5] (by decide +kernel) (by decide +kernel)
set_option maxRecDepth 20000 in
theorem gX0_closeAndEmpty_X4_put_n56 : GoodIn wsX0_closeAndEmpty (wsX4_put) := ggX0_closeAndEmpty_X4_put
set_option maxRecDepth 20000 in
theorem ggX0_closeAndEmpty_X0_jobsOn : GoodIn wsX0_closeAndEmpty wsX0_jobsOn := goodIn_r _ [10, 11, 12, 13, 4, 14, 53, 54, 55, 56, 57, 58, 59, 60, 61, 62, 63, 64, 65] (by decide +kernel) (by decide +kernel)
set_option maxRecDepth 20000 in
theorem gX0_closeAndEmpty_X0_jobsOn : GoodIn wsX0_closeAndEmpty (wsV RX0 99 RX0 yX0_jobsOn wsX0_jobsOn) := goodIn_app (goodIn_of _ (by decide +kernel)) ggX0_closeAndEmpty_X0_jobsOn
set_option maxRecDepth 20000 in
theorem ggX0_closeAndEmpty_J6_bitCount_0f7a4 : GoodIn wsX0_closeAndEmpty wsJ6_bitCount_0f7a4 := goodIn_r _ [18, 19, 20, 21] (by decide +kernel) (by decide +kernel)
set_option maxRecDepth 20000 in
theorem gX0_closeAndEmpty_J6_bitCount_0f7a4 : GoodIn wsX0_closeAndEmpty (va_wsS RX0 102 yJ6_bitCount_0f7a4 wsJ6_bitCount_0f7a4) := goodIn_app (goodIn_of _ (by decide +kernel)) ggX0_closeAndEmpty_J6_bitCount_0f7a4
set_option maxRecDepth 20000 in
theorem ggX0_closeAndEmpty_X0_leavingJob : GoodIn wsX0_closeAndEmpty wsX0_leavingJob := goodIn_r _ [25, 11, 12, 13, 4, 14, 26, 27, 28, 9, 29, 30, 31, 32, 33, 34, 35, 53, 54, 55, 56, 57, 58, 59, 60, 61, 62, 63, 64, 65] (by decide +kernel) (by decide +kernel)
set_option maxRecDepth 20000 in
theorem gX0_closeAndEmpty_X0_leavingJob : GoodIn wsX0_closeAndEmpty (wsV RX0 107 RX0 yX0_leavingJob wsX0_leavingJob) := goodIn_app (goodIn_of _ (by decide +kernel)) ggX0_closeAndEmpty_X0_leavingJob
set_option maxRecDepth 20000 in
theorem ggX0_closeAndEmpty_X0_emptiestServer : GoodIn wsX0_closeAndEmpty wsX0_emptiestServer := goodIn_r _ [39, 40, 41, 1, 13, 4, 14, 53, 54, 55, 56, 57, 58, 59, 60, 61, 62, 63, 64, 65] (by decide +kernel) (by decide +kernel)
set_option maxRecDepth 20000 in
theorem gX0_closeAndEmpty_X0_emptiestServer : GoodIn wsX0_closeAndEmpty (wsV RX0 111 RX0 yX0_emptiestServer wsX0_emptiestServer) := goodIn_app (goodIn_of _ (by decide +kernel)) ggX0_closeAndEmpty_X0_emptiestServer
set_option maxRecDepth 20000 in
theorem ggX0_closeAndEmpty_X0_takeTo : GoodIn wsX0_closeAndEmpty wsX0_takeTo := goodIn_r _ [45, 34, 12, 46, 47, 48, 35, 13, 4, 14, 49, 50, 51, 9, 52, 41, 3, 5, 53, 54, 55, 56, 57, 58, 59, 60, 61, 62, 63, 64, 65] (by decide +kernel) (by decide +kernel)
set_option maxRecDepth 20000 in
theorem gX0_closeAndEmpty_X0_takeTo : GoodIn wsX0_closeAndEmpty (wsV RX0 81 RX0 yX0_takeTo wsX0_takeTo) := goodIn_app (goodIn_of _ (by decide +kernel)) ggX0_closeAndEmpty_X0_takeTo
theorem dX0_closeAndEmpty_0 : decode cX0_closeAndEmpty 0 = .ok (.aload_n 0, 1) := by decide +kernel
theorem dX0_closeAndEmpty_1 : decode cX0_closeAndEmpty 1 = .ok (.getfield 27, 3) := by decide +kernel
theorem dX0_closeAndEmpty_4 : decode cX0_closeAndEmpty 4 = .ok (.iload_n 1, 1) := by decide +kernel
theorem dX0_closeAndEmpty_5 : decode cX0_closeAndEmpty 5 = .ok (.iconst 0, 1) := by decide +kernel
theorem dX0_closeAndEmpty_6 : decode cX0_closeAndEmpty 6 = .ok (.invokestatic 56, 3) := by decide +kernel
theorem dX0_closeAndEmpty_9 : decode cX0_closeAndEmpty 9 = .ok (.aload_n 0, 1) := by decide +kernel
theorem dX0_closeAndEmpty_10 : decode cX0_closeAndEmpty 10 = .ok (.dup, 1) := by decide +kernel
theorem dX0_closeAndEmpty_11 : decode cX0_closeAndEmpty 11 = .ok (.getfield 34, 3) := by decide +kernel
theorem dX0_closeAndEmpty_14 : decode cX0_closeAndEmpty 14 = .ok (.iconst 1, 1) := by decide +kernel
theorem dX0_closeAndEmpty_15 : decode cX0_closeAndEmpty 15 = .ok (.isub, 1) := by decide +kernel
theorem dX0_closeAndEmpty_16 : decode cX0_closeAndEmpty 16 = .ok (.putfield 34, 3) := by decide +kernel
theorem dX0_closeAndEmpty_19 : decode cX0_closeAndEmpty 19 = .ok (.aload_n 0, 1) := by decide +kernel
theorem dX0_closeAndEmpty_20 : decode cX0_closeAndEmpty 20 = .ok (.iload_n 1, 1) := by decide +kernel
theorem dX0_closeAndEmpty_21 : decode cX0_closeAndEmpty 21 = .ok (.invokevirtual 99, 3) := by decide +kernel
theorem dX0_closeAndEmpty_24 : decode cX0_closeAndEmpty 24 = .ok (.invokestatic 102, 3) := by decide +kernel
theorem dX0_closeAndEmpty_27 : decode cX0_closeAndEmpty 27 = .ok (.istore_n 2, 1) := by decide +kernel
theorem dX0_closeAndEmpty_28 : decode cX0_closeAndEmpty 28 = .ok (.iconst 0, 1) := by decide +kernel
theorem dX0_closeAndEmpty_29 : decode cX0_closeAndEmpty 29 = .ok (.istore_n 3, 1) := by decide +kernel
theorem dX0_closeAndEmpty_30 : decode cX0_closeAndEmpty 30 = .ok (.iload_n 3, 1) := by decide +kernel
theorem dX0_closeAndEmpty_31 : decode cX0_closeAndEmpty 31 = .ok (.iload_n 2, 1) := by decide +kernel
theorem dX0_closeAndEmpty_32 : decode cX0_closeAndEmpty 32 = .ok (.if_icmp .ge 23, 3) := by decide +kernel
theorem dX0_closeAndEmpty_35 : decode cX0_closeAndEmpty 35 = .ok (.aload_n 0, 1) := by decide +kernel
theorem dX0_closeAndEmpty_36 : decode cX0_closeAndEmpty 36 = .ok (.aload_n 0, 1) := by decide +kernel
theorem dX0_closeAndEmpty_37 : decode cX0_closeAndEmpty 37 = .ok (.iload_n 1, 1) := by decide +kernel
theorem dX0_closeAndEmpty_38 : decode cX0_closeAndEmpty 38 = .ok (.iconst 0, 1) := by decide +kernel
theorem dX0_closeAndEmpty_39 : decode cX0_closeAndEmpty 39 = .ok (.invokevirtual 107, 3) := by decide +kernel
theorem dX0_closeAndEmpty_42 : decode cX0_closeAndEmpty 42 = .ok (.aload_n 0, 1) := by decide +kernel
theorem dX0_closeAndEmpty_43 : decode cX0_closeAndEmpty 43 = .ok (.invokevirtual 111, 3) := by decide +kernel
theorem dX0_closeAndEmpty_46 : decode cX0_closeAndEmpty 46 = .ok (.invokevirtual 81, 3) := by decide +kernel
theorem dX0_closeAndEmpty_49 : decode cX0_closeAndEmpty 49 = .ok (.iinc 3 1, 3) := by decide +kernel
theorem dX0_closeAndEmpty_52 : decode cX0_closeAndEmpty 52 = .ok (.goto (-22), 3) := by decide +kernel
theorem dX0_closeAndEmpty_55 : decode cX0_closeAndEmpty 55 = .ok (.iload_n 2, 1) := by decide +kernel
theorem dX0_closeAndEmpty_56 : decode cX0_closeAndEmpty 56 = .ok (.ireturn, 1) := by decide +kernel
set_option maxRecDepth 20000 in
theorem ggX0_takeTo_X4_at : GoodIn wsX0_takeTo wsX4_at := goodIn_r _ [9] (by decide +kernel) (by decide +kernel)
set_option maxRecDepth 20000 in
theorem gX0_takeTo_X4_at_n67 : GoodIn wsX0_takeTo (wsX4_at) := ggX0_takeTo_X4_at
set_option maxRecDepth 20000 in
theorem ggX0_takeTo_X0_shiftLoad : GoodIn wsX0_takeTo wsX0_shiftLoad := goodIn_r _ [14, 15, 7, 8, 9, 16, 17, 18, 19, 20, 21, 22, 23, 24, 25, 26, 27, 28, 29, 30] (by decide +kernel) (by decide +kernel)
set_option maxRecDepth 20000 in
theorem gX0_takeTo_X0_shiftLoad : GoodIn wsX0_takeTo (wsV RX0 114 RX0 yX0_shiftLoad wsX0_shiftLoad) := goodIn_app (goodIn_of _ (by decide +kernel)) ggX0_takeTo_X0_shiftLoad
set_option maxRecDepth 20000 in
theorem ggX0_takeTo_X4_put : GoodIn wsX0_takeTo wsX4_put := goodIn_r _ [17] (by decide +kernel) (by decide +kernel)
set_option maxRecDepth 20000 in
theorem gX0_takeTo_X4_put_n56 : GoodIn wsX0_takeTo (wsX4_put) := ggX0_takeTo_X4_put
theorem dX0_takeTo_0 : decode cX0_takeTo 0 = .ok (.aload_n 0, 1) := by decide +kernel
theorem dX0_takeTo_1 : decode cX0_takeTo 1 = .ok (.aload_n 0, 1) := by decide +kernel
theorem dX0_takeTo_2 : decode cX0_takeTo 2 = .ok (.getfield 9, 3) := by decide +kernel
theorem dX0_takeTo_5 : decode cX0_takeTo 5 = .ok (.iload_n 1, 1) := by decide +kernel
theorem dX0_takeTo_6 : decode cX0_takeTo 6 = .ok (.invokestatic 67, 3) := by decide +kernel
theorem dX0_takeTo_9 : decode cX0_takeTo 9 = .ok (.aload_n 0, 1) := by decide +kernel
theorem dX0_takeTo_10 : decode cX0_takeTo 10 = .ok (.getfield 18, 3) := by decide +kernel
theorem dX0_takeTo_13 : decode cX0_takeTo 13 = .ok (.iload_n 1, 1) := by decide +kernel
theorem dX0_takeTo_14 : decode cX0_takeTo 14 = .ok (.invokestatic 67, 3) := by decide +kernel
theorem dX0_takeTo_17 : decode cX0_takeTo 17 = .ok (.iload_n 2, 1) := by decide +kernel
theorem dX0_takeTo_18 : decode cX0_takeTo 18 = .ok (.invokevirtual 114, 3) := by decide +kernel
theorem dX0_takeTo_21 : decode cX0_takeTo 21 = .ok (.aload_n 0, 1) := by decide +kernel
theorem dX0_takeTo_22 : decode cX0_takeTo 22 = .ok (.getfield 18, 3) := by decide +kernel
theorem dX0_takeTo_25 : decode cX0_takeTo 25 = .ok (.iload_n 1, 1) := by decide +kernel
theorem dX0_takeTo_26 : decode cX0_takeTo 26 = .ok (.iload_n 2, 1) := by decide +kernel
theorem dX0_takeTo_27 : decode cX0_takeTo 27 = .ok (.invokestatic 56, 3) := by decide +kernel
theorem dX0_takeTo_30 : decode cX0_takeTo 30 = .ok (.aload_n 0, 1) := by decide +kernel
theorem dX0_takeTo_31 : decode cX0_takeTo 31 = .ok (.getfield 21, 3) := by decide +kernel
theorem dX0_takeTo_34 : decode cX0_takeTo 34 = .ok (.iload_n 1, 1) := by decide +kernel
theorem dX0_takeTo_35 : decode cX0_takeTo 35 = .ok (.aload_n 0, 1) := by decide +kernel
theorem dX0_takeTo_36 : decode cX0_takeTo 36 = .ok (.getfield 21, 3) := by decide +kernel
theorem dX0_takeTo_39 : decode cX0_takeTo 39 = .ok (.iload_n 1, 1) := by decide +kernel
theorem dX0_takeTo_40 : decode cX0_takeTo 40 = .ok (.invokestatic 67, 3) := by decide +kernel
theorem dX0_takeTo_43 : decode cX0_takeTo 43 = .ok (.iconst 1, 1) := by decide +kernel
theorem dX0_takeTo_44 : decode cX0_takeTo 44 = .ok (.iadd, 1) := by decide +kernel
theorem dX0_takeTo_45 : decode cX0_takeTo 45 = .ok (.invokestatic 56, 3) := by decide +kernel
theorem dX0_takeTo_48 : decode cX0_takeTo 48 = .ok (.aload_n 0, 1) := by decide +kernel
theorem dX0_takeTo_49 : decode cX0_takeTo 49 = .ok (.dup, 1) := by decide +kernel
theorem dX0_takeTo_50 : decode cX0_takeTo 50 = .ok (.getfield 49, 3) := by decide +kernel
theorem dX0_takeTo_53 : decode cX0_takeTo 53 = .ok (.iconst 1, 1) := by decide +kernel
theorem dX0_takeTo_54 : decode cX0_takeTo 54 = .ok (.iadd, 1) := by decide +kernel
theorem dX0_takeTo_55 : decode cX0_takeTo 55 = .ok (.putfield 49, 3) := by decide +kernel
theorem dX0_takeTo_58 : decode cX0_takeTo 58 = .ok (.aload_n 0, 1) := by decide +kernel
theorem dX0_takeTo_59 : decode cX0_takeTo 59 = .ok (.dup, 1) := by decide +kernel
theorem dX0_takeTo_60 : decode cX0_takeTo 60 = .ok (.getfield 43, 3) := by decide +kernel
theorem dX0_takeTo_63 : decode cX0_takeTo 63 = .ok (.aload_n 0, 1) := by decide +kernel
theorem dX0_takeTo_64 : decode cX0_takeTo 64 = .ok (.getfield 15, 3) := by decide +kernel
theorem dX0_takeTo_67 : decode cX0_takeTo 67 = .ok (.iload_n 1, 1) := by decide +kernel
theorem dX0_takeTo_68 : decode cX0_takeTo 68 = .ok (.invokestatic 67, 3) := by decide +kernel
theorem dX0_takeTo_71 : decode cX0_takeTo 71 = .ok (.isub, 1) := by decide +kernel
theorem dX0_takeTo_72 : decode cX0_takeTo 72 = .ok (.putfield 43, 3) := by decide +kernel
theorem dX0_takeTo_75 : decode cX0_takeTo 75 = .ok (.return_, 1) := by decide +kernel
set_option maxRecDepth 20000 in
theorem ggX0_shiftLoad_X4_at : GoodIn wsX0_shiftLoad wsX4_at := goodIn_r _ [4] (by decide +kernel) (by decide +kernel)
set_option maxRecDepth 20000 in
theorem gX0_shiftLoad_X4_at_n67 : GoodIn wsX0_shiftLoad (wsX4_at) := ggX0_shiftLoad_X4_at
set_option maxRecDepth 20000 in
theorem ggX0_shiftLoad_X4_put : GoodIn wsX0_shiftLoad wsX4_put := goodIn_r _ [6] (by decide +kernel) (by decide +kernel)
set_option maxRecDepth 20000 in
theorem gX0_shiftLoad_X4_put_n56 : GoodIn wsX0_shiftLoad (wsX4_put) := ggX0_shiftLoad_X4_put
theorem dX0_shiftLoad_0 : decode cX0_shiftLoad 0 = .ok (.aload_n 0, 1) := by decide +kernel
theorem dX0_shiftLoad_1 : decode cX0_shiftLoad 1 = .ok (.getfield 24, 3) := by decide +kernel
theorem dX0_shiftLoad_4 : decode cX0_shiftLoad 4 = .ok (.iload_n 2, 1) := by decide +kernel
theorem dX0_shiftLoad_5 : decode cX0_shiftLoad 5 = .ok (.aload_n 0, 1) := by decide +kernel
theorem dX0_shiftLoad_6 : decode cX0_shiftLoad 6 = .ok (.getfield 24, 3) := by decide +kernel
theorem dX0_shiftLoad_9 : decode cX0_shiftLoad 9 = .ok (.iload_n 2, 1) := by decide +kernel
theorem dX0_shiftLoad_10 : decode cX0_shiftLoad 10 = .ok (.invokestatic 67, 3) := by decide +kernel
theorem dX0_shiftLoad_13 : decode cX0_shiftLoad 13 = .ok (.iload_n 1, 1) := by decide +kernel
theorem dX0_shiftLoad_14 : decode cX0_shiftLoad 14 = .ok (.isub, 1) := by decide +kernel
theorem dX0_shiftLoad_15 : decode cX0_shiftLoad 15 = .ok (.invokestatic 56, 3) := by decide +kernel
theorem dX0_shiftLoad_18 : decode cX0_shiftLoad 18 = .ok (.aload_n 0, 1) := by decide +kernel
theorem dX0_shiftLoad_19 : decode cX0_shiftLoad 19 = .ok (.getfield 24, 3) := by decide +kernel
theorem dX0_shiftLoad_22 : decode cX0_shiftLoad 22 = .ok (.iload_n 3, 1) := by decide +kernel
theorem dX0_shiftLoad_23 : decode cX0_shiftLoad 23 = .ok (.aload_n 0, 1) := by decide +kernel
theorem dX0_shiftLoad_24 : decode cX0_shiftLoad 24 = .ok (.getfield 24, 3) := by decide +kernel
theorem dX0_shiftLoad_27 : decode cX0_shiftLoad 27 = .ok (.iload_n 3, 1) := by decide +kernel
theorem dX0_shiftLoad_28 : decode cX0_shiftLoad 28 = .ok (.invokestatic 67, 3) := by decide +kernel
theorem dX0_shiftLoad_31 : decode cX0_shiftLoad 31 = .ok (.iload_n 1, 1) := by decide +kernel
theorem dX0_shiftLoad_32 : decode cX0_shiftLoad 32 = .ok (.iadd, 1) := by decide +kernel
theorem dX0_shiftLoad_33 : decode cX0_shiftLoad 33 = .ok (.invokestatic 56, 3) := by decide +kernel
theorem dX0_shiftLoad_36 : decode cX0_shiftLoad 36 = .ok (.return_, 1) := by decide +kernel
theorem dX0_hasServer_0 : decode cX0_hasServer 0 = .ok (.iload_n 1, 1) := by decide +kernel
theorem dX0_hasServer_1 : decode cX0_hasServer 1 = .ok (.ifCond .lt 15, 3) := by decide +kernel
theorem dX0_hasServer_4 : decode cX0_hasServer 4 = .ok (.iload_n 1, 1) := by decide +kernel
theorem dX0_hasServer_5 : decode cX0_hasServer 5 = .ok (.aload_n 0, 1) := by decide +kernel
theorem dX0_hasServer_6 : decode cX0_hasServer 6 = .ok (.getfield 30, 3) := by decide +kernel
theorem dX0_hasServer_9 : decode cX0_hasServer 9 = .ok (.if_icmp .ge 7, 3) := by decide +kernel
theorem dX0_hasServer_12 : decode cX0_hasServer 12 = .ok (.iconst 1, 1) := by decide +kernel
theorem dX0_hasServer_13 : decode cX0_hasServer 13 = .ok (.goto 4, 3) := by decide +kernel
theorem dX0_hasServer_16 : decode cX0_hasServer 16 = .ok (.iconst 0, 1) := by decide +kernel
theorem dX0_hasServer_17 : decode cX0_hasServer 17 = .ok (.ireturn, 1) := by decide +kernel
theorem dX0_hasJob_0 : decode cX0_hasJob 0 = .ok (.iload_n 1, 1) := by decide +kernel
theorem dX0_hasJob_1 : decode cX0_hasJob 1 = .ok (.ifCond .lt 15, 3) := by decide +kernel
theorem dX0_hasJob_4 : decode cX0_hasJob 4 = .ok (.iload_n 1, 1) := by decide +kernel
theorem dX0_hasJob_5 : decode cX0_hasJob 5 = .ok (.aload_n 0, 1) := by decide +kernel
theorem dX0_hasJob_6 : decode cX0_hasJob 6 = .ok (.getfield 37, 3) := by decide +kernel
theorem dX0_hasJob_9 : decode cX0_hasJob 9 = .ok (.if_icmp .ge 7, 3) := by decide +kernel
theorem dX0_hasJob_12 : decode cX0_hasJob 12 = .ok (.iconst 1, 1) := by decide +kernel
theorem dX0_hasJob_13 : decode cX0_hasJob 13 = .ok (.goto 4, 3) := by decide +kernel
theorem dX0_hasJob_16 : decode cX0_hasJob 16 = .ok (.iconst 0, 1) := by decide +kernel
theorem dX0_hasJob_17 : decode cX0_hasJob 17 = .ok (.ireturn, 1) := by decide +kernel
set_option maxRecDepth 20000 in
theorem ggX0_isOpen_X4_at : GoodIn wsX0_isOpen wsX4_at := goodIn_r _ [4] (by decide +kernel) (by decide +kernel)
set_option maxRecDepth 20000 in
theorem gX0_isOpen_X4_at_n67 : GoodIn wsX0_isOpen (wsX4_at) := ggX0_isOpen_X4_at
theorem dX0_isOpen_0 : decode cX0_isOpen 0 = .ok (.aload_n 0, 1) := by decide +kernel
theorem dX0_isOpen_1 : decode cX0_isOpen 1 = .ok (.getfield 27, 3) := by decide +kernel
theorem dX0_isOpen_4 : decode cX0_isOpen 4 = .ok (.iload_n 1, 1) := by decide +kernel
theorem dX0_isOpen_5 : decode cX0_isOpen 5 = .ok (.invokestatic 67, 3) := by decide +kernel
theorem dX0_isOpen_8 : decode cX0_isOpen 8 = .ok (.iconst 1, 1) := by decide +kernel
theorem dX0_isOpen_9 : decode cX0_isOpen 9 = .ok (.if_icmp .ne 7, 3) := by decide +kernel
theorem dX0_isOpen_12 : decode cX0_isOpen 12 = .ok (.iconst 1, 1) := by decide +kernel
theorem dX0_isOpen_13 : decode cX0_isOpen 13 = .ok (.goto 4, 3) := by decide +kernel
theorem dX0_isOpen_16 : decode cX0_isOpen 16 = .ok (.iconst 0, 1) := by decide +kernel
theorem dX0_isOpen_17 : decode cX0_isOpen 17 = .ok (.ireturn, 1) := by decide +kernel
set_option maxRecDepth 20000 in
theorem ggX0_isFinished_X4_at : GoodIn wsX0_isFinished wsX4_at := goodIn_r _ [4] (by decide +kernel) (by decide +kernel)
set_option maxRecDepth 20000 in
theorem gX0_isFinished_X4_at_n67 : GoodIn wsX0_isFinished (wsX4_at) := ggX0_isFinished_X4_at
theorem dX0_isFinished_0 : decode cX0_isFinished 0 = .ok (.aload_n 0, 1) := by decide +kernel
theorem dX0_isFinished_1 : decode cX0_isFinished 1 = .ok (.getfield 18, 3) := by decide +kernel
theorem dX0_isFinished_4 : decode cX0_isFinished 4 = .ok (.iload_n 1, 1) := by decide +kernel
theorem dX0_isFinished_5 : decode cX0_isFinished 5 = .ok (.invokestatic 67, 3) := by decide +kernel
theorem dX0_isFinished_8 : decode cX0_isFinished 8 = .ok (.bipush (-9), 2) := by decide +kernel
theorem dX0_isFinished_10 : decode cX0_isFinished 10 = .ok (.if_icmp .ne 7, 3) := by decide +kernel
theorem dX0_isFinished_13 : decode cX0_isFinished 13 = .ok (.iconst 1, 1) := by decide +kernel
theorem dX0_isFinished_14 : decode cX0_isFinished 14 = .ok (.goto 4, 3) := by decide +kernel
theorem dX0_isFinished_17 : decode cX0_isFinished 17 = .ok (.iconst 0, 1) := by decide +kernel
theorem dX0_isFinished_18 : decode cX0_isFinished 18 = .ok (.ireturn, 1) := by decide +kernel
set_option maxRecDepth 20000 in
theorem ggX0_areApart_X0_isFinished : GoodIn wsX0_areApart wsX0_isFinished := goodIn_r _ [6, 1, 7, 8, 9, 10, 11, 12, 13, 14, 15, 16, 17, 18, 19, 20, 21, 22] (by decide +kernel) (by decide +kernel)
set_option maxRecDepth 20000 in
theorem gX0_areApart_X0_isFinished : GoodIn wsX0_areApart (wsV RX0 74 RX0 yX0_isFinished wsX0_isFinished) := goodIn_app (goodIn_of _ (by decide +kernel)) ggX0_areApart_X0_isFinished
set_option maxRecDepth 20000 in
theorem ggX0_areApart_X4_at : GoodIn wsX0_areApart wsX4_at := goodIn_r _ [9] (by decide +kernel) (by decide +kernel)
set_option maxRecDepth 20000 in
theorem gX0_areApart_X4_at_n67 : GoodIn wsX0_areApart (wsX4_at) := ggX0_areApart_X4_at
theorem dX0_areApart_0 : decode cX0_areApart 0 = .ok (.aload_n 0, 1) := by decide +kernel
theorem dX0_areApart_1 : decode cX0_areApart 1 = .ok (.iload_n 1, 1) := by decide +kernel
theorem dX0_areApart_2 : decode cX0_areApart 2 = .ok (.invokevirtual 74, 3) := by decide +kernel
theorem dX0_areApart_5 : decode cX0_areApart 5 = .ok (.ifCond .ne 34, 3) := by decide +kernel
theorem dX0_areApart_8 : decode cX0_areApart 8 = .ok (.aload_n 0, 1) := by decide +kernel
theorem dX0_areApart_9 : decode cX0_areApart 9 = .ok (.iload_n 2, 1) := by decide +kernel
theorem dX0_areApart_10 : decode cX0_areApart 10 = .ok (.invokevirtual 74, 3) := by decide +kernel
theorem dX0_areApart_13 : decode cX0_areApart 13 = .ok (.ifCond .ne 26, 3) := by decide +kernel
theorem dX0_areApart_16 : decode cX0_areApart 16 = .ok (.aload_n 0, 1) := by decide +kernel
theorem dX0_areApart_17 : decode cX0_areApart 17 = .ok (.getfield 18, 3) := by decide +kernel
theorem dX0_areApart_20 : decode cX0_areApart 20 = .ok (.iload_n 1, 1) := by decide +kernel
theorem dX0_areApart_21 : decode cX0_areApart 21 = .ok (.invokestatic 67, 3) := by decide +kernel
theorem dX0_areApart_24 : decode cX0_areApart 24 = .ok (.aload_n 0, 1) := by decide +kernel
theorem dX0_areApart_25 : decode cX0_areApart 25 = .ok (.getfield 18, 3) := by decide +kernel
theorem dX0_areApart_28 : decode cX0_areApart 28 = .ok (.iload_n 2, 1) := by decide +kernel
theorem dX0_areApart_29 : decode cX0_areApart 29 = .ok (.invokestatic 67, 3) := by decide +kernel
theorem dX0_areApart_32 : decode cX0_areApart 32 = .ok (.if_icmp .eq 7, 3) := by decide +kernel
theorem dX0_areApart_35 : decode cX0_areApart 35 = .ok (.iconst 1, 1) := by decide +kernel
theorem dX0_areApart_36 : decode cX0_areApart 36 = .ok (.goto 4, 3) := by decide +kernel
theorem dX0_areApart_39 : decode cX0_areApart 39 = .ok (.iconst 0, 1) := by decide +kernel
theorem dX0_areApart_40 : decode cX0_areApart 40 = .ok (.ireturn, 1) := by decide +kernel
set_option maxRecDepth 20000 in
theorem ggX0_finishedJobs_X0_isFinished : GoodIn wsX0_finishedJobs wsX0_isFinished := goodIn_r _ [6, 7, 8, 9, 10, 11, 12, 13, 14, 15, 16, 17, 18, 19, 20, 21, 22, 23] (by decide +kernel) (by decide +kernel)
set_option maxRecDepth 20000 in
theorem gX0_finishedJobs_X0_isFinished : GoodIn wsX0_finishedJobs (wsV RX0 74 RX0 yX0_isFinished wsX0_isFinished) := goodIn_app (goodIn_of _ (by decide +kernel)) ggX0_finishedJobs_X0_isFinished
theorem dX0_finishedJobs_0 : decode cX0_finishedJobs 0 = .ok (.iconst 0, 1) := by decide +kernel
theorem dX0_finishedJobs_1 : decode cX0_finishedJobs 1 = .ok (.istore_n 1, 1) := by decide +kernel
theorem dX0_finishedJobs_2 : decode cX0_finishedJobs 2 = .ok (.iconst 0, 1) := by decide +kernel
theorem dX0_finishedJobs_3 : decode cX0_finishedJobs 3 = .ok (.istore_n 2, 1) := by decide +kernel
theorem dX0_finishedJobs_4 : decode cX0_finishedJobs 4 = .ok (.iload_n 2, 1) := by decide +kernel
theorem dX0_finishedJobs_5 : decode cX0_finishedJobs 5 = .ok (.aload_n 0, 1) := by decide +kernel
theorem dX0_finishedJobs_6 : decode cX0_finishedJobs 6 = .ok (.getfield 37, 3) := by decide +kernel
theorem dX0_finishedJobs_9 : decode cX0_finishedJobs 9 = .ok (.if_icmp .ge 20, 3) := by decide +kernel
theorem dX0_finishedJobs_12 : decode cX0_finishedJobs 12 = .ok (.aload_n 0, 1) := by decide +kernel
theorem dX0_finishedJobs_13 : decode cX0_finishedJobs 13 = .ok (.iload_n 2, 1) := by decide +kernel
theorem dX0_finishedJobs_14 : decode cX0_finishedJobs 14 = .ok (.invokevirtual 74, 3) := by decide +kernel
theorem dX0_finishedJobs_17 : decode cX0_finishedJobs 17 = .ok (.ifCond .eq 6, 3) := by decide +kernel
theorem dX0_finishedJobs_20 : decode cX0_finishedJobs 20 = .ok (.iinc 1 1, 3) := by decide +kernel
theorem dX0_finishedJobs_23 : decode cX0_finishedJobs 23 = .ok (.iinc 2 1, 3) := by decide +kernel
theorem dX0_finishedJobs_26 : decode cX0_finishedJobs 26 = .ok (.goto (-22), 3) := by decide +kernel
theorem dX0_finishedJobs_29 : decode cX0_finishedJobs 29 = .ok (.iload_n 1, 1) := by decide +kernel
theorem dX0_finishedJobs_30 : decode cX0_finishedJobs 30 = .ok (.ireturn, 1) := by decide +kernel
set_option maxRecDepth 20000 in
theorem ggX0_jobsOn_X4_at : GoodIn wsX0_jobsOn wsX4_at := goodIn_r _ [5] (by decide +kernel) (by decide +kernel)
set_option maxRecDepth 20000 in
theorem gX0_jobsOn_X4_at_n67 : GoodIn wsX0_jobsOn (wsX4_at) := ggX0_jobsOn_X4_at
theorem dX0_jobsOn_0 : decode cX0_jobsOn 0 = .ok (.iconst 0, 1) := by decide +kernel
theorem dX0_jobsOn_1 : decode cX0_jobsOn 1 = .ok (.istore_n 2, 1) := by decide +kernel
theorem dX0_jobsOn_2 : decode cX0_jobsOn 2 = .ok (.iconst 0, 1) := by decide +kernel
theorem dX0_jobsOn_3 : decode cX0_jobsOn 3 = .ok (.istore_n 3, 1) := by decide +kernel
theorem dX0_jobsOn_4 : decode cX0_jobsOn 4 = .ok (.iload_n 3, 1) := by decide +kernel
theorem dX0_jobsOn_5 : decode cX0_jobsOn 5 = .ok (.aload_n 0, 1) := by decide +kernel
theorem dX0_jobsOn_6 : decode cX0_jobsOn 6 = .ok (.getfield 37, 3) := by decide +kernel
theorem dX0_jobsOn_9 : decode cX0_jobsOn 9 = .ok (.if_icmp .ge 27, 3) := by decide +kernel
theorem dX0_jobsOn_12 : decode cX0_jobsOn 12 = .ok (.aload_n 0, 1) := by decide +kernel
theorem dX0_jobsOn_13 : decode cX0_jobsOn 13 = .ok (.getfield 18, 3) := by decide +kernel
theorem dX0_jobsOn_16 : decode cX0_jobsOn 16 = .ok (.iload_n 3, 1) := by decide +kernel
theorem dX0_jobsOn_17 : decode cX0_jobsOn 17 = .ok (.invokestatic 67, 3) := by decide +kernel
theorem dX0_jobsOn_20 : decode cX0_jobsOn 20 = .ok (.iload_n 1, 1) := by decide +kernel
theorem dX0_jobsOn_21 : decode cX0_jobsOn 21 = .ok (.if_icmp .ne 9, 3) := by decide +kernel
theorem dX0_jobsOn_24 : decode cX0_jobsOn 24 = .ok (.iload_n 2, 1) := by decide +kernel
theorem dX0_jobsOn_25 : decode cX0_jobsOn 25 = .ok (.iconst 1, 1) := by decide +kernel
theorem dX0_jobsOn_26 : decode cX0_jobsOn 26 = .ok (.iload_n 3, 1) := by decide +kernel
theorem dX0_jobsOn_27 : decode cX0_jobsOn 27 = .ok (.ishl, 1) := by decide +kernel
theorem dX0_jobsOn_28 : decode cX0_jobsOn 28 = .ok (.ior, 1) := by decide +kernel
theorem dX0_jobsOn_29 : decode cX0_jobsOn 29 = .ok (.istore_n 2, 1) := by decide +kernel
theorem dX0_jobsOn_30 : decode cX0_jobsOn 30 = .ok (.iinc 3 1, 3) := by decide +kernel
theorem dX0_jobsOn_33 : decode cX0_jobsOn 33 = .ok (.goto (-29), 3) := by decide +kernel
theorem dX0_jobsOn_36 : decode cX0_jobsOn 36 = .ok (.iload_n 2, 1) := by decide +kernel
theorem dX0_jobsOn_37 : decode cX0_jobsOn 37 = .ok (.ireturn, 1) := by decide +kernel
set_option maxRecDepth 20000 in
theorem ggX0_priceOfAll_X4_at : GoodIn wsX0_priceOfAll wsX4_at := goodIn_r _ [6] (by decide +kernel) (by decide +kernel)
set_option maxRecDepth 20000 in
theorem gX0_priceOfAll_X4_at_n67 : GoodIn wsX0_priceOfAll (wsX4_at) := ggX0_priceOfAll_X4_at
theorem dX0_priceOfAll_0 : decode cX0_priceOfAll 0 = .ok (.iconst 0, 1) := by decide +kernel
theorem dX0_priceOfAll_1 : decode cX0_priceOfAll 1 = .ok (.istore_n 2, 1) := by decide +kernel
theorem dX0_priceOfAll_2 : decode cX0_priceOfAll 2 = .ok (.iconst 0, 1) := by decide +kernel
theorem dX0_priceOfAll_3 : decode cX0_priceOfAll 3 = .ok (.istore_n 3, 1) := by decide +kernel
theorem dX0_priceOfAll_4 : decode cX0_priceOfAll 4 = .ok (.iload_n 3, 1) := by decide +kernel
theorem dX0_priceOfAll_5 : decode cX0_priceOfAll 5 = .ok (.aload_n 0, 1) := by decide +kernel
theorem dX0_priceOfAll_6 : decode cX0_priceOfAll 6 = .ok (.getfield 37, 3) := by decide +kernel
theorem dX0_priceOfAll_9 : decode cX0_priceOfAll 9 = .ok (.if_icmp .ge 32, 3) := by decide +kernel
theorem dX0_priceOfAll_12 : decode cX0_priceOfAll 12 = .ok (.aload_n 0, 1) := by decide +kernel
theorem dX0_priceOfAll_13 : decode cX0_priceOfAll 13 = .ok (.getfield 18, 3) := by decide +kernel
theorem dX0_priceOfAll_16 : decode cX0_priceOfAll 16 = .ok (.iload_n 3, 1) := by decide +kernel
theorem dX0_priceOfAll_17 : decode cX0_priceOfAll 17 = .ok (.invokestatic 67, 3) := by decide +kernel
theorem dX0_priceOfAll_20 : decode cX0_priceOfAll 20 = .ok (.iload_n 1, 1) := by decide +kernel
theorem dX0_priceOfAll_21 : decode cX0_priceOfAll 21 = .ok (.if_icmp .ne 14, 3) := by decide +kernel
theorem dX0_priceOfAll_24 : decode cX0_priceOfAll 24 = .ok (.iload_n 2, 1) := by decide +kernel
theorem dX0_priceOfAll_25 : decode cX0_priceOfAll 25 = .ok (.aload_n 0, 1) := by decide +kernel
theorem dX0_priceOfAll_26 : decode cX0_priceOfAll 26 = .ok (.getfield 15, 3) := by decide +kernel
theorem dX0_priceOfAll_29 : decode cX0_priceOfAll 29 = .ok (.iload_n 3, 1) := by decide +kernel
theorem dX0_priceOfAll_30 : decode cX0_priceOfAll 30 = .ok (.invokestatic 67, 3) := by decide +kernel
theorem dX0_priceOfAll_33 : decode cX0_priceOfAll 33 = .ok (.iadd, 1) := by decide +kernel
theorem dX0_priceOfAll_34 : decode cX0_priceOfAll 34 = .ok (.istore_n 2, 1) := by decide +kernel
theorem dX0_priceOfAll_35 : decode cX0_priceOfAll 35 = .ok (.iinc 3 1, 3) := by decide +kernel
theorem dX0_priceOfAll_38 : decode cX0_priceOfAll 38 = .ok (.goto (-34), 3) := by decide +kernel
theorem dX0_priceOfAll_41 : decode cX0_priceOfAll 41 = .ok (.iload_n 2, 1) := by decide +kernel
theorem dX0_priceOfAll_42 : decode cX0_priceOfAll 42 = .ok (.ireturn, 1) := by decide +kernel
set_option maxRecDepth 20000 in
theorem ggX0_leavingJob_X4_at : GoodIn wsX0_leavingJob wsX4_at := goodIn_r _ [5] (by decide +kernel) (by decide +kernel)
set_option maxRecDepth 20000 in
theorem gX0_leavingJob_X4_at_n67 : GoodIn wsX0_leavingJob (wsX4_at) := ggX0_leavingJob_X4_at
set_option maxRecDepth 20000 in
theorem ggX0_leavingJob_X0_jobsLeavingBefore : GoodIn wsX0_leavingJob wsX0_jobsLeavingBefore := goodIn_r _ [10, 1, 2, 3, 4, 5, 11, 12, 13, 9, 14, 15, 16, 17, 18, 19, 20, 21, 22, 23, 24, 25, 26, 27, 28, 29] (by decide +kernel) (by decide +kernel)
set_option maxRecDepth 20000 in
theorem gX0_leavingJob_X0_jobsLeavingBefore : GoodIn wsX0_leavingJob (wsV RX0 118 RX0 yX0_jobsLeavingBefore wsX0_jobsLeavingBefore) := goodIn_app (goodIn_of _ (by decide +kernel)) ggX0_leavingJob_X0_jobsLeavingBefore
theorem dX0_leavingJob_0 : decode cX0_leavingJob 0 = .ok (.iconst 0, 1) := by decide +kernel
theorem dX0_leavingJob_1 : decode cX0_leavingJob 1 = .ok (.istore_n 3, 1) := by decide +kernel
theorem dX0_leavingJob_2 : decode cX0_leavingJob 2 = .ok (.iload_n 3, 1) := by decide +kernel
theorem dX0_leavingJob_3 : decode cX0_leavingJob 3 = .ok (.aload_n 0, 1) := by decide +kernel
theorem dX0_leavingJob_4 : decode cX0_leavingJob 4 = .ok (.getfield 37, 3) := by decide +kernel
theorem dX0_leavingJob_7 : decode cX0_leavingJob 7 = .ok (.if_icmp .ge 32, 3) := by decide +kernel
theorem dX0_leavingJob_10 : decode cX0_leavingJob 10 = .ok (.aload_n 0, 1) := by decide +kernel
theorem dX0_leavingJob_11 : decode cX0_leavingJob 11 = .ok (.getfield 18, 3) := by decide +kernel
theorem dX0_leavingJob_14 : decode cX0_leavingJob 14 = .ok (.iload_n 3, 1) := by decide +kernel
theorem dX0_leavingJob_15 : decode cX0_leavingJob 15 = .ok (.invokestatic 67, 3) := by decide +kernel
theorem dX0_leavingJob_18 : decode cX0_leavingJob 18 = .ok (.iload_n 1, 1) := by decide +kernel
theorem dX0_leavingJob_19 : decode cX0_leavingJob 19 = .ok (.if_icmp .ne 14, 3) := by decide +kernel
theorem dX0_leavingJob_22 : decode cX0_leavingJob 22 = .ok (.aload_n 0, 1) := by decide +kernel
theorem dX0_leavingJob_23 : decode cX0_leavingJob 23 = .ok (.iload_n 3, 1) := by decide +kernel
theorem dX0_leavingJob_24 : decode cX0_leavingJob 24 = .ok (.invokevirtual 118, 3) := by decide +kernel
theorem dX0_leavingJob_27 : decode cX0_leavingJob 27 = .ok (.iload_n 2, 1) := by decide +kernel
theorem dX0_leavingJob_28 : decode cX0_leavingJob 28 = .ok (.if_icmp .ne 5, 3) := by decide +kernel
theorem dX0_leavingJob_31 : decode cX0_leavingJob 31 = .ok (.iload_n 3, 1) := by decide +kernel
theorem dX0_leavingJob_32 : decode cX0_leavingJob 32 = .ok (.ireturn, 1) := by decide +kernel
theorem dX0_leavingJob_33 : decode cX0_leavingJob 33 = .ok (.iinc 3 1, 3) := by decide +kernel
theorem dX0_leavingJob_36 : decode cX0_leavingJob 36 = .ok (.goto (-34), 3) := by decide +kernel
theorem dX0_leavingJob_39 : decode cX0_leavingJob 39 = .ok (.bipush (-9), 2) := by decide +kernel
theorem dX0_leavingJob_41 : decode cX0_leavingJob 41 = .ok (.ireturn, 1) := by decide +kernel
set_option maxRecDepth 20000 in
theorem ggX0_jobsLeavingBefore_X4_at : GoodIn wsX0_jobsLeavingBefore wsX4_at := goodIn_r _ [5] (by decide +kernel) (by decide +kernel)
set_option maxRecDepth 20000 in
theorem gX0_jobsLeavingBefore_X4_at_n67 : GoodIn wsX0_jobsLeavingBefore (wsX4_at) := ggX0_jobsLeavingBefore_X4_at
set_option maxRecDepth 20000 in
theorem ggX0_jobsLeavingBefore_X0_leavesBefore : GoodIn wsX0_jobsLeavingBefore wsX0_leavesBefore := goodIn_r _ [10, 11, 12, 3, 4, 5, 13, 14, 15, 16, 17, 18, 19, 20, 21, 22, 23, 24, 25] (by decide +kernel) (by decide +kernel)
set_option maxRecDepth 20000 in
theorem gX0_jobsLeavingBefore_X0_leavesBefore : GoodIn wsX0_jobsLeavingBefore (wsV RX0 121 RX0 yX0_leavesBefore wsX0_leavesBefore) := goodIn_app (goodIn_of _ (by decide +kernel)) ggX0_jobsLeavingBefore_X0_leavesBefore
theorem dX0_jobsLeavingBefore_0 : decode cX0_jobsLeavingBefore 0 = .ok (.iconst 0, 1) := by decide +kernel
theorem dX0_jobsLeavingBefore_1 : decode cX0_jobsLeavingBefore 1 = .ok (.istore_n 2, 1) := by decide +kernel
theorem dX0_jobsLeavingBefore_2 : decode cX0_jobsLeavingBefore 2 = .ok (.iconst 0, 1) := by decide +kernel
theorem dX0_jobsLeavingBefore_3 : decode cX0_jobsLeavingBefore 3 = .ok (.istore_n 3, 1) := by decide +kernel
theorem dX0_jobsLeavingBefore_4 : decode cX0_jobsLeavingBefore 4 = .ok (.iload_n 3, 1) := by decide +kernel
theorem dX0_jobsLeavingBefore_5 : decode cX0_jobsLeavingBefore 5 = .ok (.aload_n 0, 1) := by decide +kernel
theorem dX0_jobsLeavingBefore_6 : decode cX0_jobsLeavingBefore 6 = .ok (.getfield 37, 3) := by decide +kernel
theorem dX0_jobsLeavingBefore_9 : decode cX0_jobsLeavingBefore 9 = .ok (.if_icmp .ge 40, 3) := by decide +kernel
theorem dX0_jobsLeavingBefore_12 : decode cX0_jobsLeavingBefore 12 = .ok (.aload_n 0, 1) := by decide +kernel
theorem dX0_jobsLeavingBefore_13 : decode cX0_jobsLeavingBefore 13 = .ok (.getfield 18, 3) := by decide +kernel
theorem dX0_jobsLeavingBefore_16 : decode cX0_jobsLeavingBefore 16 = .ok (.iload_n 3, 1) := by decide +kernel
theorem dX0_jobsLeavingBefore_17 : decode cX0_jobsLeavingBefore 17 = .ok (.invokestatic 67, 3) := by decide +kernel
theorem dX0_jobsLeavingBefore_20 : decode cX0_jobsLeavingBefore 20 = .ok (.aload_n 0, 1) := by decide +kernel
theorem dX0_jobsLeavingBefore_21 : decode cX0_jobsLeavingBefore 21 = .ok (.getfield 18, 3) := by decide +kernel
theorem dX0_jobsLeavingBefore_24 : decode cX0_jobsLeavingBefore 24 = .ok (.iload_n 1, 1) := by decide +kernel
theorem dX0_jobsLeavingBefore_25 : decode cX0_jobsLeavingBefore 25 = .ok (.invokestatic 67, 3) := by decide +kernel
theorem dX0_jobsLeavingBefore_28 : decode cX0_jobsLeavingBefore 28 = .ok (.if_icmp .ne 15, 3) := by decide +kernel
theorem dX0_jobsLeavingBefore_31 : decode cX0_jobsLeavingBefore 31 = .ok (.aload_n 0, 1) := by decide +kernel
theorem dX0_jobsLeavingBefore_32 : decode cX0_jobsLeavingBefore 32 = .ok (.iload_n 3, 1) := by decide +kernel
theorem dX0_jobsLeavingBefore_33 : decode cX0_jobsLeavingBefore 33 = .ok (.iload_n 1, 1) := by decide +kernel
theorem dX0_jobsLeavingBefore_34 : decode cX0_jobsLeavingBefore 34 = .ok (.invokevirtual 121, 3) := by decide +kernel
theorem dX0_jobsLeavingBefore_37 : decode cX0_jobsLeavingBefore 37 = .ok (.ifCond .eq 6, 3) := by decide +kernel
theorem dX0_jobsLeavingBefore_40 : decode cX0_jobsLeavingBefore 40 = .ok (.iinc 2 1, 3) := by decide +kernel
theorem dX0_jobsLeavingBefore_43 : decode cX0_jobsLeavingBefore 43 = .ok (.iinc 3 1, 3) := by decide +kernel
theorem dX0_jobsLeavingBefore_46 : decode cX0_jobsLeavingBefore 46 = .ok (.goto (-42), 3) := by decide +kernel
theorem dX0_jobsLeavingBefore_49 : decode cX0_jobsLeavingBefore 49 = .ok (.iload_n 2, 1) := by decide +kernel
theorem dX0_jobsLeavingBefore_50 : decode cX0_jobsLeavingBefore 50 = .ok (.ireturn, 1) := by decide +kernel
set_option maxRecDepth 20000 in
theorem ggX0_leavesBefore_X4_at : GoodIn wsX0_leavesBefore wsX4_at := goodIn_r _ [5] (by decide +kernel) (by decide +kernel)
set_option maxRecDepth 20000 in
theorem gX0_leavesBefore_X4_at_n67 : GoodIn wsX0_leavesBefore (wsX4_at) := ggX0_leavesBefore_X4_at
theorem dX0_leavesBefore_0 : decode cX0_leavesBefore 0 = .ok (.aload_n 0, 1) := by decide +kernel
theorem dX0_leavesBefore_1 : decode cX0_leavesBefore 1 = .ok (.getfield 9, 3) := by decide +kernel
theorem dX0_leavesBefore_4 : decode cX0_leavesBefore 4 = .ok (.iload_n 1, 1) := by decide +kernel
theorem dX0_leavesBefore_5 : decode cX0_leavesBefore 5 = .ok (.invokestatic 67, 3) := by decide +kernel
theorem dX0_leavesBefore_8 : decode cX0_leavesBefore 8 = .ok (.aload_n 0, 1) := by decide +kernel
theorem dX0_leavesBefore_9 : decode cX0_leavesBefore 9 = .ok (.getfield 9, 3) := by decide +kernel
theorem dX0_leavesBefore_12 : decode cX0_leavesBefore 12 = .ok (.iload_n 2, 1) := by decide +kernel
theorem dX0_leavesBefore_13 : decode cX0_leavesBefore 13 = .ok (.invokestatic 67, 3) := by decide +kernel
theorem dX0_leavesBefore_16 : decode cX0_leavesBefore 16 = .ok (.if_icmp .eq 28, 3) := by decide +kernel
theorem dX0_leavesBefore_19 : decode cX0_leavesBefore 19 = .ok (.aload_n 0, 1) := by decide +kernel
theorem dX0_leavesBefore_20 : decode cX0_leavesBefore 20 = .ok (.getfield 9, 3) := by decide +kernel
theorem dX0_leavesBefore_23 : decode cX0_leavesBefore 23 = .ok (.iload_n 1, 1) := by decide +kernel
theorem dX0_leavesBefore_24 : decode cX0_leavesBefore 24 = .ok (.invokestatic 67, 3) := by decide +kernel
theorem dX0_leavesBefore_27 : decode cX0_leavesBefore 27 = .ok (.aload_n 0, 1) := by decide +kernel
theorem dX0_leavesBefore_28 : decode cX0_leavesBefore 28 = .ok (.getfield 9, 3) := by decide +kernel
theorem dX0_leavesBefore_31 : decode cX0_leavesBefore 31 = .ok (.iload_n 2, 1) := by decide +kernel
theorem dX0_leavesBefore_32 : decode cX0_leavesBefore 32 = .ok (.invokestatic 67, 3) := by decide +kernel
theorem dX0_leavesBefore_35 : decode cX0_leavesBefore 35 = .ok (.if_icmp .le 7, 3) := by decide +kernel
theorem dX0_leavesBefore_38 : decode cX0_leavesBefore 38 = .ok (.iconst 1, 1) := by decide +kernel
theorem dX0_leavesBefore_39 : decode cX0_leavesBefore 39 = .ok (.goto 4, 3) := by decide +kernel
theorem dX0_leavesBefore_42 : decode cX0_leavesBefore 42 = .ok (.iconst 0, 1) := by decide +kernel
theorem dX0_leavesBefore_43 : decode cX0_leavesBefore 43 = .ok (.ireturn, 1) := by decide +kernel
theorem dX0_leavesBefore_44 : decode cX0_leavesBefore 44 = .ok (.aload_n 0, 1) := by decide +kernel
theorem dX0_leavesBefore_45 : decode cX0_leavesBefore 45 = .ok (.getfield 15, 3) := by decide +kernel
theorem dX0_leavesBefore_48 : decode cX0_leavesBefore 48 = .ok (.iload_n 1, 1) := by decide +kernel
theorem dX0_leavesBefore_49 : decode cX0_leavesBefore 49 = .ok (.invokestatic 67, 3) := by decide +kernel
theorem dX0_leavesBefore_52 : decode cX0_leavesBefore 52 = .ok (.aload_n 0, 1) := by decide +kernel
theorem dX0_leavesBefore_53 : decode cX0_leavesBefore 53 = .ok (.getfield 15, 3) := by decide +kernel
theorem dX0_leavesBefore_56 : decode cX0_leavesBefore 56 = .ok (.iload_n 2, 1) := by decide +kernel
theorem dX0_leavesBefore_57 : decode cX0_leavesBefore 57 = .ok (.invokestatic 67, 3) := by decide +kernel
theorem dX0_leavesBefore_60 : decode cX0_leavesBefore 60 = .ok (.if_icmp .eq 28, 3) := by decide +kernel
theorem dX0_leavesBefore_63 : decode cX0_leavesBefore 63 = .ok (.aload_n 0, 1) := by decide +kernel
theorem dX0_leavesBefore_64 : decode cX0_leavesBefore 64 = .ok (.getfield 15, 3) := by decide +kernel
theorem dX0_leavesBefore_67 : decode cX0_leavesBefore 67 = .ok (.iload_n 1, 1) := by decide +kernel
theorem dX0_leavesBefore_68 : decode cX0_leavesBefore 68 = .ok (.invokestatic 67, 3) := by decide +kernel
theorem dX0_leavesBefore_71 : decode cX0_leavesBefore 71 = .ok (.aload_n 0, 1) := by decide +kernel
theorem dX0_leavesBefore_72 : decode cX0_leavesBefore 72 = .ok (.getfield 15, 3) := by decide +kernel
theorem dX0_leavesBefore_75 : decode cX0_leavesBefore 75 = .ok (.iload_n 2, 1) := by decide +kernel
theorem dX0_leavesBefore_76 : decode cX0_leavesBefore 76 = .ok (.invokestatic 67, 3) := by decide +kernel
theorem dX0_leavesBefore_79 : decode cX0_leavesBefore 79 = .ok (.if_icmp .ge 7, 3) := by decide +kernel
theorem dX0_leavesBefore_82 : decode cX0_leavesBefore 82 = .ok (.iconst 1, 1) := by decide +kernel
theorem dX0_leavesBefore_83 : decode cX0_leavesBefore 83 = .ok (.goto 4, 3) := by decide +kernel
theorem dX0_leavesBefore_86 : decode cX0_leavesBefore 86 = .ok (.iconst 0, 1) := by decide +kernel
theorem dX0_leavesBefore_87 : decode cX0_leavesBefore 87 = .ok (.ireturn, 1) := by decide +kernel
theorem dX0_leavesBefore_88 : decode cX0_leavesBefore 88 = .ok (.iload_n 1, 1) := by decide +kernel
theorem dX0_leavesBefore_89 : decode cX0_leavesBefore 89 = .ok (.iload_n 2, 1) := by decide +kernel
theorem dX0_leavesBefore_90 : decode cX0_leavesBefore 90 = .ok (.if_icmp .ge 7, 3) := by decide +kernel
theorem dX0_leavesBefore_93 : decode cX0_leavesBefore 93 = .ok (.iconst 1, 1) := by decide +kernel
theorem dX0_leavesBefore_94 : decode cX0_leavesBefore 94 = .ok (.goto 4, 3) := by decide +kernel
theorem dX0_leavesBefore_97 : decode cX0_leavesBefore 97 = .ok (.iconst 0, 1) := by decide +kernel
theorem dX0_leavesBefore_98 : decode cX0_leavesBefore 98 = .ok (.ireturn, 1) := by decide +kernel
set_option maxRecDepth 20000 in
theorem ggX0_greatestLoad_X0_fullestServer : GoodIn wsX0_greatestLoad wsX0_fullestServer := goodIn_r _ [6, 7, 1, 8, 9, 10, 11, 12, 13, 14, 15, 16, 17, 18, 19, 20, 21, 22, 23, 24] (by decide +kernel) (by decide +kernel)
set_option maxRecDepth 20000 in
theorem gX0_greatestLoad_X0_fullestServer : GoodIn wsX0_greatestLoad (wsV RX0 124 RX0 yX0_fullestServer wsX0_fullestServer) := goodIn_app (goodIn_of _ (by decide +kernel)) ggX0_greatestLoad_X0_fullestServer
set_option maxRecDepth 20000 in
theorem ggX0_greatestLoad_X4_at : GoodIn wsX0_greatestLoad wsX4_at := goodIn_r _ [11] (by decide +kernel) (by decide +kernel)
set_option maxRecDepth 20000 in
theorem gX0_greatestLoad_X4_at_n67 : GoodIn wsX0_greatestLoad (wsX4_at) := ggX0_greatestLoad_X4_at
theorem dX0_greatestLoad_0 : decode cX0_greatestLoad 0 = .ok (.aload_n 0, 1) := by decide +kernel
theorem dX0_greatestLoad_1 : decode cX0_greatestLoad 1 = .ok (.getfield 24, 3) := by decide +kernel
theorem dX0_greatestLoad_4 : decode cX0_greatestLoad 4 = .ok (.aload_n 0, 1) := by decide +kernel
theorem dX0_greatestLoad_5 : decode cX0_greatestLoad 5 = .ok (.invokevirtual 124, 3) := by decide +kernel
theorem dX0_greatestLoad_8 : decode cX0_greatestLoad 8 = .ok (.invokestatic 67, 3) := by decide +kernel
theorem dX0_greatestLoad_11 : decode cX0_greatestLoad 11 = .ok (.ireturn, 1) := by decide +kernel
set_option maxRecDepth 20000 in
theorem ggX0_fullestServer_X4_at : GoodIn wsX0_fullestServer wsX4_at := goodIn_r _ [6] (by decide +kernel) (by decide +kernel)
set_option maxRecDepth 20000 in
theorem gX0_fullestServer_X4_at_n67 : GoodIn wsX0_fullestServer (wsX4_at) := ggX0_fullestServer_X4_at
theorem dX0_fullestServer_0 : decode cX0_fullestServer 0 = .ok (.bipush (-9), 2) := by decide +kernel
theorem dX0_fullestServer_2 : decode cX0_fullestServer 2 = .ok (.istore_n 1, 1) := by decide +kernel
theorem dX0_fullestServer_3 : decode cX0_fullestServer 3 = .ok (.iconst 0, 1) := by decide +kernel
theorem dX0_fullestServer_4 : decode cX0_fullestServer 4 = .ok (.istore_n 2, 1) := by decide +kernel
theorem dX0_fullestServer_5 : decode cX0_fullestServer 5 = .ok (.iload_n 2, 1) := by decide +kernel
theorem dX0_fullestServer_6 : decode cX0_fullestServer 6 = .ok (.aload_n 0, 1) := by decide +kernel
theorem dX0_fullestServer_7 : decode cX0_fullestServer 7 = .ok (.getfield 30, 3) := by decide +kernel
theorem dX0_fullestServer_10 : decode cX0_fullestServer 10 = .ok (.if_icmp .ge 58, 3) := by decide +kernel
theorem dX0_fullestServer_13 : decode cX0_fullestServer 13 = .ok (.iload_n 1, 1) := by decide +kernel
theorem dX0_fullestServer_14 : decode cX0_fullestServer 14 = .ok (.bipush (-9), 2) := by decide +kernel
theorem dX0_fullestServer_16 : decode cX0_fullestServer 16 = .ok (.if_icmp .eq 22, 3) := by decide +kernel
theorem dX0_fullestServer_19 : decode cX0_fullestServer 19 = .ok (.aload_n 0, 1) := by decide +kernel
theorem dX0_fullestServer_20 : decode cX0_fullestServer 20 = .ok (.getfield 24, 3) := by decide +kernel
theorem dX0_fullestServer_23 : decode cX0_fullestServer 23 = .ok (.iload_n 2, 1) := by decide +kernel
theorem dX0_fullestServer_24 : decode cX0_fullestServer 24 = .ok (.invokestatic 67, 3) := by decide +kernel
theorem dX0_fullestServer_27 : decode cX0_fullestServer 27 = .ok (.aload_n 0, 1) := by decide +kernel
theorem dX0_fullestServer_28 : decode cX0_fullestServer 28 = .ok (.getfield 24, 3) := by decide +kernel
theorem dX0_fullestServer_31 : decode cX0_fullestServer 31 = .ok (.iload_n 1, 1) := by decide +kernel
theorem dX0_fullestServer_32 : decode cX0_fullestServer 32 = .ok (.invokestatic 67, 3) := by decide +kernel
theorem dX0_fullestServer_35 : decode cX0_fullestServer 35 = .ok (.if_icmp .le 7, 3) := by decide +kernel
theorem dX0_fullestServer_38 : decode cX0_fullestServer 38 = .ok (.iconst 1, 1) := by decide +kernel
theorem dX0_fullestServer_39 : decode cX0_fullestServer 39 = .ok (.goto 4, 3) := by decide +kernel
theorem dX0_fullestServer_42 : decode cX0_fullestServer 42 = .ok (.iconst 0, 1) := by decide +kernel
theorem dX0_fullestServer_43 : decode cX0_fullestServer 43 = .ok (.istore_n 3, 1) := by decide +kernel
theorem dX0_fullestServer_44 : decode cX0_fullestServer 44 = .ok (.aload_n 0, 1) := by decide +kernel
theorem dX0_fullestServer_45 : decode cX0_fullestServer 45 = .ok (.getfield 27, 3) := by decide +kernel
theorem dX0_fullestServer_48 : decode cX0_fullestServer 48 = .ok (.iload_n 2, 1) := by decide +kernel
theorem dX0_fullestServer_49 : decode cX0_fullestServer 49 = .ok (.invokestatic 67, 3) := by decide +kernel
theorem dX0_fullestServer_52 : decode cX0_fullestServer 52 = .ok (.iconst 1, 1) := by decide +kernel
theorem dX0_fullestServer_53 : decode cX0_fullestServer 53 = .ok (.if_icmp .ne 9, 3) := by decide +kernel
theorem dX0_fullestServer_56 : decode cX0_fullestServer 56 = .ok (.iload_n 3, 1) := by decide +kernel
theorem dX0_fullestServer_57 : decode cX0_fullestServer 57 = .ok (.ifCond .eq 5, 3) := by decide +kernel
theorem dX0_fullestServer_60 : decode cX0_fullestServer 60 = .ok (.iload_n 2, 1) := by decide +kernel
theorem dX0_fullestServer_61 : decode cX0_fullestServer 61 = .ok (.istore_n 1, 1) := by decide +kernel
theorem dX0_fullestServer_62 : decode cX0_fullestServer 62 = .ok (.iinc 2 1, 3) := by decide +kernel
theorem dX0_fullestServer_65 : decode cX0_fullestServer 65 = .ok (.goto (-60), 3) := by decide +kernel
theorem dX0_fullestServer_68 : decode cX0_fullestServer 68 = .ok (.iload_n 1, 1) := by decide +kernel
theorem dX0_fullestServer_69 : decode cX0_fullestServer 69 = .ok (.ireturn, 1) := by decide +kernel
set_option maxRecDepth 20000 in
theorem ggX0_emptiestServer_X4_at : GoodIn wsX0_emptiestServer wsX4_at := goodIn_r _ [6] (by decide +kernel) (by decide +kernel)
set_option maxRecDepth 20000 in
theorem gX0_emptiestServer_X4_at_n67 : GoodIn wsX0_emptiestServer (wsX4_at) := ggX0_emptiestServer_X4_at
theorem dX0_emptiestServer_0 : decode cX0_emptiestServer 0 = .ok (.bipush (-9), 2) := by decide +kernel
theorem dX0_emptiestServer_2 : decode cX0_emptiestServer 2 = .ok (.istore_n 1, 1) := by decide +kernel
theorem dX0_emptiestServer_3 : decode cX0_emptiestServer 3 = .ok (.iconst 0, 1) := by decide +kernel
theorem dX0_emptiestServer_4 : decode cX0_emptiestServer 4 = .ok (.istore_n 2, 1) := by decide +kernel
theorem dX0_emptiestServer_5 : decode cX0_emptiestServer 5 = .ok (.iload_n 2, 1) := by decide +kernel
theorem dX0_emptiestServer_6 : decode cX0_emptiestServer 6 = .ok (.aload_n 0, 1) := by decide +kernel
theorem dX0_emptiestServer_7 : decode cX0_emptiestServer 7 = .ok (.getfield 30, 3) := by decide +kernel
theorem dX0_emptiestServer_10 : decode cX0_emptiestServer 10 = .ok (.if_icmp .ge 58, 3) := by decide +kernel
theorem dX0_emptiestServer_13 : decode cX0_emptiestServer 13 = .ok (.iload_n 1, 1) := by decide +kernel
theorem dX0_emptiestServer_14 : decode cX0_emptiestServer 14 = .ok (.bipush (-9), 2) := by decide +kernel
theorem dX0_emptiestServer_16 : decode cX0_emptiestServer 16 = .ok (.if_icmp .eq 22, 3) := by decide +kernel
theorem dX0_emptiestServer_19 : decode cX0_emptiestServer 19 = .ok (.aload_n 0, 1) := by decide +kernel
theorem dX0_emptiestServer_20 : decode cX0_emptiestServer 20 = .ok (.getfield 24, 3) := by decide +kernel
theorem dX0_emptiestServer_23 : decode cX0_emptiestServer 23 = .ok (.iload_n 2, 1) := by decide +kernel
theorem dX0_emptiestServer_24 : decode cX0_emptiestServer 24 = .ok (.invokestatic 67, 3) := by decide +kernel
theorem dX0_emptiestServer_27 : decode cX0_emptiestServer 27 = .ok (.aload_n 0, 1) := by decide +kernel
theorem dX0_emptiestServer_28 : decode cX0_emptiestServer 28 = .ok (.getfield 24, 3) := by decide +kernel
theorem dX0_emptiestServer_31 : decode cX0_emptiestServer 31 = .ok (.iload_n 1, 1) := by decide +kernel
theorem dX0_emptiestServer_32 : decode cX0_emptiestServer 32 = .ok (.invokestatic 67, 3) := by decide +kernel
theorem dX0_emptiestServer_35 : decode cX0_emptiestServer 35 = .ok (.if_icmp .ge 7, 3) := by decide +kernel
theorem dX0_emptiestServer_38 : decode cX0_emptiestServer 38 = .ok (.iconst 1, 1) := by decide +kernel
theorem dX0_emptiestServer_39 : decode cX0_emptiestServer 39 = .ok (.goto 4, 3) := by decide +kernel
theorem dX0_emptiestServer_42 : decode cX0_emptiestServer 42 = .ok (.iconst 0, 1) := by decide +kernel
theorem dX0_emptiestServer_43 : decode cX0_emptiestServer 43 = .ok (.istore_n 3, 1) := by decide +kernel
theorem dX0_emptiestServer_44 : decode cX0_emptiestServer 44 = .ok (.aload_n 0, 1) := by decide +kernel
theorem dX0_emptiestServer_45 : decode cX0_emptiestServer 45 = .ok (.getfield 27, 3) := by decide +kernel
theorem dX0_emptiestServer_48 : decode cX0_emptiestServer 48 = .ok (.iload_n 2, 1) := by decide +kernel
theorem dX0_emptiestServer_49 : decode cX0_emptiestServer 49 = .ok (.invokestatic 67, 3) := by decide +kernel
theorem dX0_emptiestServer_52 : decode cX0_emptiestServer 52 = .ok (.iconst 1, 1) := by decide +kernel
theorem dX0_emptiestServer_53 : decode cX0_emptiestServer 53 = .ok (.if_icmp .ne 9, 3) := by decide +kernel
theorem dX0_emptiestServer_56 : decode cX0_emptiestServer 56 = .ok (.iload_n 3, 1) := by decide +kernel
theorem dX0_emptiestServer_57 : decode cX0_emptiestServer 57 = .ok (.ifCond .eq 5, 3) := by decide +kernel
theorem dX0_emptiestServer_60 : decode cX0_emptiestServer 60 = .ok (.iload_n 2, 1) := by decide +kernel
theorem dX0_emptiestServer_61 : decode cX0_emptiestServer 61 = .ok (.istore_n 1, 1) := by decide +kernel
theorem dX0_emptiestServer_62 : decode cX0_emptiestServer 62 = .ok (.iinc 2 1, 3) := by decide +kernel
theorem dX0_emptiestServer_65 : decode cX0_emptiestServer 65 = .ok (.goto (-60), 3) := by decide +kernel
theorem dX0_emptiestServer_68 : decode cX0_emptiestServer 68 = .ok (.iload_n 1, 1) := by decide +kernel
theorem dX0_emptiestServer_69 : decode cX0_emptiestServer 69 = .ok (.ireturn, 1) := by decide +kernel
set_option maxRecDepth 20000 in
theorem ggX0_bound_X4_at : GoodIn wsX0_bound wsX4_at := goodIn_r _ [12] (by decide +kernel) (by decide +kernel)
set_option maxRecDepth 20000 in
theorem gX0_bound_X4_at_n67 : GoodIn wsX0_bound (wsX4_at) := ggX0_bound_X4_at
theorem dX0_bound_0 : decode cX0_bound 0 = .ok (.iconst 0, 1) := by decide +kernel
theorem dX0_bound_1 : decode cX0_bound 1 = .ok (.istore_n 1, 1) := by decide +kernel
theorem dX0_bound_2 : decode cX0_bound 2 = .ok (.iconst 0, 1) := by decide +kernel
theorem dX0_bound_3 : decode cX0_bound 3 = .ok (.istore_n 2, 1) := by decide +kernel
theorem dX0_bound_4 : decode cX0_bound 4 = .ok (.iload_n 2, 1) := by decide +kernel
theorem dX0_bound_5 : decode cX0_bound 5 = .ok (.aload_n 0, 1) := by decide +kernel
theorem dX0_bound_6 : decode cX0_bound 6 = .ok (.getfield 37, 3) := by decide +kernel
theorem dX0_bound_9 : decode cX0_bound 9 = .ok (.if_icmp .ge 35, 3) := by decide +kernel
theorem dX0_bound_12 : decode cX0_bound 12 = .ok (.aload_n 0, 1) := by decide +kernel
theorem dX0_bound_13 : decode cX0_bound 13 = .ok (.getfield 18, 3) := by decide +kernel
theorem dX0_bound_16 : decode cX0_bound 16 = .ok (.iload_n 2, 1) := by decide +kernel
theorem dX0_bound_17 : decode cX0_bound 17 = .ok (.invokestatic 67, 3) := by decide +kernel
theorem dX0_bound_20 : decode cX0_bound 20 = .ok (.bipush (-9), 2) := by decide +kernel
theorem dX0_bound_22 : decode cX0_bound 22 = .ok (.if_icmp .eq 16, 3) := by decide +kernel
theorem dX0_bound_25 : decode cX0_bound 25 = .ok (.iload_n 1, 1) := by decide +kernel
theorem dX0_bound_26 : decode cX0_bound 26 = .ok (.aload_n 0, 1) := by decide +kernel
theorem dX0_bound_27 : decode cX0_bound 27 = .ok (.getfield 9, 3) := by decide +kernel
theorem dX0_bound_30 : decode cX0_bound 30 = .ok (.iload_n 2, 1) := by decide +kernel
theorem dX0_bound_31 : decode cX0_bound 31 = .ok (.invokestatic 67, 3) := by decide +kernel
theorem dX0_bound_34 : decode cX0_bound 34 = .ok (.invokestatic 127, 3) := by decide +kernel
theorem dX0_bound_37 : decode cX0_bound 37 = .ok (.istore_n 1, 1) := by decide +kernel
theorem dX0_bound_38 : decode cX0_bound 38 = .ok (.iinc 2 1, 3) := by decide +kernel
theorem dX0_bound_41 : decode cX0_bound 41 = .ok (.goto (-37), 3) := by decide +kernel
theorem dX0_bound_44 : decode cX0_bound 44 = .ok (.aload_n 0, 1) := by decide +kernel
theorem dX0_bound_45 : decode cX0_bound 45 = .ok (.getfield 34, 3) := by decide +kernel
theorem dX0_bound_48 : decode cX0_bound 48 = .ok (.ifCond .le 22, 3) := by decide +kernel
theorem dX0_bound_51 : decode cX0_bound 51 = .ok (.aload_n 0, 1) := by decide +kernel
theorem dX0_bound_52 : decode cX0_bound 52 = .ok (.getfield 40, 3) := by decide +kernel
theorem dX0_bound_55 : decode cX0_bound 55 = .ok (.aload_n 0, 1) := by decide +kernel
theorem dX0_bound_56 : decode cX0_bound 56 = .ok (.getfield 34, 3) := by decide +kernel
theorem dX0_bound_59 : decode cX0_bound 59 = .ok (.iadd, 1) := by decide +kernel
theorem dX0_bound_60 : decode cX0_bound 60 = .ok (.iconst 1, 1) := by decide +kernel
theorem dX0_bound_61 : decode cX0_bound 61 = .ok (.isub, 1) := by decide +kernel
theorem dX0_bound_62 : decode cX0_bound 62 = .ok (.aload_n 0, 1) := by decide +kernel
theorem dX0_bound_63 : decode cX0_bound 63 = .ok (.getfield 34, 3) := by decide +kernel
theorem dX0_bound_66 : decode cX0_bound 66 = .ok (.idiv, 1) := by decide +kernel
theorem dX0_bound_67 : decode cX0_bound 67 = .ok (.goto 4, 3) := by decide +kernel
theorem dX0_bound_70 : decode cX0_bound 70 = .ok (.iconst 0, 1) := by decide +kernel
theorem dX0_bound_71 : decode cX0_bound 71 = .ok (.istore_n 2, 1) := by decide +kernel
theorem dX0_bound_72 : decode cX0_bound 72 = .ok (.iload_n 2, 1) := by decide +kernel
theorem dX0_bound_73 : decode cX0_bound 73 = .ok (.iload_n 1, 1) := by decide +kernel
theorem dX0_bound_74 : decode cX0_bound 74 = .ok (.invokestatic 127, 3) := by decide +kernel
theorem dX0_bound_77 : decode cX0_bound 77 = .ok (.ireturn, 1) := by decide +kernel
set_option maxRecDepth 20000 in
theorem ggX0_target_X0_bound : GoodIn wsX0_target wsX0_bound := goodIn_r _ [6, 7, 8, 9, 10, 11, 12, 13, 14, 15, 16, 17, 18, 19, 20, 21, 22, 23, 24, 25, 26, 27, 28, 29, 30, 31] (by decide +kernel) (by decide +kernel)
set_option maxRecDepth 20000 in
theorem gX0_target_X0_bound : GoodIn wsX0_target (wsV RX0 132 RX0 yX0_bound wsX0_bound) := goodIn_app (goodIn_of _ (by decide +kernel)) ggX0_target_X0_bound
theorem dX0_target_0 : decode cX0_target 0 = .ok (.aload_n 0, 1) := by decide +kernel
theorem dX0_target_1 : decode cX0_target 1 = .ok (.invokevirtual 132, 3) := by decide +kernel
theorem dX0_target_4 : decode cX0_target 4 = .ok (.aload_n 0, 1) := by decide +kernel
theorem dX0_target_5 : decode cX0_target 5 = .ok (.getfield 46, 3) := by decide +kernel
theorem dX0_target_8 : decode cX0_target 8 = .ok (.imul, 1) := by decide +kernel
theorem dX0_target_9 : decode cX0_target 9 = .ok (.bipush 100, 2) := by decide +kernel
theorem dX0_target_11 : decode cX0_target 11 = .ok (.idiv, 1) := by decide +kernel
theorem dX0_target_12 : decode cX0_target 12 = .ok (.ireturn, 1) := by decide +kernel
set_option maxRecDepth 20000 in
theorem ggX0_isEven_X0_greatestLoad : GoodIn wsX0_isEven wsX0_greatestLoad := goodIn_r _ [5, 6, 7, 8, 9, 4, 10, 11, 12, 13, 14, 15, 34, 35, 36, 37, 38, 39, 40, 41, 42, 43, 44, 45, 46] (by decide +kernel) (by decide +kernel)
set_option maxRecDepth 20000 in
theorem gX0_isEven_X0_greatestLoad : GoodIn wsX0_isEven (wsV RX0 85 RX0 yX0_greatestLoad wsX0_greatestLoad) := goodIn_app (goodIn_of _ (by decide +kernel)) ggX0_isEven_X0_greatestLoad
set_option maxRecDepth 20000 in
theorem ggX0_isEven_X0_target : GoodIn wsX0_isEven wsX0_target := goodIn_r _ [19, 20, 21, 22, 23, 4, 24, 25, 26, 27, 28, 29, 30, 31, 32, 33, 13, 14, 15, 34, 35, 36, 37, 38, 39, 40, 41, 42, 43, 44, 45, 46] (by decide +kernel) (by decide +kernel)
set_option maxRecDepth 20000 in
theorem gX0_isEven_X0_target : GoodIn wsX0_isEven (wsV RX0 77 RX0 yX0_target wsX0_target) := goodIn_app (goodIn_of _ (by decide +kernel)) ggX0_isEven_X0_target
theorem dX0_isEven_0 : decode cX0_isEven 0 = .ok (.aload_n 0, 1) := by decide +kernel
theorem dX0_isEven_1 : decode cX0_isEven 1 = .ok (.invokevirtual 85, 3) := by decide +kernel
theorem dX0_isEven_4 : decode cX0_isEven 4 = .ok (.aload_n 0, 1) := by decide +kernel
theorem dX0_isEven_5 : decode cX0_isEven 5 = .ok (.invokevirtual 77, 3) := by decide +kernel
theorem dX0_isEven_8 : decode cX0_isEven 8 = .ok (.if_icmp .gt 7, 3) := by decide +kernel
theorem dX0_isEven_11 : decode cX0_isEven 11 = .ok (.iconst 1, 1) := by decide +kernel
theorem dX0_isEven_12 : decode cX0_isEven 12 = .ok (.goto 4, 3) := by decide +kernel
theorem dX0_isEven_15 : decode cX0_isEven 15 = .ok (.iconst 0, 1) := by decide +kernel
theorem dX0_isEven_16 : decode cX0_isEven 16 = .ok (.ireturn, 1) := by decide +kernel
set_option maxRecDepth 20000 in
theorem ggX0_serversAbove_X4_at : GoodIn wsX0_serversAbove wsX4_at := goodIn_r _ [5] (by decide +kernel) (by decide +kernel)
set_option maxRecDepth 20000 in
theorem gX0_serversAbove_X4_at_n67 : GoodIn wsX0_serversAbove (wsX4_at) := ggX0_serversAbove_X4_at
theorem dX0_serversAbove_0 : decode cX0_serversAbove 0 = .ok (.iconst 0, 1) := by decide +kernel
theorem dX0_serversAbove_1 : decode cX0_serversAbove 1 = .ok (.istore_n 2, 1) := by decide +kernel
theorem dX0_serversAbove_2 : decode cX0_serversAbove 2 = .ok (.iconst 0, 1) := by decide +kernel
theorem dX0_serversAbove_3 : decode cX0_serversAbove 3 = .ok (.istore_n 3, 1) := by decide +kernel
theorem dX0_serversAbove_4 : decode cX0_serversAbove 4 = .ok (.iload_n 3, 1) := by decide +kernel
theorem dX0_serversAbove_5 : decode cX0_serversAbove 5 = .ok (.aload_n 0, 1) := by decide +kernel
theorem dX0_serversAbove_6 : decode cX0_serversAbove 6 = .ok (.getfield 30, 3) := by decide +kernel
theorem dX0_serversAbove_9 : decode cX0_serversAbove 9 = .ok (.if_icmp .ge 24, 3) := by decide +kernel
theorem dX0_serversAbove_12 : decode cX0_serversAbove 12 = .ok (.aload_n 0, 1) := by decide +kernel
theorem dX0_serversAbove_13 : decode cX0_serversAbove 13 = .ok (.getfield 24, 3) := by decide +kernel
theorem dX0_serversAbove_16 : decode cX0_serversAbove 16 = .ok (.iload_n 3, 1) := by decide +kernel
theorem dX0_serversAbove_17 : decode cX0_serversAbove 17 = .ok (.invokestatic 67, 3) := by decide +kernel
theorem dX0_serversAbove_20 : decode cX0_serversAbove 20 = .ok (.iload_n 1, 1) := by decide +kernel
theorem dX0_serversAbove_21 : decode cX0_serversAbove 21 = .ok (.if_icmp .le 6, 3) := by decide +kernel
theorem dX0_serversAbove_24 : decode cX0_serversAbove 24 = .ok (.iinc 2 1, 3) := by decide +kernel
theorem dX0_serversAbove_27 : decode cX0_serversAbove 27 = .ok (.iinc 3 1, 3) := by decide +kernel
theorem dX0_serversAbove_30 : decode cX0_serversAbove 30 = .ok (.goto (-26), 3) := by decide +kernel
theorem dX0_serversAbove_33 : decode cX0_serversAbove 33 = .ok (.iload_n 2, 1) := by decide +kernel
theorem dX0_serversAbove_34 : decode cX0_serversAbove 34 = .ok (.ireturn, 1) := by decide +kernel
set_option maxRecDepth 20000 in
theorem ggX1_init_X0_init : GoodIn wsX1_init wsX0_init := goodIn_r _ [11, 12, 2, 3, 13, 14, 15, 16, 17, 18, 19, 20, 21, 22, 23, 24, 25, 26, 30, 31, 32, 33, 34, 35, 36, 37, 38, 39, 40, 41, 42] (by decide +kernel) (by decide +kernel)
set_option maxRecDepth 20000 in
theorem gX1_init_X0_init_n24 : GoodIn wsX1_init (wsX0_init) := ggX1_init_X0_init
theorem dX1_init_0 : decode cX1_init 0 = .ok (.aload_n 0, 1) := by decide +kernel
theorem dX1_init_1 : decode cX1_init 1 = .ok (.invokespecial 3, 3) := by decide +kernel
theorem dX1_init_4 : decode cX1_init 4 = .ok (.aload_n 0, 1) := by decide +kernel
theorem dX1_init_5 : decode cX1_init 5 = .ok (.iconst 5, 1) := by decide +kernel
theorem dX1_init_6 : decode cX1_init 6 = .ok (.anewarray 9, 3) := by decide +kernel
theorem dX1_init_9 : decode cX1_init 9 = .ok (.putfield 11, 3) := by decide +kernel
theorem dX1_init_12 : decode cX1_init 12 = .ok (.aload_n 0, 1) := by decide +kernel
theorem dX1_init_13 : decode cX1_init 13 = .ok (.iconst 0, 1) := by decide +kernel
theorem dX1_init_14 : decode cX1_init 14 = .ok (.putfield 17, 3) := by decide +kernel
theorem dX1_init_17 : decode cX1_init 17 = .ok (.aload_n 0, 1) := by decide +kernel
theorem dX1_init_18 : decode cX1_init 18 = .ok (.iconst 0, 1) := by decide +kernel
theorem dX1_init_19 : decode cX1_init 19 = .ok (.putfield 21, 3) := by decide +kernel
theorem dX1_init_22 : decode cX1_init 22 = .ok (.iconst 0, 1) := by decide +kernel
theorem dX1_init_23 : decode cX1_init 23 = .ok (.istore_n 1, 1) := by decide +kernel
theorem dX1_init_24 : decode cX1_init 24 = .ok (.iload_n 1, 1) := by decide +kernel
theorem dX1_init_25 : decode cX1_init 25 = .ok (.aload_n 0, 1) := by decide +kernel
theorem dX1_init_26 : decode cX1_init 26 = .ok (.getfield 11, 3) := by decide +kernel
theorem dX1_init_29 : decode cX1_init 29 = .ok (.arraylength, 1) := by decide +kernel
theorem dX1_init_30 : decode cX1_init 30 = .ok (.if_icmp .ge 22, 3) := by decide +kernel
theorem dX1_init_33 : decode cX1_init 33 = .ok (.aload_n 0, 1) := by decide +kernel
theorem dX1_init_34 : decode cX1_init 34 = .ok (.getfield 11, 3) := by decide +kernel
theorem dX1_init_37 : decode cX1_init 37 = .ok (.iload_n 1, 1) := by decide +kernel
theorem dX1_init_38 : decode cX1_init 38 = .ok (.new 9, 3) := by decide +kernel
theorem dX1_init_41 : decode cX1_init 41 = .ok (.dup, 1) := by decide +kernel
theorem dX1_init_42 : decode cX1_init 42 = .ok (.invokespecial 24, 3) := by decide +kernel
theorem dX1_init_45 : decode cX1_init 45 = .ok (.aastore, 1) := by decide +kernel
theorem dX1_init_46 : decode cX1_init 46 = .ok (.iinc 1 1, 3) := by decide +kernel
theorem dX1_init_49 : decode cX1_init 49 = .ok (.goto (-25), 3) := by decide +kernel
theorem dX1_init_52 : decode cX1_init 52 = .ok (.return_, 1) := by decide +kernel
set_option maxRecDepth 20000 in
theorem ggX1_keep_X1_stateAt : GoodIn wsX1_keep wsX1_stateAt := goodIn_r _ [11, 12, 39, 40, 41] (by decide +kernel) (by decide +kernel)
set_option maxRecDepth 20000 in
theorem gX1_keep_X1_stateAt : GoodIn wsX1_keep (wsV RX1 25 RX1 yX1_stateAt wsX1_stateAt) := goodIn_app (goodIn_of _ (by decide +kernel)) ggX1_keep_X1_stateAt
set_option maxRecDepth 20000 in
theorem ggX1_keep_X0_copyFrom : GoodIn wsX1_keep wsX0_copyFrom := goodIn_r _ [17, 18, 19, 20, 21, 22, 23, 24, 25, 26, 27, 28, 29, 30, 31, 32, 33, 34, 4, 5, 6, 35, 36, 37, 38, 42, 43, 44, 45, 46, 47, 48, 49, 50, 51, 52, 53, 54] (by decide +kernel) (by decide +kernel)
set_option maxRecDepth 20000 in
theorem gX1_keep_X0_copyFrom : GoodIn wsX1_keep (wsV RX1 29 RX0 yX0_copyFrom wsX0_copyFrom) := goodIn_app (goodIn_of _ (by decide +kernel)) ggX1_keep_X0_copyFrom
theorem dX1_keep_0 : decode cX1_keep 0 = .ok (.aload_n 0, 1) := by decide +kernel
theorem dX1_keep_1 : decode cX1_keep 1 = .ok (.aload_n 0, 1) := by decide +kernel
theorem dX1_keep_2 : decode cX1_keep 2 = .ok (.getfield 21, 3) := by decide +kernel
theorem dX1_keep_5 : decode cX1_keep 5 = .ok (.invokevirtual 25, 3) := by decide +kernel
theorem dX1_keep_8 : decode cX1_keep 8 = .ok (.astore_n 2, 1) := by decide +kernel
theorem dX1_keep_9 : decode cX1_keep 9 = .ok (.aload_n 2, 1) := by decide +kernel
theorem dX1_keep_10 : decode cX1_keep 10 = .ok (.ifnull 34, 3) := by decide +kernel
theorem dX1_keep_13 : decode cX1_keep 13 = .ok (.aload_n 2, 1) := by decide +kernel
theorem dX1_keep_14 : decode cX1_keep 14 = .ok (.aload_n 1, 1) := by decide +kernel
theorem dX1_keep_15 : decode cX1_keep 15 = .ok (.invokevirtual 29, 3) := by decide +kernel
theorem dX1_keep_18 : decode cX1_keep 18 = .ok (.aload_n 0, 1) := by decide +kernel
theorem dX1_keep_19 : decode cX1_keep 19 = .ok (.aload_n 0, 1) := by decide +kernel
theorem dX1_keep_20 : decode cX1_keep 20 = .ok (.getfield 21, 3) := by decide +kernel
theorem dX1_keep_23 : decode cX1_keep 23 = .ok (.iconst 1, 1) := by decide +kernel
theorem dX1_keep_24 : decode cX1_keep 24 = .ok (.iadd, 1) := by decide +kernel
theorem dX1_keep_25 : decode cX1_keep 25 = .ok (.iconst 5, 1) := by decide +kernel
theorem dX1_keep_26 : decode cX1_keep 26 = .ok (.irem, 1) := by decide +kernel
theorem dX1_keep_27 : decode cX1_keep 27 = .ok (.putfield 21, 3) := by decide +kernel
theorem dX1_keep_30 : decode cX1_keep 30 = .ok (.aload_n 0, 1) := by decide +kernel
theorem dX1_keep_31 : decode cX1_keep 31 = .ok (.aload_n 0, 1) := by decide +kernel
theorem dX1_keep_32 : decode cX1_keep 32 = .ok (.getfield 17, 3) := by decide +kernel
theorem dX1_keep_35 : decode cX1_keep 35 = .ok (.iconst 1, 1) := by decide +kernel
theorem dX1_keep_36 : decode cX1_keep 36 = .ok (.iadd, 1) := by decide +kernel
theorem dX1_keep_37 : decode cX1_keep 37 = .ok (.iconst 5, 1) := by decide +kernel
theorem dX1_keep_38 : decode cX1_keep 38 = .ok (.invokestatic 33, 3) := by decide +kernel
theorem dX1_keep_41 : decode cX1_keep 41 = .ok (.putfield 17, 3) := by decide +kernel
theorem dX1_keep_44 : decode cX1_keep 44 = .ok (.return_, 1) := by decide +kernel
set_option maxRecDepth 20000 in
theorem ggX1_takeLatest_X1_stateAt : GoodIn wsX1_takeLatest wsX1_stateAt := goodIn_r _ [7, 8, 38, 39, 40] (by decide +kernel) (by decide +kernel)
set_option maxRecDepth 20000 in
theorem gX1_takeLatest_X1_stateAt : GoodIn wsX1_takeLatest (wsV RX1 25 RX1 yX1_stateAt wsX1_stateAt) := goodIn_app (goodIn_of _ (by decide +kernel)) ggX1_takeLatest_X1_stateAt
set_option maxRecDepth 20000 in
theorem ggX1_takeLatest_X0_copyFrom : GoodIn wsX1_takeLatest wsX0_copyFrom := goodIn_r _ [13, 14, 15, 16, 17, 18, 19, 20, 21, 22, 23, 24, 25, 26, 27, 28, 29, 30, 31, 32, 33, 34, 35, 36, 37, 41, 42, 43, 44, 45, 46, 47, 48, 49, 50, 51, 52, 53] (by decide +kernel) (by decide +kernel)
set_option maxRecDepth 20000 in
theorem gX1_takeLatest_X0_copyFrom : GoodIn wsX1_takeLatest (wsV RX1 29 RX0 yX0_copyFrom wsX0_copyFrom) := goodIn_app (goodIn_of _ (by decide +kernel)) ggX1_takeLatest_X0_copyFrom
theorem dX1_takeLatest_0 : decode cX1_takeLatest 0 = .ok (.aload_n 0, 1) := by decide +kernel
theorem dX1_takeLatest_1 : decode cX1_takeLatest 1 = .ok (.getfield 21, 3) := by decide +kernel
theorem dX1_takeLatest_4 : decode cX1_takeLatest 4 = .ok (.iconst 5, 1) := by decide +kernel
theorem dX1_takeLatest_5 : decode cX1_takeLatest 5 = .ok (.iadd, 1) := by decide +kernel
theorem dX1_takeLatest_6 : decode cX1_takeLatest 6 = .ok (.iconst 1, 1) := by decide +kernel
theorem dX1_takeLatest_7 : decode cX1_takeLatest 7 = .ok (.isub, 1) := by decide +kernel
theorem dX1_takeLatest_8 : decode cX1_takeLatest 8 = .ok (.iconst 5, 1) := by decide +kernel
theorem dX1_takeLatest_9 : decode cX1_takeLatest 9 = .ok (.irem, 1) := by decide +kernel
theorem dX1_takeLatest_10 : decode cX1_takeLatest 10 = .ok (.istore_n 2, 1) := by decide +kernel
theorem dX1_takeLatest_11 : decode cX1_takeLatest 11 = .ok (.aload_n 0, 1) := by decide +kernel
theorem dX1_takeLatest_12 : decode cX1_takeLatest 12 = .ok (.iload_n 2, 1) := by decide +kernel
theorem dX1_takeLatest_13 : decode cX1_takeLatest 13 = .ok (.invokevirtual 25, 3) := by decide +kernel
theorem dX1_takeLatest_16 : decode cX1_takeLatest 16 = .ok (.astore_n 3, 1) := by decide +kernel
theorem dX1_takeLatest_17 : decode cX1_takeLatest 17 = .ok (.aload_n 0, 1) := by decide +kernel
theorem dX1_takeLatest_18 : decode cX1_takeLatest 18 = .ok (.getfield 17, 3) := by decide +kernel
theorem dX1_takeLatest_21 : decode cX1_takeLatest 21 = .ok (.ifCond .le 7, 3) := by decide +kernel
theorem dX1_takeLatest_24 : decode cX1_takeLatest 24 = .ok (.aload_n 3, 1) := by decide +kernel
theorem dX1_takeLatest_25 : decode cX1_takeLatest 25 = .ok (.ifnonnull 5, 3) := by decide +kernel
theorem dX1_takeLatest_28 : decode cX1_takeLatest 28 = .ok (.iconst 0, 1) := by decide +kernel
theorem dX1_takeLatest_29 : decode cX1_takeLatest 29 = .ok (.ireturn, 1) := by decide +kernel
theorem dX1_takeLatest_30 : decode cX1_takeLatest 30 = .ok (.aload_n 1, 1) := by decide +kernel
theorem dX1_takeLatest_31 : decode cX1_takeLatest 31 = .ok (.aload_n 3, 1) := by decide +kernel
theorem dX1_takeLatest_32 : decode cX1_takeLatest 32 = .ok (.invokevirtual 29, 3) := by decide +kernel
theorem dX1_takeLatest_35 : decode cX1_takeLatest 35 = .ok (.aload_n 0, 1) := by decide +kernel
theorem dX1_takeLatest_36 : decode cX1_takeLatest 36 = .ok (.iload_n 2, 1) := by decide +kernel
theorem dX1_takeLatest_37 : decode cX1_takeLatest 37 = .ok (.putfield 21, 3) := by decide +kernel
theorem dX1_takeLatest_40 : decode cX1_takeLatest 40 = .ok (.aload_n 0, 1) := by decide +kernel
theorem dX1_takeLatest_41 : decode cX1_takeLatest 41 = .ok (.dup, 1) := by decide +kernel
theorem dX1_takeLatest_42 : decode cX1_takeLatest 42 = .ok (.getfield 17, 3) := by decide +kernel
theorem dX1_takeLatest_45 : decode cX1_takeLatest 45 = .ok (.iconst 1, 1) := by decide +kernel
theorem dX1_takeLatest_46 : decode cX1_takeLatest 46 = .ok (.isub, 1) := by decide +kernel
theorem dX1_takeLatest_47 : decode cX1_takeLatest 47 = .ok (.putfield 17, 3) := by decide +kernel
theorem dX1_takeLatest_50 : decode cX1_takeLatest 50 = .ok (.iconst 1, 1) := by decide +kernel
theorem dX1_takeLatest_51 : decode cX1_takeLatest 51 = .ok (.ireturn, 1) := by decide +kernel
theorem dX1_stateAt_0 : decode cX1_stateAt 0 = .ok (.iload_n 1, 1) := by decide +kernel
theorem dX1_stateAt_1 : decode cX1_stateAt 1 = .ok (.ifCond .lt 21, 3) := by decide +kernel
theorem dX1_stateAt_4 : decode cX1_stateAt 4 = .ok (.iload_n 1, 1) := by decide +kernel
theorem dX1_stateAt_5 : decode cX1_stateAt 5 = .ok (.aload_n 0, 1) := by decide +kernel
theorem dX1_stateAt_6 : decode cX1_stateAt 6 = .ok (.getfield 11, 3) := by decide +kernel
theorem dX1_stateAt_9 : decode cX1_stateAt 9 = .ok (.arraylength, 1) := by decide +kernel
theorem dX1_stateAt_10 : decode cX1_stateAt 10 = .ok (.if_icmp .ge 12, 3) := by decide +kernel
theorem dX1_stateAt_13 : decode cX1_stateAt 13 = .ok (.aload_n 0, 1) := by decide +kernel
theorem dX1_stateAt_14 : decode cX1_stateAt 14 = .ok (.getfield 11, 3) := by decide +kernel
theorem dX1_stateAt_17 : decode cX1_stateAt 17 = .ok (.iload_n 1, 1) := by decide +kernel
theorem dX1_stateAt_18 : decode cX1_stateAt 18 = .ok (.aaload, 1) := by decide +kernel
theorem dX1_stateAt_19 : decode cX1_stateAt 19 = .ok (.goto 4, 3) := by decide +kernel
theorem dX1_stateAt_22 : decode cX1_stateAt 22 = .ok (.aconst_null, 1) := by decide +kernel
theorem dX1_stateAt_23 : decode cX1_stateAt 23 = .ok (.areturn, 1) := by decide +kernel
theorem dX2_init_0 : decode cX2_init 0 = .ok (.aload_n 0, 1) := by decide +kernel
theorem dX2_init_1 : decode cX2_init 1 = .ok (.invokespecial 3, 3) := by decide +kernel
theorem dX2_init_4 : decode cX2_init 4 = .ok (.aload_n 0, 1) := by decide +kernel
theorem dX2_init_5 : decode cX2_init 5 = .ok (.bipush 100, 2) := by decide +kernel
theorem dX2_init_7 : decode cX2_init 7 = .ok (.newarray .int, 2) := by decide +kernel
theorem dX2_init_9 : decode cX2_init 9 = .ok (.putfield 9, 3) := by decide +kernel
theorem dX2_init_12 : decode cX2_init 12 = .ok (.aload_n 0, 1) := by decide +kernel
theorem dX2_init_13 : decode cX2_init 13 = .ok (.iconst 0, 1) := by decide +kernel
theorem dX2_init_14 : decode cX2_init 14 = .ok (.putfield 15, 3) := by decide +kernel
theorem dX2_init_17 : decode cX2_init 17 = .ok (.aload_n 0, 1) := by decide +kernel
theorem dX2_init_18 : decode cX2_init 18 = .ok (.iconst 0, 1) := by decide +kernel
theorem dX2_init_19 : decode cX2_init 19 = .ok (.putfield 19, 3) := by decide +kernel
theorem dX2_init_22 : decode cX2_init 22 = .ok (.aload_n 0, 1) := by decide +kernel
theorem dX2_init_23 : decode cX2_init 23 = .ok (.iconst 0, 1) := by decide +kernel
theorem dX2_init_24 : decode cX2_init 24 = .ok (.putfield 22, 3) := by decide +kernel
theorem dX2_init_27 : decode cX2_init 27 = .ok (.aload_n 0, 1) := by decide +kernel
theorem dX2_init_28 : decode cX2_init 28 = .ok (.iconst 0, 1) := by decide +kernel
theorem dX2_init_29 : decode cX2_init 29 = .ok (.putfield 25, 3) := by decide +kernel
theorem dX2_init_32 : decode cX2_init 32 = .ok (.aload_n 0, 1) := by decide +kernel
theorem dX2_init_33 : decode cX2_init 33 = .ok (.iconst 3, 1) := by decide +kernel
theorem dX2_init_34 : decode cX2_init 34 = .ok (.newarray .int, 2) := by decide +kernel
theorem dX2_init_36 : decode cX2_init 36 = .ok (.putfield 29, 3) := by decide +kernel
theorem dX2_init_39 : decode cX2_init 39 = .ok (.aload_n 0, 1) := by decide +kernel
theorem dX2_init_40 : decode cX2_init 40 = .ok (.iconst 0, 1) := by decide +kernel
theorem dX2_init_41 : decode cX2_init 41 = .ok (.putfield 32, 3) := by decide +kernel
theorem dX2_init_44 : decode cX2_init 44 = .ok (.aload_n 0, 1) := by decide +kernel
theorem dX2_init_45 : decode cX2_init 45 = .ok (.iconst 0, 1) := by decide +kernel
theorem dX2_init_46 : decode cX2_init 46 = .ok (.putfield 35, 3) := by decide +kernel
theorem dX2_init_49 : decode cX2_init 49 = .ok (.return_, 1) := by decide +kernel
set_option maxRecDepth 20000 in
theorem ggX2_addSign_X4_put : GoodIn wsX2_addSign wsX4_put := goodIn_r _ [5] (by decide +kernel) (by decide +kernel)
set_option maxRecDepth 20000 in
theorem gX2_addSign_X4_put_n38 : GoodIn wsX2_addSign (wsX4_put) := ggX2_addSign_X4_put
theorem dX2_addSign_0 : decode cX2_addSign 0 = .ok (.iload_n 1, 1) := by decide +kernel
theorem dX2_addSign_1 : decode cX2_addSign 1 = .ok (.iconst 1, 1) := by decide +kernel
theorem dX2_addSign_2 : decode cX2_addSign 2 = .ok (.if_icmp .lt 10, 3) := by decide +kernel
theorem dX2_addSign_5 : decode cX2_addSign 5 = .ok (.iload_n 1, 1) := by decide +kernel
theorem dX2_addSign_6 : decode cX2_addSign 6 = .ok (.sipush 255, 3) := by decide +kernel
theorem dX2_addSign_9 : decode cX2_addSign 9 = .ok (.if_icmp .le 5, 3) := by decide +kernel
theorem dX2_addSign_12 : decode cX2_addSign 12 = .ok (.iconst (-1), 1) := by decide +kernel
theorem dX2_addSign_13 : decode cX2_addSign 13 = .ok (.ireturn, 1) := by decide +kernel
theorem dX2_addSign_14 : decode cX2_addSign 14 = .ok (.aload_n 0, 1) := by decide +kernel
theorem dX2_addSign_15 : decode cX2_addSign 15 = .ok (.getfield 15, 3) := by decide +kernel
theorem dX2_addSign_18 : decode cX2_addSign 18 = .ok (.bipush 100, 2) := by decide +kernel
theorem dX2_addSign_20 : decode cX2_addSign 20 = .ok (.if_icmp .lt 6, 3) := by decide +kernel
theorem dX2_addSign_23 : decode cX2_addSign 23 = .ok (.bipush (-3), 2) := by decide +kernel
theorem dX2_addSign_25 : decode cX2_addSign 25 = .ok (.ireturn, 1) := by decide +kernel
theorem dX2_addSign_26 : decode cX2_addSign 26 = .ok (.aload_n 0, 1) := by decide +kernel
theorem dX2_addSign_27 : decode cX2_addSign 27 = .ok (.getfield 9, 3) := by decide +kernel
theorem dX2_addSign_30 : decode cX2_addSign 30 = .ok (.aload_n 0, 1) := by decide +kernel
theorem dX2_addSign_31 : decode cX2_addSign 31 = .ok (.getfield 15, 3) := by decide +kernel
theorem dX2_addSign_34 : decode cX2_addSign 34 = .ok (.iload_n 1, 1) := by decide +kernel
theorem dX2_addSign_35 : decode cX2_addSign 35 = .ok (.invokestatic 38, 3) := by decide +kernel
theorem dX2_addSign_38 : decode cX2_addSign 38 = .ok (.aload_n 0, 1) := by decide +kernel
theorem dX2_addSign_39 : decode cX2_addSign 39 = .ok (.dup, 1) := by decide +kernel
theorem dX2_addSign_40 : decode cX2_addSign 40 = .ok (.getfield 15, 3) := by decide +kernel
theorem dX2_addSign_43 : decode cX2_addSign 43 = .ok (.iconst 1, 1) := by decide +kernel
theorem dX2_addSign_44 : decode cX2_addSign 44 = .ok (.iadd, 1) := by decide +kernel
theorem dX2_addSign_45 : decode cX2_addSign 45 = .ok (.putfield 15, 3) := by decide +kernel
theorem dX2_addSign_48 : decode cX2_addSign 48 = .ok (.aload_n 0, 1) := by decide +kernel
theorem dX2_addSign_49 : decode cX2_addSign 49 = .ok (.getfield 15, 3) := by decide +kernel
theorem dX2_addSign_52 : decode cX2_addSign 52 = .ok (.ireturn, 1) := by decide +kernel
theorem dX2_startReading_0 : decode cX2_startReading 0 = .ok (.aload_n 0, 1) := by decide +kernel
theorem dX2_startReading_1 : decode cX2_startReading 1 = .ok (.iconst 0, 1) := by decide +kernel
theorem dX2_startReading_2 : decode cX2_startReading 2 = .ok (.putfield 19, 3) := by decide +kernel
theorem dX2_startReading_5 : decode cX2_startReading 5 = .ok (.aload_n 0, 1) := by decide +kernel
theorem dX2_startReading_6 : decode cX2_startReading 6 = .ok (.iconst 0, 1) := by decide +kernel
theorem dX2_startReading_7 : decode cX2_startReading 7 = .ok (.putfield 25, 3) := by decide +kernel
theorem dX2_startReading_10 : decode cX2_startReading 10 = .ok (.return_, 1) := by decide +kernel
theorem dX2_isInOrder_0 : decode cX2_isInOrder 0 = .ok (.aload_n 0, 1) := by decide +kernel
theorem dX2_isInOrder_1 : decode cX2_isInOrder 1 = .ok (.getfield 19, 3) := by decide +kernel
theorem dX2_isInOrder_4 : decode cX2_isInOrder 4 = .ok (.ifCond .eq 14, 3) := by decide +kernel
theorem dX2_isInOrder_7 : decode cX2_isInOrder 7 = .ok (.aload_n 0, 1) := by decide +kernel
theorem dX2_isInOrder_8 : decode cX2_isInOrder 8 = .ok (.getfield 25, 3) := by decide +kernel
theorem dX2_isInOrder_11 : decode cX2_isInOrder 11 = .ok (.ifCond .ne 7, 3) := by decide +kernel
theorem dX2_isInOrder_14 : decode cX2_isInOrder 14 = .ok (.iconst 1, 1) := by decide +kernel
theorem dX2_isInOrder_15 : decode cX2_isInOrder 15 = .ok (.goto 4, 3) := by decide +kernel
theorem dX2_isInOrder_18 : decode cX2_isInOrder 18 = .ok (.iconst 0, 1) := by decide +kernel
theorem dX2_isInOrder_19 : decode cX2_isInOrder 19 = .ok (.ireturn, 1) := by decide +kernel
set_option maxRecDepth 20000 in
theorem ggX2_read_X4_at : GoodIn wsX2_read wsX4_at := goodIn_r _ [8] (by decide +kernel) (by decide +kernel)
set_option maxRecDepth 20000 in
theorem gX2_read_X4_at_n42 : GoodIn wsX2_read (wsX4_at) := ggX2_read_X4_at
set_option maxRecDepth 20000 in
theorem ggX2_read_X2_startReading : GoodIn wsX2_read wsX2_startReading := goodIn_r _ [13, 4, 2, 33, 34, 35, 36, 37, 38, 39, 40] (by decide +kernel) (by decide +kernel)
set_option maxRecDepth 20000 in
theorem gX2_read_X2_startReading : GoodIn wsX2_read (wsV RX2 46 RX2 yX2_startReading wsX2_startReading) := goodIn_app (goodIn_of _ (by decide +kernel)) ggX2_read_X2_startReading
set_option maxRecDepth 20000 in
theorem ggX2_read_X2_readLetter : GoodIn wsX2_read wsX2_readLetter := goodIn_r _ [17, 4, 18, 5, 3, 19, 20, 12, 21, 33, 34, 35, 36, 37, 38, 39, 40] (by decide +kernel) (by decide +kernel)
set_option maxRecDepth 20000 in
theorem gX2_read_X2_readLetter : GoodIn wsX2_read (wsV RX2 49 RX2 yX2_readLetter wsX2_readLetter) := goodIn_app (goodIn_of _ (by decide +kernel)) ggX2_read_X2_readLetter
set_option maxRecDepth 20000 in
theorem ggX2_read_X2_numbersOf : GoodIn wsX2_read wsX2_numbersOf := goodIn_r _ [21] (by decide +kernel) (by decide +kernel)
set_option maxRecDepth 20000 in
theorem gX2_read_X2_numbersOf : GoodIn wsX2_read (va_wsS RX2 53 yX2_numbersOf wsX2_numbersOf) := goodIn_app (goodIn_of _ (by decide +kernel)) ggX2_read_X2_numbersOf
set_option maxRecDepth 20000 in
theorem ggX2_read_X2_readDigit : GoodIn wsX2_read wsX2_readDigit := goodIn_r _ [25, 3, 26, 5, 27, 28, 29, 12, 30, 4, 19, 20, 21, 31, 7, 32, 6, 8, 33, 34, 35, 36, 37, 38, 39, 40] (by decide +kernel) (by decide +kernel)
set_option maxRecDepth 20000 in
theorem gX2_read_X2_readDigit : GoodIn wsX2_read (wsV RX2 57 RX2 yX2_readDigit wsX2_readDigit) := goodIn_app (goodIn_of _ (by decide +kernel)) ggX2_read_X2_readDigit
theorem dX2_read_0 : decode cX2_read 0 = .ok (.aload_n 0, 1) := by decide +kernel
theorem dX2_read_1 : decode cX2_read 1 = .ok (.getfield 9, 3) := by decide +kernel
theorem dX2_read_4 : decode cX2_read 4 = .ok (.iload_n 1, 1) := by decide +kernel
theorem dX2_read_5 : decode cX2_read 5 = .ok (.invokestatic 42, 3) := by decide +kernel
theorem dX2_read_8 : decode cX2_read 8 = .ok (.istore_n 2, 1) := by decide +kernel
theorem dX2_read_9 : decode cX2_read 9 = .ok (.aload_n 0, 1) := by decide +kernel
theorem dX2_read_10 : decode cX2_read 10 = .ok (.getfield 25, 3) := by decide +kernel
theorem dX2_read_13 : decode cX2_read 13 = .ok (.ifCond .eq 7, 3) := by decide +kernel
theorem dX2_read_16 : decode cX2_read 16 = .ok (.aload_n 0, 1) := by decide +kernel
theorem dX2_read_17 : decode cX2_read 17 = .ok (.invokevirtual 46, 3) := by decide +kernel
theorem dX2_read_20 : decode cX2_read 20 = .ok (.iload_n 2, 1) := by decide +kernel
theorem dX2_read_21 : decode cX2_read 21 = .ok (.bipush 32, 2) := by decide +kernel
theorem dX2_read_23 : decode cX2_read 23 = .ok (.if_icmp .ne 10, 3) := by decide +kernel
theorem dX2_read_26 : decode cX2_read 26 = .ok (.aload_n 0, 1) := by decide +kernel
theorem dX2_read_27 : decode cX2_read 27 = .ok (.iconst 0, 1) := by decide +kernel
theorem dX2_read_28 : decode cX2_read 28 = .ok (.putfield 35, 3) := by decide +kernel
theorem dX2_read_31 : decode cX2_read 31 = .ok (.iconst 1, 1) := by decide +kernel
theorem dX2_read_32 : decode cX2_read 32 = .ok (.ireturn, 1) := by decide +kernel
theorem dX2_read_33 : decode cX2_read 33 = .ok (.aload_n 0, 1) := by decide +kernel
theorem dX2_read_34 : decode cX2_read 34 = .ok (.getfield 19, 3) := by decide +kernel
theorem dX2_read_37 : decode cX2_read 37 = .ok (.ifCond .ne 10, 3) := by decide +kernel
theorem dX2_read_40 : decode cX2_read 40 = .ok (.aload_n 0, 1) := by decide +kernel
theorem dX2_read_41 : decode cX2_read 41 = .ok (.iload_n 2, 1) := by decide +kernel
theorem dX2_read_42 : decode cX2_read 42 = .ok (.iload_n 1, 1) := by decide +kernel
theorem dX2_read_43 : decode cX2_read 43 = .ok (.invokevirtual 49, 3) := by decide +kernel
theorem dX2_read_46 : decode cX2_read 46 = .ok (.ireturn, 1) := by decide +kernel
theorem dX2_read_47 : decode cX2_read 47 = .ok (.iload_n 2, 1) := by decide +kernel
theorem dX2_read_48 : decode cX2_read 48 = .ok (.bipush 59, 2) := by decide +kernel
theorem dX2_read_50 : decode cX2_read 50 = .ok (.if_icmp .ne 31, 3) := by decide +kernel
theorem dX2_read_53 : decode cX2_read 53 = .ok (.aload_n 0, 1) := by decide +kernel
theorem dX2_read_54 : decode cX2_read 54 = .ok (.aload_n 0, 1) := by decide +kernel
theorem dX2_read_55 : decode cX2_read 55 = .ok (.getfield 32, 3) := by decide +kernel
theorem dX2_read_58 : decode cX2_read 58 = .ok (.aload_n 0, 1) := by decide +kernel
theorem dX2_read_59 : decode cX2_read 59 = .ok (.getfield 19, 3) := by decide +kernel
theorem dX2_read_62 : decode cX2_read 62 = .ok (.invokestatic 53, 3) := by decide +kernel
theorem dX2_read_65 : decode cX2_read 65 = .ok (.if_icmp .ne 7, 3) := by decide +kernel
theorem dX2_read_68 : decode cX2_read 68 = .ok (.iconst 1, 1) := by decide +kernel
theorem dX2_read_69 : decode cX2_read 69 = .ok (.goto 4, 3) := by decide +kernel
theorem dX2_read_72 : decode cX2_read 72 = .ok (.iconst 0, 1) := by decide +kernel
theorem dX2_read_73 : decode cX2_read 73 = .ok (.putfield 25, 3) := by decide +kernel
theorem dX2_read_76 : decode cX2_read 76 = .ok (.aload_n 0, 1) := by decide +kernel
theorem dX2_read_77 : decode cX2_read 77 = .ok (.getfield 25, 3) := by decide +kernel
theorem dX2_read_80 : decode cX2_read 80 = .ok (.ireturn, 1) := by decide +kernel
theorem dX2_read_81 : decode cX2_read 81 = .ok (.iload_n 2, 1) := by decide +kernel
theorem dX2_read_82 : decode cX2_read 82 = .ok (.bipush 48, 2) := by decide +kernel
theorem dX2_read_84 : decode cX2_read 84 = .ok (.if_icmp .lt 24, 3) := by decide +kernel
theorem dX2_read_87 : decode cX2_read 87 = .ok (.iload_n 2, 1) := by decide +kernel
theorem dX2_read_88 : decode cX2_read 88 = .ok (.bipush 57, 2) := by decide +kernel
theorem dX2_read_90 : decode cX2_read 90 = .ok (.if_icmp .gt 18, 3) := by decide +kernel
theorem dX2_read_93 : decode cX2_read 93 = .ok (.aload_n 0, 1) := by decide +kernel
theorem dX2_read_94 : decode cX2_read 94 = .ok (.iload_n 2, 1) := by decide +kernel
theorem dX2_read_95 : decode cX2_read 95 = .ok (.bipush 48, 2) := by decide +kernel
theorem dX2_read_97 : decode cX2_read 97 = .ok (.isub, 1) := by decide +kernel
theorem dX2_read_98 : decode cX2_read 98 = .ok (.invokevirtual 57, 3) := by decide +kernel
theorem dX2_read_101 : decode cX2_read 101 = .ok (.ifCond .eq 7, 3) := by decide +kernel
theorem dX2_read_104 : decode cX2_read 104 = .ok (.iconst 1, 1) := by decide +kernel
theorem dX2_read_105 : decode cX2_read 105 = .ok (.goto 4, 3) := by decide +kernel
theorem dX2_read_108 : decode cX2_read 108 = .ok (.iconst 0, 1) := by decide +kernel
theorem dX2_read_109 : decode cX2_read 109 = .ok (.ireturn, 1) := by decide +kernel
set_option maxRecDepth 20000 in
theorem ggX2_readLetter_X2_numbersOf : GoodIn wsX2_readLetter wsX2_numbersOf := goodIn_r _ [8] (by decide +kernel) (by decide +kernel)
set_option maxRecDepth 20000 in
theorem gX2_readLetter_X2_numbersOf : GoodIn wsX2_readLetter (va_wsS RX2 53 yX2_numbersOf wsX2_numbersOf) := goodIn_app (goodIn_of _ (by decide +kernel)) ggX2_readLetter_X2_numbersOf
theorem dX2_readLetter_0 : decode cX2_readLetter 0 = .ok (.iload_n 1, 1) := by decide +kernel
theorem dX2_readLetter_1 : decode cX2_readLetter 1 = .ok (.invokestatic 53, 3) := by decide +kernel
theorem dX2_readLetter_4 : decode cX2_readLetter 4 = .ok (.ifCond .ne 5, 3) := by decide +kernel
theorem dX2_readLetter_7 : decode cX2_readLetter 7 = .ok (.iconst 0, 1) := by decide +kernel
theorem dX2_readLetter_8 : decode cX2_readLetter 8 = .ok (.ireturn, 1) := by decide +kernel
theorem dX2_readLetter_9 : decode cX2_readLetter 9 = .ok (.aload_n 0, 1) := by decide +kernel
theorem dX2_readLetter_10 : decode cX2_readLetter 10 = .ok (.iload_n 1, 1) := by decide +kernel
theorem dX2_readLetter_11 : decode cX2_readLetter 11 = .ok (.putfield 19, 3) := by decide +kernel
theorem dX2_readLetter_14 : decode cX2_readLetter 14 = .ok (.aload_n 0, 1) := by decide +kernel
theorem dX2_readLetter_15 : decode cX2_readLetter 15 = .ok (.iload_n 2, 1) := by decide +kernel
theorem dX2_readLetter_16 : decode cX2_readLetter 16 = .ok (.putfield 22, 3) := by decide +kernel
theorem dX2_readLetter_19 : decode cX2_readLetter 19 = .ok (.aload_n 0, 1) := by decide +kernel
end
section
theorem dX2_readLetter_20 : decode cX2_readLetter 20 = .ok (.iconst 0, 1) := by decide +kernel
theorem dX2_readLetter_21 : decode cX2_readLetter 21 = .ok (.putfield 32, 3) := by decide +kernel
theorem dX2_readLetter_24 : decode cX2_readLetter 24 = .ok (.aload_n 0, 1) := by decide +kernel
theorem dX2_readLetter_25 : decode cX2_readLetter 25 = .ok (.iconst 0, 1) := by decide +kernel
theorem dX2_readLetter_26 : decode cX2_readLetter 26 = .ok (.putfield 35, 3) := by decide +kernel
theorem dX2_readLetter_29 : decode cX2_readLetter 29 = .ok (.iconst 1, 1) := by decide +kernel
theorem dX2_readLetter_30 : decode cX2_readLetter 30 = .ok (.ireturn, 1) := by decide +kernel
set_option maxRecDepth 20000 in
theorem ggX2_readDigit_X2_beginNumber : GoodIn wsX2_readDigit wsX2_beginNumber := goodIn_r _ [8, 3, 9, 2, 1, 10, 11, 7, 12, 13, 14, 15, 18, 19, 20, 21, 22, 23, 24, 25] (by decide +kernel) (by decide +kernel)
set_option maxRecDepth 20000 in
theorem gX2_readDigit_X2_beginNumber : GoodIn wsX2_readDigit (wsV RX2 61 RX2 yX2_beginNumber wsX2_beginNumber) := goodIn_app (goodIn_of _ (by decide +kernel)) ggX2_readDigit_X2_beginNumber
set_option maxRecDepth 20000 in
theorem ggX2_readDigit_X4_at : GoodIn wsX2_readDigit wsX4_at := goodIn_r _ [17] (by decide +kernel) (by decide +kernel)
set_option maxRecDepth 20000 in
theorem gX2_readDigit_X4_at_n42 : GoodIn wsX2_readDigit (wsX4_at) := ggX2_readDigit_X4_at
set_option maxRecDepth 20000 in
theorem ggX2_readDigit_X4_put : GoodIn wsX2_readDigit wsX4_put := goodIn_r _ [15] (by decide +kernel) (by decide +kernel)
set_option maxRecDepth 20000 in
theorem gX2_readDigit_X4_put_n38 : GoodIn wsX2_readDigit (wsX4_put) := ggX2_readDigit_X4_put
theorem dX2_readDigit_0 : decode cX2_readDigit 0 = .ok (.aload_n 0, 1) := by decide +kernel
theorem dX2_readDigit_1 : decode cX2_readDigit 1 = .ok (.getfield 35, 3) := by decide +kernel
theorem dX2_readDigit_4 : decode cX2_readDigit 4 = .ok (.ifCond .ne 9, 3) := by decide +kernel
theorem dX2_readDigit_7 : decode cX2_readDigit 7 = .ok (.aload_n 0, 1) := by decide +kernel
theorem dX2_readDigit_8 : decode cX2_readDigit 8 = .ok (.iload_n 1, 1) := by decide +kernel
theorem dX2_readDigit_9 : decode cX2_readDigit 9 = .ok (.invokevirtual 61, 3) := by decide +kernel
theorem dX2_readDigit_12 : decode cX2_readDigit 12 = .ok (.ireturn, 1) := by decide +kernel
theorem dX2_readDigit_13 : decode cX2_readDigit 13 = .ok (.aload_n 0, 1) := by decide +kernel
theorem dX2_readDigit_14 : decode cX2_readDigit 14 = .ok (.getfield 29, 3) := by decide +kernel
theorem dX2_readDigit_17 : decode cX2_readDigit 17 = .ok (.aload_n 0, 1) := by decide +kernel
theorem dX2_readDigit_18 : decode cX2_readDigit 18 = .ok (.getfield 32, 3) := by decide +kernel
theorem dX2_readDigit_21 : decode cX2_readDigit 21 = .ok (.iconst 1, 1) := by decide +kernel
theorem dX2_readDigit_22 : decode cX2_readDigit 22 = .ok (.isub, 1) := by decide +kernel
theorem dX2_readDigit_23 : decode cX2_readDigit 23 = .ok (.invokestatic 42, 3) := by decide +kernel
theorem dX2_readDigit_26 : decode cX2_readDigit 26 = .ok (.istore_n 2, 1) := by decide +kernel
theorem dX2_readDigit_27 : decode cX2_readDigit 27 = .ok (.aload_n 0, 1) := by decide +kernel
theorem dX2_readDigit_28 : decode cX2_readDigit 28 = .ok (.getfield 35, 3) := by decide +kernel
theorem dX2_readDigit_31 : decode cX2_readDigit 31 = .ok (.iconst 4, 1) := by decide +kernel
theorem dX2_readDigit_32 : decode cX2_readDigit 32 = .ok (.if_icmp .ge 7, 3) := by decide +kernel
theorem dX2_readDigit_35 : decode cX2_readDigit 35 = .ok (.iload_n 2, 1) := by decide +kernel
theorem dX2_readDigit_36 : decode cX2_readDigit 36 = .ok (.ifCond .ne 5, 3) := by decide +kernel
theorem dX2_readDigit_39 : decode cX2_readDigit 39 = .ok (.iconst 0, 1) := by decide +kernel
theorem dX2_readDigit_40 : decode cX2_readDigit 40 = .ok (.ireturn, 1) := by decide +kernel
theorem dX2_readDigit_41 : decode cX2_readDigit 41 = .ok (.aload_n 0, 1) := by decide +kernel
theorem dX2_readDigit_42 : decode cX2_readDigit 42 = .ok (.getfield 29, 3) := by decide +kernel
theorem dX2_readDigit_45 : decode cX2_readDigit 45 = .ok (.aload_n 0, 1) := by decide +kernel
theorem dX2_readDigit_46 : decode cX2_readDigit 46 = .ok (.getfield 32, 3) := by decide +kernel
theorem dX2_readDigit_49 : decode cX2_readDigit 49 = .ok (.iconst 1, 1) := by decide +kernel
theorem dX2_readDigit_50 : decode cX2_readDigit 50 = .ok (.isub, 1) := by decide +kernel
theorem dX2_readDigit_51 : decode cX2_readDigit 51 = .ok (.iload_n 2, 1) := by decide +kernel
theorem dX2_readDigit_52 : decode cX2_readDigit 52 = .ok (.bipush 10, 2) := by decide +kernel
theorem dX2_readDigit_54 : decode cX2_readDigit 54 = .ok (.imul, 1) := by decide +kernel
theorem dX2_readDigit_55 : decode cX2_readDigit 55 = .ok (.iload_n 1, 1) := by decide +kernel
theorem dX2_readDigit_56 : decode cX2_readDigit 56 = .ok (.iadd, 1) := by decide +kernel
theorem dX2_readDigit_57 : decode cX2_readDigit 57 = .ok (.invokestatic 38, 3) := by decide +kernel
theorem dX2_readDigit_60 : decode cX2_readDigit 60 = .ok (.aload_n 0, 1) := by decide +kernel
theorem dX2_readDigit_61 : decode cX2_readDigit 61 = .ok (.dup, 1) := by decide +kernel
theorem dX2_readDigit_62 : decode cX2_readDigit 62 = .ok (.getfield 35, 3) := by decide +kernel
theorem dX2_readDigit_65 : decode cX2_readDigit 65 = .ok (.iconst 1, 1) := by decide +kernel
theorem dX2_readDigit_66 : decode cX2_readDigit 66 = .ok (.iadd, 1) := by decide +kernel
theorem dX2_readDigit_67 : decode cX2_readDigit 67 = .ok (.putfield 35, 3) := by decide +kernel
theorem dX2_readDigit_70 : decode cX2_readDigit 70 = .ok (.iconst 1, 1) := by decide +kernel
theorem dX2_readDigit_71 : decode cX2_readDigit 71 = .ok (.ireturn, 1) := by decide +kernel
set_option maxRecDepth 20000 in
theorem ggX2_beginNumber_X2_numbersOf : GoodIn wsX2_beginNumber wsX2_numbersOf := goodIn_r _ [8] (by decide +kernel) (by decide +kernel)
set_option maxRecDepth 20000 in
theorem gX2_beginNumber_X2_numbersOf : GoodIn wsX2_beginNumber (va_wsS RX2 53 yX2_numbersOf wsX2_numbersOf) := goodIn_app (goodIn_of _ (by decide +kernel)) ggX2_beginNumber_X2_numbersOf
set_option maxRecDepth 20000 in
theorem ggX2_beginNumber_X4_put : GoodIn wsX2_beginNumber wsX4_put := goodIn_r _ [11] (by decide +kernel) (by decide +kernel)
set_option maxRecDepth 20000 in
theorem gX2_beginNumber_X4_put_n38 : GoodIn wsX2_beginNumber (wsX4_put) := ggX2_beginNumber_X4_put
theorem dX2_beginNumber_0 : decode cX2_beginNumber 0 = .ok (.aload_n 0, 1) := by decide +kernel
theorem dX2_beginNumber_1 : decode cX2_beginNumber 1 = .ok (.getfield 32, 3) := by decide +kernel
theorem dX2_beginNumber_4 : decode cX2_beginNumber 4 = .ok (.aload_n 0, 1) := by decide +kernel
theorem dX2_beginNumber_5 : decode cX2_beginNumber 5 = .ok (.getfield 19, 3) := by decide +kernel
theorem dX2_beginNumber_8 : decode cX2_beginNumber 8 = .ok (.invokestatic 53, 3) := by decide +kernel
theorem dX2_beginNumber_11 : decode cX2_beginNumber 11 = .ok (.if_icmp .lt 5, 3) := by decide +kernel
theorem dX2_beginNumber_14 : decode cX2_beginNumber 14 = .ok (.iconst 0, 1) := by decide +kernel
theorem dX2_beginNumber_15 : decode cX2_beginNumber 15 = .ok (.ireturn, 1) := by decide +kernel
theorem dX2_beginNumber_16 : decode cX2_beginNumber 16 = .ok (.aload_n 0, 1) := by decide +kernel
theorem dX2_beginNumber_17 : decode cX2_beginNumber 17 = .ok (.getfield 29, 3) := by decide +kernel
theorem dX2_beginNumber_20 : decode cX2_beginNumber 20 = .ok (.aload_n 0, 1) := by decide +kernel
theorem dX2_beginNumber_21 : decode cX2_beginNumber 21 = .ok (.getfield 32, 3) := by decide +kernel
theorem dX2_beginNumber_24 : decode cX2_beginNumber 24 = .ok (.iload_n 1, 1) := by decide +kernel
theorem dX2_beginNumber_25 : decode cX2_beginNumber 25 = .ok (.invokestatic 38, 3) := by decide +kernel
theorem dX2_beginNumber_28 : decode cX2_beginNumber 28 = .ok (.aload_n 0, 1) := by decide +kernel
theorem dX2_beginNumber_29 : decode cX2_beginNumber 29 = .ok (.dup, 1) := by decide +kernel
theorem dX2_beginNumber_30 : decode cX2_beginNumber 30 = .ok (.getfield 32, 3) := by decide +kernel
theorem dX2_beginNumber_33 : decode cX2_beginNumber 33 = .ok (.iconst 1, 1) := by decide +kernel
theorem dX2_beginNumber_34 : decode cX2_beginNumber 34 = .ok (.iadd, 1) := by decide +kernel
theorem dX2_beginNumber_35 : decode cX2_beginNumber 35 = .ok (.putfield 32, 3) := by decide +kernel
theorem dX2_beginNumber_38 : decode cX2_beginNumber 38 = .ok (.aload_n 0, 1) := by decide +kernel
theorem dX2_beginNumber_39 : decode cX2_beginNumber 39 = .ok (.iconst 1, 1) := by decide +kernel
theorem dX2_beginNumber_40 : decode cX2_beginNumber 40 = .ok (.putfield 35, 3) := by decide +kernel
theorem dX2_beginNumber_43 : decode cX2_beginNumber 43 = .ok (.iconst 1, 1) := by decide +kernel
theorem dX2_beginNumber_44 : decode cX2_beginNumber 44 = .ok (.ireturn, 1) := by decide +kernel
theorem dX2_numbersOf_0 : decode cX2_numbersOf 0 = .ok (.iload_n 0, 1) := by decide +kernel
theorem dX2_numbersOf_1 : decode cX2_numbersOf 1 = .ok (.tableswitch 97 102 120 #[91, 97, 97, 97, 95, 97, 97, 93, 97, 97, 91, 97, 95, 97, 97, 97, 97, 97, 93], 91) := by decide +kernel
theorem dX2_numbersOf_92 : decode cX2_numbersOf 92 = .ok (.iconst 1, 1) := by decide +kernel
theorem dX2_numbersOf_93 : decode cX2_numbersOf 93 = .ok (.ireturn, 1) := by decide +kernel
theorem dX2_numbersOf_94 : decode cX2_numbersOf 94 = .ok (.iconst 2, 1) := by decide +kernel
theorem dX2_numbersOf_95 : decode cX2_numbersOf 95 = .ok (.ireturn, 1) := by decide +kernel
theorem dX2_numbersOf_96 : decode cX2_numbersOf 96 = .ok (.iconst 3, 1) := by decide +kernel
theorem dX2_numbersOf_97 : decode cX2_numbersOf 97 = .ok (.ireturn, 1) := by decide +kernel
theorem dX2_numbersOf_98 : decode cX2_numbersOf 98 = .ok (.iconst 0, 1) := by decide +kernel
theorem dX2_numbersOf_99 : decode cX2_numbersOf 99 = .ok (.ireturn, 1) := by decide +kernel
theorem dX3_init_0 : decode cX3_init 0 = .ok (.aload_n 0, 1) := by decide +kernel
theorem dX3_init_1 : decode cX3_init 1 = .ok (.invokespecial 3, 3) := by decide +kernel
theorem dX3_init_4 : decode cX3_init 4 = .ok (.aload_n 0, 1) := by decide +kernel
theorem dX3_init_5 : decode cX3_init 5 = .ok (.bipush (-9), 2) := by decide +kernel
theorem dX3_init_7 : decode cX3_init 7 = .ok (.putfield 9, 3) := by decide +kernel
theorem dX3_init_10 : decode cX3_init 10 = .ok (.aload_n 0, 1) := by decide +kernel
theorem dX3_init_11 : decode cX3_init 11 = .ok (.bipush (-9), 2) := by decide +kernel
theorem dX3_init_13 : decode cX3_init 13 = .ok (.putfield 15, 3) := by decide +kernel
theorem dX3_init_16 : decode cX3_init 16 = .ok (.aload_n 0, 1) := by decide +kernel
theorem dX3_init_17 : decode cX3_init 17 = .ok (.bipush (-9), 2) := by decide +kernel
theorem dX3_init_19 : decode cX3_init 19 = .ok (.putfield 18, 3) := by decide +kernel
theorem dX3_init_22 : decode cX3_init 22 = .ok (.aload_n 0, 1) := by decide +kernel
theorem dX3_init_23 : decode cX3_init 23 = .ok (.iconst 0, 1) := by decide +kernel
theorem dX3_init_24 : decode cX3_init 24 = .ok (.putfield 21, 3) := by decide +kernel
theorem dX3_init_27 : decode cX3_init 27 = .ok (.aload_n 0, 1) := by decide +kernel
theorem dX3_init_28 : decode cX3_init 28 = .ok (.iconst 0, 1) := by decide +kernel
theorem dX3_init_29 : decode cX3_init 29 = .ok (.putfield 24, 3) := by decide +kernel
theorem dX3_init_32 : decode cX3_init 32 = .ok (.return_, 1) := by decide +kernel
set_option maxRecDepth 20000 in
theorem ggX3_walk_X0_target : GoodIn wsX3_walk wsX0_target := goodIn_r _ [8, 9, 10, 11, 12, 7, 13, 14, 15, 16, 17, 18, 19, 20, 21, 22, 23, 24, 25, 75, 76, 77, 78, 79, 80, 81, 82, 83, 84, 85, 86, 87] (by decide +kernel) (by decide +kernel)
set_option maxRecDepth 20000 in
theorem gX3_walk_X0_target : GoodIn wsX3_walk (wsV RX3 27 RX0 yX0_target wsX0_target) := goodIn_app (goodIn_of _ (by decide +kernel)) ggX3_walk_X0_target
set_option maxRecDepth 20000 in
theorem ggX3_walk_X3_choose : GoodIn wsX3_walk wsX3_choose := goodIn_r _ [30, 31, 32, 33, 7, 34, 35, 36, 37, 23, 24, 25, 38, 39, 40, 29, 41, 42, 18, 19, 20, 43, 44, 45, 46, 1, 47, 48, 49, 50, 51, 52, 2, 3, 53, 54, 55, 56, 57, 58, 59, 60, 75, 76, 77, 78, 79, 80, 81, 82, 83, 84, 85, 86, 87, 88, 89, 90, 91, 92] (by decide +kernel) (by decide +kernel)
set_option maxRecDepth 20000 in
theorem gX3_walk_X3_choose : GoodIn wsX3_walk (wsV RX3 33 RX3 yX3_choose wsX3_choose) := goodIn_app (goodIn_of _ (by decide +kernel)) ggX3_walk_X3_choose
set_option maxRecDepth 20000 in
theorem ggX3_walk_X4_at : GoodIn wsX3_walk wsX4_at := goodIn_r _ [25] (by decide +kernel) (by decide +kernel)
set_option maxRecDepth 20000 in
theorem gX3_walk_X4_at_n41 : GoodIn wsX3_walk (wsX4_at) := ggX3_walk_X4_at
set_option maxRecDepth 20000 in
theorem ggX3_walk_X0_takeTo : GoodIn wsX3_walk wsX0_takeTo := goodIn_r _ [64, 16, 15, 65, 66, 67, 68, 23, 24, 25, 69, 70, 71, 7, 72, 36, 73, 74, 75, 76, 77, 78, 79, 80, 81, 82, 83, 84, 85, 86, 87] (by decide +kernel) (by decide +kernel)
set_option maxRecDepth 20000 in
theorem gX3_walk_X0_takeTo : GoodIn wsX3_walk (wsV RX3 45 RX0 yX0_takeTo wsX0_takeTo) := goodIn_app (goodIn_of _ (by decide +kernel)) ggX3_walk_X0_takeTo
theorem dX3_walk_0 : decode cX3_walk 0 = .ok (.iload_n 2, 1) := by decide +kernel
theorem dX3_walk_1 : decode cX3_walk 1 = .ok (.iconst 1, 1) := by decide +kernel
theorem dX3_walk_2 : decode cX3_walk 2 = .ok (.if_icmp .lt 9, 3) := by decide +kernel
theorem dX3_walk_5 : decode cX3_walk 5 = .ok (.iload_n 2, 1) := by decide +kernel
theorem dX3_walk_6 : decode cX3_walk 6 = .ok (.bipush 30, 2) := by decide +kernel
theorem dX3_walk_8 : decode cX3_walk 8 = .ok (.if_icmp .le 5, 3) := by decide +kernel
theorem dX3_walk_11 : decode cX3_walk 11 = .ok (.iconst (-1), 1) := by decide +kernel
theorem dX3_walk_12 : decode cX3_walk 12 = .ok (.ireturn, 1) := by decide +kernel
theorem dX3_walk_13 : decode cX3_walk 13 = .ok (.aload_n 1, 1) := by decide +kernel
theorem dX3_walk_14 : decode cX3_walk 14 = .ok (.invokevirtual 27, 3) := by decide +kernel
theorem dX3_walk_17 : decode cX3_walk 17 = .ok (.istore_n 3, 1) := by decide +kernel
theorem dX3_walk_18 : decode cX3_walk 18 = .ok (.iconst 0, 1) := by decide +kernel
theorem dX3_walk_19 : decode cX3_walk 19 = .ok (.istore 4, 2) := by decide +kernel
theorem dX3_walk_21 : decode cX3_walk 21 = .ok (.iload 4, 2) := by decide +kernel
theorem dX3_walk_23 : decode cX3_walk 23 = .ok (.iload_n 2, 1) := by decide +kernel
theorem dX3_walk_24 : decode cX3_walk 24 = .ok (.if_icmp .ge 65, 3) := by decide +kernel
theorem dX3_walk_27 : decode cX3_walk 27 = .ok (.aload_n 0, 1) := by decide +kernel
theorem dX3_walk_28 : decode cX3_walk 28 = .ok (.aload_n 1, 1) := by decide +kernel
theorem dX3_walk_29 : decode cX3_walk 29 = .ok (.iload_n 3, 1) := by decide +kernel
theorem dX3_walk_30 : decode cX3_walk 30 = .ok (.invokevirtual 33, 3) := by decide +kernel
theorem dX3_walk_33 : decode cX3_walk 33 = .ok (.ifCond .ne 6, 3) := by decide +kernel
theorem dX3_walk_36 : decode cX3_walk 36 = .ok (.iload 4, 2) := by decide +kernel
theorem dX3_walk_38 : decode cX3_walk 38 = .ok (.ireturn, 1) := by decide +kernel
theorem dX3_walk_39 : decode cX3_walk 39 = .ok (.aload_n 1, 1) := by decide +kernel
theorem dX3_walk_40 : decode cX3_walk 40 = .ok (.getfield 37, 3) := by decide +kernel
theorem dX3_walk_43 : decode cX3_walk 43 = .ok (.aload_n 0, 1) := by decide +kernel
theorem dX3_walk_44 : decode cX3_walk 44 = .ok (.getfield 9, 3) := by decide +kernel
theorem dX3_walk_47 : decode cX3_walk 47 = .ok (.invokestatic 41, 3) := by decide +kernel
theorem dX3_walk_50 : decode cX3_walk 50 = .ok (.istore 5, 2) := by decide +kernel
theorem dX3_walk_52 : decode cX3_walk 52 = .ok (.aload_n 1, 1) := by decide +kernel
theorem dX3_walk_53 : decode cX3_walk 53 = .ok (.aload_n 0, 1) := by decide +kernel
theorem dX3_walk_54 : decode cX3_walk 54 = .ok (.getfield 9, 3) := by decide +kernel
theorem dX3_walk_57 : decode cX3_walk 57 = .ok (.aload_n 0, 1) := by decide +kernel
theorem dX3_walk_58 : decode cX3_walk 58 = .ok (.getfield 15, 3) := by decide +kernel
theorem dX3_walk_61 : decode cX3_walk 61 = .ok (.invokevirtual 45, 3) := by decide +kernel
theorem dX3_walk_64 : decode cX3_walk 64 = .ok (.aload_n 0, 1) := by decide +kernel
theorem dX3_walk_65 : decode cX3_walk 65 = .ok (.getfield 18, 3) := by decide +kernel
theorem dX3_walk_68 : decode cX3_walk 68 = .ok (.bipush (-9), 2) := by decide +kernel
theorem dX3_walk_70 : decode cX3_walk 70 = .ok (.if_icmp .eq 13, 3) := by decide +kernel
theorem dX3_walk_73 : decode cX3_walk 73 = .ok (.aload_n 1, 1) := by decide +kernel
theorem dX3_walk_74 : decode cX3_walk 74 = .ok (.aload_n 0, 1) := by decide +kernel
theorem dX3_walk_75 : decode cX3_walk 75 = .ok (.getfield 18, 3) := by decide +kernel
theorem dX3_walk_78 : decode cX3_walk 78 = .ok (.iload 5, 2) := by decide +kernel
theorem dX3_walk_80 : decode cX3_walk 80 = .ok (.invokevirtual 45, 3) := by decide +kernel
theorem dX3_walk_83 : decode cX3_walk 83 = .ok (.iinc 4 1, 3) := by decide +kernel
theorem dX3_walk_86 : decode cX3_walk 86 = .ok (.goto (-65), 3) := by decide +kernel
theorem dX3_walk_89 : decode cX3_walk 89 = .ok (.iload_n 2, 1) := by decide +kernel
theorem dX3_walk_90 : decode cX3_walk 90 = .ok (.ireturn, 1) := by decide +kernel
set_option maxRecDepth 20000 in
theorem ggX3_choose_X0_fullestServer : GoodIn wsX3_choose wsX0_fullestServer := goodIn_r _ [5, 6, 7, 8, 9, 10, 11, 42, 43, 44, 45, 46, 47, 48, 49, 50, 51, 52, 53, 54] (by decide +kernel) (by decide +kernel)
set_option maxRecDepth 20000 in
theorem gX3_choose_X0_fullestServer : GoodIn wsX3_choose (wsV RX3 49 RX0 yX0_fullestServer wsX0_fullestServer) := goodIn_app (goodIn_of _ (by decide +kernel)) ggX3_choose_X0_fullestServer
set_option maxRecDepth 20000 in
theorem ggX3_choose_X4_at : GoodIn wsX3_choose wsX4_at := goodIn_r _ [11] (by decide +kernel) (by decide +kernel)
set_option maxRecDepth 20000 in
theorem gX3_choose_X4_at_n41 : GoodIn wsX3_choose (wsX4_at) := ggX3_choose_X4_at
set_option maxRecDepth 20000 in
theorem ggX3_choose_X3_chooseMove : GoodIn wsX3_choose wsX3_chooseMove := goodIn_r _ [16, 17, 18, 19, 20, 9, 10, 11, 21, 22, 23, 15, 24, 25, 26, 27, 28, 29, 30, 31, 32, 33, 42, 43, 44, 45, 46, 47, 48, 49, 50, 51, 52, 53, 54, 55, 56, 57, 58, 59] (by decide +kernel) (by decide +kernel)
set_option maxRecDepth 20000 in
theorem gX3_choose_X3_chooseMove : GoodIn wsX3_choose (wsV RX3 55 RX3 yX3_chooseMove wsX3_chooseMove) := goodIn_app (goodIn_of _ (by decide +kernel)) ggX3_choose_X3_chooseMove
set_option maxRecDepth 20000 in
theorem ggX3_choose_X3_isPossible : GoodIn wsX3_choose wsX3_isPossible := goodIn_r _ [37, 25, 31, 55, 56, 57, 58, 59, 42, 43, 44, 45, 46, 47, 48, 49, 50, 51, 52, 53, 54] (by decide +kernel) (by decide +kernel)
set_option maxRecDepth 20000 in
theorem gX3_choose_X3_isPossible : GoodIn wsX3_choose (wsV RX3 59 RX3 yX3_isPossible wsX3_isPossible) := goodIn_app (goodIn_of _ (by decide +kernel)) ggX3_choose_X3_isPossible
set_option maxRecDepth 20000 in
theorem ggX3_choose_X3_chooseExchange : GoodIn wsX3_choose wsX3_chooseExchange := goodIn_r _ [41, 17, 18, 19, 20, 9, 10, 11, 21, 22, 23, 15, 24, 25, 26, 27, 28, 29, 30, 31, 32, 33, 42, 43, 44, 45, 46, 47, 48, 49, 50, 51, 52, 53, 54, 55, 56, 57, 58, 59] (by decide +kernel) (by decide +kernel)
set_option maxRecDepth 20000 in
theorem gX3_choose_X3_chooseExchange : GoodIn wsX3_choose (wsV RX3 63 RX3 yX3_chooseExchange wsX3_chooseExchange) := goodIn_app (goodIn_of _ (by decide +kernel)) ggX3_choose_X3_chooseExchange
theorem dX3_choose_0 : decode cX3_choose 0 = .ok (.aload_n 1, 1) := by decide +kernel
theorem dX3_choose_1 : decode cX3_choose 1 = .ok (.invokevirtual 49, 3) := by decide +kernel
theorem dX3_choose_4 : decode cX3_choose 4 = .ok (.istore_n 3, 1) := by decide +kernel
theorem dX3_choose_5 : decode cX3_choose 5 = .ok (.aload_n 1, 1) := by decide +kernel
theorem dX3_choose_6 : decode cX3_choose 6 = .ok (.getfield 52, 3) := by decide +kernel
theorem dX3_choose_9 : decode cX3_choose 9 = .ok (.iload_n 3, 1) := by decide +kernel
theorem dX3_choose_10 : decode cX3_choose 10 = .ok (.invokestatic 41, 3) := by decide +kernel
theorem dX3_choose_13 : decode cX3_choose 13 = .ok (.iload_n 2, 1) := by decide +kernel
theorem dX3_choose_14 : decode cX3_choose 14 = .ok (.if_icmp .gt 5, 3) := by decide +kernel
theorem dX3_choose_17 : decode cX3_choose 17 = .ok (.iconst 0, 1) := by decide +kernel
theorem dX3_choose_18 : decode cX3_choose 18 = .ok (.ireturn, 1) := by decide +kernel
theorem dX3_choose_19 : decode cX3_choose 19 = .ok (.aload_n 0, 1) := by decide +kernel
theorem dX3_choose_20 : decode cX3_choose 20 = .ok (.aload_n 1, 1) := by decide +kernel
theorem dX3_choose_21 : decode cX3_choose 21 = .ok (.iload_n 3, 1) := by decide +kernel
theorem dX3_choose_22 : decode cX3_choose 22 = .ok (.invokevirtual 55, 3) := by decide +kernel
theorem dX3_choose_25 : decode cX3_choose 25 = .ok (.aload_n 0, 1) := by decide +kernel
theorem dX3_choose_26 : decode cX3_choose 26 = .ok (.aload_n 1, 1) := by decide +kernel
theorem dX3_choose_27 : decode cX3_choose 27 = .ok (.invokevirtual 59, 3) := by decide +kernel
theorem dX3_choose_30 : decode cX3_choose 30 = .ok (.ifCond .eq 5, 3) := by decide +kernel
theorem dX3_choose_33 : decode cX3_choose 33 = .ok (.iconst 1, 1) := by decide +kernel
theorem dX3_choose_34 : decode cX3_choose 34 = .ok (.ireturn, 1) := by decide +kernel
theorem dX3_choose_35 : decode cX3_choose 35 = .ok (.aload_n 0, 1) := by decide +kernel
theorem dX3_choose_36 : decode cX3_choose 36 = .ok (.aload_n 1, 1) := by decide +kernel
theorem dX3_choose_37 : decode cX3_choose 37 = .ok (.iload_n 3, 1) := by decide +kernel
theorem dX3_choose_38 : decode cX3_choose 38 = .ok (.invokevirtual 63, 3) := by decide +kernel
theorem dX3_choose_41 : decode cX3_choose 41 = .ok (.aload_n 0, 1) := by decide +kernel
theorem dX3_choose_42 : decode cX3_choose 42 = .ok (.aload_n 1, 1) := by decide +kernel
theorem dX3_choose_43 : decode cX3_choose 43 = .ok (.invokevirtual 59, 3) := by decide +kernel
theorem dX3_choose_46 : decode cX3_choose 46 = .ok (.ireturn, 1) := by decide +kernel
theorem dX3_isPossible_0 : decode cX3_isPossible 0 = .ok (.aload_n 0, 1) := by decide +kernel
theorem dX3_isPossible_1 : decode cX3_isPossible 1 = .ok (.getfield 9, 3) := by decide +kernel
theorem dX3_isPossible_4 : decode cX3_isPossible 4 = .ok (.bipush (-9), 2) := by decide +kernel
theorem dX3_isPossible_6 : decode cX3_isPossible 6 = .ok (.if_icmp .eq 18, 3) := by decide +kernel
theorem dX3_isPossible_9 : decode cX3_isPossible 9 = .ok (.aload_n 0, 1) := by decide +kernel
theorem dX3_isPossible_10 : decode cX3_isPossible 10 = .ok (.getfield 21, 3) := by decide +kernel
theorem dX3_isPossible_13 : decode cX3_isPossible 13 = .ok (.aload_n 1, 1) := by decide +kernel
theorem dX3_isPossible_14 : decode cX3_isPossible 14 = .ok (.getfield 66, 3) := by decide +kernel
theorem dX3_isPossible_17 : decode cX3_isPossible 17 = .ok (.if_icmp .gt 7, 3) := by decide +kernel
theorem dX3_isPossible_20 : decode cX3_isPossible 20 = .ok (.iconst 1, 1) := by decide +kernel
theorem dX3_isPossible_21 : decode cX3_isPossible 21 = .ok (.goto 4, 3) := by decide +kernel
theorem dX3_isPossible_24 : decode cX3_isPossible 24 = .ok (.iconst 0, 1) := by decide +kernel
theorem dX3_isPossible_25 : decode cX3_isPossible 25 = .ok (.ireturn, 1) := by decide +kernel
set_option maxRecDepth 20000 in
theorem ggX3_chooseMove_X4_at : GoodIn wsX3_chooseMove wsX4_at := goodIn_r _ [7] (by decide +kernel) (by decide +kernel)
set_option maxRecDepth 20000 in
theorem gX3_chooseMove_X4_at_n41 : GoodIn wsX3_chooseMove (wsX4_at) := ggX3_chooseMove_X4_at
set_option maxRecDepth 20000 in
theorem ggX3_chooseMove_X3_startBelow : GoodIn wsX3_chooseMove wsX3_startBelow := goodIn_r _ [12, 13, 14, 35, 36, 37, 38, 39] (by decide +kernel) (by decide +kernel)
set_option maxRecDepth 20000 in
theorem gX3_chooseMove_X3_startBelow : GoodIn wsX3_chooseMove (wsV RX3 69 RX3 yX3_startBelow wsX3_startBelow) := goodIn_app (goodIn_of _ (by decide +kernel)) ggX3_chooseMove_X3_startBelow
set_option maxRecDepth 20000 in
theorem ggX3_chooseMove_X3_offer : GoodIn wsX3_chooseMove wsX3_offer := goodIn_r _ [18, 13, 14, 19, 20, 21, 35, 36, 37, 38, 39] (by decide +kernel) (by decide +kernel)
set_option maxRecDepth 20000 in
theorem gX3_chooseMove_X3_offer : GoodIn wsX3_chooseMove (wsV RX3 94 RX3 yX3_offer wsX3_offer) := goodIn_app (goodIn_of _ (by decide +kernel)) ggX3_chooseMove_X3_offer
theorem dX3_chooseMove_0 : decode cX3_chooseMove 0 = .ok (.aload_n 1, 1) := by decide +kernel
theorem dX3_chooseMove_1 : decode cX3_chooseMove 1 = .ok (.getfield 52, 3) := by decide +kernel
theorem dX3_chooseMove_4 : decode cX3_chooseMove 4 = .ok (.iload_n 2, 1) := by decide +kernel
theorem dX3_chooseMove_5 : decode cX3_chooseMove 5 = .ok (.invokestatic 41, 3) := by decide +kernel
theorem dX3_chooseMove_8 : decode cX3_chooseMove 8 = .ok (.istore_n 3, 1) := by decide +kernel
theorem dX3_chooseMove_9 : decode cX3_chooseMove 9 = .ok (.aload_n 0, 1) := by decide +kernel
theorem dX3_chooseMove_10 : decode cX3_chooseMove 10 = .ok (.iload_n 3, 1) := by decide +kernel
theorem dX3_chooseMove_11 : decode cX3_chooseMove 11 = .ok (.invokevirtual 69, 3) := by decide +kernel
theorem dX3_chooseMove_14 : decode cX3_chooseMove 14 = .ok (.iconst 0, 1) := by decide +kernel
theorem dX3_chooseMove_15 : decode cX3_chooseMove 15 = .ok (.istore 4, 2) := by decide +kernel
theorem dX3_chooseMove_17 : decode cX3_chooseMove 17 = .ok (.iload 4, 2) := by decide +kernel
theorem dX3_chooseMove_19 : decode cX3_chooseMove 19 = .ok (.aload_n 1, 1) := by decide +kernel
theorem dX3_chooseMove_20 : decode cX3_chooseMove 20 = .ok (.getfield 73, 3) := by decide +kernel
theorem dX3_chooseMove_23 : decode cX3_chooseMove 23 = .ok (.if_icmp .ge 115, 3) := by decide +kernel
theorem dX3_chooseMove_26 : decode cX3_chooseMove 26 = .ok (.aload_n 1, 1) := by decide +kernel
theorem dX3_chooseMove_27 : decode cX3_chooseMove 27 = .ok (.getfield 37, 3) := by decide +kernel
theorem dX3_chooseMove_30 : decode cX3_chooseMove 30 = .ok (.iload 4, 2) := by decide +kernel
theorem dX3_chooseMove_32 : decode cX3_chooseMove 32 = .ok (.invokestatic 41, 3) := by decide +kernel
theorem dX3_chooseMove_35 : decode cX3_chooseMove 35 = .ok (.iload_n 2, 1) := by decide +kernel
theorem dX3_chooseMove_36 : decode cX3_chooseMove 36 = .ok (.if_icmp .eq 6, 3) := by decide +kernel
theorem dX3_chooseMove_39 : decode cX3_chooseMove 39 = .ok (.goto 93, 3) := by decide +kernel
theorem dX3_chooseMove_42 : decode cX3_chooseMove 42 = .ok (.aload_n 1, 1) := by decide +kernel
theorem dX3_chooseMove_43 : decode cX3_chooseMove 43 = .ok (.getfield 76, 3) := by decide +kernel
theorem dX3_chooseMove_46 : decode cX3_chooseMove 46 = .ok (.iload 4, 2) := by decide +kernel
theorem dX3_chooseMove_48 : decode cX3_chooseMove 48 = .ok (.invokestatic 41, 3) := by decide +kernel
theorem dX3_chooseMove_51 : decode cX3_chooseMove 51 = .ok (.istore 5, 2) := by decide +kernel
theorem dX3_chooseMove_53 : decode cX3_chooseMove 53 = .ok (.iconst 0, 1) := by decide +kernel
theorem dX3_chooseMove_54 : decode cX3_chooseMove 54 = .ok (.istore 6, 2) := by decide +kernel
theorem dX3_chooseMove_56 : decode cX3_chooseMove 56 = .ok (.iload 6, 2) := by decide +kernel
theorem dX3_chooseMove_58 : decode cX3_chooseMove 58 = .ok (.aload_n 1, 1) := by decide +kernel
theorem dX3_chooseMove_59 : decode cX3_chooseMove 59 = .ok (.getfield 79, 3) := by decide +kernel
theorem dX3_chooseMove_62 : decode cX3_chooseMove 62 = .ok (.if_icmp .ge 70, 3) := by decide +kernel
theorem dX3_chooseMove_65 : decode cX3_chooseMove 65 = .ok (.iload 6, 2) := by decide +kernel
theorem dX3_chooseMove_67 : decode cX3_chooseMove 67 = .ok (.iload_n 2, 1) := by decide +kernel
theorem dX3_chooseMove_68 : decode cX3_chooseMove 68 = .ok (.if_icmp .eq 58, 3) := by decide +kernel
theorem dX3_chooseMove_71 : decode cX3_chooseMove 71 = .ok (.aload_n 1, 1) := by decide +kernel
theorem dX3_chooseMove_72 : decode cX3_chooseMove 72 = .ok (.getfield 82, 3) := by decide +kernel
theorem dX3_chooseMove_75 : decode cX3_chooseMove 75 = .ok (.iload 6, 2) := by decide +kernel
theorem dX3_chooseMove_77 : decode cX3_chooseMove 77 = .ok (.invokestatic 41, 3) := by decide +kernel
theorem dX3_chooseMove_80 : decode cX3_chooseMove 80 = .ok (.iconst 1, 1) := by decide +kernel
theorem dX3_chooseMove_81 : decode cX3_chooseMove 81 = .ok (.if_icmp .ne 45, 3) := by decide +kernel
theorem dX3_chooseMove_84 : decode cX3_chooseMove 84 = .ok (.iload_n 3, 1) := by decide +kernel
theorem dX3_chooseMove_85 : decode cX3_chooseMove 85 = .ok (.iload 5, 2) := by decide +kernel
theorem dX3_chooseMove_87 : decode cX3_chooseMove 87 = .ok (.isub, 1) := by decide +kernel
theorem dX3_chooseMove_88 : decode cX3_chooseMove 88 = .ok (.aload_n 1, 1) := by decide +kernel
theorem dX3_chooseMove_89 : decode cX3_chooseMove 89 = .ok (.getfield 52, 3) := by decide +kernel
theorem dX3_chooseMove_92 : decode cX3_chooseMove 92 = .ok (.iload 6, 2) := by decide +kernel
theorem dX3_chooseMove_94 : decode cX3_chooseMove 94 = .ok (.invokestatic 41, 3) := by decide +kernel
theorem dX3_chooseMove_97 : decode cX3_chooseMove 97 = .ok (.iload 5, 2) := by decide +kernel
theorem dX3_chooseMove_99 : decode cX3_chooseMove 99 = .ok (.iadd, 1) := by decide +kernel
theorem dX3_chooseMove_100 : decode cX3_chooseMove 100 = .ok (.invokestatic 85, 3) := by decide +kernel
theorem dX3_chooseMove_103 : decode cX3_chooseMove 103 = .ok (.istore 7, 2) := by decide +kernel
theorem dX3_chooseMove_105 : decode cX3_chooseMove 105 = .ok (.aload_n 0, 1) := by decide +kernel
theorem dX3_chooseMove_106 : decode cX3_chooseMove 106 = .ok (.iload 4, 2) := by decide +kernel
theorem dX3_chooseMove_108 : decode cX3_chooseMove 108 = .ok (.iload 6, 2) := by decide +kernel
theorem dX3_chooseMove_110 : decode cX3_chooseMove 110 = .ok (.bipush (-9), 2) := by decide +kernel
theorem dX3_chooseMove_112 : decode cX3_chooseMove 112 = .ok (.aload_n 1, 1) := by decide +kernel
theorem dX3_chooseMove_113 : decode cX3_chooseMove 113 = .ok (.getfield 91, 3) := by decide +kernel
theorem dX3_chooseMove_116 : decode cX3_chooseMove 116 = .ok (.iload 4, 2) := by decide +kernel
theorem dX3_chooseMove_118 : decode cX3_chooseMove 118 = .ok (.invokestatic 41, 3) := by decide +kernel
theorem dX3_chooseMove_121 : decode cX3_chooseMove 121 = .ok (.iload 7, 2) := by decide +kernel
theorem dX3_chooseMove_123 : decode cX3_chooseMove 123 = .ok (.invokevirtual 94, 3) := by decide +kernel
theorem dX3_chooseMove_126 : decode cX3_chooseMove 126 = .ok (.iinc 6 1, 3) := by decide +kernel
theorem dX3_chooseMove_129 : decode cX3_chooseMove 129 = .ok (.goto (-73), 3) := by decide +kernel
theorem dX3_chooseMove_132 : decode cX3_chooseMove 132 = .ok (.iinc 4 1, 3) := by decide +kernel
theorem dX3_chooseMove_135 : decode cX3_chooseMove 135 = .ok (.goto (-118), 3) := by decide +kernel
theorem dX3_chooseMove_138 : decode cX3_chooseMove 138 = .ok (.return_, 1) := by decide +kernel
set_option maxRecDepth 20000 in
theorem ggX3_chooseExchange_X4_at : GoodIn wsX3_chooseExchange wsX4_at := goodIn_r _ [7] (by decide +kernel) (by decide +kernel)
set_option maxRecDepth 20000 in
theorem gX3_chooseExchange_X4_at_n41 : GoodIn wsX3_chooseExchange (wsX4_at) := ggX3_chooseExchange_X4_at
set_option maxRecDepth 20000 in
theorem ggX3_chooseExchange_X3_startBelow : GoodIn wsX3_chooseExchange wsX3_startBelow := goodIn_r _ [12, 13, 14, 35, 36, 37, 38, 39] (by decide +kernel) (by decide +kernel)
set_option maxRecDepth 20000 in
theorem gX3_chooseExchange_X3_startBelow : GoodIn wsX3_chooseExchange (wsV RX3 69 RX3 yX3_startBelow wsX3_startBelow) := goodIn_app (goodIn_of _ (by decide +kernel)) ggX3_chooseExchange_X3_startBelow
set_option maxRecDepth 20000 in
theorem ggX3_chooseExchange_X3_offer : GoodIn wsX3_chooseExchange wsX3_offer := goodIn_r _ [18, 13, 14, 19, 20, 21, 35, 36, 37, 38, 39] (by decide +kernel) (by decide +kernel)
set_option maxRecDepth 20000 in
theorem gX3_chooseExchange_X3_offer : GoodIn wsX3_chooseExchange (wsV RX3 94 RX3 yX3_offer wsX3_offer) := goodIn_app (goodIn_of _ (by decide +kernel)) ggX3_chooseExchange_X3_offer
theorem dX3_chooseExchange_0 : decode cX3_chooseExchange 0 = .ok (.aload_n 1, 1) := by decide +kernel
theorem dX3_chooseExchange_1 : decode cX3_chooseExchange 1 = .ok (.getfield 52, 3) := by decide +kernel
theorem dX3_chooseExchange_4 : decode cX3_chooseExchange 4 = .ok (.iload_n 2, 1) := by decide +kernel
theorem dX3_chooseExchange_5 : decode cX3_chooseExchange 5 = .ok (.invokestatic 41, 3) := by decide +kernel
theorem dX3_chooseExchange_8 : decode cX3_chooseExchange 8 = .ok (.istore_n 3, 1) := by decide +kernel
theorem dX3_chooseExchange_9 : decode cX3_chooseExchange 9 = .ok (.aload_n 0, 1) := by decide +kernel
theorem dX3_chooseExchange_10 : decode cX3_chooseExchange 10 = .ok (.iload_n 3, 1) := by decide +kernel
theorem dX3_chooseExchange_11 : decode cX3_chooseExchange 11 = .ok (.invokevirtual 69, 3) := by decide +kernel
theorem dX3_chooseExchange_14 : decode cX3_chooseExchange 14 = .ok (.iconst 0, 1) := by decide +kernel
theorem dX3_chooseExchange_15 : decode cX3_chooseExchange 15 = .ok (.istore 4, 2) := by decide +kernel
theorem dX3_chooseExchange_17 : decode cX3_chooseExchange 17 = .ok (.iload 4, 2) := by decide +kernel
theorem dX3_chooseExchange_19 : decode cX3_chooseExchange 19 = .ok (.aload_n 1, 1) := by decide +kernel
theorem dX3_chooseExchange_20 : decode cX3_chooseExchange 20 = .ok (.getfield 73, 3) := by decide +kernel
theorem dX3_chooseExchange_23 : decode cX3_chooseExchange 23 = .ok (.if_icmp .ge 144, 3) := by decide +kernel
theorem dX3_chooseExchange_26 : decode cX3_chooseExchange 26 = .ok (.aload_n 1, 1) := by decide +kernel
theorem dX3_chooseExchange_27 : decode cX3_chooseExchange 27 = .ok (.getfield 37, 3) := by decide +kernel
theorem dX3_chooseExchange_30 : decode cX3_chooseExchange 30 = .ok (.iload 4, 2) := by decide +kernel
theorem dX3_chooseExchange_32 : decode cX3_chooseExchange 32 = .ok (.invokestatic 41, 3) := by decide +kernel
theorem dX3_chooseExchange_35 : decode cX3_chooseExchange 35 = .ok (.iload_n 2, 1) := by decide +kernel
theorem dX3_chooseExchange_36 : decode cX3_chooseExchange 36 = .ok (.if_icmp .eq 6, 3) := by decide +kernel
theorem dX3_chooseExchange_39 : decode cX3_chooseExchange 39 = .ok (.goto 122, 3) := by decide +kernel
theorem dX3_chooseExchange_42 : decode cX3_chooseExchange 42 = .ok (.iconst 0, 1) := by decide +kernel
theorem dX3_chooseExchange_43 : decode cX3_chooseExchange 43 = .ok (.istore 5, 2) := by decide +kernel
theorem dX3_chooseExchange_45 : decode cX3_chooseExchange 45 = .ok (.iload 5, 2) := by decide +kernel
theorem dX3_chooseExchange_47 : decode cX3_chooseExchange 47 = .ok (.aload_n 1, 1) := by decide +kernel
theorem dX3_chooseExchange_48 : decode cX3_chooseExchange 48 = .ok (.getfield 73, 3) := by decide +kernel
theorem dX3_chooseExchange_51 : decode cX3_chooseExchange 51 = .ok (.if_icmp .ge 110, 3) := by decide +kernel
theorem dX3_chooseExchange_54 : decode cX3_chooseExchange 54 = .ok (.aload_n 1, 1) := by decide +kernel
theorem dX3_chooseExchange_55 : decode cX3_chooseExchange 55 = .ok (.getfield 37, 3) := by decide +kernel
theorem dX3_chooseExchange_58 : decode cX3_chooseExchange 58 = .ok (.iload 5, 2) := by decide +kernel
theorem dX3_chooseExchange_60 : decode cX3_chooseExchange 60 = .ok (.invokestatic 41, 3) := by decide +kernel
theorem dX3_chooseExchange_63 : decode cX3_chooseExchange 63 = .ok (.istore 6, 2) := by decide +kernel
theorem dX3_chooseExchange_65 : decode cX3_chooseExchange 65 = .ok (.iload 6, 2) := by decide +kernel
theorem dX3_chooseExchange_67 : decode cX3_chooseExchange 67 = .ok (.iload_n 2, 1) := by decide +kernel
theorem dX3_chooseExchange_68 : decode cX3_chooseExchange 68 = .ok (.if_icmp .eq 87, 3) := by decide +kernel
theorem dX3_chooseExchange_71 : decode cX3_chooseExchange 71 = .ok (.iload 6, 2) := by decide +kernel
theorem dX3_chooseExchange_73 : decode cX3_chooseExchange 73 = .ok (.bipush (-9), 2) := by decide +kernel
theorem dX3_chooseExchange_75 : decode cX3_chooseExchange 75 = .ok (.if_icmp .eq 80, 3) := by decide +kernel
theorem dX3_chooseExchange_78 : decode cX3_chooseExchange 78 = .ok (.aload_n 1, 1) := by decide +kernel
theorem dX3_chooseExchange_79 : decode cX3_chooseExchange 79 = .ok (.getfield 76, 3) := by decide +kernel
theorem dX3_chooseExchange_82 : decode cX3_chooseExchange 82 = .ok (.iload 4, 2) := by decide +kernel
theorem dX3_chooseExchange_84 : decode cX3_chooseExchange 84 = .ok (.invokestatic 41, 3) := by decide +kernel
theorem dX3_chooseExchange_87 : decode cX3_chooseExchange 87 = .ok (.aload_n 1, 1) := by decide +kernel
theorem dX3_chooseExchange_88 : decode cX3_chooseExchange 88 = .ok (.getfield 76, 3) := by decide +kernel
theorem dX3_chooseExchange_91 : decode cX3_chooseExchange 91 = .ok (.iload 5, 2) := by decide +kernel
theorem dX3_chooseExchange_93 : decode cX3_chooseExchange 93 = .ok (.invokestatic 41, 3) := by decide +kernel
theorem dX3_chooseExchange_96 : decode cX3_chooseExchange 96 = .ok (.isub, 1) := by decide +kernel
theorem dX3_chooseExchange_97 : decode cX3_chooseExchange 97 = .ok (.istore 7, 2) := by decide +kernel
theorem dX3_chooseExchange_99 : decode cX3_chooseExchange 99 = .ok (.iload_n 3, 1) := by decide +kernel
theorem dX3_chooseExchange_100 : decode cX3_chooseExchange 100 = .ok (.iload 7, 2) := by decide +kernel
theorem dX3_chooseExchange_102 : decode cX3_chooseExchange 102 = .ok (.isub, 1) := by decide +kernel
theorem dX3_chooseExchange_103 : decode cX3_chooseExchange 103 = .ok (.aload_n 1, 1) := by decide +kernel
theorem dX3_chooseExchange_104 : decode cX3_chooseExchange 104 = .ok (.getfield 52, 3) := by decide +kernel
theorem dX3_chooseExchange_107 : decode cX3_chooseExchange 107 = .ok (.iload 6, 2) := by decide +kernel
theorem dX3_chooseExchange_109 : decode cX3_chooseExchange 109 = .ok (.invokestatic 41, 3) := by decide +kernel
theorem dX3_chooseExchange_112 : decode cX3_chooseExchange 112 = .ok (.iload 7, 2) := by decide +kernel
theorem dX3_chooseExchange_114 : decode cX3_chooseExchange 114 = .ok (.iadd, 1) := by decide +kernel
theorem dX3_chooseExchange_115 : decode cX3_chooseExchange 115 = .ok (.invokestatic 85, 3) := by decide +kernel
theorem dX3_chooseExchange_118 : decode cX3_chooseExchange 118 = .ok (.istore 8, 2) := by decide +kernel
theorem dX3_chooseExchange_120 : decode cX3_chooseExchange 120 = .ok (.aload_n 1, 1) := by decide +kernel
theorem dX3_chooseExchange_121 : decode cX3_chooseExchange 121 = .ok (.getfield 91, 3) := by decide +kernel
theorem dX3_chooseExchange_124 : decode cX3_chooseExchange 124 = .ok (.iload 4, 2) := by decide +kernel
theorem dX3_chooseExchange_126 : decode cX3_chooseExchange 126 = .ok (.invokestatic 41, 3) := by decide +kernel
theorem dX3_chooseExchange_129 : decode cX3_chooseExchange 129 = .ok (.aload_n 1, 1) := by decide +kernel
theorem dX3_chooseExchange_130 : decode cX3_chooseExchange 130 = .ok (.getfield 91, 3) := by decide +kernel
theorem dX3_chooseExchange_133 : decode cX3_chooseExchange 133 = .ok (.iload 5, 2) := by decide +kernel
theorem dX3_chooseExchange_135 : decode cX3_chooseExchange 135 = .ok (.invokestatic 41, 3) := by decide +kernel
theorem dX3_chooseExchange_138 : decode cX3_chooseExchange 138 = .ok (.iadd, 1) := by decide +kernel
theorem dX3_chooseExchange_139 : decode cX3_chooseExchange 139 = .ok (.istore 9, 2) := by decide +kernel
theorem dX3_chooseExchange_141 : decode cX3_chooseExchange 141 = .ok (.aload_n 0, 1) := by decide +kernel
theorem dX3_chooseExchange_142 : decode cX3_chooseExchange 142 = .ok (.iload 4, 2) := by decide +kernel
theorem dX3_chooseExchange_144 : decode cX3_chooseExchange 144 = .ok (.iload 6, 2) := by decide +kernel
theorem dX3_chooseExchange_146 : decode cX3_chooseExchange 146 = .ok (.iload 5, 2) := by decide +kernel
theorem dX3_chooseExchange_148 : decode cX3_chooseExchange 148 = .ok (.iload 9, 2) := by decide +kernel
theorem dX3_chooseExchange_150 : decode cX3_chooseExchange 150 = .ok (.iload 8, 2) := by decide +kernel
theorem dX3_chooseExchange_152 : decode cX3_chooseExchange 152 = .ok (.invokevirtual 94, 3) := by decide +kernel
theorem dX3_chooseExchange_155 : decode cX3_chooseExchange 155 = .ok (.iinc 5 1, 3) := by decide +kernel
theorem dX3_chooseExchange_158 : decode cX3_chooseExchange 158 = .ok (.goto (-113), 3) := by decide +kernel
theorem dX3_chooseExchange_161 : decode cX3_chooseExchange 161 = .ok (.iinc 4 1, 3) := by decide +kernel
theorem dX3_chooseExchange_164 : decode cX3_chooseExchange 164 = .ok (.goto (-147), 3) := by decide +kernel
theorem dX3_chooseExchange_167 : decode cX3_chooseExchange 167 = .ok (.return_, 1) := by decide +kernel
theorem dX3_startBelow_0 : decode cX3_startBelow 0 = .ok (.aload_n 0, 1) := by decide +kernel
theorem dX3_startBelow_1 : decode cX3_startBelow 1 = .ok (.bipush (-9), 2) := by decide +kernel
theorem dX3_startBelow_3 : decode cX3_startBelow 3 = .ok (.putfield 9, 3) := by decide +kernel
theorem dX3_startBelow_6 : decode cX3_startBelow 6 = .ok (.aload_n 0, 1) := by decide +kernel
theorem dX3_startBelow_7 : decode cX3_startBelow 7 = .ok (.iload_n 1, 1) := by decide +kernel
theorem dX3_startBelow_8 : decode cX3_startBelow 8 = .ok (.putfield 24, 3) := by decide +kernel
theorem dX3_startBelow_11 : decode cX3_startBelow 11 = .ok (.return_, 1) := by decide +kernel
theorem dX3_offer_0 : decode cX3_offer 0 = .ok (.aload_n 0, 1) := by decide +kernel
theorem dX3_offer_1 : decode cX3_offer 1 = .ok (.getfield 9, 3) := by decide +kernel
theorem dX3_offer_4 : decode cX3_offer 4 = .ok (.bipush (-9), 2) := by decide +kernel
theorem dX3_offer_6 : decode cX3_offer 6 = .ok (.if_icmp .eq 25, 3) := by decide +kernel
theorem dX3_offer_9 : decode cX3_offer 9 = .ok (.iload 5, 2) := by decide +kernel
theorem dX3_offer_11 : decode cX3_offer 11 = .ok (.aload_n 0, 1) := by decide +kernel
theorem dX3_offer_12 : decode cX3_offer 12 = .ok (.getfield 24, 3) := by decide +kernel
theorem dX3_offer_15 : decode cX3_offer 15 = .ok (.if_icmp .ne 16, 3) := by decide +kernel
theorem dX3_offer_18 : decode cX3_offer 18 = .ok (.iload 4, 2) := by decide +kernel
theorem dX3_offer_20 : decode cX3_offer 20 = .ok (.aload_n 0, 1) := by decide +kernel
theorem dX3_offer_21 : decode cX3_offer 21 = .ok (.getfield 21, 3) := by decide +kernel
theorem dX3_offer_24 : decode cX3_offer 24 = .ok (.if_icmp .ge 7, 3) := by decide +kernel
theorem dX3_offer_27 : decode cX3_offer 27 = .ok (.iconst 1, 1) := by decide +kernel
theorem dX3_offer_28 : decode cX3_offer 28 = .ok (.goto 4, 3) := by decide +kernel
theorem dX3_offer_31 : decode cX3_offer 31 = .ok (.iconst 0, 1) := by decide +kernel
theorem dX3_offer_32 : decode cX3_offer 32 = .ok (.istore 6, 2) := by decide +kernel
theorem dX3_offer_34 : decode cX3_offer 34 = .ok (.iload 5, 2) := by decide +kernel
theorem dX3_offer_36 : decode cX3_offer 36 = .ok (.aload_n 0, 1) := by decide +kernel
theorem dX3_offer_37 : decode cX3_offer 37 = .ok (.getfield 24, 3) := by decide +kernel
theorem dX3_offer_40 : decode cX3_offer 40 = .ok (.if_icmp .lt 8, 3) := by decide +kernel
theorem dX3_offer_43 : decode cX3_offer 43 = .ok (.iload 6, 2) := by decide +kernel
theorem dX3_offer_45 : decode cX3_offer 45 = .ok (.ifCond .eq 30, 3) := by decide +kernel
theorem dX3_offer_48 : decode cX3_offer 48 = .ok (.aload_n 0, 1) := by decide +kernel
theorem dX3_offer_49 : decode cX3_offer 49 = .ok (.iload_n 1, 1) := by decide +kernel
theorem dX3_offer_50 : decode cX3_offer 50 = .ok (.putfield 9, 3) := by decide +kernel
theorem dX3_offer_53 : decode cX3_offer 53 = .ok (.aload_n 0, 1) := by decide +kernel
theorem dX3_offer_54 : decode cX3_offer 54 = .ok (.iload_n 2, 1) := by decide +kernel
theorem dX3_offer_55 : decode cX3_offer 55 = .ok (.putfield 15, 3) := by decide +kernel
theorem dX3_offer_58 : decode cX3_offer 58 = .ok (.aload_n 0, 1) := by decide +kernel
theorem dX3_offer_59 : decode cX3_offer 59 = .ok (.iload_n 3, 1) := by decide +kernel
theorem dX3_offer_60 : decode cX3_offer 60 = .ok (.putfield 18, 3) := by decide +kernel
theorem dX3_offer_63 : decode cX3_offer 63 = .ok (.aload_n 0, 1) := by decide +kernel
theorem dX3_offer_64 : decode cX3_offer 64 = .ok (.iload 4, 2) := by decide +kernel
theorem dX3_offer_66 : decode cX3_offer 66 = .ok (.putfield 21, 3) := by decide +kernel
theorem dX3_offer_69 : decode cX3_offer 69 = .ok (.aload_n 0, 1) := by decide +kernel
theorem dX3_offer_70 : decode cX3_offer 70 = .ok (.iload 5, 2) := by decide +kernel
theorem dX3_offer_72 : decode cX3_offer 72 = .ok (.putfield 24, 3) := by decide +kernel
theorem dX3_offer_75 : decode cX3_offer 75 = .ok (.return_, 1) := by decide +kernel
set_option maxRecDepth 20000 in
theorem ggX4_init_X0_init : GoodIn wsX4_init wsX0_init := goodIn_r _ [23, 24, 2, 3, 25, 26, 27, 28, 29, 30, 31, 32, 33, 34, 35, 36, 37, 38, 66, 67, 68, 69, 70, 71, 72, 73, 74, 75, 76, 77, 78] (by decide +kernel) (by decide +kernel)
set_option maxRecDepth 20000 in
theorem gX4_init_X0_init_n9 : GoodIn wsX4_init (wsX0_init) := ggX4_init_X0_init
set_option maxRecDepth 20000 in
theorem ggX4_init_X1_init : GoodIn wsX4_init wsX1_init := goodIn_r _ [41, 42, 2, 3, 43, 44, 45, 46, 5, 6, 22, 23, 24, 25, 26, 27, 28, 29, 30, 31, 32, 33, 34, 35, 36, 37, 38, 85, 86, 87, 66, 67, 68, 69, 70, 71, 72, 73, 74, 75, 76, 77, 78] (by decide +kernel) (by decide +kernel)
set_option maxRecDepth 20000 in
theorem gX4_init_X1_init : GoodIn wsX4_init (wsX1_init) := ggX4_init_X1_init
set_option maxRecDepth 20000 in
theorem ggX4_init_X3_init : GoodIn wsX4_init wsX3_init := goodIn_r _ [48, 49, 2, 3, 50, 51, 52, 53, 54, 88, 89, 90, 91, 92] (by decide +kernel) (by decide +kernel)
set_option maxRecDepth 20000 in
theorem gX4_init_X3_init_n31 : GoodIn wsX4_init (wsX3_init) := ggX4_init_X3_init
set_option maxRecDepth 20000 in
theorem ggX4_init_X2_init : GoodIn wsX4_init wsX2_init := goodIn_r _ [56, 57, 2, 3, 25, 58, 59, 60, 61, 62, 63, 64, 65, 93, 94, 95, 96, 97, 98, 99, 100] (by decide +kernel) (by decide +kernel)
set_option maxRecDepth 20000 in
theorem gX4_init_X2_init_n38 : GoodIn wsX4_init (wsX2_init) := ggX4_init_X2_init
theorem dX4_init_0 : decode cX4_init 0 = .ok (.aload_n 0, 1) := by decide +kernel
theorem dX4_init_1 : decode cX4_init 1 = .ok (.invokespecial 1, 3) := by decide +kernel
theorem dX4_init_4 : decode cX4_init 4 = .ok (.aload_n 0, 1) := by decide +kernel
theorem dX4_init_5 : decode cX4_init 5 = .ok (.new 7, 3) := by decide +kernel
theorem dX4_init_8 : decode cX4_init 8 = .ok (.dup, 1) := by decide +kernel
theorem dX4_init_9 : decode cX4_init 9 = .ok (.invokespecial 9, 3) := by decide +kernel
theorem dX4_init_12 : decode cX4_init 12 = .ok (.putfield 10, 3) := by decide +kernel
theorem dX4_init_15 : decode cX4_init 15 = .ok (.aload_n 0, 1) := by decide +kernel
theorem dX4_init_16 : decode cX4_init 16 = .ok (.new 7, 3) := by decide +kernel
theorem dX4_init_19 : decode cX4_init 19 = .ok (.dup, 1) := by decide +kernel
theorem dX4_init_20 : decode cX4_init 20 = .ok (.invokespecial 9, 3) := by decide +kernel
theorem dX4_init_23 : decode cX4_init 23 = .ok (.putfield 16, 3) := by decide +kernel
theorem dX4_init_26 : decode cX4_init 26 = .ok (.aload_n 0, 1) := by decide +kernel
theorem dX4_init_27 : decode cX4_init 27 = .ok (.new 7, 3) := by decide +kernel
theorem dX4_init_30 : decode cX4_init 30 = .ok (.dup, 1) := by decide +kernel
theorem dX4_init_31 : decode cX4_init 31 = .ok (.invokespecial 9, 3) := by decide +kernel
theorem dX4_init_34 : decode cX4_init 34 = .ok (.putfield 19, 3) := by decide +kernel
theorem dX4_init_37 : decode cX4_init 37 = .ok (.aload_n 0, 1) := by decide +kernel
theorem dX4_init_38 : decode cX4_init 38 = .ok (.new 22, 3) := by decide +kernel
theorem dX4_init_41 : decode cX4_init 41 = .ok (.dup, 1) := by decide +kernel
theorem dX4_init_42 : decode cX4_init 42 = .ok (.invokespecial 24, 3) := by decide +kernel
theorem dX4_init_45 : decode cX4_init 45 = .ok (.putfield 25, 3) := by decide +kernel
theorem dX4_init_48 : decode cX4_init 48 = .ok (.aload_n 0, 1) := by decide +kernel
theorem dX4_init_49 : decode cX4_init 49 = .ok (.new 29, 3) := by decide +kernel
theorem dX4_init_52 : decode cX4_init 52 = .ok (.dup, 1) := by decide +kernel
theorem dX4_init_53 : decode cX4_init 53 = .ok (.invokespecial 31, 3) := by decide +kernel
theorem dX4_init_56 : decode cX4_init 56 = .ok (.putfield 32, 3) := by decide +kernel
theorem dX4_init_59 : decode cX4_init 59 = .ok (.aload_n 0, 1) := by decide +kernel
theorem dX4_init_60 : decode cX4_init 60 = .ok (.new 36, 3) := by decide +kernel
theorem dX4_init_63 : decode cX4_init 63 = .ok (.dup, 1) := by decide +kernel
theorem dX4_init_64 : decode cX4_init 64 = .ok (.invokespecial 38, 3) := by decide +kernel
theorem dX4_init_67 : decode cX4_init 67 = .ok (.putfield 39, 3) := by decide +kernel
theorem dX4_init_70 : decode cX4_init 70 = .ok (.return_, 1) := by decide +kernel
set_option maxRecDepth 20000 in
theorem ggX4_addServer_X0_copyFrom : GoodIn wsX4_addServer wsX0_copyFrom := goodIn_r _ [7, 8, 9, 10, 11, 12, 13, 14, 15, 16, 17, 18, 19, 20, 21, 22, 23, 24, 25, 26, 27, 28, 29, 30, 31, 63, 64, 65, 66, 67, 68, 69, 70, 71, 72, 73, 74, 75] (by decide +kernel) (by decide +kernel)
set_option maxRecDepth 20000 in
theorem gX4_addServer_X0_copyFrom : GoodIn wsX4_addServer (wsV RX4 43 RX0 yX0_copyFrom wsX0_copyFrom) := goodIn_app (goodIn_of _ (by decide +kernel)) ggX4_addServer_X0_copyFrom
set_option maxRecDepth 20000 in
theorem ggX4_addServer_X0_newServer : GoodIn wsX4_addServer wsX0_newServer := goodIn_r _ [35, 14, 13, 15, 36, 22, 37, 63, 64, 65, 66, 67, 68, 69, 70, 71, 72, 73, 74, 75] (by decide +kernel) (by decide +kernel)
set_option maxRecDepth 20000 in
theorem gX4_addServer_X0_newServer : GoodIn wsX4_addServer (wsV RX4 47 RX0 yX0_newServer wsX0_newServer) := goodIn_app (goodIn_of _ (by decide +kernel)) ggX4_addServer_X0_newServer
set_option maxRecDepth 20000 in
theorem ggX4_addServer_X4_recorded : GoodIn wsX4_addServer wsX4_recorded := goodIn_r _ [41, 42, 1, 43, 44, 45, 46, 47, 48, 49, 50, 25, 26, 27, 51, 52, 53, 54, 55, 56, 4, 5, 6, 7, 8, 9, 10, 11, 12, 13, 14, 15, 16, 17, 18, 19, 20, 21, 22, 23, 24, 28, 29, 30, 31, 57, 58, 59, 60, 61, 62, 76, 77, 78, 63, 64, 65, 66, 67, 68, 69, 70, 71, 72, 73, 74, 75] (by decide +kernel) (by decide +kernel)
set_option maxRecDepth 20000 in
theorem gX4_addServer_X4_recorded : GoodIn wsX4_addServer (wsV RX4 51 RX4 yX4_recorded wsX4_recorded) := goodIn_app (goodIn_of _ (by decide +kernel)) ggX4_addServer_X4_recorded
theorem dX4_addServer_0 : decode cX4_addServer 0 = .ok (.aload_n 0, 1) := by decide +kernel
theorem dX4_addServer_1 : decode cX4_addServer 1 = .ok (.getfield 16, 3) := by decide +kernel
theorem dX4_addServer_4 : decode cX4_addServer 4 = .ok (.aload_n 0, 1) := by decide +kernel
theorem dX4_addServer_5 : decode cX4_addServer 5 = .ok (.getfield 10, 3) := by decide +kernel
theorem dX4_addServer_8 : decode cX4_addServer 8 = .ok (.invokevirtual 43, 3) := by decide +kernel
theorem dX4_addServer_11 : decode cX4_addServer 11 = .ok (.aload_n 0, 1) := by decide +kernel
theorem dX4_addServer_12 : decode cX4_addServer 12 = .ok (.aload_n 0, 1) := by decide +kernel
theorem dX4_addServer_13 : decode cX4_addServer 13 = .ok (.getfield 10, 3) := by decide +kernel
theorem dX4_addServer_16 : decode cX4_addServer 16 = .ok (.invokevirtual 47, 3) := by decide +kernel
theorem dX4_addServer_19 : decode cX4_addServer 19 = .ok (.invokevirtual 51, 3) := by decide +kernel
theorem dX4_addServer_22 : decode cX4_addServer 22 = .ok (.ireturn, 1) := by decide +kernel
set_option maxRecDepth 20000 in
theorem ggX4_add_X0_copyFrom : GoodIn wsX4_add wsX0_copyFrom := goodIn_r _ [7, 8, 9, 10, 11, 12, 13, 14, 15, 16, 17, 18, 19, 20, 21, 22, 23, 24, 25, 26, 27, 28, 29, 30, 31, 73, 74, 75, 76, 77, 78, 79, 80, 81, 82, 83, 84, 85] (by decide +kernel) (by decide +kernel)
set_option maxRecDepth 20000 in
theorem gX4_add_X0_copyFrom : GoodIn wsX4_add (wsV RX4 43 RX0 yX0_copyFrom wsX0_copyFrom) := goodIn_app (goodIn_of _ (by decide +kernel)) ggX4_add_X0_copyFrom
set_option maxRecDepth 20000 in
theorem ggX4_add_X0_newJob : GoodIn wsX4_add wsX0_newJob := goodIn_r _ [35, 16, 8, 9, 10, 11, 12, 17, 36, 37, 38, 6, 39, 14, 40, 41, 42, 43, 13, 44, 22, 45, 46, 47, 73, 74, 75, 76, 77, 78, 79, 80, 81, 82, 83, 84, 85] (by decide +kernel) (by decide +kernel)
set_option maxRecDepth 20000 in
theorem gX4_add_X0_newJob : GoodIn wsX4_add (wsV RX4 55 RX0 yX0_newJob wsX0_newJob) := goodIn_app (goodIn_of _ (by decide +kernel)) ggX4_add_X0_newJob
set_option maxRecDepth 20000 in
theorem ggX4_add_X4_recorded : GoodIn wsX4_add wsX4_recorded := goodIn_r _ [51, 52, 1, 53, 54, 55, 56, 57, 58, 59, 60, 25, 26, 27, 61, 62, 63, 64, 65, 66, 4, 5, 6, 7, 8, 9, 10, 11, 12, 13, 14, 15, 16, 17, 18, 19, 20, 21, 22, 23, 24, 28, 29, 30, 31, 67, 68, 69, 70, 71, 72, 86, 87, 88, 73, 74, 75, 76, 77, 78, 79, 80, 81, 82, 83, 84, 85] (by decide +kernel) (by decide +kernel)
set_option maxRecDepth 20000 in
theorem gX4_add_X4_recorded : GoodIn wsX4_add (wsV RX4 51 RX4 yX4_recorded wsX4_recorded) := goodIn_app (goodIn_of _ (by decide +kernel)) ggX4_add_X4_recorded
theorem dX4_add_0 : decode cX4_add 0 = .ok (.aload_n 0, 1) := by decide +kernel
theorem dX4_add_1 : decode cX4_add 1 = .ok (.getfield 16, 3) := by decide +kernel
theorem dX4_add_4 : decode cX4_add 4 = .ok (.aload_n 0, 1) := by decide +kernel
theorem dX4_add_5 : decode cX4_add 5 = .ok (.getfield 10, 3) := by decide +kernel
theorem dX4_add_8 : decode cX4_add 8 = .ok (.invokevirtual 43, 3) := by decide +kernel
theorem dX4_add_11 : decode cX4_add 11 = .ok (.aload_n 0, 1) := by decide +kernel
theorem dX4_add_12 : decode cX4_add 12 = .ok (.aload_n 0, 1) := by decide +kernel
theorem dX4_add_13 : decode cX4_add 13 = .ok (.getfield 10, 3) := by decide +kernel
theorem dX4_add_16 : decode cX4_add 16 = .ok (.iload_n 1, 1) := by decide +kernel
theorem dX4_add_17 : decode cX4_add 17 = .ok (.iload_n 2, 1) := by decide +kernel
theorem dX4_add_18 : decode cX4_add 18 = .ok (.iload_n 3, 1) := by decide +kernel
theorem dX4_add_19 : decode cX4_add 19 = .ok (.invokevirtual 55, 3) := by decide +kernel
theorem dX4_add_22 : decode cX4_add 22 = .ok (.invokevirtual 51, 3) := by decide +kernel
theorem dX4_add_25 : decode cX4_add 25 = .ok (.ireturn, 1) := by decide +kernel
set_option maxRecDepth 20000 in
theorem ggX4_finish_X0_copyFrom : GoodIn wsX4_finish wsX0_copyFrom := goodIn_r _ [7, 8, 9, 10, 11, 12, 13, 14, 15, 16, 17, 18, 19, 20, 21, 22, 23, 24, 25, 26, 27, 28, 29, 30, 31, 73, 74, 75, 76, 77, 78, 79, 80, 81, 82, 83, 84, 85] (by decide +kernel) (by decide +kernel)
set_option maxRecDepth 20000 in
theorem gX4_finish_X0_copyFrom : GoodIn wsX4_finish (wsV RX4 43 RX0 yX0_copyFrom wsX0_copyFrom) := goodIn_app (goodIn_of _ (by decide +kernel)) ggX4_finish_X0_copyFrom
set_option maxRecDepth 20000 in
theorem ggX4_finish_X0_endJob : GoodIn wsX4_finish wsX0_endJob := goodIn_r _ [35, 10, 12, 8, 17, 36, 37, 38, 6, 39, 16, 40, 41, 42, 43, 44, 22, 45, 46, 47, 73, 74, 75, 76, 77, 78, 79, 80, 81, 82, 83, 84, 85] (by decide +kernel) (by decide +kernel)
set_option maxRecDepth 20000 in
theorem gX4_finish_X0_endJob : GoodIn wsX4_finish (wsV RX4 59 RX0 yX0_endJob wsX0_endJob) := goodIn_app (goodIn_of _ (by decide +kernel)) ggX4_finish_X0_endJob
set_option maxRecDepth 20000 in
theorem ggX4_finish_X4_recorded : GoodIn wsX4_finish wsX4_recorded := goodIn_r _ [51, 52, 1, 53, 54, 55, 56, 57, 58, 59, 60, 25, 26, 27, 61, 62, 63, 64, 65, 66, 4, 5, 6, 7, 8, 9, 10, 11, 12, 13, 14, 15, 16, 17, 18, 19, 20, 21, 22, 23, 24, 28, 29, 30, 31, 67, 68, 69, 70, 71, 72, 86, 87, 88, 73, 74, 75, 76, 77, 78, 79, 80, 81, 82, 83, 84, 85] (by decide +kernel) (by decide +kernel)
set_option maxRecDepth 20000 in
theorem gX4_finish_X4_recorded : GoodIn wsX4_finish (wsV RX4 51 RX4 yX4_recorded wsX4_recorded) := goodIn_app (goodIn_of _ (by decide +kernel)) ggX4_finish_X4_recorded
theorem dX4_finish_0 : decode cX4_finish 0 = .ok (.aload_n 0, 1) := by decide +kernel
theorem dX4_finish_1 : decode cX4_finish 1 = .ok (.getfield 16, 3) := by decide +kernel
theorem dX4_finish_4 : decode cX4_finish 4 = .ok (.aload_n 0, 1) := by decide +kernel
theorem dX4_finish_5 : decode cX4_finish 5 = .ok (.getfield 10, 3) := by decide +kernel
theorem dX4_finish_8 : decode cX4_finish 8 = .ok (.invokevirtual 43, 3) := by decide +kernel
theorem dX4_finish_11 : decode cX4_finish 11 = .ok (.aload_n 0, 1) := by decide +kernel
theorem dX4_finish_12 : decode cX4_finish 12 = .ok (.aload_n 0, 1) := by decide +kernel
theorem dX4_finish_13 : decode cX4_finish 13 = .ok (.getfield 10, 3) := by decide +kernel
theorem dX4_finish_16 : decode cX4_finish 16 = .ok (.iload_n 1, 1) := by decide +kernel
theorem dX4_finish_17 : decode cX4_finish 17 = .ok (.invokevirtual 59, 3) := by decide +kernel
theorem dX4_finish_20 : decode cX4_finish 20 = .ok (.invokevirtual 51, 3) := by decide +kernel
theorem dX4_finish_23 : decode cX4_finish 23 = .ok (.ireturn, 1) := by decide +kernel
set_option maxRecDepth 20000 in
theorem ggX4_setBudget_X0_copyFrom : GoodIn wsX4_setBudget wsX0_copyFrom := goodIn_r _ [7, 8, 9, 10, 11, 12, 13, 14, 15, 16, 17, 18, 19, 20, 21, 22, 23, 24, 25, 26, 27, 28, 29, 30, 31, 61, 62, 63, 64, 65, 66, 67, 68, 69, 70, 71, 72, 73] (by decide +kernel) (by decide +kernel)
set_option maxRecDepth 20000 in
theorem gX4_setBudget_X0_copyFrom : GoodIn wsX4_setBudget (wsV RX4 43 RX0 yX0_copyFrom wsX0_copyFrom) := goodIn_app (goodIn_of _ (by decide +kernel)) ggX4_setBudget_X0_copyFrom
set_option maxRecDepth 20000 in
theorem ggX4_setBudget_X0_changeBudget : GoodIn wsX4_setBudget wsX0_changeBudget := goodIn_r _ [35, 18, 61, 62, 63, 64, 65, 66, 67, 68, 69, 70, 71, 72, 73] (by decide +kernel) (by decide +kernel)
set_option maxRecDepth 20000 in
theorem gX4_setBudget_X0_changeBudget : GoodIn wsX4_setBudget (wsV RX4 62 RX0 yX0_changeBudget wsX0_changeBudget) := goodIn_app (goodIn_of _ (by decide +kernel)) ggX4_setBudget_X0_changeBudget
set_option maxRecDepth 20000 in
theorem ggX4_setBudget_X4_recorded : GoodIn wsX4_setBudget wsX4_recorded := goodIn_r _ [39, 40, 1, 41, 42, 43, 44, 45, 46, 47, 48, 25, 26, 27, 49, 50, 51, 52, 53, 54, 4, 5, 6, 7, 8, 9, 10, 11, 12, 13, 14, 15, 16, 17, 18, 19, 20, 21, 22, 23, 24, 28, 29, 30, 31, 55, 56, 57, 58, 59, 60, 74, 75, 76, 61, 62, 63, 64, 65, 66, 67, 68, 69, 70, 71, 72, 73] (by decide +kernel) (by decide +kernel)
set_option maxRecDepth 20000 in
theorem gX4_setBudget_X4_recorded : GoodIn wsX4_setBudget (wsV RX4 51 RX4 yX4_recorded wsX4_recorded) := goodIn_app (goodIn_of _ (by decide +kernel)) ggX4_setBudget_X4_recorded
theorem dX4_setBudget_0 : decode cX4_setBudget 0 = .ok (.aload_n 0, 1) := by decide +kernel
theorem dX4_setBudget_1 : decode cX4_setBudget 1 = .ok (.getfield 16, 3) := by decide +kernel
theorem dX4_setBudget_4 : decode cX4_setBudget 4 = .ok (.aload_n 0, 1) := by decide +kernel
theorem dX4_setBudget_5 : decode cX4_setBudget 5 = .ok (.getfield 10, 3) := by decide +kernel
theorem dX4_setBudget_8 : decode cX4_setBudget 8 = .ok (.invokevirtual 43, 3) := by decide +kernel
theorem dX4_setBudget_11 : decode cX4_setBudget 11 = .ok (.aload_n 0, 1) := by decide +kernel
theorem dX4_setBudget_12 : decode cX4_setBudget 12 = .ok (.aload_n 0, 1) := by decide +kernel
theorem dX4_setBudget_13 : decode cX4_setBudget 13 = .ok (.getfield 10, 3) := by decide +kernel
theorem dX4_setBudget_16 : decode cX4_setBudget 16 = .ok (.iload_n 1, 1) := by decide +kernel
theorem dX4_setBudget_17 : decode cX4_setBudget 17 = .ok (.invokevirtual 62, 3) := by decide +kernel
theorem dX4_setBudget_20 : decode cX4_setBudget 20 = .ok (.invokevirtual 51, 3) := by decide +kernel
theorem dX4_setBudget_23 : decode cX4_setBudget 23 = .ok (.ireturn, 1) := by decide +kernel
set_option maxRecDepth 20000 in
theorem ggX4_setFactor_X0_copyFrom : GoodIn wsX4_setFactor wsX0_copyFrom := goodIn_r _ [7, 8, 9, 10, 11, 12, 13, 14, 15, 16, 17, 18, 19, 20, 21, 22, 23, 24, 25, 26, 27, 28, 29, 30, 31, 74, 75, 76, 77, 78, 79, 80, 81, 82, 83, 84, 85, 86] (by decide +kernel) (by decide +kernel)
set_option maxRecDepth 20000 in
theorem gX4_setFactor_X0_copyFrom : GoodIn wsX4_setFactor (wsV RX4 43 RX0 yX0_copyFrom wsX0_copyFrom) := goodIn_app (goodIn_of _ (by decide +kernel)) ggX4_setFactor_X0_copyFrom
set_option maxRecDepth 20000 in
theorem ggX4_setFactor_X0_changeFactor : GoodIn wsX4_setFactor wsX0_changeFactor := goodIn_r _ [35, 19, 36, 37, 38, 6, 39, 40, 41, 42, 43, 16, 10, 8, 44, 45, 26, 46, 15, 17, 47, 22, 48, 74, 75, 76, 77, 78, 79, 80, 81, 82, 83, 84, 85, 86] (by decide +kernel) (by decide +kernel)
set_option maxRecDepth 20000 in
theorem gX4_setFactor_X0_changeFactor : GoodIn wsX4_setFactor (wsV RX4 65 RX0 yX0_changeFactor wsX0_changeFactor) := goodIn_app (goodIn_of _ (by decide +kernel)) ggX4_setFactor_X0_changeFactor
set_option maxRecDepth 20000 in
theorem ggX4_setFactor_X4_recorded : GoodIn wsX4_setFactor wsX4_recorded := goodIn_r _ [52, 53, 1, 54, 55, 56, 57, 58, 59, 60, 61, 25, 26, 27, 62, 63, 64, 65, 66, 67, 4, 5, 6, 7, 8, 9, 10, 11, 12, 13, 14, 15, 16, 17, 18, 19, 20, 21, 22, 23, 24, 28, 29, 30, 31, 68, 69, 70, 71, 72, 73, 87, 88, 89, 74, 75, 76, 77, 78, 79, 80, 81, 82, 83, 84, 85, 86] (by decide +kernel) (by decide +kernel)
set_option maxRecDepth 20000 in
theorem gX4_setFactor_X4_recorded : GoodIn wsX4_setFactor (wsV RX4 51 RX4 yX4_recorded wsX4_recorded) := goodIn_app (goodIn_of _ (by decide +kernel)) ggX4_setFactor_X4_recorded
theorem dX4_setFactor_0 : decode cX4_setFactor 0 = .ok (.aload_n 0, 1) := by decide +kernel
theorem dX4_setFactor_1 : decode cX4_setFactor 1 = .ok (.getfield 16, 3) := by decide +kernel
theorem dX4_setFactor_4 : decode cX4_setFactor 4 = .ok (.aload_n 0, 1) := by decide +kernel
theorem dX4_setFactor_5 : decode cX4_setFactor 5 = .ok (.getfield 10, 3) := by decide +kernel
theorem dX4_setFactor_8 : decode cX4_setFactor 8 = .ok (.invokevirtual 43, 3) := by decide +kernel
theorem dX4_setFactor_11 : decode cX4_setFactor 11 = .ok (.aload_n 0, 1) := by decide +kernel
theorem dX4_setFactor_12 : decode cX4_setFactor 12 = .ok (.aload_n 0, 1) := by decide +kernel
theorem dX4_setFactor_13 : decode cX4_setFactor 13 = .ok (.getfield 10, 3) := by decide +kernel
theorem dX4_setFactor_16 : decode cX4_setFactor 16 = .ok (.iload_n 1, 1) := by decide +kernel
theorem dX4_setFactor_17 : decode cX4_setFactor 17 = .ok (.invokevirtual 65, 3) := by decide +kernel
theorem dX4_setFactor_20 : decode cX4_setFactor 20 = .ok (.invokevirtual 51, 3) := by decide +kernel
theorem dX4_setFactor_23 : decode cX4_setFactor 23 = .ok (.ireturn, 1) := by decide +kernel
set_option maxRecDepth 20000 in
theorem ggX4_move_X0_copyFrom : GoodIn wsX4_move wsX0_copyFrom := goodIn_r _ [7, 8, 9, 10, 11, 12, 13, 14, 15, 16, 17, 18, 19, 20, 21, 22, 23, 24, 25, 26, 27, 28, 29, 30, 31, 97, 98, 99, 100, 101, 102, 103, 104, 105, 106, 107, 108, 109] (by decide +kernel) (by decide +kernel)
set_option maxRecDepth 20000 in
theorem gX4_move_X0_copyFrom : GoodIn wsX4_move (wsV RX4 43 RX0 yX0_copyFrom wsX0_copyFrom) := goodIn_app (goodIn_of _ (by decide +kernel)) ggX4_move_X0_copyFrom
set_option maxRecDepth 20000 in
theorem ggX4_move_X0_moveJob : GoodIn wsX4_move wsX0_moveJob := goodIn_r _ [35, 10, 9, 18, 36, 37, 38, 6, 39, 16, 40, 41, 42, 43, 14, 44, 45, 46, 47, 48, 22, 49, 50, 51, 52, 53, 13, 54, 55, 56, 57, 8, 11, 20, 58, 59, 60, 61, 12, 62, 63, 64, 65, 66, 67, 68, 69, 70, 71, 97, 98, 99, 100, 101, 102, 103, 104, 105, 106, 107, 108, 109] (by decide +kernel) (by decide +kernel)
set_option maxRecDepth 20000 in
theorem gX4_move_X0_moveJob : GoodIn wsX4_move (wsV RX4 68 RX0 yX0_moveJob wsX0_moveJob) := goodIn_app (goodIn_of _ (by decide +kernel)) ggX4_move_X0_moveJob
set_option maxRecDepth 20000 in
theorem ggX4_move_X4_recorded : GoodIn wsX4_move wsX4_recorded := goodIn_r _ [75, 76, 1, 77, 78, 79, 80, 81, 82, 83, 84, 25, 26, 27, 85, 86, 87, 88, 89, 90, 4, 5, 6, 7, 8, 9, 10, 11, 12, 13, 14, 15, 16, 17, 18, 19, 20, 21, 22, 23, 24, 28, 29, 30, 31, 91, 92, 93, 94, 95, 96, 110, 111, 112, 97, 98, 99, 100, 101, 102, 103, 104, 105, 106, 107, 108, 109] (by decide +kernel) (by decide +kernel)
set_option maxRecDepth 20000 in
theorem gX4_move_X4_recorded : GoodIn wsX4_move (wsV RX4 51 RX4 yX4_recorded wsX4_recorded) := goodIn_app (goodIn_of _ (by decide +kernel)) ggX4_move_X4_recorded
theorem dX4_move_0 : decode cX4_move 0 = .ok (.aload_n 0, 1) := by decide +kernel
theorem dX4_move_1 : decode cX4_move 1 = .ok (.getfield 16, 3) := by decide +kernel
theorem dX4_move_4 : decode cX4_move 4 = .ok (.aload_n 0, 1) := by decide +kernel
theorem dX4_move_5 : decode cX4_move 5 = .ok (.getfield 10, 3) := by decide +kernel
theorem dX4_move_8 : decode cX4_move 8 = .ok (.invokevirtual 43, 3) := by decide +kernel
theorem dX4_move_11 : decode cX4_move 11 = .ok (.aload_n 0, 1) := by decide +kernel
theorem dX4_move_12 : decode cX4_move 12 = .ok (.aload_n 0, 1) := by decide +kernel
theorem dX4_move_13 : decode cX4_move 13 = .ok (.getfield 10, 3) := by decide +kernel
theorem dX4_move_16 : decode cX4_move 16 = .ok (.iload_n 1, 1) := by decide +kernel
theorem dX4_move_17 : decode cX4_move 17 = .ok (.iload_n 2, 1) := by decide +kernel
theorem dX4_move_18 : decode cX4_move 18 = .ok (.invokevirtual 68, 3) := by decide +kernel
theorem dX4_move_21 : decode cX4_move 21 = .ok (.invokevirtual 51, 3) := by decide +kernel
theorem dX4_move_24 : decode cX4_move 24 = .ok (.ireturn, 1) := by decide +kernel
set_option maxRecDepth 20000 in
theorem ggX4_exchange_X0_copyFrom : GoodIn wsX4_exchange wsX0_copyFrom := goodIn_r _ [7, 8, 9, 10, 11, 12, 13, 14, 15, 16, 17, 18, 19, 20, 21, 22, 23, 24, 25, 26, 27, 28, 29, 30, 31, 93, 94, 95, 96, 97, 98, 99, 100, 101, 102, 103, 104, 105] (by decide +kernel) (by decide +kernel)
set_option maxRecDepth 20000 in
theorem gX4_exchange_X0_copyFrom : GoodIn wsX4_exchange (wsV RX4 43 RX0 yX0_copyFrom wsX0_copyFrom) := goodIn_app (goodIn_of _ (by decide +kernel)) ggX4_exchange_X0_copyFrom
set_option maxRecDepth 20000 in
theorem ggX4_exchange_X0_exchangeJobs : GoodIn wsX4_exchange wsX0_exchangeJobs := goodIn_r _ [35, 9, 18, 10, 36, 37, 38, 6, 39, 16, 40, 41, 42, 43, 44, 45, 46, 47, 48, 22, 49, 50, 51, 52, 53, 8, 11, 20, 54, 55, 56, 57, 12, 58, 59, 60, 61, 62, 63, 64, 65, 66, 67, 14, 13, 93, 94, 95, 96, 97, 98, 99, 100, 101, 102, 103, 104, 105] (by decide +kernel) (by decide +kernel)
set_option maxRecDepth 20000 in
theorem gX4_exchange_X0_exchangeJobs : GoodIn wsX4_exchange (wsV RX4 72 RX0 yX0_exchangeJobs wsX0_exchangeJobs) := goodIn_app (goodIn_of _ (by decide +kernel)) ggX4_exchange_X0_exchangeJobs
set_option maxRecDepth 20000 in
theorem ggX4_exchange_X4_recorded : GoodIn wsX4_exchange wsX4_recorded := goodIn_r _ [71, 72, 1, 73, 74, 75, 76, 77, 78, 79, 80, 25, 26, 27, 81, 82, 83, 84, 85, 86, 4, 5, 6, 7, 8, 9, 10, 11, 12, 13, 14, 15, 16, 17, 18, 19, 20, 21, 22, 23, 24, 28, 29, 30, 31, 87, 88, 89, 90, 91, 92, 106, 107, 108, 93, 94, 95, 96, 97, 98, 99, 100, 101, 102, 103, 104, 105] (by decide +kernel) (by decide +kernel)
set_option maxRecDepth 20000 in
theorem gX4_exchange_X4_recorded : GoodIn wsX4_exchange (wsV RX4 51 RX4 yX4_recorded wsX4_recorded) := goodIn_app (goodIn_of _ (by decide +kernel)) ggX4_exchange_X4_recorded
theorem dX4_exchange_0 : decode cX4_exchange 0 = .ok (.aload_n 0, 1) := by decide +kernel
theorem dX4_exchange_1 : decode cX4_exchange 1 = .ok (.getfield 16, 3) := by decide +kernel
theorem dX4_exchange_4 : decode cX4_exchange 4 = .ok (.aload_n 0, 1) := by decide +kernel
theorem dX4_exchange_5 : decode cX4_exchange 5 = .ok (.getfield 10, 3) := by decide +kernel
theorem dX4_exchange_8 : decode cX4_exchange 8 = .ok (.invokevirtual 43, 3) := by decide +kernel
theorem dX4_exchange_11 : decode cX4_exchange 11 = .ok (.aload_n 0, 1) := by decide +kernel
theorem dX4_exchange_12 : decode cX4_exchange 12 = .ok (.aload_n 0, 1) := by decide +kernel
theorem dX4_exchange_13 : decode cX4_exchange 13 = .ok (.getfield 10, 3) := by decide +kernel
theorem dX4_exchange_16 : decode cX4_exchange 16 = .ok (.iload_n 1, 1) := by decide +kernel
theorem dX4_exchange_17 : decode cX4_exchange 17 = .ok (.iload_n 2, 1) := by decide +kernel
theorem dX4_exchange_18 : decode cX4_exchange 18 = .ok (.invokevirtual 72, 3) := by decide +kernel
theorem dX4_exchange_21 : decode cX4_exchange 21 = .ok (.invokevirtual 51, 3) := by decide +kernel
theorem dX4_exchange_24 : decode cX4_exchange 24 = .ok (.ireturn, 1) := by decide +kernel
set_option maxRecDepth 20000 in
theorem ggX4_ring_X0_copyFrom : GoodIn wsX4_ring wsX0_copyFrom := goodIn_r _ [7, 8, 9, 10, 11, 12, 13, 14, 15, 16, 17, 18, 19, 20, 21, 22, 23, 24, 25, 26, 27, 28, 29, 30, 31, 93, 94, 95, 96, 97, 98, 99, 100, 101, 102, 103, 104, 105] (by decide +kernel) (by decide +kernel)
set_option maxRecDepth 20000 in
theorem gX4_ring_X0_copyFrom : GoodIn wsX4_ring (wsV RX4 43 RX0 yX0_copyFrom wsX0_copyFrom) := goodIn_app (goodIn_of _ (by decide +kernel)) ggX4_ring_X0_copyFrom
set_option maxRecDepth 20000 in
theorem ggX4_ring_X0_moveRing : GoodIn wsX4_ring wsX0_moveRing := goodIn_r _ [35, 9, 18, 10, 36, 37, 38, 6, 39, 16, 40, 41, 42, 43, 44, 45, 46, 47, 48, 22, 49, 50, 51, 52, 53, 8, 11, 20, 54, 55, 56, 57, 12, 58, 59, 60, 61, 62, 63, 64, 65, 66, 67, 14, 13, 93, 94, 95, 96, 97, 98, 99, 100, 101, 102, 103, 104, 105] (by decide +kernel) (by decide +kernel)
set_option maxRecDepth 20000 in
theorem gX4_ring_X0_moveRing : GoodIn wsX4_ring (wsV RX4 75 RX0 yX0_moveRing wsX0_moveRing) := goodIn_app (goodIn_of _ (by decide +kernel)) ggX4_ring_X0_moveRing
set_option maxRecDepth 20000 in
theorem ggX4_ring_X4_recorded : GoodIn wsX4_ring wsX4_recorded := goodIn_r _ [71, 72, 1, 73, 74, 75, 76, 77, 78, 79, 80, 25, 26, 27, 81, 82, 83, 84, 85, 86, 4, 5, 6, 7, 8, 9, 10, 11, 12, 13, 14, 15, 16, 17, 18, 19, 20, 21, 22, 23, 24, 28, 29, 30, 31, 87, 88, 89, 90, 91, 92, 106, 107, 108, 93, 94, 95, 96, 97, 98, 99, 100, 101, 102, 103, 104, 105] (by decide +kernel) (by decide +kernel)
set_option maxRecDepth 20000 in
theorem gX4_ring_X4_recorded : GoodIn wsX4_ring (wsV RX4 51 RX4 yX4_recorded wsX4_recorded) := goodIn_app (goodIn_of _ (by decide +kernel)) ggX4_ring_X4_recorded
theorem dX4_ring_0 : decode cX4_ring 0 = .ok (.aload_n 0, 1) := by decide +kernel
theorem dX4_ring_1 : decode cX4_ring 1 = .ok (.getfield 16, 3) := by decide +kernel
theorem dX4_ring_4 : decode cX4_ring 4 = .ok (.aload_n 0, 1) := by decide +kernel
theorem dX4_ring_5 : decode cX4_ring 5 = .ok (.getfield 10, 3) := by decide +kernel
theorem dX4_ring_8 : decode cX4_ring 8 = .ok (.invokevirtual 43, 3) := by decide +kernel
theorem dX4_ring_11 : decode cX4_ring 11 = .ok (.aload_n 0, 1) := by decide +kernel
theorem dX4_ring_12 : decode cX4_ring 12 = .ok (.aload_n 0, 1) := by decide +kernel
theorem dX4_ring_13 : decode cX4_ring 13 = .ok (.getfield 10, 3) := by decide +kernel
theorem dX4_ring_16 : decode cX4_ring 16 = .ok (.iload_n 1, 1) := by decide +kernel
theorem dX4_ring_17 : decode cX4_ring 17 = .ok (.iload_n 2, 1) := by decide +kernel
theorem dX4_ring_18 : decode cX4_ring 18 = .ok (.iload_n 3, 1) := by decide +kernel
theorem dX4_ring_19 : decode cX4_ring 19 = .ok (.invokevirtual 75, 3) := by decide +kernel
theorem dX4_ring_22 : decode cX4_ring 22 = .ok (.invokevirtual 51, 3) := by decide +kernel
theorem dX4_ring_25 : decode cX4_ring 25 = .ok (.ireturn, 1) := by decide +kernel
set_option maxRecDepth 20000 in
theorem ggX4_even_X0_copyFrom : GoodIn wsX4_even wsX0_copyFrom := goodIn_r _ [8, 9, 10, 11, 12, 13, 14, 15, 16, 17, 18, 19, 20, 21, 22, 23, 24, 25, 26, 27, 28, 29, 30, 31, 32, 120, 121, 122, 123, 124, 125, 126, 127, 128, 129, 130, 131, 132] (by decide +kernel) (by decide +kernel)
set_option maxRecDepth 20000 in
theorem gX4_even_X0_copyFrom : GoodIn wsX4_even (wsV RX4 43 RX0 yX0_copyFrom wsX0_copyFrom) := goodIn_app (goodIn_of _ (by decide +kernel)) ggX4_even_X0_copyFrom
set_option maxRecDepth 20000 in
theorem ggX4_even_X3_walk : GoodIn wsX4_even wsX3_walk := goodIn_r _ [37, 38, 39, 40, 41, 42, 43, 7, 44, 20, 45, 46, 47, 48, 17, 11, 9, 49, 50, 27, 51, 16, 18, 52, 23, 53, 54, 55, 56, 36, 57, 58, 59, 60, 61, 15, 13, 14, 62, 63, 64, 65, 66, 67, 68, 69, 70, 71, 72, 73, 74, 75, 76, 77, 78, 79, 80, 81, 82, 83, 84, 85, 86, 87, 88, 12, 21, 19, 10, 89, 90, 91, 92, 93, 94, 120, 121, 122, 123, 124, 125, 126, 127, 128, 129, 130, 131, 132, 133, 134, 135, 136, 137] (by decide +kernel) (by decide +kernel)
set_option maxRecDepth 20000 in
theorem gX4_even_X3_walk : GoodIn wsX4_even (wsV RX4 78 RX3 yX3_walk wsX3_walk) := goodIn_app (goodIn_of _ (by decide +kernel)) ggX4_even_X3_walk
set_option maxRecDepth 20000 in
theorem ggX4_even_X4_recorded : GoodIn wsX4_even wsX4_recorded := goodIn_r _ [98, 99, 1, 100, 101, 102, 103, 104, 105, 106, 107, 26, 27, 28, 108, 109, 110, 111, 112, 113, 5, 6, 7, 8, 9, 10, 11, 12, 13, 14, 15, 16, 17, 18, 19, 20, 21, 22, 23, 24, 25, 29, 30, 31, 32, 114, 115, 116, 117, 118, 119, 138, 139, 140, 120, 121, 122, 123, 124, 125, 126, 127, 128, 129, 130, 131, 132] (by decide +kernel) (by decide +kernel)
set_option maxRecDepth 20000 in
theorem gX4_even_X4_recorded : GoodIn wsX4_even (wsV RX4 51 RX4 yX4_recorded wsX4_recorded) := goodIn_app (goodIn_of _ (by decide +kernel)) ggX4_even_X4_recorded
theorem dX4_even_0 : decode cX4_even 0 = .ok (.aload_n 0, 1) := by decide +kernel
theorem dX4_even_1 : decode cX4_even 1 = .ok (.getfield 16, 3) := by decide +kernel
theorem dX4_even_4 : decode cX4_even 4 = .ok (.aload_n 0, 1) := by decide +kernel
theorem dX4_even_5 : decode cX4_even 5 = .ok (.getfield 10, 3) := by decide +kernel
theorem dX4_even_8 : decode cX4_even 8 = .ok (.invokevirtual 43, 3) := by decide +kernel
theorem dX4_even_11 : decode cX4_even 11 = .ok (.aload_n 0, 1) := by decide +kernel
theorem dX4_even_12 : decode cX4_even 12 = .ok (.aload_n 0, 1) := by decide +kernel
theorem dX4_even_13 : decode cX4_even 13 = .ok (.getfield 32, 3) := by decide +kernel
theorem dX4_even_16 : decode cX4_even 16 = .ok (.aload_n 0, 1) := by decide +kernel
theorem dX4_even_17 : decode cX4_even 17 = .ok (.getfield 10, 3) := by decide +kernel
theorem dX4_even_20 : decode cX4_even 20 = .ok (.iload_n 1, 1) := by decide +kernel
theorem dX4_even_21 : decode cX4_even 21 = .ok (.invokevirtual 78, 3) := by decide +kernel
theorem dX4_even_24 : decode cX4_even 24 = .ok (.invokevirtual 51, 3) := by decide +kernel
theorem dX4_even_27 : decode cX4_even 27 = .ok (.ireturn, 1) := by decide +kernel
set_option maxRecDepth 20000 in
theorem ggX4_close_X0_copyFrom : GoodIn wsX4_close wsX0_copyFrom := goodIn_r _ [7, 8, 9, 10, 11, 12, 13, 14, 15, 16, 17, 18, 19, 20, 21, 22, 23, 24, 25, 26, 27, 28, 29, 30, 31, 116, 117, 118, 119, 120, 121, 122, 123, 124, 125, 126, 127, 128] (by decide +kernel) (by decide +kernel)
set_option maxRecDepth 20000 in
theorem gX4_close_X0_copyFrom : GoodIn wsX4_close (wsV RX4 43 RX0 yX0_copyFrom wsX0_copyFrom) := goodIn_app (goodIn_of _ (by decide +kernel)) ggX4_close_X0_copyFrom
set_option maxRecDepth 20000 in
theorem ggX4_close_X0_closeServer : GoodIn wsX4_close wsX0_closeServer := goodIn_r _ [35, 15, 18, 36, 37, 38, 6, 39, 14, 40, 41, 42, 43, 13, 44, 22, 45, 46, 47, 48, 49, 16, 10, 9, 50, 51, 52, 53, 54, 55, 56, 57, 58, 59, 60, 61, 62, 63, 64, 65, 66, 67, 68, 69, 70, 71, 72, 73, 74, 75, 76, 77, 78, 8, 79, 80, 81, 82, 12, 83, 84, 85, 86, 11, 20, 87, 88, 89, 90, 116, 117, 118, 119, 120, 121, 122, 123, 124, 125, 126, 127, 128] (by decide +kernel) (by decide +kernel)
set_option maxRecDepth 20000 in
theorem gX4_close_X0_closeServer : GoodIn wsX4_close (wsV RX4 82 RX0 yX0_closeServer wsX0_closeServer) := goodIn_app (goodIn_of _ (by decide +kernel)) ggX4_close_X0_closeServer
set_option maxRecDepth 20000 in
theorem ggX4_close_X4_recorded : GoodIn wsX4_close wsX4_recorded := goodIn_r _ [94, 95, 1, 96, 97, 98, 99, 100, 101, 102, 103, 25, 26, 27, 104, 105, 106, 107, 108, 109, 4, 5, 6, 7, 8, 9, 10, 11, 12, 13, 14, 15, 16, 17, 18, 19, 20, 21, 22, 23, 24, 28, 29, 30, 31, 110, 111, 112, 113, 114, 115, 129, 130, 131, 116, 117, 118, 119, 120, 121, 122, 123, 124, 125, 126, 127, 128] (by decide +kernel) (by decide +kernel)
set_option maxRecDepth 20000 in
theorem gX4_close_X4_recorded : GoodIn wsX4_close (wsV RX4 51 RX4 yX4_recorded wsX4_recorded) := goodIn_app (goodIn_of _ (by decide +kernel)) ggX4_close_X4_recorded
theorem dX4_close_0 : decode cX4_close 0 = .ok (.aload_n 0, 1) := by decide +kernel
theorem dX4_close_1 : decode cX4_close 1 = .ok (.getfield 16, 3) := by decide +kernel
theorem dX4_close_4 : decode cX4_close 4 = .ok (.aload_n 0, 1) := by decide +kernel
theorem dX4_close_5 : decode cX4_close 5 = .ok (.getfield 10, 3) := by decide +kernel
theorem dX4_close_8 : decode cX4_close 8 = .ok (.invokevirtual 43, 3) := by decide +kernel
theorem dX4_close_11 : decode cX4_close 11 = .ok (.aload_n 0, 1) := by decide +kernel
theorem dX4_close_12 : decode cX4_close 12 = .ok (.aload_n 0, 1) := by decide +kernel
theorem dX4_close_13 : decode cX4_close 13 = .ok (.getfield 10, 3) := by decide +kernel
theorem dX4_close_16 : decode cX4_close 16 = .ok (.iload_n 1, 1) := by decide +kernel
theorem dX4_close_17 : decode cX4_close 17 = .ok (.invokevirtual 82, 3) := by decide +kernel
theorem dX4_close_20 : decode cX4_close 20 = .ok (.invokevirtual 51, 3) := by decide +kernel
theorem dX4_close_23 : decode cX4_close 23 = .ok (.ireturn, 1) := by decide +kernel
set_option maxRecDepth 20000 in
theorem ggX4_open_X0_copyFrom : GoodIn wsX4_open wsX0_copyFrom := goodIn_r _ [7, 8, 9, 10, 11, 12, 13, 14, 15, 16, 17, 18, 19, 20, 21, 22, 23, 24, 25, 26, 27, 28, 29, 30, 31, 73, 74, 75, 76, 77, 78, 79, 80, 81, 82, 83, 84, 85] (by decide +kernel) (by decide +kernel)
set_option maxRecDepth 20000 in
theorem gX4_open_X0_copyFrom : GoodIn wsX4_open (wsV RX4 43 RX0 yX0_copyFrom wsX0_copyFrom) := goodIn_app (goodIn_of _ (by decide +kernel)) ggX4_open_X0_copyFrom
set_option maxRecDepth 20000 in
theorem ggX4_open_X0_openServer : GoodIn wsX4_open wsX0_openServer := goodIn_r _ [35, 13, 15, 36, 37, 38, 6, 39, 14, 40, 41, 42, 43, 44, 22, 45, 46, 47, 73, 74, 75, 76, 77, 78, 79, 80, 81, 82, 83, 84, 85] (by decide +kernel) (by decide +kernel)
set_option maxRecDepth 20000 in
theorem gX4_open_X0_openServer : GoodIn wsX4_open (wsV RX4 85 RX0 yX0_openServer wsX0_openServer) := goodIn_app (goodIn_of _ (by decide +kernel)) ggX4_open_X0_openServer
set_option maxRecDepth 20000 in
theorem ggX4_open_X4_recorded : GoodIn wsX4_open wsX4_recorded := goodIn_r _ [51, 52, 1, 53, 54, 55, 56, 57, 58, 59, 60, 25, 26, 27, 61, 62, 63, 64, 65, 66, 4, 5, 6, 7, 8, 9, 10, 11, 12, 13, 14, 15, 16, 17, 18, 19, 20, 21, 22, 23, 24, 28, 29, 30, 31, 67, 68, 69, 70, 71, 72, 86, 87, 88, 73, 74, 75, 76, 77, 78, 79, 80, 81, 82, 83, 84, 85] (by decide +kernel) (by decide +kernel)
set_option maxRecDepth 20000 in
theorem gX4_open_X4_recorded : GoodIn wsX4_open (wsV RX4 51 RX4 yX4_recorded wsX4_recorded) := goodIn_app (goodIn_of _ (by decide +kernel)) ggX4_open_X4_recorded
theorem dX4_open_0 : decode cX4_open 0 = .ok (.aload_n 0, 1) := by decide +kernel
theorem dX4_open_1 : decode cX4_open 1 = .ok (.getfield 16, 3) := by decide +kernel
theorem dX4_open_4 : decode cX4_open 4 = .ok (.aload_n 0, 1) := by decide +kernel
theorem dX4_open_5 : decode cX4_open 5 = .ok (.getfield 10, 3) := by decide +kernel
theorem dX4_open_8 : decode cX4_open 8 = .ok (.invokevirtual 43, 3) := by decide +kernel
theorem dX4_open_11 : decode cX4_open 11 = .ok (.aload_n 0, 1) := by decide +kernel
theorem dX4_open_12 : decode cX4_open 12 = .ok (.aload_n 0, 1) := by decide +kernel
theorem dX4_open_13 : decode cX4_open 13 = .ok (.getfield 10, 3) := by decide +kernel
theorem dX4_open_16 : decode cX4_open 16 = .ok (.iload_n 1, 1) := by decide +kernel
theorem dX4_open_17 : decode cX4_open 17 = .ok (.invokevirtual 85, 3) := by decide +kernel
theorem dX4_open_20 : decode cX4_open 20 = .ok (.invokevirtual 51, 3) := by decide +kernel
theorem dX4_open_23 : decode cX4_open 23 = .ok (.ireturn, 1) := by decide +kernel
set_option maxRecDepth 20000 in
theorem ggX4_undo_X1_takeLatest : GoodIn wsX4_undo wsX1_takeLatest := goodIn_r _ [7, 8, 9, 10, 11, 12, 6, 13, 14, 15, 16, 17, 18, 19, 20, 21, 22, 23, 24, 25, 26, 27, 28, 29, 30, 31, 32, 33, 34, 35, 36, 37, 38, 39, 40, 41, 42, 43, 50, 51, 52, 53, 54, 55, 56, 57, 58, 59, 60, 61, 62, 63, 64, 65] (by decide +kernel) (by decide +kernel)
set_option maxRecDepth 20000 in
theorem gX4_undo_X1_takeLatest : GoodIn wsX4_undo (wsV RX4 88 RX1 yX1_takeLatest wsX1_takeLatest) := goodIn_app (goodIn_of _ (by decide +kernel)) ggX4_undo_X1_takeLatest
theorem dX4_undo_0 : decode cX4_undo 0 = .ok (.aload_n 0, 1) := by decide +kernel
theorem dX4_undo_1 : decode cX4_undo 1 = .ok (.getfield 25, 3) := by decide +kernel
theorem dX4_undo_4 : decode cX4_undo 4 = .ok (.aload_n 0, 1) := by decide +kernel
theorem dX4_undo_5 : decode cX4_undo 5 = .ok (.getfield 10, 3) := by decide +kernel
theorem dX4_undo_8 : decode cX4_undo 8 = .ok (.invokevirtual 88, 3) := by decide +kernel
theorem dX4_undo_11 : decode cX4_undo 11 = .ok (.ifCond .ne 6, 3) := by decide +kernel
theorem dX4_undo_14 : decode cX4_undo 14 = .ok (.bipush (-2), 2) := by decide +kernel
theorem dX4_undo_16 : decode cX4_undo 16 = .ok (.ireturn, 1) := by decide +kernel
theorem dX4_undo_17 : decode cX4_undo 17 = .ok (.aload_n 0, 1) := by decide +kernel
theorem dX4_undo_18 : decode cX4_undo 18 = .ok (.getfield 25, 3) := by decide +kernel
theorem dX4_undo_21 : decode cX4_undo 21 = .ok (.getfield 92, 3) := by decide +kernel
theorem dX4_undo_24 : decode cX4_undo 24 = .ok (.ireturn, 1) := by decide +kernel
set_option maxRecDepth 20000 in
theorem ggX4_append_X2_addSign : GoodIn wsX4_append wsX2_addSign := goodIn_r _ [6, 7, 8, 9, 10, 11, 18, 19, 20, 21, 22, 23, 24, 25] (by decide +kernel) (by decide +kernel)
set_option maxRecDepth 20000 in
theorem gX4_append_X2_addSign : GoodIn wsX4_append (wsV RX4 96 RX2 yX2_addSign wsX2_addSign) := goodIn_app (goodIn_of _ (by decide +kernel)) ggX4_append_X2_addSign
theorem dX4_append_0 : decode cX4_append 0 = .ok (.aload_n 0, 1) := by decide +kernel
theorem dX4_append_1 : decode cX4_append 1 = .ok (.getfield 39, 3) := by decide +kernel
theorem dX4_append_4 : decode cX4_append 4 = .ok (.iload_n 1, 1) := by decide +kernel
theorem dX4_append_5 : decode cX4_append 5 = .ok (.invokevirtual 96, 3) := by decide +kernel
theorem dX4_append_8 : decode cX4_append 8 = .ok (.ireturn, 1) := by decide +kernel
theorem dX4_clearText_0 : decode cX4_clearText 0 = .ok (.aload_n 0, 1) := by decide +kernel
theorem dX4_clearText_1 : decode cX4_clearText 1 = .ok (.getfield 39, 3) := by decide +kernel
theorem dX4_clearText_4 : decode cX4_clearText 4 = .ok (.getfield 99, 3) := by decide +kernel
theorem dX4_clearText_7 : decode cX4_clearText 7 = .ok (.istore_n 1, 1) := by decide +kernel
theorem dX4_clearText_8 : decode cX4_clearText 8 = .ok (.aload_n 0, 1) := by decide +kernel
theorem dX4_clearText_9 : decode cX4_clearText 9 = .ok (.getfield 39, 3) := by decide +kernel
theorem dX4_clearText_12 : decode cX4_clearText 12 = .ok (.iconst 0, 1) := by decide +kernel
theorem dX4_clearText_13 : decode cX4_clearText 13 = .ok (.putfield 99, 3) := by decide +kernel
theorem dX4_clearText_16 : decode cX4_clearText 16 = .ok (.iload_n 1, 1) := by decide +kernel
theorem dX4_clearText_17 : decode cX4_clearText 17 = .ok (.ireturn, 1) := by decide +kernel
set_option maxRecDepth 20000 in
theorem ggX4_run_X0_copyFrom : GoodIn wsX4_run wsX0_copyFrom := goodIn_r _ [8, 9, 10, 11, 12, 13, 14, 15, 16, 17, 18, 19, 20, 21, 22, 23, 24, 25, 26, 27, 28, 29, 30, 31, 32, 220, 221, 222, 223, 224, 225, 226, 227, 228, 229, 230, 231, 232] (by decide +kernel) (by decide +kernel)
set_option maxRecDepth 20000 in
theorem gX4_run_X0_copyFrom : GoodIn wsX4_run (wsV RX4 43 RX0 yX0_copyFrom wsX0_copyFrom) := goodIn_app (goodIn_of _ (by decide +kernel)) ggX4_run_X0_copyFrom
set_option maxRecDepth 20000 in
theorem ggX4_run_X4_runOrders : GoodIn wsX4_run wsX4_runOrders := goodIn_r _ [36, 3, 37, 38, 39, 40, 41, 42, 43, 44, 45, 46, 47, 48, 49, 50, 51, 23, 52, 53, 54, 55, 56, 57, 58, 59, 60, 61, 62, 63, 64, 65, 66, 67, 68, 69, 70, 71, 72, 73, 74, 75, 76, 2, 77, 78, 79, 80, 81, 7, 82, 17, 9, 10, 11, 12, 13, 18, 83, 84, 85, 86, 15, 87, 88, 89, 90, 14, 91, 92, 93, 94, 95, 96, 97, 98, 99, 100, 101, 102, 103, 104, 105, 106, 19, 107, 108, 109, 110, 21, 111, 112, 113, 114, 115, 116, 117, 118, 119, 120, 121, 122, 123, 124, 125, 126, 127, 128, 129, 130, 131, 132, 133, 134, 135, 136, 137, 138, 139, 140, 141, 142, 143, 144, 145, 146, 20, 147, 148, 149, 150, 151, 152, 27, 153, 16, 154, 155, 156, 157, 158, 159, 160, 161, 162, 163, 164, 165, 166, 167, 168, 169, 170, 171, 172, 173, 174, 175, 176, 177, 178, 179, 180, 181, 182, 183, 184, 185, 186, 206, 207, 208, 209, 210, 211, 212, 213, 214, 215, 216, 217, 218, 219, 220, 221, 222, 223, 224, 225, 226, 227, 228, 229, 230, 231, 232, 233, 234, 235, 236, 237] (by decide +kernel) (by decide +kernel)
set_option maxRecDepth 20000 in
theorem gX4_run_X4_runOrders : GoodIn wsX4_run (wsV RX4 102 RX4 yX4_runOrders wsX4_runOrders) := goodIn_app (goodIn_of _ (by decide +kernel)) ggX4_run_X4_runOrders
set_option maxRecDepth 20000 in
theorem ggX4_run_X4_recorded : GoodIn wsX4_run wsX4_recorded := goodIn_r _ [190, 191, 1, 192, 193, 194, 195, 196, 197, 198, 199, 26, 27, 28, 200, 201, 202, 203, 204, 205, 5, 6, 7, 8, 9, 10, 11, 12, 13, 14, 15, 16, 17, 18, 19, 20, 21, 22, 23, 24, 25, 29, 30, 31, 32, 206, 207, 208, 209, 210, 211, 238, 239, 240, 220, 221, 222, 223, 224, 225, 226, 227, 228, 229, 230, 231, 232] (by decide +kernel) (by decide +kernel)
set_option maxRecDepth 20000 in
theorem gX4_run_X4_recorded : GoodIn wsX4_run (wsV RX4 51 RX4 yX4_recorded wsX4_recorded) := goodIn_app (goodIn_of _ (by decide +kernel)) ggX4_run_X4_recorded
theorem dX4_run_0 : decode cX4_run 0 = .ok (.aload_n 0, 1) := by decide +kernel
theorem dX4_run_1 : decode cX4_run 1 = .ok (.getfield 16, 3) := by decide +kernel
theorem dX4_run_4 : decode cX4_run 4 = .ok (.aload_n 0, 1) := by decide +kernel
theorem dX4_run_5 : decode cX4_run 5 = .ok (.getfield 10, 3) := by decide +kernel
theorem dX4_run_8 : decode cX4_run 8 = .ok (.invokevirtual 43, 3) := by decide +kernel
theorem dX4_run_11 : decode cX4_run 11 = .ok (.aload_n 0, 1) := by decide +kernel
theorem dX4_run_12 : decode cX4_run 12 = .ok (.invokevirtual 102, 3) := by decide +kernel
theorem dX4_run_15 : decode cX4_run 15 = .ok (.istore_n 1, 1) := by decide +kernel
theorem dX4_run_16 : decode cX4_run 16 = .ok (.iload_n 1, 1) := by decide +kernel
theorem dX4_run_17 : decode cX4_run 17 = .ok (.ifCond .ge 16, 3) := by decide +kernel
theorem dX4_run_20 : decode cX4_run 20 = .ok (.aload_n 0, 1) := by decide +kernel
theorem dX4_run_21 : decode cX4_run 21 = .ok (.getfield 10, 3) := by decide +kernel
theorem dX4_run_24 : decode cX4_run 24 = .ok (.aload_n 0, 1) := by decide +kernel
theorem dX4_run_25 : decode cX4_run 25 = .ok (.getfield 16, 3) := by decide +kernel
theorem dX4_run_28 : decode cX4_run 28 = .ok (.invokevirtual 43, 3) := by decide +kernel
theorem dX4_run_31 : decode cX4_run 31 = .ok (.iload_n 1, 1) := by decide +kernel
theorem dX4_run_32 : decode cX4_run 32 = .ok (.ireturn, 1) := by decide +kernel
theorem dX4_run_33 : decode cX4_run 33 = .ok (.aload_n 0, 1) := by decide +kernel
theorem dX4_run_34 : decode cX4_run 34 = .ok (.getfield 39, 3) := by decide +kernel
theorem dX4_run_37 : decode cX4_run 37 = .ok (.iconst 0, 1) := by decide +kernel
theorem dX4_run_38 : decode cX4_run 38 = .ok (.putfield 99, 3) := by decide +kernel
theorem dX4_run_41 : decode cX4_run 41 = .ok (.aload_n 0, 1) := by decide +kernel
theorem dX4_run_42 : decode cX4_run 42 = .ok (.iload_n 1, 1) := by decide +kernel
theorem dX4_run_43 : decode cX4_run 43 = .ok (.invokevirtual 51, 3) := by decide +kernel
theorem dX4_run_46 : decode cX4_run 46 = .ok (.ireturn, 1) := by decide +kernel
set_option maxRecDepth 20000 in
theorem ggX4_count_X0_finishedJobs : GoodIn wsX4_count wsX0_finishedJobs := goodIn_r _ [8, 9, 10, 11, 12, 7, 13, 14, 15, 16, 17, 63, 64, 65, 66, 67, 68, 69, 70, 71, 72, 73, 74, 75] (by decide +kernel) (by decide +kernel)
set_option maxRecDepth 20000 in
theorem gX4_count_X0_finishedJobs : GoodIn wsX4_count (wsV RX4 114 RX0 yX0_finishedJobs wsX0_finishedJobs) := goodIn_app (goodIn_of _ (by decide +kernel)) ggX4_count_X0_finishedJobs
set_option maxRecDepth 20000 in
theorem ggX4_count_X0_greatestLoad : GoodIn wsX4_count wsX0_greatestLoad := goodIn_r _ [21, 22, 23, 24, 25, 7, 26, 27, 28, 15, 16, 17, 63, 64, 65, 66, 67, 68, 69, 70, 71, 72, 73, 74, 75] (by decide +kernel) (by decide +kernel)
set_option maxRecDepth 20000 in
theorem gX4_count_X0_greatestLoad : GoodIn wsX4_count (wsV RX4 120 RX0 yX0_greatestLoad wsX0_greatestLoad) := goodIn_app (goodIn_of _ (by decide +kernel)) ggX4_count_X0_greatestLoad
set_option maxRecDepth 20000 in
theorem ggX4_count_X0_emptiestServer : GoodIn wsX4_count wsX0_emptiestServer := goodIn_r _ [32, 27, 22, 28, 15, 16, 17, 63, 64, 65, 66, 67, 68, 69, 70, 71, 72, 73, 74, 75] (by decide +kernel) (by decide +kernel)
set_option maxRecDepth 20000 in
theorem gX4_count_X0_emptiestServer : GoodIn wsX4_count (wsV RX4 127 RX0 yX0_emptiestServer wsX0_emptiestServer) := goodIn_app (goodIn_of _ (by decide +kernel)) ggX4_count_X0_emptiestServer
set_option maxRecDepth 20000 in
theorem ggX4_count_X4_at : GoodIn wsX4_count wsX4_at := goodIn_r _ [17] (by decide +kernel) (by decide +kernel)
set_option maxRecDepth 20000 in
theorem gX4_count_X4_at : GoodIn wsX4_count (va_wsS RX4 130 yX4_at wsX4_at) := goodIn_app (goodIn_of _ (by decide +kernel)) ggX4_count_X4_at
set_option maxRecDepth 20000 in
theorem ggX4_count_X0_bound : GoodIn wsX4_count wsX0_bound := goodIn_r _ [37, 9, 14, 38, 39, 40, 41, 42, 43, 44, 15, 16, 17, 63, 64, 65, 66, 67, 68, 69, 70, 71, 72, 73, 74, 75] (by decide +kernel) (by decide +kernel)
set_option maxRecDepth 20000 in
theorem gX4_count_X0_bound : GoodIn wsX4_count (wsV RX4 134 RX0 yX0_bound wsX0_bound) := goodIn_app (goodIn_of _ (by decide +kernel)) ggX4_count_X0_bound
set_option maxRecDepth 20000 in
theorem ggX4_count_X0_target : GoodIn wsX4_count wsX0_target := goodIn_r _ [48, 49, 50, 35, 36, 7, 37, 9, 14, 38, 39, 40, 41, 42, 43, 44, 15, 16, 17, 63, 64, 65, 66, 67, 68, 69, 70, 71, 72, 73, 74, 75] (by decide +kernel) (by decide +kernel)
set_option maxRecDepth 20000 in
theorem gX4_count_X0_target : GoodIn wsX4_count (wsV RX4 137 RX0 yX0_target wsX0_target) := goodIn_app (goodIn_of _ (by decide +kernel)) ggX4_count_X0_target
set_option maxRecDepth 20000 in
theorem ggX4_count_X0_isEven : GoodIn wsX4_count wsX0_isEven := goodIn_r _ [54, 55, 19, 20, 7, 21, 22, 23, 24, 25, 26, 27, 28, 15, 16, 17, 56, 46, 47, 48, 49, 50, 35, 36, 37, 9, 14, 38, 39, 40, 41, 42, 43, 44, 63, 64, 65, 66, 67, 68, 69, 70, 71, 72, 73, 74, 75] (by decide +kernel) (by decide +kernel)
set_option maxRecDepth 20000 in
theorem gX4_count_X0_isEven : GoodIn wsX4_count (wsV RX4 140 RX0 yX0_isEven wsX0_isEven) := goodIn_app (goodIn_of _ (by decide +kernel)) ggX4_count_X0_isEven
theorem dX4_count_0 : decode cX4_count 0 = .ok (.iload_n 1, 1) := by decide +kernel
theorem dX4_count_1 : decode cX4_count 1 = .ok (.tableswitch 213 0 14 #[75, 83, 91, 99, 107, 115, 123, 141, 149, 157, 173, 181, 189, 197, 205], 75) := by decide +kernel
theorem dX4_count_76 : decode cX4_count 76 = .ok (.aload_n 0, 1) := by decide +kernel
theorem dX4_count_77 : decode cX4_count 77 = .ok (.getfield 10, 3) := by decide +kernel
theorem dX4_count_80 : decode cX4_count 80 = .ok (.getfield 105, 3) := by decide +kernel
theorem dX4_count_83 : decode cX4_count 83 = .ok (.ireturn, 1) := by decide +kernel
theorem dX4_count_84 : decode cX4_count 84 = .ok (.aload_n 0, 1) := by decide +kernel
theorem dX4_count_85 : decode cX4_count 85 = .ok (.getfield 10, 3) := by decide +kernel
theorem dX4_count_88 : decode cX4_count 88 = .ok (.getfield 108, 3) := by decide +kernel
theorem dX4_count_91 : decode cX4_count 91 = .ok (.ireturn, 1) := by decide +kernel
theorem dX4_count_92 : decode cX4_count 92 = .ok (.aload_n 0, 1) := by decide +kernel
theorem dX4_count_93 : decode cX4_count 93 = .ok (.getfield 10, 3) := by decide +kernel
theorem dX4_count_96 : decode cX4_count 96 = .ok (.getfield 111, 3) := by decide +kernel
theorem dX4_count_99 : decode cX4_count 99 = .ok (.ireturn, 1) := by decide +kernel
theorem dX4_count_100 : decode cX4_count 100 = .ok (.aload_n 0, 1) := by decide +kernel
theorem dX4_count_101 : decode cX4_count 101 = .ok (.getfield 10, 3) := by decide +kernel
theorem dX4_count_104 : decode cX4_count 104 = .ok (.invokevirtual 114, 3) := by decide +kernel
theorem dX4_count_107 : decode cX4_count 107 = .ok (.ireturn, 1) := by decide +kernel
theorem dX4_count_108 : decode cX4_count 108 = .ok (.aload_n 0, 1) := by decide +kernel
theorem dX4_count_109 : decode cX4_count 109 = .ok (.getfield 10, 3) := by decide +kernel
theorem dX4_count_112 : decode cX4_count 112 = .ok (.getfield 117, 3) := by decide +kernel
theorem dX4_count_115 : decode cX4_count 115 = .ok (.ireturn, 1) := by decide +kernel
theorem dX4_count_116 : decode cX4_count 116 = .ok (.aload_n 0, 1) := by decide +kernel
theorem dX4_count_117 : decode cX4_count 117 = .ok (.getfield 10, 3) := by decide +kernel
theorem dX4_count_120 : decode cX4_count 120 = .ok (.invokevirtual 120, 3) := by decide +kernel
theorem dX4_count_123 : decode cX4_count 123 = .ok (.ireturn, 1) := by decide +kernel
theorem dX4_count_124 : decode cX4_count 124 = .ok (.aload_n 0, 1) := by decide +kernel
theorem dX4_count_125 : decode cX4_count 125 = .ok (.getfield 10, 3) := by decide +kernel
theorem dX4_count_128 : decode cX4_count 128 = .ok (.getfield 123, 3) := by decide +kernel
theorem dX4_count_131 : decode cX4_count 131 = .ok (.aload_n 0, 1) := by decide +kernel
theorem dX4_count_132 : decode cX4_count 132 = .ok (.getfield 10, 3) := by decide +kernel
theorem dX4_count_135 : decode cX4_count 135 = .ok (.invokevirtual 127, 3) := by decide +kernel
theorem dX4_count_138 : decode cX4_count 138 = .ok (.invokestatic 130, 3) := by decide +kernel
theorem dX4_count_141 : decode cX4_count 141 = .ok (.ireturn, 1) := by decide +kernel
theorem dX4_count_142 : decode cX4_count 142 = .ok (.aload_n 0, 1) := by decide +kernel
theorem dX4_count_143 : decode cX4_count 143 = .ok (.getfield 10, 3) := by decide +kernel
theorem dX4_count_146 : decode cX4_count 146 = .ok (.invokevirtual 134, 3) := by decide +kernel
theorem dX4_count_149 : decode cX4_count 149 = .ok (.ireturn, 1) := by decide +kernel
theorem dX4_count_150 : decode cX4_count 150 = .ok (.aload_n 0, 1) := by decide +kernel
theorem dX4_count_151 : decode cX4_count 151 = .ok (.getfield 10, 3) := by decide +kernel
theorem dX4_count_154 : decode cX4_count 154 = .ok (.invokevirtual 137, 3) := by decide +kernel
theorem dX4_count_157 : decode cX4_count 157 = .ok (.ireturn, 1) := by decide +kernel
theorem dX4_count_158 : decode cX4_count 158 = .ok (.aload_n 0, 1) := by decide +kernel
theorem dX4_count_159 : decode cX4_count 159 = .ok (.getfield 10, 3) := by decide +kernel
theorem dX4_count_162 : decode cX4_count 162 = .ok (.invokevirtual 140, 3) := by decide +kernel
theorem dX4_count_165 : decode cX4_count 165 = .ok (.ifCond .eq 7, 3) := by decide +kernel
theorem dX4_count_168 : decode cX4_count 168 = .ok (.iconst 1, 1) := by decide +kernel
theorem dX4_count_169 : decode cX4_count 169 = .ok (.goto 4, 3) := by decide +kernel
theorem dX4_count_172 : decode cX4_count 172 = .ok (.iconst 0, 1) := by decide +kernel
theorem dX4_count_173 : decode cX4_count 173 = .ok (.ireturn, 1) := by decide +kernel
theorem dX4_count_174 : decode cX4_count 174 = .ok (.aload_n 0, 1) := by decide +kernel
theorem dX4_count_175 : decode cX4_count 175 = .ok (.getfield 10, 3) := by decide +kernel
theorem dX4_count_178 : decode cX4_count 178 = .ok (.getfield 144, 3) := by decide +kernel
theorem dX4_count_181 : decode cX4_count 181 = .ok (.ireturn, 1) := by decide +kernel
theorem dX4_count_182 : decode cX4_count 182 = .ok (.aload_n 0, 1) := by decide +kernel
theorem dX4_count_183 : decode cX4_count 183 = .ok (.getfield 10, 3) := by decide +kernel
theorem dX4_count_186 : decode cX4_count 186 = .ok (.getfield 147, 3) := by decide +kernel
theorem dX4_count_189 : decode cX4_count 189 = .ok (.ireturn, 1) := by decide +kernel
theorem dX4_count_190 : decode cX4_count 190 = .ok (.aload_n 0, 1) := by decide +kernel
theorem dX4_count_191 : decode cX4_count 191 = .ok (.getfield 10, 3) := by decide +kernel
theorem dX4_count_194 : decode cX4_count 194 = .ok (.getfield 150, 3) := by decide +kernel
theorem dX4_count_197 : decode cX4_count 197 = .ok (.ireturn, 1) := by decide +kernel
theorem dX4_count_198 : decode cX4_count 198 = .ok (.aload_n 0, 1) := by decide +kernel
theorem dX4_count_199 : decode cX4_count 199 = .ok (.getfield 25, 3) := by decide +kernel
theorem dX4_count_202 : decode cX4_count 202 = .ok (.getfield 92, 3) := by decide +kernel
theorem dX4_count_205 : decode cX4_count 205 = .ok (.ireturn, 1) := by decide +kernel
theorem dX4_count_206 : decode cX4_count 206 = .ok (.aload_n 0, 1) := by decide +kernel
theorem dX4_count_207 : decode cX4_count 207 = .ok (.getfield 39, 3) := by decide +kernel
theorem dX4_count_210 : decode cX4_count 210 = .ok (.getfield 99, 3) := by decide +kernel
theorem dX4_count_213 : decode cX4_count 213 = .ok (.ireturn, 1) := by decide +kernel
theorem dX4_count_214 : decode cX4_count 214 = .ok (.iconst (-1), 1) := by decide +kernel
theorem dX4_count_215 : decode cX4_count 215 = .ok (.ireturn, 1) := by decide +kernel
set_option maxRecDepth 20000 in
theorem ggX4_server_X0_hasServer : GoodIn wsX4_server wsX0_hasServer := goodIn_r _ [6, 7, 36, 37, 38, 39, 40, 41, 42, 43, 44, 45, 46, 47, 48] (by decide +kernel) (by decide +kernel)
set_option maxRecDepth 20000 in
theorem gX4_server_X0_hasServer : GoodIn wsX4_server (wsV RX4 153 RX0 yX0_hasServer wsX0_hasServer) := goodIn_app (goodIn_of _ (by decide +kernel)) ggX4_server_X0_hasServer
set_option maxRecDepth 20000 in
theorem ggX4_server_X0_isOpen : GoodIn wsX4_server wsX0_isOpen := goodIn_r _ [11, 12, 13, 14, 15, 36, 37, 38, 39, 40, 41, 42, 43, 44, 45, 46, 47, 48] (by decide +kernel) (by decide +kernel)
set_option maxRecDepth 20000 in
theorem gX4_server_X0_isOpen : GoodIn wsX4_server (wsV RX4 157 RX0 yX0_isOpen wsX0_isOpen) := goodIn_app (goodIn_of _ (by decide +kernel)) ggX4_server_X0_isOpen
set_option maxRecDepth 20000 in
theorem ggX4_server_X4_at : GoodIn wsX4_server wsX4_at := goodIn_r _ [15] (by decide +kernel) (by decide +kernel)
set_option maxRecDepth 20000 in
theorem gX4_server_X4_at : GoodIn wsX4_server (va_wsS RX4 130 yX4_at wsX4_at) := goodIn_app (goodIn_of _ (by decide +kernel)) ggX4_server_X4_at
set_option maxRecDepth 20000 in
theorem ggX4_server_X0_jobsOn : GoodIn wsX4_server wsX0_jobsOn := goodIn_r _ [20, 21, 22, 13, 14, 15, 36, 37, 38, 39, 40, 41, 42, 43, 44, 45, 46, 47, 48] (by decide +kernel) (by decide +kernel)
set_option maxRecDepth 20000 in
theorem gX4_server_X0_jobsOn : GoodIn wsX4_server (wsV RX4 160 RX0 yX0_jobsOn wsX0_jobsOn) := goodIn_app (goodIn_of _ (by decide +kernel)) ggX4_server_X0_jobsOn
set_option maxRecDepth 20000 in
theorem ggX4_server_J6_bitCount_0f7a4 : GoodIn wsX4_server wsJ6_bitCount_0f7a4 := goodIn_r _ [26, 27, 28, 29] (by decide +kernel) (by decide +kernel)
set_option maxRecDepth 20000 in
theorem gX4_server_J6_bitCount_0f7a4 : GoodIn wsX4_server (va_wsS RX4 163 yJ6_bitCount_0f7a4 wsJ6_bitCount_0f7a4) := goodIn_app (goodIn_of _ (by decide +kernel)) ggX4_server_J6_bitCount_0f7a4
theorem dX4_server_0 : decode cX4_server 0 = .ok (.aload_n 0, 1) := by decide +kernel
theorem dX4_server_1 : decode cX4_server 1 = .ok (.getfield 10, 3) := by decide +kernel
theorem dX4_server_4 : decode cX4_server 4 = .ok (.iload_n 1, 1) := by decide +kernel
theorem dX4_server_5 : decode cX4_server 5 = .ok (.invokevirtual 153, 3) := by decide +kernel
theorem dX4_server_8 : decode cX4_server 8 = .ok (.ifCond .ne 5, 3) := by decide +kernel
theorem dX4_server_11 : decode cX4_server 11 = .ok (.iconst (-1), 1) := by decide +kernel
theorem dX4_server_12 : decode cX4_server 12 = .ok (.ireturn, 1) := by decide +kernel
theorem dX4_server_13 : decode cX4_server 13 = .ok (.iload_n 2, 1) := by decide +kernel
theorem dX4_server_14 : decode cX4_server 14 = .ok (.tableswitch 122 0 4 #[34, 51, 63, 75, 113], 34) := by decide +kernel
theorem dX4_server_48 : decode cX4_server 48 = .ok (.aload_n 0, 1) := by decide +kernel
theorem dX4_server_49 : decode cX4_server 49 = .ok (.getfield 10, 3) := by decide +kernel
theorem dX4_server_52 : decode cX4_server 52 = .ok (.iload_n 1, 1) := by decide +kernel
theorem dX4_server_53 : decode cX4_server 53 = .ok (.invokevirtual 157, 3) := by decide +kernel
theorem dX4_server_56 : decode cX4_server 56 = .ok (.ifCond .eq 7, 3) := by decide +kernel
theorem dX4_server_59 : decode cX4_server 59 = .ok (.iconst 1, 1) := by decide +kernel
theorem dX4_server_60 : decode cX4_server 60 = .ok (.goto 4, 3) := by decide +kernel
theorem dX4_server_63 : decode cX4_server 63 = .ok (.iconst 0, 1) := by decide +kernel
theorem dX4_server_64 : decode cX4_server 64 = .ok (.ireturn, 1) := by decide +kernel
theorem dX4_server_65 : decode cX4_server 65 = .ok (.aload_n 0, 1) := by decide +kernel
theorem dX4_server_66 : decode cX4_server 66 = .ok (.getfield 10, 3) := by decide +kernel
theorem dX4_server_69 : decode cX4_server 69 = .ok (.getfield 123, 3) := by decide +kernel
theorem dX4_server_72 : decode cX4_server 72 = .ok (.iload_n 1, 1) := by decide +kernel
theorem dX4_server_73 : decode cX4_server 73 = .ok (.invokestatic 130, 3) := by decide +kernel
theorem dX4_server_76 : decode cX4_server 76 = .ok (.ireturn, 1) := by decide +kernel
theorem dX4_server_77 : decode cX4_server 77 = .ok (.aload_n 0, 1) := by decide +kernel
theorem dX4_server_78 : decode cX4_server 78 = .ok (.getfield 10, 3) := by decide +kernel
theorem dX4_server_81 : decode cX4_server 81 = .ok (.iload_n 1, 1) := by decide +kernel
theorem dX4_server_82 : decode cX4_server 82 = .ok (.invokevirtual 160, 3) := by decide +kernel
theorem dX4_server_85 : decode cX4_server 85 = .ok (.invokestatic 163, 3) := by decide +kernel
theorem dX4_server_88 : decode cX4_server 88 = .ok (.ireturn, 1) := by decide +kernel
theorem dX4_server_89 : decode cX4_server 89 = .ok (.aload_n 0, 1) := by decide +kernel
theorem dX4_server_90 : decode cX4_server 90 = .ok (.getfield 10, 3) := by decide +kernel
theorem dX4_server_93 : decode cX4_server 93 = .ok (.getfield 117, 3) := by decide +kernel
theorem dX4_server_96 : decode cX4_server 96 = .ok (.ifCond .le 29, 3) := by decide +kernel
theorem dX4_server_99 : decode cX4_server 99 = .ok (.aload_n 0, 1) := by decide +kernel
theorem dX4_server_100 : decode cX4_server 100 = .ok (.getfield 10, 3) := by decide +kernel
theorem dX4_server_103 : decode cX4_server 103 = .ok (.getfield 123, 3) := by decide +kernel
theorem dX4_server_106 : decode cX4_server 106 = .ok (.iload_n 1, 1) := by decide +kernel
theorem dX4_server_107 : decode cX4_server 107 = .ok (.invokestatic 130, 3) := by decide +kernel
theorem dX4_server_110 : decode cX4_server 110 = .ok (.sipush 1000, 3) := by decide +kernel
theorem dX4_server_113 : decode cX4_server 113 = .ok (.imul, 1) := by decide +kernel
theorem dX4_server_114 : decode cX4_server 114 = .ok (.aload_n 0, 1) := by decide +kernel
theorem dX4_server_115 : decode cX4_server 115 = .ok (.getfield 10, 3) := by decide +kernel
theorem dX4_server_118 : decode cX4_server 118 = .ok (.getfield 117, 3) := by decide +kernel
theorem dX4_server_121 : decode cX4_server 121 = .ok (.idiv, 1) := by decide +kernel
theorem dX4_server_122 : decode cX4_server 122 = .ok (.goto 4, 3) := by decide +kernel
theorem dX4_server_125 : decode cX4_server 125 = .ok (.iconst 0, 1) := by decide +kernel
theorem dX4_server_126 : decode cX4_server 126 = .ok (.ireturn, 1) := by decide +kernel
theorem dX4_server_127 : decode cX4_server 127 = .ok (.aload_n 0, 1) := by decide +kernel
theorem dX4_server_128 : decode cX4_server 128 = .ok (.getfield 10, 3) := by decide +kernel
theorem dX4_server_131 : decode cX4_server 131 = .ok (.iload_n 1, 1) := by decide +kernel
theorem dX4_server_132 : decode cX4_server 132 = .ok (.invokevirtual 160, 3) := by decide +kernel
theorem dX4_server_135 : decode cX4_server 135 = .ok (.ireturn, 1) := by decide +kernel
theorem dX4_server_136 : decode cX4_server 136 = .ok (.iconst (-1), 1) := by decide +kernel
theorem dX4_server_137 : decode cX4_server 137 = .ok (.ireturn, 1) := by decide +kernel
set_option maxRecDepth 20000 in
theorem ggX4_job_X0_hasJob : GoodIn wsX4_job wsX0_hasJob := goodIn_r _ [6, 7, 18, 19, 20, 21, 22, 23, 24, 25, 26, 27, 28, 29, 30] (by decide +kernel) (by decide +kernel)
set_option maxRecDepth 20000 in
theorem gX4_job_X0_hasJob : GoodIn wsX4_job (wsV RX4 168 RX0 yX0_hasJob wsX0_hasJob) := goodIn_app (goodIn_of _ (by decide +kernel)) ggX4_job_X0_hasJob
set_option maxRecDepth 20000 in
theorem ggX4_job_X4_at : GoodIn wsX4_job wsX4_at := goodIn_r _ [11] (by decide +kernel) (by decide +kernel)
set_option maxRecDepth 20000 in
theorem gX4_job_X4_at : GoodIn wsX4_job (va_wsS RX4 130 yX4_at wsX4_at) := goodIn_app (goodIn_of _ (by decide +kernel)) ggX4_job_X4_at
theorem dX4_job_0 : decode cX4_job 0 = .ok (.aload_n 0, 1) := by decide +kernel
theorem dX4_job_1 : decode cX4_job 1 = .ok (.getfield 10, 3) := by decide +kernel
theorem dX4_job_4 : decode cX4_job 4 = .ok (.iload_n 1, 1) := by decide +kernel
theorem dX4_job_5 : decode cX4_job 5 = .ok (.invokevirtual 168, 3) := by decide +kernel
theorem dX4_job_8 : decode cX4_job 8 = .ok (.ifCond .ne 5, 3) := by decide +kernel
theorem dX4_job_11 : decode cX4_job 11 = .ok (.iconst (-1), 1) := by decide +kernel
theorem dX4_job_12 : decode cX4_job 12 = .ok (.ireturn, 1) := by decide +kernel
theorem dX4_job_13 : decode cX4_job 13 = .ok (.iload_n 2, 1) := by decide +kernel
theorem dX4_job_14 : decode cX4_job 14 = .ok (.tableswitch 78 0 3 #[30, 42, 54, 66], 30) := by decide +kernel
theorem dX4_job_44 : decode cX4_job 44 = .ok (.aload_n 0, 1) := by decide +kernel
theorem dX4_job_45 : decode cX4_job 45 = .ok (.getfield 10, 3) := by decide +kernel
theorem dX4_job_48 : decode cX4_job 48 = .ok (.getfield 171, 3) := by decide +kernel
theorem dX4_job_51 : decode cX4_job 51 = .ok (.iload_n 1, 1) := by decide +kernel
theorem dX4_job_52 : decode cX4_job 52 = .ok (.invokestatic 130, 3) := by decide +kernel
theorem dX4_job_55 : decode cX4_job 55 = .ok (.ireturn, 1) := by decide +kernel
theorem dX4_job_56 : decode cX4_job 56 = .ok (.aload_n 0, 1) := by decide +kernel
theorem dX4_job_57 : decode cX4_job 57 = .ok (.getfield 10, 3) := by decide +kernel
theorem dX4_job_60 : decode cX4_job 60 = .ok (.getfield 174, 3) := by decide +kernel
theorem dX4_job_63 : decode cX4_job 63 = .ok (.iload_n 1, 1) := by decide +kernel
theorem dX4_job_64 : decode cX4_job 64 = .ok (.invokestatic 130, 3) := by decide +kernel
theorem dX4_job_67 : decode cX4_job 67 = .ok (.ireturn, 1) := by decide +kernel
theorem dX4_job_68 : decode cX4_job 68 = .ok (.aload_n 0, 1) := by decide +kernel
theorem dX4_job_69 : decode cX4_job 69 = .ok (.getfield 10, 3) := by decide +kernel
theorem dX4_job_72 : decode cX4_job 72 = .ok (.getfield 177, 3) := by decide +kernel
theorem dX4_job_75 : decode cX4_job 75 = .ok (.iload_n 1, 1) := by decide +kernel
theorem dX4_job_76 : decode cX4_job 76 = .ok (.invokestatic 130, 3) := by decide +kernel
theorem dX4_job_79 : decode cX4_job 79 = .ok (.ireturn, 1) := by decide +kernel
theorem dX4_job_80 : decode cX4_job 80 = .ok (.aload_n 0, 1) := by decide +kernel
theorem dX4_job_81 : decode cX4_job 81 = .ok (.getfield 10, 3) := by decide +kernel
theorem dX4_job_84 : decode cX4_job 84 = .ok (.getfield 180, 3) := by decide +kernel
theorem dX4_job_87 : decode cX4_job 87 = .ok (.iload_n 1, 1) := by decide +kernel
theorem dX4_job_88 : decode cX4_job 88 = .ok (.invokestatic 130, 3) := by decide +kernel
theorem dX4_job_91 : decode cX4_job 91 = .ok (.ireturn, 1) := by decide +kernel
theorem dX4_job_92 : decode cX4_job 92 = .ok (.iconst (-1), 1) := by decide +kernel
theorem dX4_job_93 : decode cX4_job 93 = .ok (.ireturn, 1) := by decide +kernel
set_option maxRecDepth 20000 in
theorem ggX4_leaving_X0_hasServer : GoodIn wsX4_leaving wsX0_hasServer := goodIn_r _ [6, 7, 33, 34, 35, 36, 37, 38, 39, 40, 41, 42, 43, 44, 45] (by decide +kernel) (by decide +kernel)
set_option maxRecDepth 20000 in
theorem gX4_leaving_X0_hasServer : GoodIn wsX4_leaving (wsV RX4 153 RX0 yX0_hasServer wsX0_hasServer) := goodIn_app (goodIn_of _ (by decide +kernel)) ggX4_leaving_X0_hasServer
set_option maxRecDepth 20000 in
theorem ggX4_leaving_X0_leavingJob : GoodIn wsX4_leaving wsX0_leavingJob := goodIn_r _ [11, 12, 13, 14, 15, 16, 17, 18, 19, 5, 20, 21, 22, 23, 24, 25, 26, 33, 34, 35, 36, 37, 38, 39, 40, 41, 42, 43, 44, 45] (by decide +kernel) (by decide +kernel)
set_option maxRecDepth 20000 in
theorem gX4_leaving_X0_leavingJob : GoodIn wsX4_leaving (wsV RX4 183 RX0 yX0_leavingJob wsX0_leavingJob) := goodIn_app (goodIn_of _ (by decide +kernel)) ggX4_leaving_X0_leavingJob
theorem dX4_leaving_0 : decode cX4_leaving 0 = .ok (.aload_n 0, 1) := by decide +kernel
theorem dX4_leaving_1 : decode cX4_leaving 1 = .ok (.getfield 10, 3) := by decide +kernel
theorem dX4_leaving_4 : decode cX4_leaving 4 = .ok (.iload_n 1, 1) := by decide +kernel
theorem dX4_leaving_5 : decode cX4_leaving 5 = .ok (.invokevirtual 153, 3) := by decide +kernel
theorem dX4_leaving_8 : decode cX4_leaving 8 = .ok (.ifCond .eq 7, 3) := by decide +kernel
theorem dX4_leaving_11 : decode cX4_leaving 11 = .ok (.iload_n 2, 1) := by decide +kernel
theorem dX4_leaving_12 : decode cX4_leaving 12 = .ok (.ifCond .ge 5, 3) := by decide +kernel
theorem dX4_leaving_15 : decode cX4_leaving 15 = .ok (.iconst (-1), 1) := by decide +kernel
theorem dX4_leaving_16 : decode cX4_leaving 16 = .ok (.ireturn, 1) := by decide +kernel
theorem dX4_leaving_17 : decode cX4_leaving 17 = .ok (.aload_n 0, 1) := by decide +kernel
theorem dX4_leaving_18 : decode cX4_leaving 18 = .ok (.getfield 10, 3) := by decide +kernel
theorem dX4_leaving_21 : decode cX4_leaving 21 = .ok (.iload_n 1, 1) := by decide +kernel
theorem dX4_leaving_22 : decode cX4_leaving 22 = .ok (.iload_n 2, 1) := by decide +kernel
theorem dX4_leaving_23 : decode cX4_leaving 23 = .ok (.invokevirtual 183, 3) := by decide +kernel
theorem dX4_leaving_26 : decode cX4_leaving 26 = .ok (.ireturn, 1) := by decide +kernel
set_option maxRecDepth 20000 in
theorem ggX4_step_X0_target : GoodIn wsX4_step wsX0_target := goodIn_r _ [7, 8, 9, 10, 11, 6, 12, 13, 14, 15, 16, 17, 18, 19, 20, 21, 22, 23, 24, 74, 75, 76, 77, 78, 79, 80, 81, 82, 83, 84, 85, 86] (by decide +kernel) (by decide +kernel)
set_option maxRecDepth 20000 in
theorem gX4_step_X0_target : GoodIn wsX4_step (wsV RX4 137 RX0 yX0_target wsX0_target) := goodIn_app (goodIn_of _ (by decide +kernel)) ggX4_step_X0_target
set_option maxRecDepth 20000 in
theorem ggX4_step_X3_choose : GoodIn wsX4_step wsX3_choose := goodIn_r _ [29, 30, 31, 32, 6, 33, 34, 35, 36, 22, 23, 24, 37, 38, 39, 28, 40, 41, 17, 18, 19, 42, 43, 44, 45, 46, 47, 48, 49, 50, 51, 52, 53, 54, 55, 56, 57, 58, 59, 60, 61, 62, 74, 75, 76, 77, 78, 79, 80, 81, 82, 83, 84, 85, 86, 69, 70, 71, 72, 73] (by decide +kernel) (by decide +kernel)
set_option maxRecDepth 20000 in
theorem gX4_step_X3_choose : GoodIn wsX4_step (wsV RX4 186 RX3 yX3_choose wsX3_choose) := goodIn_app (goodIn_of _ (by decide +kernel)) ggX4_step_X3_choose
theorem dX4_step_0 : decode cX4_step 0 = .ok (.iload_n 1, 1) := by decide +kernel
theorem dX4_step_1 : decode cX4_step 1 = .ok (.ifCond .lt 8, 3) := by decide +kernel
theorem dX4_step_4 : decode cX4_step 4 = .ok (.iload_n 1, 1) := by decide +kernel
theorem dX4_step_5 : decode cX4_step 5 = .ok (.iconst 3, 1) := by decide +kernel
theorem dX4_step_6 : decode cX4_step 6 = .ok (.if_icmp .le 5, 3) := by decide +kernel
theorem dX4_step_9 : decode cX4_step 9 = .ok (.iconst (-1), 1) := by decide +kernel
theorem dX4_step_10 : decode cX4_step 10 = .ok (.ireturn, 1) := by decide +kernel
theorem dX4_step_11 : decode cX4_step 11 = .ok (.aload_n 0, 1) := by decide +kernel
theorem dX4_step_12 : decode cX4_step 12 = .ok (.getfield 32, 3) := by decide +kernel
theorem dX4_step_15 : decode cX4_step 15 = .ok (.aload_n 0, 1) := by decide +kernel
theorem dX4_step_16 : decode cX4_step 16 = .ok (.getfield 10, 3) := by decide +kernel
theorem dX4_step_19 : decode cX4_step 19 = .ok (.aload_n 0, 1) := by decide +kernel
theorem dX4_step_20 : decode cX4_step 20 = .ok (.getfield 10, 3) := by decide +kernel
theorem dX4_step_23 : decode cX4_step 23 = .ok (.invokevirtual 137, 3) := by decide +kernel
theorem dX4_step_26 : decode cX4_step 26 = .ok (.invokevirtual 186, 3) := by decide +kernel
theorem dX4_step_29 : decode cX4_step 29 = .ok (.ifCond .ne 6, 3) := by decide +kernel
theorem dX4_step_32 : decode cX4_step 32 = .ok (.bipush (-9), 2) := by decide +kernel
theorem dX4_step_34 : decode cX4_step 34 = .ok (.ireturn, 1) := by decide +kernel
theorem dX4_step_35 : decode cX4_step 35 = .ok (.iload_n 1, 1) := by decide +kernel
theorem dX4_step_36 : decode cX4_step 36 = .ok (.tableswitch 52 0 2 #[28, 36, 44], 28) := by decide +kernel
theorem dX4_step_64 : decode cX4_step 64 = .ok (.aload_n 0, 1) := by decide +kernel
theorem dX4_step_65 : decode cX4_step 65 = .ok (.getfield 32, 3) := by decide +kernel
theorem dX4_step_68 : decode cX4_step 68 = .ok (.getfield 190, 3) := by decide +kernel
theorem dX4_step_71 : decode cX4_step 71 = .ok (.ireturn, 1) := by decide +kernel
theorem dX4_step_72 : decode cX4_step 72 = .ok (.aload_n 0, 1) := by decide +kernel
theorem dX4_step_73 : decode cX4_step 73 = .ok (.getfield 32, 3) := by decide +kernel
theorem dX4_step_76 : decode cX4_step 76 = .ok (.getfield 193, 3) := by decide +kernel
theorem dX4_step_79 : decode cX4_step 79 = .ok (.ireturn, 1) := by decide +kernel
theorem dX4_step_80 : decode cX4_step 80 = .ok (.aload_n 0, 1) := by decide +kernel
theorem dX4_step_81 : decode cX4_step 81 = .ok (.getfield 32, 3) := by decide +kernel
theorem dX4_step_84 : decode cX4_step 84 = .ok (.getfield 196, 3) := by decide +kernel
theorem dX4_step_87 : decode cX4_step 87 = .ok (.ireturn, 1) := by decide +kernel
theorem dX4_step_88 : decode cX4_step 88 = .ok (.aload_n 0, 1) := by decide +kernel
theorem dX4_step_89 : decode cX4_step 89 = .ok (.getfield 32, 3) := by decide +kernel
theorem dX4_step_92 : decode cX4_step 92 = .ok (.getfield 199, 3) := by decide +kernel
theorem dX4_step_95 : decode cX4_step 95 = .ok (.ireturn, 1) := by decide +kernel
set_option maxRecDepth 20000 in
theorem ggX4_plan_X0_copyFrom : GoodIn wsX4_plan wsX0_copyFrom := goodIn_r _ [8, 9, 10, 11, 12, 13, 14, 15, 16, 17, 18, 19, 20, 21, 22, 23, 24, 25, 26, 27, 28, 29, 30, 31, 32, 112, 113, 114, 115, 116, 117, 118, 119, 120, 121, 122, 123, 124] (by decide +kernel) (by decide +kernel)
set_option maxRecDepth 20000 in
theorem gX4_plan_X0_copyFrom : GoodIn wsX4_plan (wsV RX4 43 RX0 yX0_copyFrom wsX0_copyFrom) := goodIn_app (goodIn_of _ (by decide +kernel)) ggX4_plan_X0_copyFrom
set_option maxRecDepth 20000 in
theorem ggX4_plan_X3_walk : GoodIn wsX4_plan wsX3_walk := goodIn_r _ [37, 38, 39, 40, 41, 42, 43, 7, 44, 20, 45, 46, 47, 48, 17, 11, 9, 49, 50, 27, 51, 16, 18, 52, 23, 53, 54, 55, 56, 36, 57, 58, 59, 60, 61, 15, 13, 14, 62, 63, 64, 65, 66, 67, 68, 69, 70, 71, 72, 73, 74, 75, 76, 77, 78, 79, 80, 81, 82, 83, 84, 85, 86, 87, 88, 12, 21, 19, 10, 89, 90, 91, 92, 93, 94, 112, 113, 114, 115, 116, 117, 118, 119, 120, 121, 122, 123, 124, 125, 126, 127, 128, 129] (by decide +kernel) (by decide +kernel)
set_option maxRecDepth 20000 in
theorem gX4_plan_X3_walk : GoodIn wsX4_plan (wsV RX4 78 RX3 yX3_walk wsX3_walk) := goodIn_app (goodIn_of _ (by decide +kernel)) ggX4_plan_X3_walk
set_option maxRecDepth 20000 in
theorem ggX4_plan_X0_greatestLoad : GoodIn wsX4_plan wsX0_greatestLoad := goodIn_r _ [98, 13, 99, 59, 60, 7, 61, 15, 14, 52, 23, 53, 112, 113, 114, 115, 116, 117, 118, 119, 120, 121, 122, 123, 124] (by decide +kernel) (by decide +kernel)
set_option maxRecDepth 20000 in
theorem gX4_plan_X0_greatestLoad : GoodIn wsX4_plan (wsV RX4 120 RX0 yX0_greatestLoad wsX0_greatestLoad) := goodIn_app (goodIn_of _ (by decide +kernel)) ggX4_plan_X0_greatestLoad
set_option maxRecDepth 20000 in
theorem ggX4_plan_X0_isEven : GoodIn wsX4_plan wsX0_isEven := goodIn_r _ [103, 104, 96, 97, 7, 98, 13, 99, 59, 60, 61, 15, 14, 52, 23, 53, 105, 42, 43, 44, 20, 45, 46, 47, 48, 17, 11, 9, 49, 50, 27, 51, 16, 18, 112, 113, 114, 115, 116, 117, 118, 119, 120, 121, 122, 123, 124] (by decide +kernel) (by decide +kernel)
set_option maxRecDepth 20000 in
theorem gX4_plan_X0_isEven : GoodIn wsX4_plan (wsV RX4 140 RX0 yX0_isEven wsX0_isEven) := goodIn_app (goodIn_of _ (by decide +kernel)) ggX4_plan_X0_isEven
theorem dX4_plan_0 : decode cX4_plan 0 = .ok (.iload_n 1, 1) := by decide +kernel
theorem dX4_plan_1 : decode cX4_plan 1 = .ok (.ifCond .lt 8, 3) := by decide +kernel
theorem dX4_plan_4 : decode cX4_plan 4 = .ok (.iload_n 1, 1) := by decide +kernel
theorem dX4_plan_5 : decode cX4_plan 5 = .ok (.iconst 4, 1) := by decide +kernel
theorem dX4_plan_6 : decode cX4_plan 6 = .ok (.if_icmp .le 5, 3) := by decide +kernel
theorem dX4_plan_9 : decode cX4_plan 9 = .ok (.iconst (-1), 1) := by decide +kernel
theorem dX4_plan_10 : decode cX4_plan 10 = .ok (.ireturn, 1) := by decide +kernel
theorem dX4_plan_11 : decode cX4_plan 11 = .ok (.aload_n 0, 1) := by decide +kernel
theorem dX4_plan_12 : decode cX4_plan 12 = .ok (.getfield 19, 3) := by decide +kernel
theorem dX4_plan_15 : decode cX4_plan 15 = .ok (.aload_n 0, 1) := by decide +kernel
theorem dX4_plan_16 : decode cX4_plan 16 = .ok (.getfield 10, 3) := by decide +kernel
theorem dX4_plan_19 : decode cX4_plan 19 = .ok (.invokevirtual 43, 3) := by decide +kernel
theorem dX4_plan_22 : decode cX4_plan 22 = .ok (.aload_n 0, 1) := by decide +kernel
theorem dX4_plan_23 : decode cX4_plan 23 = .ok (.getfield 32, 3) := by decide +kernel
theorem dX4_plan_26 : decode cX4_plan 26 = .ok (.aload_n 0, 1) := by decide +kernel
theorem dX4_plan_27 : decode cX4_plan 27 = .ok (.getfield 19, 3) := by decide +kernel
theorem dX4_plan_30 : decode cX4_plan 30 = .ok (.bipush 30, 2) := by decide +kernel
theorem dX4_plan_32 : decode cX4_plan 32 = .ok (.invokevirtual 78, 3) := by decide +kernel
theorem dX4_plan_35 : decode cX4_plan 35 = .ok (.istore_n 2, 1) := by decide +kernel
theorem dX4_plan_36 : decode cX4_plan 36 = .ok (.iload_n 1, 1) := by decide +kernel
theorem dX4_plan_37 : decode cX4_plan 37 = .ok (.tableswitch 73 0 3 #[31, 33, 49, 65], 31) := by decide +kernel
theorem dX4_plan_68 : decode cX4_plan 68 = .ok (.iload_n 2, 1) := by decide +kernel
theorem dX4_plan_69 : decode cX4_plan 69 = .ok (.ireturn, 1) := by decide +kernel
theorem dX4_plan_70 : decode cX4_plan 70 = .ok (.aload_n 0, 1) := by decide +kernel
theorem dX4_plan_71 : decode cX4_plan 71 = .ok (.getfield 19, 3) := by decide +kernel
theorem dX4_plan_74 : decode cX4_plan 74 = .ok (.getfield 150, 3) := by decide +kernel
theorem dX4_plan_77 : decode cX4_plan 77 = .ok (.aload_n 0, 1) := by decide +kernel
theorem dX4_plan_78 : decode cX4_plan 78 = .ok (.getfield 10, 3) := by decide +kernel
theorem dX4_plan_81 : decode cX4_plan 81 = .ok (.getfield 150, 3) := by decide +kernel
theorem dX4_plan_84 : decode cX4_plan 84 = .ok (.isub, 1) := by decide +kernel
theorem dX4_plan_85 : decode cX4_plan 85 = .ok (.ireturn, 1) := by decide +kernel
theorem dX4_plan_86 : decode cX4_plan 86 = .ok (.aload_n 0, 1) := by decide +kernel
theorem dX4_plan_87 : decode cX4_plan 87 = .ok (.getfield 10, 3) := by decide +kernel
theorem dX4_plan_90 : decode cX4_plan 90 = .ok (.getfield 144, 3) := by decide +kernel
theorem dX4_plan_93 : decode cX4_plan 93 = .ok (.aload_n 0, 1) := by decide +kernel
theorem dX4_plan_94 : decode cX4_plan 94 = .ok (.getfield 19, 3) := by decide +kernel
theorem dX4_plan_97 : decode cX4_plan 97 = .ok (.getfield 144, 3) := by decide +kernel
theorem dX4_plan_100 : decode cX4_plan 100 = .ok (.isub, 1) := by decide +kernel
theorem dX4_plan_101 : decode cX4_plan 101 = .ok (.ireturn, 1) := by decide +kernel
theorem dX4_plan_102 : decode cX4_plan 102 = .ok (.aload_n 0, 1) := by decide +kernel
theorem dX4_plan_103 : decode cX4_plan 103 = .ok (.getfield 19, 3) := by decide +kernel
theorem dX4_plan_106 : decode cX4_plan 106 = .ok (.invokevirtual 120, 3) := by decide +kernel
theorem dX4_plan_109 : decode cX4_plan 109 = .ok (.ireturn, 1) := by decide +kernel
theorem dX4_plan_110 : decode cX4_plan 110 = .ok (.aload_n 0, 1) := by decide +kernel
theorem dX4_plan_111 : decode cX4_plan 111 = .ok (.getfield 19, 3) := by decide +kernel
theorem dX4_plan_114 : decode cX4_plan 114 = .ok (.invokevirtual 140, 3) := by decide +kernel
theorem dX4_plan_117 : decode cX4_plan 117 = .ok (.ifCond .eq 7, 3) := by decide +kernel
theorem dX4_plan_120 : decode cX4_plan 120 = .ok (.iconst 1, 1) := by decide +kernel
theorem dX4_plan_121 : decode cX4_plan 121 = .ok (.goto 4, 3) := by decide +kernel
theorem dX4_plan_124 : decode cX4_plan 124 = .ok (.iconst 0, 1) := by decide +kernel
theorem dX4_plan_125 : decode cX4_plan 125 = .ok (.ireturn, 1) := by decide +kernel
set_option maxRecDepth 20000 in
theorem ggX4_fewest_X0_copyFrom : GoodIn wsX4_fewest wsX0_copyFrom := goodIn_r _ [7, 8, 9, 10, 11, 12, 13, 14, 15, 16, 17, 18, 19, 20, 21, 22, 23, 24, 25, 26, 27, 28, 29, 30, 31, 69, 70, 71, 72, 73, 74, 75, 76, 77, 78, 79, 80, 81] (by decide +kernel) (by decide +kernel)
set_option maxRecDepth 20000 in
theorem gX4_fewest_X0_copyFrom : GoodIn wsX4_fewest (wsV RX4 43 RX0 yX0_copyFrom wsX0_copyFrom) := goodIn_app (goodIn_of _ (by decide +kernel)) ggX4_fewest_X0_copyFrom
set_option maxRecDepth 20000 in
theorem ggX4_fewest_X0_target : GoodIn wsX4_fewest wsX0_target := goodIn_r _ [35, 19, 36, 37, 38, 6, 39, 16, 10, 8, 40, 41, 26, 42, 15, 17, 43, 22, 44, 69, 70, 71, 72, 73, 74, 75, 76, 77, 78, 79, 80, 81] (by decide +kernel) (by decide +kernel)
set_option maxRecDepth 20000 in
theorem gX4_fewest_X0_target : GoodIn wsX4_fewest (wsV RX4 137 RX0 yX0_target wsX0_target) := goodIn_app (goodIn_of _ (by decide +kernel)) ggX4_fewest_X0_target
set_option maxRecDepth 20000 in
theorem ggX4_fewest_X4_cheapest : GoodIn wsX4_fewest wsX4_cheapest := goodIn_r _ [47, 48, 49, 50, 6, 51, 14, 12, 43, 22, 44, 52, 53, 54, 55, 56, 13, 57, 58, 59, 60, 61, 62, 45, 46, 69, 70, 71, 72, 73, 74, 75, 76, 77, 78, 79, 80, 81] (by decide +kernel) (by decide +kernel)
set_option maxRecDepth 20000 in
theorem gX4_fewest_X4_cheapest : GoodIn wsX4_fewest (va_wsS RX4 202 yX4_cheapest wsX4_cheapest) := goodIn_app (goodIn_of _ (by decide +kernel)) ggX4_fewest_X4_cheapest
theorem dX4_fewest_0 : decode cX4_fewest 0 = .ok (.iload_n 1, 1) := by decide +kernel
theorem dX4_fewest_1 : decode cX4_fewest 1 = .ok (.ifCond .lt 8, 3) := by decide +kernel
theorem dX4_fewest_4 : decode cX4_fewest 4 = .ok (.iload_n 1, 1) := by decide +kernel
theorem dX4_fewest_5 : decode cX4_fewest 5 = .ok (.iconst 1, 1) := by decide +kernel
theorem dX4_fewest_6 : decode cX4_fewest 6 = .ok (.if_icmp .le 5, 3) := by decide +kernel
theorem dX4_fewest_9 : decode cX4_fewest 9 = .ok (.iconst (-1), 1) := by decide +kernel
theorem dX4_fewest_10 : decode cX4_fewest 10 = .ok (.ireturn, 1) := by decide +kernel
theorem dX4_fewest_11 : decode cX4_fewest 11 = .ok (.aload_n 0, 1) := by decide +kernel
theorem dX4_fewest_12 : decode cX4_fewest 12 = .ok (.getfield 19, 3) := by decide +kernel
theorem dX4_fewest_15 : decode cX4_fewest 15 = .ok (.aload_n 0, 1) := by decide +kernel
theorem dX4_fewest_16 : decode cX4_fewest 16 = .ok (.getfield 10, 3) := by decide +kernel
theorem dX4_fewest_19 : decode cX4_fewest 19 = .ok (.invokevirtual 43, 3) := by decide +kernel
theorem dX4_fewest_22 : decode cX4_fewest 22 = .ok (.aload_n 0, 1) := by decide +kernel
theorem dX4_fewest_23 : decode cX4_fewest 23 = .ok (.getfield 10, 3) := by decide +kernel
theorem dX4_fewest_26 : decode cX4_fewest 26 = .ok (.invokevirtual 137, 3) := by decide +kernel
theorem dX4_fewest_29 : decode cX4_fewest 29 = .ok (.istore_n 2, 1) := by decide +kernel
theorem dX4_fewest_30 : decode cX4_fewest 30 = .ok (.iconst 0, 1) := by decide +kernel
theorem dX4_fewest_31 : decode cX4_fewest 31 = .ok (.istore_n 3, 1) := by decide +kernel
theorem dX4_fewest_32 : decode cX4_fewest 32 = .ok (.iload_n 3, 1) := by decide +kernel
theorem dX4_fewest_33 : decode cX4_fewest 33 = .ok (.iconst 2, 1) := by decide +kernel
theorem dX4_fewest_34 : decode cX4_fewest 34 = .ok (.if_icmp .gt 39, 3) := by decide +kernel
theorem dX4_fewest_37 : decode cX4_fewest 37 = .ok (.aload_n 0, 1) := by decide +kernel
theorem dX4_fewest_38 : decode cX4_fewest 38 = .ok (.getfield 19, 3) := by decide +kernel
theorem dX4_fewest_41 : decode cX4_fewest 41 = .ok (.iload_n 2, 1) := by decide +kernel
theorem dX4_fewest_42 : decode cX4_fewest 42 = .ok (.iload_n 3, 1) := by decide +kernel
theorem dX4_fewest_43 : decode cX4_fewest 43 = .ok (.iconst 0, 1) := by decide +kernel
theorem dX4_fewest_44 : decode cX4_fewest 44 = .ok (.invokestatic 202, 3) := by decide +kernel
theorem dX4_fewest_47 : decode cX4_fewest 47 = .ok (.istore 4, 2) := by decide +kernel
theorem dX4_fewest_49 : decode cX4_fewest 49 = .ok (.iload 4, 2) := by decide +kernel
theorem dX4_fewest_51 : decode cX4_fewest 51 = .ok (.bipush (-9), 2) := by decide +kernel
theorem dX4_fewest_53 : decode cX4_fewest 53 = .ok (.if_icmp .eq 14, 3) := by decide +kernel
theorem dX4_fewest_56 : decode cX4_fewest 56 = .ok (.iload_n 1, 1) := by decide +kernel
theorem dX4_fewest_57 : decode cX4_fewest 57 = .ok (.ifCond .ne 7, 3) := by decide +kernel
theorem dX4_fewest_60 : decode cX4_fewest 60 = .ok (.iload_n 3, 1) := by decide +kernel
theorem dX4_fewest_61 : decode cX4_fewest 61 = .ok (.goto 5, 3) := by decide +kernel
theorem dX4_fewest_64 : decode cX4_fewest 64 = .ok (.iload 4, 2) := by decide +kernel
theorem dX4_fewest_66 : decode cX4_fewest 66 = .ok (.ireturn, 1) := by decide +kernel
theorem dX4_fewest_67 : decode cX4_fewest 67 = .ok (.iinc 3 1, 3) := by decide +kernel
theorem dX4_fewest_70 : decode cX4_fewest 70 = .ok (.goto (-38), 3) := by decide +kernel
theorem dX4_fewest_73 : decode cX4_fewest 73 = .ok (.bipush (-9), 2) := by decide +kernel
theorem dX4_fewest_75 : decode cX4_fewest 75 = .ok (.ireturn, 1) := by decide +kernel
set_option maxRecDepth 20000 in
theorem ggX4_without_X0_hasServer : GoodIn wsX4_without wsX0_hasServer := goodIn_r _ [7, 8, 97, 98, 99, 100, 101, 102, 103, 104, 105, 106, 107, 108, 109] (by decide +kernel) (by decide +kernel)
set_option maxRecDepth 20000 in
theorem gX4_without_X0_hasServer : GoodIn wsX4_without (wsV RX4 153 RX0 yX0_hasServer wsX0_hasServer) := goodIn_app (goodIn_of _ (by decide +kernel)) ggX4_without_X0_hasServer
set_option maxRecDepth 20000 in
theorem ggX4_without_X0_isOpen : GoodIn wsX4_without wsX0_isOpen := goodIn_r _ [12, 13, 14, 15, 16, 97, 98, 99, 100, 101, 102, 103, 104, 105, 106, 107, 108, 109] (by decide +kernel) (by decide +kernel)
set_option maxRecDepth 20000 in
theorem gX4_without_X0_isOpen : GoodIn wsX4_without (wsV RX4 157 RX0 yX0_isOpen wsX0_isOpen) := goodIn_app (goodIn_of _ (by decide +kernel)) ggX4_without_X0_isOpen
set_option maxRecDepth 20000 in
theorem ggX4_without_X0_copyFrom : GoodIn wsX4_without wsX0_copyFrom := goodIn_r _ [20, 21, 22, 23, 24, 25, 13, 8, 26, 27, 28, 29, 30, 31, 32, 15, 33, 34, 35, 36, 37, 38, 39, 40, 41, 97, 98, 99, 100, 101, 102, 103, 104, 105, 106, 107, 108, 109] (by decide +kernel) (by decide +kernel)
set_option maxRecDepth 20000 in
theorem gX4_without_X0_copyFrom : GoodIn wsX4_without (wsV RX4 43 RX0 yX0_copyFrom wsX0_copyFrom) := goodIn_app (goodIn_of _ (by decide +kernel)) ggX4_without_X0_copyFrom
set_option maxRecDepth 20000 in
theorem ggX4_without_X0_closeAndEmpty : GoodIn wsX4_without wsX0_closeAndEmpty := goodIn_r _ [45, 13, 26, 46, 15, 47, 48, 49, 50, 6, 51, 27, 23, 14, 16, 52, 53, 54, 55, 56, 57, 58, 59, 60, 61, 62, 63, 64, 65, 66, 67, 68, 69, 70, 21, 22, 71, 72, 73, 74, 8, 25, 75, 76, 77, 78, 24, 31, 29, 79, 80, 81, 82, 97, 98, 99, 100, 101, 102, 103, 104, 105, 106, 107, 108, 109] (by decide +kernel) (by decide +kernel)
set_option maxRecDepth 20000 in
theorem gX4_without_X0_closeAndEmpty : GoodIn wsX4_without (wsV RX4 206 RX0 yX0_closeAndEmpty wsX0_closeAndEmpty) := goodIn_app (goodIn_of _ (by decide +kernel)) ggX4_without_X0_closeAndEmpty
set_option maxRecDepth 20000 in
theorem ggX4_without_X0_greatestLoad : GoodIn wsX4_without wsX0_greatestLoad := goodIn_r _ [86, 25, 87, 88, 89, 6, 90, 8, 13, 14, 15, 16, 97, 98, 99, 100, 101, 102, 103, 104, 105, 106, 107, 108, 109] (by decide +kernel) (by decide +kernel)
set_option maxRecDepth 20000 in
theorem gX4_without_X0_greatestLoad : GoodIn wsX4_without (wsV RX4 120 RX0 yX0_greatestLoad wsX0_greatestLoad) := goodIn_app (goodIn_of _ (by decide +kernel)) ggX4_without_X0_greatestLoad
theorem dX4_without_0 : decode cX4_without 0 = .ok (.aload_n 0, 1) := by decide +kernel
theorem dX4_without_1 : decode cX4_without 1 = .ok (.getfield 10, 3) := by decide +kernel
theorem dX4_without_4 : decode cX4_without 4 = .ok (.iload_n 1, 1) := by decide +kernel
theorem dX4_without_5 : decode cX4_without 5 = .ok (.invokevirtual 153, 3) := by decide +kernel
theorem dX4_without_8 : decode cX4_without 8 = .ok (.ifCond .ne 5, 3) := by decide +kernel
theorem dX4_without_11 : decode cX4_without 11 = .ok (.iconst (-1), 1) := by decide +kernel
theorem dX4_without_12 : decode cX4_without 12 = .ok (.ireturn, 1) := by decide +kernel
theorem dX4_without_13 : decode cX4_without 13 = .ok (.aload_n 0, 1) := by decide +kernel
theorem dX4_without_14 : decode cX4_without 14 = .ok (.getfield 10, 3) := by decide +kernel
theorem dX4_without_17 : decode cX4_without 17 = .ok (.iload_n 1, 1) := by decide +kernel
theorem dX4_without_18 : decode cX4_without 18 = .ok (.invokevirtual 157, 3) := by decide +kernel
theorem dX4_without_21 : decode cX4_without 21 = .ok (.ifCond .eq 14, 3) := by decide +kernel
theorem dX4_without_24 : decode cX4_without 24 = .ok (.aload_n 0, 1) := by decide +kernel
theorem dX4_without_25 : decode cX4_without 25 = .ok (.getfield 10, 3) := by decide +kernel
theorem dX4_without_28 : decode cX4_without 28 = .ok (.getfield 108, 3) := by decide +kernel
theorem dX4_without_31 : decode cX4_without 31 = .ok (.iconst 1, 1) := by decide +kernel
theorem dX4_without_32 : decode cX4_without 32 = .ok (.if_icmp .gt 6, 3) := by decide +kernel
theorem dX4_without_35 : decode cX4_without 35 = .ok (.bipush (-2), 2) := by decide +kernel
theorem dX4_without_37 : decode cX4_without 37 = .ok (.ireturn, 1) := by decide +kernel
theorem dX4_without_38 : decode cX4_without 38 = .ok (.aload_n 0, 1) := by decide +kernel
theorem dX4_without_39 : decode cX4_without 39 = .ok (.getfield 19, 3) := by decide +kernel
theorem dX4_without_42 : decode cX4_without 42 = .ok (.aload_n 0, 1) := by decide +kernel
theorem dX4_without_43 : decode cX4_without 43 = .ok (.getfield 10, 3) := by decide +kernel
theorem dX4_without_46 : decode cX4_without 46 = .ok (.invokevirtual 43, 3) := by decide +kernel
theorem dX4_without_49 : decode cX4_without 49 = .ok (.aload_n 0, 1) := by decide +kernel
theorem dX4_without_50 : decode cX4_without 50 = .ok (.getfield 19, 3) := by decide +kernel
theorem dX4_without_53 : decode cX4_without 53 = .ok (.iload_n 1, 1) := by decide +kernel
theorem dX4_without_54 : decode cX4_without 54 = .ok (.invokevirtual 206, 3) := by decide +kernel
theorem dX4_without_57 : decode cX4_without 57 = .ok (.pop, 1) := by decide +kernel
theorem dX4_without_58 : decode cX4_without 58 = .ok (.aload_n 0, 1) := by decide +kernel
theorem dX4_without_59 : decode cX4_without 59 = .ok (.getfield 19, 3) := by decide +kernel
theorem dX4_without_62 : decode cX4_without 62 = .ok (.invokevirtual 120, 3) := by decide +kernel
theorem dX4_without_65 : decode cX4_without 65 = .ok (.ireturn, 1) := by decide +kernel
set_option maxRecDepth 20000 in
theorem ggX4_recorded_X1_keep : GoodIn wsX4_recorded wsX1_keep := goodIn_r _ [7, 8, 9, 10, 11, 12, 13, 14, 15, 16, 6, 17, 18, 19, 20, 21, 22, 23, 24, 25, 26, 27, 28, 29, 30, 31, 32, 33, 34, 35, 36, 37, 38, 39, 40, 41, 42, 43, 44, 51, 52, 53, 54, 55, 56, 57, 58, 59, 60, 61, 62, 63, 64, 65, 66] (by decide +kernel) (by decide +kernel)
set_option maxRecDepth 20000 in
theorem gX4_recorded_X1_keep : GoodIn wsX4_recorded (wsV RX4 209 RX1 yX1_keep wsX1_keep) := goodIn_app (goodIn_of _ (by decide +kernel)) ggX4_recorded_X1_keep
theorem dX4_recorded_0 : decode cX4_recorded 0 = .ok (.iload_n 1, 1) := by decide +kernel
theorem dX4_recorded_1 : decode cX4_recorded 1 = .ok (.ifCond .lt 14, 3) := by decide +kernel
theorem dX4_recorded_4 : decode cX4_recorded 4 = .ok (.aload_n 0, 1) := by decide +kernel
theorem dX4_recorded_5 : decode cX4_recorded 5 = .ok (.getfield 25, 3) := by decide +kernel
theorem dX4_recorded_8 : decode cX4_recorded 8 = .ok (.aload_n 0, 1) := by decide +kernel
theorem dX4_recorded_9 : decode cX4_recorded 9 = .ok (.getfield 16, 3) := by decide +kernel
theorem dX4_recorded_12 : decode cX4_recorded 12 = .ok (.invokevirtual 209, 3) := by decide +kernel
theorem dX4_recorded_15 : decode cX4_recorded 15 = .ok (.iload_n 1, 1) := by decide +kernel
theorem dX4_recorded_16 : decode cX4_recorded 16 = .ok (.ireturn, 1) := by decide +kernel
set_option maxRecDepth 20000 in
theorem ggX4_runOrders_X2_startReading : GoodIn wsX4_runOrders wsX2_startReading := goodIn_r _ [6, 7, 8, 175, 176, 177, 178, 179, 180, 181, 182] (by decide +kernel) (by decide +kernel)
set_option maxRecDepth 20000 in
theorem gX4_runOrders_X2_startReading : GoodIn wsX4_runOrders (wsV RX4 212 RX2 yX2_startReading wsX2_startReading) := goodIn_app (goodIn_of _ (by decide +kernel)) ggX4_runOrders_X2_startReading
set_option maxRecDepth 20000 in
theorem ggX4_runOrders_X2_read : GoodIn wsX4_runOrders wsX2_read := goodIn_r _ [12, 13, 8, 14, 7, 15, 16, 17, 18, 19, 3, 4, 5, 6, 20, 21, 22, 23, 24, 25, 26, 27, 28, 29, 30, 31, 32, 33, 34, 35, 36, 37, 38, 175, 176, 177, 178, 179, 180, 181, 182] (by decide +kernel) (by decide +kernel)
set_option maxRecDepth 20000 in
theorem gX4_runOrders_X2_read : GoodIn wsX4_runOrders (wsV RX4 215 RX2 yX2_read wsX2_read) := goodIn_app (goodIn_of _ (by decide +kernel)) ggX4_runOrders_X2_read
set_option maxRecDepth 20000 in
theorem ggX4_runOrders_X4_callOrder : GoodIn wsX4_runOrders wsX4_callOrder := goodIn_r _ [42, 1, 43, 44, 45, 16, 17, 18, 46, 47, 48, 49, 50, 51, 52, 53, 54, 55, 56, 57, 58, 59, 60, 61, 62, 63, 64, 65, 66, 67, 37, 38, 68, 69, 70, 71, 72, 73, 74, 75, 76, 77, 78, 79, 80, 81, 82, 83, 84, 85, 86, 87, 88, 89, 90, 91, 92, 93, 94, 95, 96, 97, 98, 99, 100, 101, 102, 103, 104, 105, 106, 107, 108, 109, 110, 111, 112, 113, 114, 115, 116, 117, 118, 119, 120, 121, 122, 123, 124, 125, 126, 127, 128, 129, 130, 131, 132, 133, 134, 135, 136, 137, 138, 139, 140, 141, 142, 143, 144, 145, 146, 147, 148, 149, 150, 151, 152, 153, 154, 155, 156, 157, 158, 159, 160, 161, 162, 163, 164, 169, 170, 171, 172, 173, 174, 175, 176, 177, 178, 179, 180, 181, 182, 183, 184, 185, 186, 187, 188, 189, 190, 191, 192, 193, 194, 195, 196, 197, 198, 199, 200] (by decide +kernel) (by decide +kernel)
set_option maxRecDepth 20000 in
theorem gX4_runOrders_X4_callOrder : GoodIn wsX4_runOrders (wsV RX4 222 RX4 yX4_callOrder wsX4_callOrder) := goodIn_app (goodIn_of _ (by decide +kernel)) ggX4_runOrders_X4_callOrder
set_option maxRecDepth 20000 in
theorem ggX4_runOrders_X2_isInOrder : GoodIn wsX4_runOrders wsX2_isInOrder := goodIn_r _ [168, 7, 8, 175, 176, 177, 178, 179, 180, 181, 182] (by decide +kernel) (by decide +kernel)
set_option maxRecDepth 20000 in
theorem gX4_runOrders_X2_isInOrder : GoodIn wsX4_runOrders (wsV RX4 228 RX2 yX2_isInOrder wsX2_isInOrder) := goodIn_app (goodIn_of _ (by decide +kernel)) ggX4_runOrders_X2_isInOrder
theorem dX4_runOrders_0 : decode cX4_runOrders 0 = .ok (.iconst 0, 1) := by decide +kernel
theorem dX4_runOrders_1 : decode cX4_runOrders 1 = .ok (.istore_n 1, 1) := by decide +kernel
theorem dX4_runOrders_2 : decode cX4_runOrders 2 = .ok (.aload_n 0, 1) := by decide +kernel
theorem dX4_runOrders_3 : decode cX4_runOrders 3 = .ok (.getfield 39, 3) := by decide +kernel
theorem dX4_runOrders_6 : decode cX4_runOrders 6 = .ok (.getfield 99, 3) := by decide +kernel
theorem dX4_runOrders_9 : decode cX4_runOrders 9 = .ok (.istore_n 2, 1) := by decide +kernel
theorem dX4_runOrders_10 : decode cX4_runOrders 10 = .ok (.aload_n 0, 1) := by decide +kernel
theorem dX4_runOrders_11 : decode cX4_runOrders 11 = .ok (.getfield 39, 3) := by decide +kernel
theorem dX4_runOrders_14 : decode cX4_runOrders 14 = .ok (.invokevirtual 212, 3) := by decide +kernel
theorem dX4_runOrders_17 : decode cX4_runOrders 17 = .ok (.iconst 0, 1) := by decide +kernel
theorem dX4_runOrders_18 : decode cX4_runOrders 18 = .ok (.istore_n 3, 1) := by decide +kernel
theorem dX4_runOrders_19 : decode cX4_runOrders 19 = .ok (.iload_n 3, 1) := by decide +kernel
theorem dX4_runOrders_20 : decode cX4_runOrders 20 = .ok (.iload_n 2, 1) := by decide +kernel
theorem dX4_runOrders_21 : decode cX4_runOrders 21 = .ok (.if_icmp .ge 58, 3) := by decide +kernel
theorem dX4_runOrders_24 : decode cX4_runOrders 24 = .ok (.aload_n 0, 1) := by decide +kernel
theorem dX4_runOrders_25 : decode cX4_runOrders 25 = .ok (.getfield 39, 3) := by decide +kernel
theorem dX4_runOrders_28 : decode cX4_runOrders 28 = .ok (.iload_n 3, 1) := by decide +kernel
theorem dX4_runOrders_29 : decode cX4_runOrders 29 = .ok (.invokevirtual 215, 3) := by decide +kernel
theorem dX4_runOrders_32 : decode cX4_runOrders 32 = .ok (.ifCond .ne 9, 3) := by decide +kernel
theorem dX4_runOrders_35 : decode cX4_runOrders 35 = .ok (.sipush (-1000), 3) := by decide +kernel
theorem dX4_runOrders_38 : decode cX4_runOrders 38 = .ok (.iload_n 3, 1) := by decide +kernel
theorem dX4_runOrders_39 : decode cX4_runOrders 39 = .ok (.isub, 1) := by decide +kernel
theorem dX4_runOrders_40 : decode cX4_runOrders 40 = .ok (.ireturn, 1) := by decide +kernel
theorem dX4_runOrders_41 : decode cX4_runOrders 41 = .ok (.aload_n 0, 1) := by decide +kernel
theorem dX4_runOrders_42 : decode cX4_runOrders 42 = .ok (.getfield 39, 3) := by decide +kernel
theorem dX4_runOrders_45 : decode cX4_runOrders 45 = .ok (.getfield 218, 3) := by decide +kernel
theorem dX4_runOrders_48 : decode cX4_runOrders 48 = .ok (.ifCond .eq 25, 3) := by decide +kernel
theorem dX4_runOrders_51 : decode cX4_runOrders 51 = .ok (.aload_n 0, 1) := by decide +kernel
theorem dX4_runOrders_52 : decode cX4_runOrders 52 = .ok (.invokevirtual 222, 3) := by decide +kernel
theorem dX4_runOrders_55 : decode cX4_runOrders 55 = .ok (.ifCond .ge 15, 3) := by decide +kernel
theorem dX4_runOrders_58 : decode cX4_runOrders 58 = .ok (.sipush (-1000), 3) := by decide +kernel
theorem dX4_runOrders_61 : decode cX4_runOrders 61 = .ok (.aload_n 0, 1) := by decide +kernel
theorem dX4_runOrders_62 : decode cX4_runOrders 62 = .ok (.getfield 39, 3) := by decide +kernel
theorem dX4_runOrders_65 : decode cX4_runOrders 65 = .ok (.getfield 225, 3) := by decide +kernel
theorem dX4_runOrders_68 : decode cX4_runOrders 68 = .ok (.isub, 1) := by decide +kernel
theorem dX4_runOrders_69 : decode cX4_runOrders 69 = .ok (.ireturn, 1) := by decide +kernel
theorem dX4_runOrders_70 : decode cX4_runOrders 70 = .ok (.iinc 1 1, 3) := by decide +kernel
theorem dX4_runOrders_73 : decode cX4_runOrders 73 = .ok (.iinc 3 1, 3) := by decide +kernel
theorem dX4_runOrders_76 : decode cX4_runOrders 76 = .ok (.goto (-57), 3) := by decide +kernel
theorem dX4_runOrders_79 : decode cX4_runOrders 79 = .ok (.aload_n 0, 1) := by decide +kernel
theorem dX4_runOrders_80 : decode cX4_runOrders 80 = .ok (.getfield 39, 3) := by decide +kernel
theorem dX4_runOrders_83 : decode cX4_runOrders 83 = .ok (.invokevirtual 228, 3) := by decide +kernel
theorem dX4_runOrders_86 : decode cX4_runOrders 86 = .ok (.ifCond .eq 11, 3) := by decide +kernel
theorem dX4_runOrders_89 : decode cX4_runOrders 89 = .ok (.sipush (-1000), 3) := by decide +kernel
theorem dX4_runOrders_92 : decode cX4_runOrders 92 = .ok (.iload_n 2, 1) := by decide +kernel
theorem dX4_runOrders_93 : decode cX4_runOrders 93 = .ok (.isub, 1) := by decide +kernel
theorem dX4_runOrders_94 : decode cX4_runOrders 94 = .ok (.goto 4, 3) := by decide +kernel
theorem dX4_runOrders_97 : decode cX4_runOrders 97 = .ok (.iload_n 1, 1) := by decide +kernel
theorem dX4_runOrders_98 : decode cX4_runOrders 98 = .ok (.ireturn, 1) := by decide +kernel
set_option maxRecDepth 20000 in
theorem ggX4_callOrder_X4_at : GoodIn wsX4_callOrder wsX4_at := goodIn_r _ [7] (by decide +kernel) (by decide +kernel)
set_option maxRecDepth 20000 in
theorem gX4_callOrder_X4_at : GoodIn wsX4_callOrder (va_wsS RX4 130 yX4_at wsX4_at) := goodIn_app (goodIn_of _ (by decide +kernel)) ggX4_callOrder_X4_at
set_option maxRecDepth 20000 in
theorem ggX4_callOrder_X0_newJob : GoodIn wsX4_callOrder wsX0_newJob := goodIn_r _ [12, 13, 14, 15, 16, 17, 18, 19, 20, 21, 22, 11, 23, 24, 25, 26, 27, 28, 29, 5, 6, 7, 30, 31, 143, 144, 145, 146, 147, 148, 149, 150, 151, 152, 153, 154, 155] (by decide +kernel) (by decide +kernel)
set_option maxRecDepth 20000 in
theorem gX4_callOrder_X0_newJob : GoodIn wsX4_callOrder (wsV RX4 55 RX0 yX0_newJob wsX0_newJob) := goodIn_app (goodIn_of _ (by decide +kernel)) ggX4_callOrder_X0_newJob
set_option maxRecDepth 20000 in
theorem ggX4_callOrder_X0_endJob : GoodIn wsX4_callOrder wsX0_endJob := goodIn_r _ [35, 16, 18, 14, 19, 36, 37, 38, 11, 39, 13, 40, 41, 42, 43, 5, 6, 7, 30, 31, 143, 144, 145, 146, 147, 148, 149, 150, 151, 152, 153, 154, 155] (by decide +kernel) (by decide +kernel)
set_option maxRecDepth 20000 in
theorem gX4_callOrder_X0_endJob : GoodIn wsX4_callOrder (wsV RX4 59 RX0 yX0_endJob wsX0_endJob) := goodIn_app (goodIn_of _ (by decide +kernel)) ggX4_callOrder_X0_endJob
set_option maxRecDepth 20000 in
theorem ggX4_callOrder_X0_moveJob : GoodIn wsX4_callOrder wsX0_moveJob := goodIn_r _ [47, 16, 15, 48, 36, 37, 38, 11, 39, 13, 20, 21, 22, 23, 24, 40, 41, 42, 43, 5, 6, 7, 25, 26, 27, 28, 29, 49, 50, 51, 52, 14, 17, 53, 54, 55, 56, 57, 18, 30, 31, 58, 59, 60, 61, 62, 63, 64, 65, 143, 144, 145, 146, 147, 148, 149, 150, 151, 152, 153, 154, 155] (by decide +kernel) (by decide +kernel)
set_option maxRecDepth 20000 in
theorem gX4_callOrder_X0_moveJob : GoodIn wsX4_callOrder (wsV RX4 68 RX0 yX0_moveJob wsX0_moveJob) := goodIn_app (goodIn_of _ (by decide +kernel)) ggX4_callOrder_X0_moveJob
set_option maxRecDepth 20000 in
theorem ggX4_callOrder_X0_exchangeJobs : GoodIn wsX4_callOrder wsX0_exchangeJobs := goodIn_r _ [69, 15, 48, 16, 36, 37, 38, 11, 39, 13, 70, 71, 72, 73, 40, 41, 42, 43, 5, 6, 7, 49, 50, 51, 52, 14, 17, 53, 54, 55, 56, 57, 18, 30, 31, 58, 59, 60, 61, 62, 63, 64, 65, 24, 29, 143, 144, 145, 146, 147, 148, 149, 150, 151, 152, 153, 154, 155] (by decide +kernel) (by decide +kernel)
set_option maxRecDepth 20000 in
theorem gX4_callOrder_X0_exchangeJobs : GoodIn wsX4_callOrder (wsV RX4 72 RX0 yX0_exchangeJobs wsX0_exchangeJobs) := goodIn_app (goodIn_of _ (by decide +kernel)) ggX4_callOrder_X0_exchangeJobs
set_option maxRecDepth 20000 in
theorem ggX4_callOrder_X0_moveRing : GoodIn wsX4_callOrder wsX0_moveRing := goodIn_r _ [77, 15, 48, 16, 36, 37, 38, 11, 39, 13, 70, 71, 72, 73, 40, 41, 42, 43, 5, 6, 7, 49, 50, 51, 52, 14, 17, 53, 54, 55, 56, 57, 18, 30, 31, 58, 59, 60, 61, 62, 63, 64, 65, 24, 29, 143, 144, 145, 146, 147, 148, 149, 150, 151, 152, 153, 154, 155] (by decide +kernel) (by decide +kernel)
set_option maxRecDepth 20000 in
theorem gX4_callOrder_X0_moveRing : GoodIn wsX4_callOrder (wsV RX4 75 RX0 yX0_moveRing wsX0_moveRing) := goodIn_app (goodIn_of _ (by decide +kernel)) ggX4_callOrder_X0_moveRing
set_option maxRecDepth 20000 in
theorem ggX4_callOrder_X3_walk : GoodIn wsX4_callOrder wsX3_walk := goodIn_r _ [82, 83, 84, 85, 86, 87, 88, 11, 89, 90, 91, 92, 93, 94, 13, 16, 14, 95, 96, 97, 98, 99, 19, 5, 6, 7, 100, 101, 102, 81, 103, 104, 63, 64, 65, 24, 18, 29, 105, 106, 107, 108, 109, 110, 111, 112, 113, 114, 115, 116, 117, 118, 119, 120, 121, 122, 123, 124, 125, 126, 127, 128, 50, 51, 52, 17, 53, 48, 15, 54, 55, 56, 57, 30, 31, 143, 144, 145, 146, 147, 148, 149, 150, 151, 152, 153, 154, 155, 156, 157, 158, 159, 160] (by decide +kernel) (by decide +kernel)
set_option maxRecDepth 20000 in
theorem gX4_callOrder_X3_walk : GoodIn wsX4_callOrder (wsV RX4 78 RX3 yX3_walk wsX3_walk) := goodIn_app (goodIn_of _ (by decide +kernel)) ggX4_callOrder_X3_walk
theorem dX4_callOrder_0 : decode cX4_callOrder 0 = .ok (.aload_n 0, 1) := by decide +kernel
theorem dX4_callOrder_1 : decode cX4_callOrder 1 = .ok (.getfield 39, 3) := by decide +kernel
theorem dX4_callOrder_4 : decode cX4_callOrder 4 = .ok (.getfield 231, 3) := by decide +kernel
theorem dX4_callOrder_7 : decode cX4_callOrder 7 = .ok (.iconst 0, 1) := by decide +kernel
theorem dX4_callOrder_8 : decode cX4_callOrder 8 = .ok (.invokestatic 130, 3) := by decide +kernel
theorem dX4_callOrder_11 : decode cX4_callOrder 11 = .ok (.istore_n 1, 1) := by decide +kernel
theorem dX4_callOrder_12 : decode cX4_callOrder 12 = .ok (.aload_n 0, 1) := by decide +kernel
theorem dX4_callOrder_13 : decode cX4_callOrder 13 = .ok (.getfield 39, 3) := by decide +kernel
theorem dX4_callOrder_16 : decode cX4_callOrder 16 = .ok (.getfield 231, 3) := by decide +kernel
theorem dX4_callOrder_19 : decode cX4_callOrder 19 = .ok (.iconst 1, 1) := by decide +kernel
theorem dX4_callOrder_20 : decode cX4_callOrder 20 = .ok (.invokestatic 130, 3) := by decide +kernel
theorem dX4_callOrder_23 : decode cX4_callOrder 23 = .ok (.istore_n 2, 1) := by decide +kernel
theorem dX4_callOrder_24 : decode cX4_callOrder 24 = .ok (.aload_n 0, 1) := by decide +kernel
theorem dX4_callOrder_25 : decode cX4_callOrder 25 = .ok (.getfield 39, 3) := by decide +kernel
theorem dX4_callOrder_28 : decode cX4_callOrder 28 = .ok (.getfield 231, 3) := by decide +kernel
theorem dX4_callOrder_31 : decode cX4_callOrder 31 = .ok (.iconst 2, 1) := by decide +kernel
theorem dX4_callOrder_32 : decode cX4_callOrder 32 = .ok (.invokestatic 130, 3) := by decide +kernel
theorem dX4_callOrder_35 : decode cX4_callOrder 35 = .ok (.istore_n 3, 1) := by decide +kernel
theorem dX4_callOrder_36 : decode cX4_callOrder 36 = .ok (.aload_n 0, 1) := by decide +kernel
theorem dX4_callOrder_37 : decode cX4_callOrder 37 = .ok (.getfield 39, 3) := by decide +kernel
theorem dX4_callOrder_40 : decode cX4_callOrder 40 = .ok (.getfield 234, 3) := by decide +kernel
theorem dX4_callOrder_43 : decode cX4_callOrder 43 = .ok (.tableswitch 153 102 120 #[100, 153, 153, 153, 89, 153, 153, 109, 153, 153, 140, 153, 129, 153, 153, 153, 153, 153, 119], 89) := by decide +kernel
theorem dX4_callOrder_132 : decode cX4_callOrder 132 = .ok (.aload_n 0, 1) := by decide +kernel
theorem dX4_callOrder_133 : decode cX4_callOrder 133 = .ok (.getfield 10, 3) := by decide +kernel
theorem dX4_callOrder_136 : decode cX4_callOrder 136 = .ok (.iload_n 1, 1) := by decide +kernel
theorem dX4_callOrder_137 : decode cX4_callOrder 137 = .ok (.iload_n 2, 1) := by decide +kernel
theorem dX4_callOrder_138 : decode cX4_callOrder 138 = .ok (.iload_n 3, 1) := by decide +kernel
theorem dX4_callOrder_139 : decode cX4_callOrder 139 = .ok (.invokevirtual 55, 3) := by decide +kernel
theorem dX4_callOrder_142 : decode cX4_callOrder 142 = .ok (.ireturn, 1) := by decide +kernel
theorem dX4_callOrder_143 : decode cX4_callOrder 143 = .ok (.aload_n 0, 1) := by decide +kernel
theorem dX4_callOrder_144 : decode cX4_callOrder 144 = .ok (.getfield 10, 3) := by decide +kernel
theorem dX4_callOrder_147 : decode cX4_callOrder 147 = .ok (.iload_n 1, 1) := by decide +kernel
theorem dX4_callOrder_148 : decode cX4_callOrder 148 = .ok (.invokevirtual 59, 3) := by decide +kernel
theorem dX4_callOrder_151 : decode cX4_callOrder 151 = .ok (.ireturn, 1) := by decide +kernel
theorem dX4_callOrder_152 : decode cX4_callOrder 152 = .ok (.aload_n 0, 1) := by decide +kernel
theorem dX4_callOrder_153 : decode cX4_callOrder 153 = .ok (.getfield 10, 3) := by decide +kernel
theorem dX4_callOrder_156 : decode cX4_callOrder 156 = .ok (.iload_n 1, 1) := by decide +kernel
theorem dX4_callOrder_157 : decode cX4_callOrder 157 = .ok (.iload_n 2, 1) := by decide +kernel
theorem dX4_callOrder_158 : decode cX4_callOrder 158 = .ok (.invokevirtual 68, 3) := by decide +kernel
theorem dX4_callOrder_161 : decode cX4_callOrder 161 = .ok (.ireturn, 1) := by decide +kernel
theorem dX4_callOrder_162 : decode cX4_callOrder 162 = .ok (.aload_n 0, 1) := by decide +kernel
theorem dX4_callOrder_163 : decode cX4_callOrder 163 = .ok (.getfield 10, 3) := by decide +kernel
theorem dX4_callOrder_166 : decode cX4_callOrder 166 = .ok (.iload_n 1, 1) := by decide +kernel
theorem dX4_callOrder_167 : decode cX4_callOrder 167 = .ok (.iload_n 2, 1) := by decide +kernel
theorem dX4_callOrder_168 : decode cX4_callOrder 168 = .ok (.invokevirtual 72, 3) := by decide +kernel
theorem dX4_callOrder_171 : decode cX4_callOrder 171 = .ok (.ireturn, 1) := by decide +kernel
theorem dX4_callOrder_172 : decode cX4_callOrder 172 = .ok (.aload_n 0, 1) := by decide +kernel
theorem dX4_callOrder_173 : decode cX4_callOrder 173 = .ok (.getfield 10, 3) := by decide +kernel
theorem dX4_callOrder_176 : decode cX4_callOrder 176 = .ok (.iload_n 1, 1) := by decide +kernel
theorem dX4_callOrder_177 : decode cX4_callOrder 177 = .ok (.iload_n 2, 1) := by decide +kernel
theorem dX4_callOrder_178 : decode cX4_callOrder 178 = .ok (.iload_n 3, 1) := by decide +kernel
theorem dX4_callOrder_179 : decode cX4_callOrder 179 = .ok (.invokevirtual 75, 3) := by decide +kernel
theorem dX4_callOrder_182 : decode cX4_callOrder 182 = .ok (.ireturn, 1) := by decide +kernel
theorem dX4_callOrder_183 : decode cX4_callOrder 183 = .ok (.aload_n 0, 1) := by decide +kernel
theorem dX4_callOrder_184 : decode cX4_callOrder 184 = .ok (.getfield 32, 3) := by decide +kernel
theorem dX4_callOrder_187 : decode cX4_callOrder 187 = .ok (.aload_n 0, 1) := by decide +kernel
theorem dX4_callOrder_188 : decode cX4_callOrder 188 = .ok (.getfield 10, 3) := by decide +kernel
theorem dX4_callOrder_191 : decode cX4_callOrder 191 = .ok (.iload_n 1, 1) := by decide +kernel
theorem dX4_callOrder_192 : decode cX4_callOrder 192 = .ok (.invokevirtual 78, 3) := by decide +kernel
theorem dX4_callOrder_195 : decode cX4_callOrder 195 = .ok (.ireturn, 1) := by decide +kernel
theorem dX4_callOrder_196 : decode cX4_callOrder 196 = .ok (.iconst (-1), 1) := by decide +kernel
theorem dX4_callOrder_197 : decode cX4_callOrder 197 = .ok (.ireturn, 1) := by decide +kernel
set_option maxRecDepth 20000 in
theorem ggX4_cheapest_X0_serversAbove : GoodIn wsX4_cheapest wsX0_serversAbove := goodIn_r _ [5, 6, 7, 8, 9, 10, 25, 26, 27, 28, 29, 30, 31, 32, 33, 34, 35, 36, 37] (by decide +kernel) (by decide +kernel)
set_option maxRecDepth 20000 in
theorem gX4_cheapest_X0_serversAbove : GoodIn wsX4_cheapest (wsV RX4 237 RX0 yX0_serversAbove wsX0_serversAbove) := goodIn_app (goodIn_of _ (by decide +kernel)) ggX4_cheapest_X0_serversAbove
set_option maxRecDepth 20000 in
theorem ggX4_cheapest_X4_at : GoodIn wsX4_cheapest wsX4_at := goodIn_r _ [10] (by decide +kernel) (by decide +kernel)
set_option maxRecDepth 20000 in
theorem gX4_cheapest_X4_at : GoodIn wsX4_cheapest (va_wsS RX4 130 yX4_at wsX4_at) := goodIn_app (goodIn_of _ (by decide +kernel)) ggX4_cheapest_X4_at
set_option maxRecDepth 20000 in
theorem ggX4_cheapest_X0_isOpen : GoodIn wsX4_cheapest wsX0_isOpen := goodIn_r _ [15, 16, 8, 9, 10, 25, 26, 27, 28, 29, 30, 31, 32, 33, 34, 35, 36, 37] (by decide +kernel) (by decide +kernel)
set_option maxRecDepth 20000 in
theorem gX4_cheapest_X0_isOpen : GoodIn wsX4_cheapest (wsV RX4 157 RX0 yX0_isOpen wsX0_isOpen) := goodIn_app (goodIn_of _ (by decide +kernel)) ggX4_cheapest_X0_isOpen
set_option maxRecDepth 20000 in
theorem ggX4_cheapest_X0_shiftLoad : GoodIn wsX4_cheapest wsX0_shiftLoad := goodIn_r _ [20, 7, 8, 9, 10, 21, 22, 25, 26, 27, 28, 29, 30, 31, 32, 33, 34, 35, 36, 37] (by decide +kernel) (by decide +kernel)
set_option maxRecDepth 20000 in
theorem gX4_cheapest_X0_shiftLoad : GoodIn wsX4_cheapest (wsV RX4 240 RX0 yX0_shiftLoad wsX0_shiftLoad) := goodIn_app (goodIn_of _ (by decide +kernel)) ggX4_cheapest_X0_shiftLoad
set_option maxRecDepth 20000 in
theorem ggX4_cheapest_X4_cheapest : GoodIn wsX4_cheapest wsX4_cheapest := goodIn_r _ [0, 1, 2, 3, 4, 5, 6, 7, 8, 9, 10, 11, 12, 13, 14, 15, 16, 17, 18, 19, 20, 21, 22, 23, 24, 25, 26, 27, 28, 29, 30, 31, 32, 33, 34, 35, 36, 37] (by decide +kernel) (by decide +kernel)
set_option maxRecDepth 20000 in
theorem gX4_cheapest_X4_cheapest : GoodIn wsX4_cheapest (va_wsS RX4 202 yX4_cheapest wsX4_cheapest) := goodIn_app (goodIn_of _ (by decide +kernel)) ggX4_cheapest_X4_cheapest
theorem dX4_cheapest_0 : decode cX4_cheapest 0 = .ok (.aload_n 0, 1) := by decide +kernel
theorem dX4_cheapest_1 : decode cX4_cheapest 1 = .ok (.iload_n 1, 1) := by decide +kernel
theorem dX4_cheapest_2 : decode cX4_cheapest 2 = .ok (.invokevirtual 237, 3) := by decide +kernel
theorem dX4_cheapest_5 : decode cX4_cheapest 5 = .ok (.iload_n 2, 1) := by decide +kernel
theorem dX4_cheapest_6 : decode cX4_cheapest 6 = .ok (.if_icmp .le 6, 3) := by decide +kernel
theorem dX4_cheapest_9 : decode cX4_cheapest 9 = .ok (.bipush (-9), 2) := by decide +kernel
theorem dX4_cheapest_11 : decode cX4_cheapest 11 = .ok (.ireturn, 1) := by decide +kernel
theorem dX4_cheapest_12 : decode cX4_cheapest 12 = .ok (.iload_n 2, 1) := by decide +kernel
theorem dX4_cheapest_13 : decode cX4_cheapest 13 = .ok (.ifCond .gt 5, 3) := by decide +kernel
theorem dX4_cheapest_16 : decode cX4_cheapest 16 = .ok (.iconst 0, 1) := by decide +kernel
theorem dX4_cheapest_17 : decode cX4_cheapest 17 = .ok (.ireturn, 1) := by decide +kernel
theorem dX4_cheapest_18 : decode cX4_cheapest 18 = .ok (.bipush (-9), 2) := by decide +kernel
theorem dX4_cheapest_20 : decode cX4_cheapest 20 = .ok (.istore 4, 2) := by decide +kernel
theorem dX4_cheapest_22 : decode cX4_cheapest 22 = .ok (.iload_n 3, 1) := by decide +kernel
theorem dX4_cheapest_23 : decode cX4_cheapest 23 = .ok (.istore 5, 2) := by decide +kernel
theorem dX4_cheapest_25 : decode cX4_cheapest 25 = .ok (.iload 5, 2) := by decide +kernel
theorem dX4_cheapest_27 : decode cX4_cheapest 27 = .ok (.aload_n 0, 1) := by decide +kernel
theorem dX4_cheapest_28 : decode cX4_cheapest 28 = .ok (.getfield 111, 3) := by decide +kernel
theorem dX4_cheapest_31 : decode cX4_cheapest 31 = .ok (.if_icmp .ge 151, 3) := by decide +kernel
theorem dX4_cheapest_34 : decode cX4_cheapest 34 = .ok (.aload_n 0, 1) := by decide +kernel
theorem dX4_cheapest_35 : decode cX4_cheapest 35 = .ok (.getfield 171, 3) := by decide +kernel
theorem dX4_cheapest_38 : decode cX4_cheapest 38 = .ok (.iload 5, 2) := by decide +kernel
theorem dX4_cheapest_40 : decode cX4_cheapest 40 = .ok (.invokestatic 130, 3) := by decide +kernel
theorem dX4_cheapest_43 : decode cX4_cheapest 43 = .ok (.istore 6, 2) := by decide +kernel
theorem dX4_cheapest_45 : decode cX4_cheapest 45 = .ok (.aload_n 0, 1) := by decide +kernel
theorem dX4_cheapest_46 : decode cX4_cheapest 46 = .ok (.getfield 177, 3) := by decide +kernel
theorem dX4_cheapest_49 : decode cX4_cheapest 49 = .ok (.iload 5, 2) := by decide +kernel
theorem dX4_cheapest_51 : decode cX4_cheapest 51 = .ok (.invokestatic 130, 3) := by decide +kernel
theorem dX4_cheapest_54 : decode cX4_cheapest 54 = .ok (.istore 7, 2) := by decide +kernel
theorem dX4_cheapest_56 : decode cX4_cheapest 56 = .ok (.iload 7, 2) := by decide +kernel
theorem dX4_cheapest_58 : decode cX4_cheapest 58 = .ok (.bipush (-9), 2) := by decide +kernel
theorem dX4_cheapest_60 : decode cX4_cheapest 60 = .ok (.if_icmp .ne 6, 3) := by decide +kernel
theorem dX4_cheapest_63 : decode cX4_cheapest 63 = .ok (.goto 113, 3) := by decide +kernel
theorem dX4_cheapest_66 : decode cX4_cheapest 66 = .ok (.iconst 0, 1) := by decide +kernel
theorem dX4_cheapest_67 : decode cX4_cheapest 67 = .ok (.istore 8, 2) := by decide +kernel
theorem dX4_cheapest_69 : decode cX4_cheapest 69 = .ok (.iload 8, 2) := by decide +kernel
theorem dX4_cheapest_71 : decode cX4_cheapest 71 = .ok (.aload_n 0, 1) := by decide +kernel
theorem dX4_cheapest_72 : decode cX4_cheapest 72 = .ok (.getfield 105, 3) := by decide +kernel
theorem dX4_cheapest_75 : decode cX4_cheapest 75 = .ok (.if_icmp .ge 101, 3) := by decide +kernel
theorem dX4_cheapest_78 : decode cX4_cheapest 78 = .ok (.iload 8, 2) := by decide +kernel
theorem dX4_cheapest_80 : decode cX4_cheapest 80 = .ok (.iload 7, 2) := by decide +kernel
theorem dX4_cheapest_82 : decode cX4_cheapest 82 = .ok (.if_icmp .eq 88, 3) := by decide +kernel
theorem dX4_cheapest_85 : decode cX4_cheapest 85 = .ok (.aload_n 0, 1) := by decide +kernel
theorem dX4_cheapest_86 : decode cX4_cheapest 86 = .ok (.iload 8, 2) := by decide +kernel
theorem dX4_cheapest_88 : decode cX4_cheapest 88 = .ok (.invokevirtual 157, 3) := by decide +kernel
theorem dX4_cheapest_91 : decode cX4_cheapest 91 = .ok (.ifCond .ne 6, 3) := by decide +kernel
theorem dX4_cheapest_94 : decode cX4_cheapest 94 = .ok (.goto 76, 3) := by decide +kernel
theorem dX4_cheapest_97 : decode cX4_cheapest 97 = .ok (.aload_n 0, 1) := by decide +kernel
theorem dX4_cheapest_98 : decode cX4_cheapest 98 = .ok (.iload 6, 2) := by decide +kernel
theorem dX4_cheapest_100 : decode cX4_cheapest 100 = .ok (.iload 7, 2) := by decide +kernel
theorem dX4_cheapest_102 : decode cX4_cheapest 102 = .ok (.iload 8, 2) := by decide +kernel
theorem dX4_cheapest_104 : decode cX4_cheapest 104 = .ok (.invokevirtual 240, 3) := by decide +kernel
theorem dX4_cheapest_107 : decode cX4_cheapest 107 = .ok (.aload_n 0, 1) := by decide +kernel
theorem dX4_cheapest_108 : decode cX4_cheapest 108 = .ok (.iload_n 1, 1) := by decide +kernel
theorem dX4_cheapest_109 : decode cX4_cheapest 109 = .ok (.iload_n 2, 1) := by decide +kernel
theorem dX4_cheapest_110 : decode cX4_cheapest 110 = .ok (.iconst 1, 1) := by decide +kernel
theorem dX4_cheapest_111 : decode cX4_cheapest 111 = .ok (.isub, 1) := by decide +kernel
theorem dX4_cheapest_112 : decode cX4_cheapest 112 = .ok (.iload 5, 2) := by decide +kernel
theorem dX4_cheapest_114 : decode cX4_cheapest 114 = .ok (.iconst 1, 1) := by decide +kernel
theorem dX4_cheapest_115 : decode cX4_cheapest 115 = .ok (.iadd, 1) := by decide +kernel
theorem dX4_cheapest_116 : decode cX4_cheapest 116 = .ok (.invokestatic 202, 3) := by decide +kernel
theorem dX4_cheapest_119 : decode cX4_cheapest 119 = .ok (.istore 9, 2) := by decide +kernel
theorem dX4_cheapest_121 : decode cX4_cheapest 121 = .ok (.aload_n 0, 1) := by decide +kernel
theorem dX4_cheapest_122 : decode cX4_cheapest 122 = .ok (.iload 6, 2) := by decide +kernel
theorem dX4_cheapest_124 : decode cX4_cheapest 124 = .ok (.iload 8, 2) := by decide +kernel
theorem dX4_cheapest_126 : decode cX4_cheapest 126 = .ok (.iload 7, 2) := by decide +kernel
theorem dX4_cheapest_128 : decode cX4_cheapest 128 = .ok (.invokevirtual 240, 3) := by decide +kernel
theorem dX4_cheapest_131 : decode cX4_cheapest 131 = .ok (.iload 9, 2) := by decide +kernel
theorem dX4_cheapest_133 : decode cX4_cheapest 133 = .ok (.aload_n 0, 1) := by decide +kernel
theorem dX4_cheapest_134 : decode cX4_cheapest 134 = .ok (.getfield 174, 3) := by decide +kernel
theorem dX4_cheapest_137 : decode cX4_cheapest 137 = .ok (.iload 5, 2) := by decide +kernel
theorem dX4_cheapest_139 : decode cX4_cheapest 139 = .ok (.invokestatic 130, 3) := by decide +kernel
theorem dX4_cheapest_142 : decode cX4_cheapest 142 = .ok (.iadd, 1) := by decide +kernel
theorem dX4_cheapest_143 : decode cX4_cheapest 143 = .ok (.istore 10, 2) := by decide +kernel
theorem dX4_cheapest_145 : decode cX4_cheapest 145 = .ok (.iload 9, 2) := by decide +kernel
theorem dX4_cheapest_147 : decode cX4_cheapest 147 = .ok (.bipush (-9), 2) := by decide +kernel
theorem dX4_cheapest_149 : decode cX4_cheapest 149 = .ok (.if_icmp .eq 21, 3) := by decide +kernel
theorem dX4_cheapest_152 : decode cX4_cheapest 152 = .ok (.iload 4, 2) := by decide +kernel
theorem dX4_cheapest_154 : decode cX4_cheapest 154 = .ok (.bipush (-9), 2) := by decide +kernel
theorem dX4_cheapest_156 : decode cX4_cheapest 156 = .ok (.if_icmp .eq 10, 3) := by decide +kernel
theorem dX4_cheapest_159 : decode cX4_cheapest 159 = .ok (.iload 10, 2) := by decide +kernel
theorem dX4_cheapest_161 : decode cX4_cheapest 161 = .ok (.iload 4, 2) := by decide +kernel
theorem dX4_cheapest_163 : decode cX4_cheapest 163 = .ok (.if_icmp .ge 7, 3) := by decide +kernel
theorem dX4_cheapest_166 : decode cX4_cheapest 166 = .ok (.iload 10, 2) := by decide +kernel
theorem dX4_cheapest_168 : decode cX4_cheapest 168 = .ok (.istore 4, 2) := by decide +kernel
theorem dX4_cheapest_170 : decode cX4_cheapest 170 = .ok (.iinc 8 1, 3) := by decide +kernel
end
section
theorem dX4_cheapest_173 : decode cX4_cheapest 173 = .ok (.goto (-104), 3) := by decide +kernel
theorem dX4_cheapest_176 : decode cX4_cheapest 176 = .ok (.iinc 5 1, 3) := by decide +kernel
theorem dX4_cheapest_179 : decode cX4_cheapest 179 = .ok (.goto (-154), 3) := by decide +kernel
theorem dX4_cheapest_182 : decode cX4_cheapest 182 = .ok (.iload 4, 2) := by decide +kernel
theorem dX4_cheapest_184 : decode cX4_cheapest 184 = .ok (.ireturn, 1) := by decide +kernel
theorem dX4_at_0 : decode cX4_at 0 = .ok (.iload_n 1, 1) := by decide +kernel
theorem dX4_at_1 : decode cX4_at 1 = .ok (.ifCond .lt 15, 3) := by decide +kernel
theorem dX4_at_4 : decode cX4_at 4 = .ok (.iload_n 1, 1) := by decide +kernel
theorem dX4_at_5 : decode cX4_at 5 = .ok (.aload_n 0, 1) := by decide +kernel
theorem dX4_at_6 : decode cX4_at 6 = .ok (.arraylength, 1) := by decide +kernel
theorem dX4_at_7 : decode cX4_at 7 = .ok (.if_icmp .ge 9, 3) := by decide +kernel
theorem dX4_at_10 : decode cX4_at 10 = .ok (.aload_n 0, 1) := by decide +kernel
theorem dX4_at_11 : decode cX4_at 11 = .ok (.iload_n 1, 1) := by decide +kernel
theorem dX4_at_12 : decode cX4_at 12 = .ok (.iaload, 1) := by decide +kernel
theorem dX4_at_13 : decode cX4_at 13 = .ok (.goto 4, 3) := by decide +kernel
theorem dX4_at_16 : decode cX4_at 16 = .ok (.iconst 0, 1) := by decide +kernel
theorem dX4_at_17 : decode cX4_at 17 = .ok (.ireturn, 1) := by decide +kernel
theorem dX4_put_0 : decode cX4_put 0 = .ok (.iload_n 1, 1) := by decide +kernel
theorem dX4_put_1 : decode cX4_put 1 = .ok (.ifCond .lt 13, 3) := by decide +kernel
theorem dX4_put_4 : decode cX4_put 4 = .ok (.iload_n 1, 1) := by decide +kernel
theorem dX4_put_5 : decode cX4_put 5 = .ok (.aload_n 0, 1) := by decide +kernel
theorem dX4_put_6 : decode cX4_put 6 = .ok (.arraylength, 1) := by decide +kernel
theorem dX4_put_7 : decode cX4_put 7 = .ok (.if_icmp .ge 7, 3) := by decide +kernel
theorem dX4_put_10 : decode cX4_put 10 = .ok (.aload_n 0, 1) := by decide +kernel
theorem dX4_put_11 : decode cX4_put 11 = .ok (.iload_n 1, 1) := by decide +kernel
theorem dX4_put_12 : decode cX4_put 12 = .ok (.iload_n 2, 1) := by decide +kernel
theorem dX4_put_13 : decode cX4_put 13 = .ok (.iastore, 1) := by decide +kernel
theorem dX4_put_14 : decode cX4_put 14 = .ok (.return_, 1) := by decide +kernel
theorem dX4_copyRow_0 : decode cX4_copyRow 0 = .ok (.aload_n 0, 1) := by decide +kernel
theorem dX4_copyRow_1 : decode cX4_copyRow 1 = .ok (.iconst 0, 1) := by decide +kernel
theorem dX4_copyRow_2 : decode cX4_copyRow 2 = .ok (.aload_n 1, 1) := by decide +kernel
theorem dX4_copyRow_3 : decode cX4_copyRow 3 = .ok (.iconst 0, 1) := by decide +kernel
theorem dX4_copyRow_4 : decode cX4_copyRow 4 = .ok (.aload_n 0, 1) := by decide +kernel
theorem dX4_copyRow_5 : decode cX4_copyRow 5 = .ok (.arraylength, 1) := by decide +kernel
theorem dX4_copyRow_6 : decode cX4_copyRow 6 = .ok (.aload_n 1, 1) := by decide +kernel
theorem dX4_copyRow_7 : decode cX4_copyRow 7 = .ok (.arraylength, 1) := by decide +kernel
theorem dX4_copyRow_8 : decode cX4_copyRow 8 = .ok (.invokestatic 244, 3) := by decide +kernel
theorem dX4_copyRow_11 : decode cX4_copyRow 11 = .ok (.invokestatic 249, 3) := by decide +kernel
theorem dX4_copyRow_14 : decode cX4_copyRow 14 = .ok (.return_, 1) := by decide +kernel
theorem dX5_init_0 : decode cX5_init 0 = .ok (.aload_n 0, 1) := by decide +kernel
theorem dX5_init_1 : decode cX5_init 1 = .ok (.invokespecial 1, 3) := by decide +kernel
theorem dX5_init_4 : decode cX5_init 4 = .ok (.aload_n 0, 1) := by decide +kernel
theorem dX5_init_5 : decode cX5_init 5 = .ok (.bipush 102, 2) := by decide +kernel
theorem dX5_init_7 : decode cX5_init 7 = .ok (.newarray .int, 2) := by decide +kernel
theorem dX5_init_9 : decode cX5_init 9 = .ok (.putfield 7, 3) := by decide +kernel
theorem dX5_init_12 : decode cX5_init 12 = .ok (.aload_n 0, 1) := by decide +kernel
theorem dX5_init_13 : decode cX5_init 13 = .ok (.sipush 510, 3) := by decide +kernel
theorem dX5_init_16 : decode cX5_init 16 = .ok (.newarray .int, 2) := by decide +kernel
theorem dX5_init_18 : decode cX5_init 18 = .ok (.putfield 13, 3) := by decide +kernel
theorem dX5_init_21 : decode cX5_init 21 = .ok (.aload_n 0, 1) := by decide +kernel
theorem dX5_init_22 : decode cX5_init 22 = .ok (.bipush 102, 2) := by decide +kernel
theorem dX5_init_24 : decode cX5_init 24 = .ok (.newarray .int, 2) := by decide +kernel
theorem dX5_init_26 : decode cX5_init 26 = .ok (.putfield 16, 3) := by decide +kernel
theorem dX5_init_29 : decode cX5_init 29 = .ok (.aload_n 0, 1) := by decide +kernel
theorem dX5_init_30 : decode cX5_init 30 = .ok (.bipush 100, 2) := by decide +kernel
theorem dX5_init_32 : decode cX5_init 32 = .ok (.newarray .int, 2) := by decide +kernel
theorem dX5_init_34 : decode cX5_init 34 = .ok (.putfield 19, 3) := by decide +kernel
theorem dX5_init_37 : decode cX5_init 37 = .ok (.aload_n 0, 1) := by decide +kernel
theorem dX5_init_38 : decode cX5_init 38 = .ok (.iconst 3, 1) := by decide +kernel
theorem dX5_init_39 : decode cX5_init 39 = .ok (.newarray .int, 2) := by decide +kernel
theorem dX5_init_41 : decode cX5_init 41 = .ok (.putfield 22, 3) := by decide +kernel
theorem dX5_init_44 : decode cX5_init 44 = .ok (.aload_n 0, 1) := by decide +kernel
theorem dX5_init_45 : decode cX5_init 45 = .ok (.bipush 6, 2) := by decide +kernel
theorem dX5_init_47 : decode cX5_init 47 = .ok (.newarray .int, 2) := by decide +kernel
theorem dX5_init_49 : decode cX5_init 49 = .ok (.putfield 25, 3) := by decide +kernel
theorem dX5_init_52 : decode cX5_init 52 = .ok (.aload_n 0, 1) := by decide +kernel
theorem dX5_init_53 : decode cX5_init 53 = .ok (.getfield 7, 3) := by decide +kernel
theorem dX5_init_56 : decode cX5_init 56 = .ok (.iconst 3, 1) := by decide +kernel
theorem dX5_init_57 : decode cX5_init 57 = .ok (.sipush 500, 3) := by decide +kernel
theorem dX5_init_60 : decode cX5_init 60 = .ok (.iastore, 1) := by decide +kernel
theorem dX5_init_61 : decode cX5_init 61 = .ok (.aload_n 0, 1) := by decide +kernel
theorem dX5_init_62 : decode cX5_init 62 = .ok (.getfield 7, 3) := by decide +kernel
theorem dX5_init_65 : decode cX5_init 65 = .ok (.iconst 4, 1) := by decide +kernel
theorem dX5_init_66 : decode cX5_init 66 = .ok (.bipush 120, 2) := by decide +kernel
theorem dX5_init_68 : decode cX5_init 68 = .ok (.iastore, 1) := by decide +kernel
theorem dX5_init_69 : decode cX5_init 69 = .ok (.return_, 1) := by decide +kernel
theorem dX5_in_0 : decode cX5_in 0 = .ok (.iload_n 0, 1) := by decide +kernel
theorem dX5_in_1 : decode cX5_in 1 = .ok (.iload_n 1, 1) := by decide +kernel
theorem dX5_in_2 : decode cX5_in 2 = .ok (.if_icmp .lt 12, 3) := by decide +kernel
theorem dX5_in_5 : decode cX5_in 5 = .ok (.iload_n 0, 1) := by decide +kernel
theorem dX5_in_6 : decode cX5_in 6 = .ok (.iload_n 2, 1) := by decide +kernel
theorem dX5_in_7 : decode cX5_in 7 = .ok (.if_icmp .gt 7, 3) := by decide +kernel
theorem dX5_in_10 : decode cX5_in 10 = .ok (.iconst 1, 1) := by decide +kernel
theorem dX5_in_11 : decode cX5_in 11 = .ok (.goto 4, 3) := by decide +kernel
theorem dX5_in_14 : decode cX5_in 14 = .ok (.iconst 0, 1) := by decide +kernel
theorem dX5_in_15 : decode cX5_in 15 = .ok (.ireturn, 1) := by decide +kernel
theorem dX5_greater_0 : decode cX5_greater 0 = .ok (.iload_n 0, 1) := by decide +kernel
theorem dX5_greater_1 : decode cX5_greater 1 = .ok (.iload_n 1, 1) := by decide +kernel
theorem dX5_greater_2 : decode cX5_greater 2 = .ok (.if_icmp .le 7, 3) := by decide +kernel
theorem dX5_greater_5 : decode cX5_greater 5 = .ok (.iload_n 0, 1) := by decide +kernel
theorem dX5_greater_6 : decode cX5_greater 6 = .ok (.goto 4, 3) := by decide +kernel
theorem dX5_greater_9 : decode cX5_greater 9 = .ok (.iload_n 1, 1) := by decide +kernel
theorem dX5_greater_10 : decode cX5_greater 10 = .ok (.ireturn, 1) := by decide +kernel
theorem dX5_aside_0 : decode cX5_aside 0 = .ok (.iconst 0, 1) := by decide +kernel
theorem dX5_aside_1 : decode cX5_aside 1 = .ok (.istore_n 1, 1) := by decide +kernel
theorem dX5_aside_2 : decode cX5_aside 2 = .ok (.iload_n 1, 1) := by decide +kernel
theorem dX5_aside_3 : decode cX5_aside 3 = .ok (.bipush 102, 2) := by decide +kernel
theorem dX5_aside_5 : decode cX5_aside 5 = .ok (.if_icmp .ge 21, 3) := by decide +kernel
theorem dX5_aside_8 : decode cX5_aside 8 = .ok (.aload_n 0, 1) := by decide +kernel
theorem dX5_aside_9 : decode cX5_aside 9 = .ok (.getfield 16, 3) := by decide +kernel
theorem dX5_aside_12 : decode cX5_aside 12 = .ok (.iload_n 1, 1) := by decide +kernel
theorem dX5_aside_13 : decode cX5_aside 13 = .ok (.aload_n 0, 1) := by decide +kernel
theorem dX5_aside_14 : decode cX5_aside 14 = .ok (.getfield 7, 3) := by decide +kernel
theorem dX5_aside_17 : decode cX5_aside 17 = .ok (.iload_n 1, 1) := by decide +kernel
theorem dX5_aside_18 : decode cX5_aside 18 = .ok (.iaload, 1) := by decide +kernel
theorem dX5_aside_19 : decode cX5_aside 19 = .ok (.iastore, 1) := by decide +kernel
theorem dX5_aside_20 : decode cX5_aside 20 = .ok (.iinc 1 1, 3) := by decide +kernel
theorem dX5_aside_23 : decode cX5_aside 23 = .ok (.goto (-21), 3) := by decide +kernel
theorem dX5_aside_26 : decode cX5_aside 26 = .ok (.return_, 1) := by decide +kernel
theorem dX5_layBack_0 : decode cX5_layBack 0 = .ok (.iconst 0, 1) := by decide +kernel
theorem dX5_layBack_1 : decode cX5_layBack 1 = .ok (.istore_n 1, 1) := by decide +kernel
theorem dX5_layBack_2 : decode cX5_layBack 2 = .ok (.iload_n 1, 1) := by decide +kernel
theorem dX5_layBack_3 : decode cX5_layBack 3 = .ok (.bipush 102, 2) := by decide +kernel
theorem dX5_layBack_5 : decode cX5_layBack 5 = .ok (.if_icmp .ge 21, 3) := by decide +kernel
theorem dX5_layBack_8 : decode cX5_layBack 8 = .ok (.aload_n 0, 1) := by decide +kernel
theorem dX5_layBack_9 : decode cX5_layBack 9 = .ok (.getfield 7, 3) := by decide +kernel
theorem dX5_layBack_12 : decode cX5_layBack 12 = .ok (.iload_n 1, 1) := by decide +kernel
theorem dX5_layBack_13 : decode cX5_layBack 13 = .ok (.aload_n 0, 1) := by decide +kernel
theorem dX5_layBack_14 : decode cX5_layBack 14 = .ok (.getfield 16, 3) := by decide +kernel
theorem dX5_layBack_17 : decode cX5_layBack 17 = .ok (.iload_n 1, 1) := by decide +kernel
theorem dX5_layBack_18 : decode cX5_layBack 18 = .ok (.iaload, 1) := by decide +kernel
theorem dX5_layBack_19 : decode cX5_layBack 19 = .ok (.iastore, 1) := by decide +kernel
theorem dX5_layBack_20 : decode cX5_layBack 20 = .ok (.iinc 1 1, 3) := by decide +kernel
theorem dX5_layBack_23 : decode cX5_layBack 23 = .ok (.goto (-21), 3) := by decide +kernel
theorem dX5_layBack_26 : decode cX5_layBack 26 = .ok (.return_, 1) := by decide +kernel
theorem dX5_keeps_0 : decode cX5_keeps 0 = .ok (.aload_n 0, 1) := by decide +kernel
theorem dX5_keeps_1 : decode cX5_keeps 1 = .ok (.getfield 28, 3) := by decide +kernel
theorem dX5_keeps_4 : decode cX5_keeps 4 = .ok (.iconst 5, 1) := by decide +kernel
theorem dX5_keeps_5 : decode cX5_keeps 5 = .ok (.if_icmp .ne 43, 3) := by decide +kernel
theorem dX5_keeps_8 : decode cX5_keeps 8 = .ok (.iconst 0, 1) := by decide +kernel
theorem dX5_keeps_9 : decode cX5_keeps 9 = .ok (.istore_n 1, 1) := by decide +kernel
theorem dX5_keeps_10 : decode cX5_keeps 10 = .ok (.iload_n 1, 1) := by decide +kernel
theorem dX5_keeps_11 : decode cX5_keeps 11 = .ok (.sipush 408, 3) := by decide +kernel
theorem dX5_keeps_14 : decode cX5_keeps 14 = .ok (.if_icmp .ge 24, 3) := by decide +kernel
theorem dX5_keeps_17 : decode cX5_keeps 17 = .ok (.aload_n 0, 1) := by decide +kernel
theorem dX5_keeps_18 : decode cX5_keeps 18 = .ok (.getfield 13, 3) := by decide +kernel
theorem dX5_keeps_21 : decode cX5_keeps 21 = .ok (.iload_n 1, 1) := by decide +kernel
theorem dX5_keeps_22 : decode cX5_keeps 22 = .ok (.aload_n 0, 1) := by decide +kernel
theorem dX5_keeps_23 : decode cX5_keeps 23 = .ok (.getfield 13, 3) := by decide +kernel
theorem dX5_keeps_26 : decode cX5_keeps 26 = .ok (.iload_n 1, 1) := by decide +kernel
theorem dX5_keeps_27 : decode cX5_keeps 27 = .ok (.bipush 102, 2) := by decide +kernel
theorem dX5_keeps_29 : decode cX5_keeps 29 = .ok (.iadd, 1) := by decide +kernel
theorem dX5_keeps_30 : decode cX5_keeps 30 = .ok (.iaload, 1) := by decide +kernel
theorem dX5_keeps_31 : decode cX5_keeps 31 = .ok (.iastore, 1) := by decide +kernel
theorem dX5_keeps_32 : decode cX5_keeps 32 = .ok (.iinc 1 1, 3) := by decide +kernel
theorem dX5_keeps_35 : decode cX5_keeps 35 = .ok (.goto (-25), 3) := by decide +kernel
theorem dX5_keeps_38 : decode cX5_keeps 38 = .ok (.aload_n 0, 1) := by decide +kernel
theorem dX5_keeps_39 : decode cX5_keeps 39 = .ok (.dup, 1) := by decide +kernel
theorem dX5_keeps_40 : decode cX5_keeps 40 = .ok (.getfield 28, 3) := by decide +kernel
theorem dX5_keeps_43 : decode cX5_keeps 43 = .ok (.iconst 1, 1) := by decide +kernel
theorem dX5_keeps_44 : decode cX5_keeps 44 = .ok (.isub, 1) := by decide +kernel
theorem dX5_keeps_45 : decode cX5_keeps 45 = .ok (.putfield 28, 3) := by decide +kernel
theorem dX5_keeps_48 : decode cX5_keeps 48 = .ok (.iconst 0, 1) := by decide +kernel
theorem dX5_keeps_49 : decode cX5_keeps 49 = .ok (.istore_n 1, 1) := by decide +kernel
theorem dX5_keeps_50 : decode cX5_keeps 50 = .ok (.iload_n 1, 1) := by decide +kernel
theorem dX5_keeps_51 : decode cX5_keeps 51 = .ok (.bipush 102, 2) := by decide +kernel
theorem dX5_keeps_53 : decode cX5_keeps 53 = .ok (.if_icmp .ge 29, 3) := by decide +kernel
theorem dX5_keeps_56 : decode cX5_keeps 56 = .ok (.aload_n 0, 1) := by decide +kernel
theorem dX5_keeps_57 : decode cX5_keeps 57 = .ok (.getfield 13, 3) := by decide +kernel
theorem dX5_keeps_60 : decode cX5_keeps 60 = .ok (.bipush 102, 2) := by decide +kernel
theorem dX5_keeps_62 : decode cX5_keeps 62 = .ok (.aload_n 0, 1) := by decide +kernel
theorem dX5_keeps_63 : decode cX5_keeps 63 = .ok (.getfield 28, 3) := by decide +kernel
theorem dX5_keeps_66 : decode cX5_keeps 66 = .ok (.imul, 1) := by decide +kernel
theorem dX5_keeps_67 : decode cX5_keeps 67 = .ok (.iload_n 1, 1) := by decide +kernel
theorem dX5_keeps_68 : decode cX5_keeps 68 = .ok (.iadd, 1) := by decide +kernel
theorem dX5_keeps_69 : decode cX5_keeps 69 = .ok (.aload_n 0, 1) := by decide +kernel
theorem dX5_keeps_70 : decode cX5_keeps 70 = .ok (.getfield 16, 3) := by decide +kernel
theorem dX5_keeps_73 : decode cX5_keeps 73 = .ok (.iload_n 1, 1) := by decide +kernel
theorem dX5_keeps_74 : decode cX5_keeps 74 = .ok (.iaload, 1) := by decide +kernel
theorem dX5_keeps_75 : decode cX5_keeps 75 = .ok (.iastore, 1) := by decide +kernel
theorem dX5_keeps_76 : decode cX5_keeps 76 = .ok (.iinc 1 1, 3) := by decide +kernel
theorem dX5_keeps_79 : decode cX5_keeps 79 = .ok (.goto (-29), 3) := by decide +kernel
theorem dX5_keeps_82 : decode cX5_keeps 82 = .ok (.aload_n 0, 1) := by decide +kernel
theorem dX5_keeps_83 : decode cX5_keeps 83 = .ok (.dup, 1) := by decide +kernel
theorem dX5_keeps_84 : decode cX5_keeps 84 = .ok (.getfield 28, 3) := by decide +kernel
theorem dX5_keeps_87 : decode cX5_keeps 87 = .ok (.iconst 1, 1) := by decide +kernel
theorem dX5_keeps_88 : decode cX5_keeps 88 = .ok (.iadd, 1) := by decide +kernel
theorem dX5_keeps_89 : decode cX5_keeps 89 = .ok (.putfield 28, 3) := by decide +kernel
theorem dX5_keeps_92 : decode cX5_keeps 92 = .ok (.return_, 1) := by decide +kernel
set_option maxRecDepth 20000 in
theorem ggX5_acted_X5_keeps : GoodIn wsX5_acted wsX5_keeps := goodIn_r _ [5, 6, 7, 8, 9, 10, 11, 12, 13, 14, 15, 16, 17, 18, 19, 20, 21, 22, 23] (by decide +kernel) (by decide +kernel)
set_option maxRecDepth 20000 in
theorem gX5_acted_X5_keeps : GoodIn wsX5_acted (wsV RX5 32 RX5 yX5_keeps wsX5_keeps) := goodIn_app (goodIn_of _ (by decide +kernel)) ggX5_acted_X5_keeps
theorem dX5_acted_0 : decode cX5_acted 0 = .ok (.iload_n 1, 1) := by decide +kernel
theorem dX5_acted_1 : decode cX5_acted 1 = .ok (.ifCond .lt 7, 3) := by decide +kernel
theorem dX5_acted_4 : decode cX5_acted 4 = .ok (.aload_n 0, 1) := by decide +kernel
theorem dX5_acted_5 : decode cX5_acted 5 = .ok (.invokevirtual 32, 3) := by decide +kernel
theorem dX5_acted_8 : decode cX5_acted 8 = .ok (.iload_n 1, 1) := by decide +kernel
theorem dX5_acted_9 : decode cX5_acted 9 = .ok (.ireturn, 1) := by decide +kernel
theorem dX5_undo_0 : decode cX5_undo 0 = .ok (.aload_n 0, 1) := by decide +kernel
theorem dX5_undo_1 : decode cX5_undo 1 = .ok (.getfield 28, 3) := by decide +kernel
theorem dX5_undo_4 : decode cX5_undo 4 = .ok (.ifCond .ne 6, 3) := by decide +kernel
theorem dX5_undo_7 : decode cX5_undo 7 = .ok (.bipush (-2), 2) := by decide +kernel
theorem dX5_undo_9 : decode cX5_undo 9 = .ok (.ireturn, 1) := by decide +kernel
theorem dX5_undo_10 : decode cX5_undo 10 = .ok (.aload_n 0, 1) := by decide +kernel
theorem dX5_undo_11 : decode cX5_undo 11 = .ok (.dup, 1) := by decide +kernel
theorem dX5_undo_12 : decode cX5_undo 12 = .ok (.getfield 28, 3) := by decide +kernel
theorem dX5_undo_15 : decode cX5_undo 15 = .ok (.iconst 1, 1) := by decide +kernel
theorem dX5_undo_16 : decode cX5_undo 16 = .ok (.isub, 1) := by decide +kernel
theorem dX5_undo_17 : decode cX5_undo 17 = .ok (.putfield 28, 3) := by decide +kernel
theorem dX5_undo_20 : decode cX5_undo 20 = .ok (.iconst 0, 1) := by decide +kernel
theorem dX5_undo_21 : decode cX5_undo 21 = .ok (.istore_n 1, 1) := by decide +kernel
theorem dX5_undo_22 : decode cX5_undo 22 = .ok (.iload_n 1, 1) := by decide +kernel
theorem dX5_undo_23 : decode cX5_undo 23 = .ok (.bipush 102, 2) := by decide +kernel
theorem dX5_undo_25 : decode cX5_undo 25 = .ok (.if_icmp .ge 29, 3) := by decide +kernel
theorem dX5_undo_28 : decode cX5_undo 28 = .ok (.aload_n 0, 1) := by decide +kernel
theorem dX5_undo_29 : decode cX5_undo 29 = .ok (.getfield 7, 3) := by decide +kernel
theorem dX5_undo_32 : decode cX5_undo 32 = .ok (.iload_n 1, 1) := by decide +kernel
theorem dX5_undo_33 : decode cX5_undo 33 = .ok (.aload_n 0, 1) := by decide +kernel
theorem dX5_undo_34 : decode cX5_undo 34 = .ok (.getfield 13, 3) := by decide +kernel
theorem dX5_undo_37 : decode cX5_undo 37 = .ok (.bipush 102, 2) := by decide +kernel
theorem dX5_undo_39 : decode cX5_undo 39 = .ok (.aload_n 0, 1) := by decide +kernel
theorem dX5_undo_40 : decode cX5_undo 40 = .ok (.getfield 28, 3) := by decide +kernel
theorem dX5_undo_43 : decode cX5_undo 43 = .ok (.imul, 1) := by decide +kernel
theorem dX5_undo_44 : decode cX5_undo 44 = .ok (.iload_n 1, 1) := by decide +kernel
theorem dX5_undo_45 : decode cX5_undo 45 = .ok (.iadd, 1) := by decide +kernel
theorem dX5_undo_46 : decode cX5_undo 46 = .ok (.iaload, 1) := by decide +kernel
theorem dX5_undo_47 : decode cX5_undo 47 = .ok (.iastore, 1) := by decide +kernel
theorem dX5_undo_48 : decode cX5_undo 48 = .ok (.iinc 1 1, 3) := by decide +kernel
theorem dX5_undo_51 : decode cX5_undo 51 = .ok (.goto (-29), 3) := by decide +kernel
theorem dX5_undo_54 : decode cX5_undo 54 = .ok (.aload_n 0, 1) := by decide +kernel
theorem dX5_undo_55 : decode cX5_undo 55 = .ok (.getfield 28, 3) := by decide +kernel
theorem dX5_undo_58 : decode cX5_undo 58 = .ok (.ireturn, 1) := by decide +kernel
set_option maxRecDepth 20000 in
theorem ggX5_isServer_X5_in : GoodIn wsX5_isServer wsX5_in := goodIn_r _ [5] (by decide +kernel) (by decide +kernel)
set_option maxRecDepth 20000 in
theorem gX5_isServer_X5_in : GoodIn wsX5_isServer (va_wsS RX5 35 yX5_in wsX5_in) := goodIn_app (goodIn_of _ (by decide +kernel)) ggX5_isServer_X5_in
theorem dX5_isServer_0 : decode cX5_isServer 0 = .ok (.iload_n 1, 1) := by decide +kernel
theorem dX5_isServer_1 : decode cX5_isServer 1 = .ok (.iconst 0, 1) := by decide +kernel
theorem dX5_isServer_2 : decode cX5_isServer 2 = .ok (.aload_n 0, 1) := by decide +kernel
theorem dX5_isServer_3 : decode cX5_isServer 3 = .ok (.getfield 7, 3) := by decide +kernel
theorem dX5_isServer_6 : decode cX5_isServer 6 = .ok (.iconst 0, 1) := by decide +kernel
theorem dX5_isServer_7 : decode cX5_isServer 7 = .ok (.iaload, 1) := by decide +kernel
theorem dX5_isServer_8 : decode cX5_isServer 8 = .ok (.iconst 1, 1) := by decide +kernel
theorem dX5_isServer_9 : decode cX5_isServer 9 = .ok (.isub, 1) := by decide +kernel
theorem dX5_isServer_10 : decode cX5_isServer 10 = .ok (.invokestatic 35, 3) := by decide +kernel
theorem dX5_isServer_13 : decode cX5_isServer 13 = .ok (.ireturn, 1) := by decide +kernel
set_option maxRecDepth 20000 in
theorem ggX5_isJob_X5_in : GoodIn wsX5_isJob wsX5_in := goodIn_r _ [5] (by decide +kernel) (by decide +kernel)
set_option maxRecDepth 20000 in
theorem gX5_isJob_X5_in : GoodIn wsX5_isJob (va_wsS RX5 35 yX5_in wsX5_in) := goodIn_app (goodIn_of _ (by decide +kernel)) ggX5_isJob_X5_in
theorem dX5_isJob_0 : decode cX5_isJob 0 = .ok (.iload_n 1, 1) := by decide +kernel
theorem dX5_isJob_1 : decode cX5_isJob 1 = .ok (.iconst 0, 1) := by decide +kernel
theorem dX5_isJob_2 : decode cX5_isJob 2 = .ok (.aload_n 0, 1) := by decide +kernel
theorem dX5_isJob_3 : decode cX5_isJob 3 = .ok (.getfield 7, 3) := by decide +kernel
theorem dX5_isJob_6 : decode cX5_isJob 6 = .ok (.iconst 2, 1) := by decide +kernel
theorem dX5_isJob_7 : decode cX5_isJob 7 = .ok (.iaload, 1) := by decide +kernel
theorem dX5_isJob_8 : decode cX5_isJob 8 = .ok (.iconst 1, 1) := by decide +kernel
theorem dX5_isJob_9 : decode cX5_isJob 9 = .ok (.isub, 1) := by decide +kernel
theorem dX5_isJob_10 : decode cX5_isJob 10 = .ok (.invokestatic 35, 3) := by decide +kernel
theorem dX5_isJob_13 : decode cX5_isJob 13 = .ok (.ireturn, 1) := by decide +kernel
theorem dX5_of_0 : decode cX5_of 0 = .ok (.aload_n 0, 1) := by decide +kernel
theorem dX5_of_1 : decode cX5_of 1 = .ok (.getfield 7, 3) := by decide +kernel
theorem dX5_of_4 : decode cX5_of 4 = .ok (.bipush 6, 2) := by decide +kernel
theorem dX5_of_6 : decode cX5_of 6 = .ok (.iconst 4, 1) := by decide +kernel
theorem dX5_of_7 : decode cX5_of 7 = .ok (.iload_n 1, 1) := by decide +kernel
theorem dX5_of_8 : decode cX5_of 8 = .ok (.imul, 1) := by decide +kernel
theorem dX5_of_9 : decode cX5_of 9 = .ok (.iadd, 1) := by decide +kernel
theorem dX5_of_10 : decode cX5_of 10 = .ok (.iload_n 2, 1) := by decide +kernel
theorem dX5_of_11 : decode cX5_of 11 = .ok (.iadd, 1) := by decide +kernel
theorem dX5_of_12 : decode cX5_of 12 = .ok (.iaload, 1) := by decide +kernel
theorem dX5_of_13 : decode cX5_of 13 = .ok (.ireturn, 1) := by decide +kernel
set_option maxRecDepth 20000 in
theorem ggX5_isOpen_X5_isServer : GoodIn wsX5_isOpen wsX5_isServer := goodIn_r _ [6, 1, 7, 8, 5, 9, 10, 11, 12, 13, 14, 15, 16, 17, 18, 19, 20, 21, 22, 23, 24] (by decide +kernel) (by decide +kernel)
set_option maxRecDepth 20000 in
theorem gX5_isOpen_X5_isServer : GoodIn wsX5_isOpen (wsV RX5 39 RX5 yX5_isServer wsX5_isServer) := goodIn_app (goodIn_of _ (by decide +kernel)) ggX5_isOpen_X5_isServer
theorem dX5_isOpen_0 : decode cX5_isOpen 0 = .ok (.aload_n 0, 1) := by decide +kernel
theorem dX5_isOpen_1 : decode cX5_isOpen 1 = .ok (.iload_n 1, 1) := by decide +kernel
theorem dX5_isOpen_2 : decode cX5_isOpen 2 = .ok (.invokevirtual 39, 3) := by decide +kernel
theorem dX5_isOpen_5 : decode cX5_isOpen 5 = .ok (.ifCond .eq 21, 3) := by decide +kernel
theorem dX5_isOpen_8 : decode cX5_isOpen 8 = .ok (.aload_n 0, 1) := by decide +kernel
theorem dX5_isOpen_9 : decode cX5_isOpen 9 = .ok (.getfield 7, 3) := by decide +kernel
theorem dX5_isOpen_12 : decode cX5_isOpen 12 = .ok (.iconst 1, 1) := by decide +kernel
theorem dX5_isOpen_13 : decode cX5_isOpen 13 = .ok (.iaload, 1) := by decide +kernel
theorem dX5_isOpen_14 : decode cX5_isOpen 14 = .ok (.iload_n 1, 1) := by decide +kernel
theorem dX5_isOpen_15 : decode cX5_isOpen 15 = .ok (.ishr, 1) := by decide +kernel
theorem dX5_isOpen_16 : decode cX5_isOpen 16 = .ok (.iconst 1, 1) := by decide +kernel
theorem dX5_isOpen_17 : decode cX5_isOpen 17 = .ok (.iand, 1) := by decide +kernel
theorem dX5_isOpen_18 : decode cX5_isOpen 18 = .ok (.iconst 1, 1) := by decide +kernel
theorem dX5_isOpen_19 : decode cX5_isOpen 19 = .ok (.if_icmp .ne 7, 3) := by decide +kernel
theorem dX5_isOpen_22 : decode cX5_isOpen 22 = .ok (.iconst 1, 1) := by decide +kernel
theorem dX5_isOpen_23 : decode cX5_isOpen 23 = .ok (.goto 4, 3) := by decide +kernel
theorem dX5_isOpen_26 : decode cX5_isOpen 26 = .ok (.iconst 0, 1) := by decide +kernel
theorem dX5_isOpen_27 : decode cX5_isOpen 27 = .ok (.ireturn, 1) := by decide +kernel
set_option maxRecDepth 20000 in
theorem ggX5_isDone_X5_of : GoodIn wsX5_isDone wsX5_of := goodIn_r _ [5, 6, 7, 8, 9, 10, 11, 12, 13, 14, 15, 16, 17, 18, 19, 20, 21] (by decide +kernel) (by decide +kernel)
set_option maxRecDepth 20000 in
theorem gX5_isDone_X5_of : GoodIn wsX5_isDone (wsV RX5 43 RX5 yX5_of wsX5_of) := goodIn_app (goodIn_of _ (by decide +kernel)) ggX5_isDone_X5_of
theorem dX5_isDone_0 : decode cX5_isDone 0 = .ok (.aload_n 0, 1) := by decide +kernel
theorem dX5_isDone_1 : decode cX5_isDone 1 = .ok (.iload_n 1, 1) := by decide +kernel
theorem dX5_isDone_2 : decode cX5_isDone 2 = .ok (.iconst 2, 1) := by decide +kernel
theorem dX5_isDone_3 : decode cX5_isDone 3 = .ok (.invokevirtual 43, 3) := by decide +kernel
theorem dX5_isDone_6 : decode cX5_isDone 6 = .ok (.bipush (-9), 2) := by decide +kernel
theorem dX5_isDone_8 : decode cX5_isDone 8 = .ok (.if_icmp .ne 7, 3) := by decide +kernel
theorem dX5_isDone_11 : decode cX5_isDone 11 = .ok (.iconst 1, 1) := by decide +kernel
theorem dX5_isDone_12 : decode cX5_isDone 12 = .ok (.goto 4, 3) := by decide +kernel
theorem dX5_isDone_15 : decode cX5_isDone 15 = .ok (.iconst 0, 1) := by decide +kernel
theorem dX5_isDone_16 : decode cX5_isDone 16 = .ok (.ireturn, 1) := by decide +kernel
theorem dX5_opens_0 : decode cX5_opens 0 = .ok (.iconst 0, 1) := by decide +kernel
theorem dX5_opens_1 : decode cX5_opens 1 = .ok (.istore_n 1, 1) := by decide +kernel
theorem dX5_opens_2 : decode cX5_opens 2 = .ok (.iconst 0, 1) := by decide +kernel
theorem dX5_opens_3 : decode cX5_opens 3 = .ok (.istore_n 2, 1) := by decide +kernel
theorem dX5_opens_4 : decode cX5_opens 4 = .ok (.iload_n 2, 1) := by decide +kernel
theorem dX5_opens_5 : decode cX5_opens 5 = .ok (.bipush 6, 2) := by decide +kernel
theorem dX5_opens_7 : decode cX5_opens 7 = .ok (.if_icmp .ge 22, 3) := by decide +kernel
theorem dX5_opens_10 : decode cX5_opens 10 = .ok (.iload_n 1, 1) := by decide +kernel
theorem dX5_opens_11 : decode cX5_opens 11 = .ok (.aload_n 0, 1) := by decide +kernel
theorem dX5_opens_12 : decode cX5_opens 12 = .ok (.getfield 7, 3) := by decide +kernel
theorem dX5_opens_15 : decode cX5_opens 15 = .ok (.iconst 1, 1) := by decide +kernel
theorem dX5_opens_16 : decode cX5_opens 16 = .ok (.iaload, 1) := by decide +kernel
theorem dX5_opens_17 : decode cX5_opens 17 = .ok (.iload_n 2, 1) := by decide +kernel
theorem dX5_opens_18 : decode cX5_opens 18 = .ok (.ishr, 1) := by decide +kernel
theorem dX5_opens_19 : decode cX5_opens 19 = .ok (.iconst 1, 1) := by decide +kernel
theorem dX5_opens_20 : decode cX5_opens 20 = .ok (.iand, 1) := by decide +kernel
theorem dX5_opens_21 : decode cX5_opens 21 = .ok (.iadd, 1) := by decide +kernel
theorem dX5_opens_22 : decode cX5_opens 22 = .ok (.istore_n 1, 1) := by decide +kernel
theorem dX5_opens_23 : decode cX5_opens 23 = .ok (.iinc 2 1, 3) := by decide +kernel
theorem dX5_opens_26 : decode cX5_opens 26 = .ok (.goto (-22), 3) := by decide +kernel
theorem dX5_opens_29 : decode cX5_opens 29 = .ok (.iload_n 1, 1) := by decide +kernel
theorem dX5_opens_30 : decode cX5_opens 30 = .ok (.ireturn, 1) := by decide +kernel
set_option maxRecDepth 20000 in
theorem ggX5_load_X5_of : GoodIn wsX5_load wsX5_of := goodIn_r _ [6, 1, 7, 8, 9, 10, 11, 12, 13, 14, 15, 16, 17, 18, 19, 20, 21] (by decide +kernel) (by decide +kernel)
set_option maxRecDepth 20000 in
theorem gX5_load_X5_of : GoodIn wsX5_load (wsV RX5 43 RX5 yX5_of wsX5_of) := goodIn_app (goodIn_of _ (by decide +kernel)) ggX5_load_X5_of
theorem dX5_load_0 : decode cX5_load 0 = .ok (.iconst 0, 1) := by decide +kernel
theorem dX5_load_1 : decode cX5_load 1 = .ok (.istore_n 2, 1) := by decide +kernel
theorem dX5_load_2 : decode cX5_load 2 = .ok (.iconst 0, 1) := by decide +kernel
theorem dX5_load_3 : decode cX5_load 3 = .ok (.istore_n 3, 1) := by decide +kernel
theorem dX5_load_4 : decode cX5_load 4 = .ok (.iload_n 3, 1) := by decide +kernel
theorem dX5_load_5 : decode cX5_load 5 = .ok (.aload_n 0, 1) := by decide +kernel
theorem dX5_load_6 : decode cX5_load 6 = .ok (.getfield 7, 3) := by decide +kernel
theorem dX5_load_9 : decode cX5_load 9 = .ok (.iconst 2, 1) := by decide +kernel
theorem dX5_load_10 : decode cX5_load 10 = .ok (.iaload, 1) := by decide +kernel
theorem dX5_load_11 : decode cX5_load 11 = .ok (.if_icmp .ge 32, 3) := by decide +kernel
theorem dX5_load_14 : decode cX5_load 14 = .ok (.iload_n 2, 1) := by decide +kernel
theorem dX5_load_15 : decode cX5_load 15 = .ok (.aload_n 0, 1) := by decide +kernel
theorem dX5_load_16 : decode cX5_load 16 = .ok (.iload_n 3, 1) := by decide +kernel
theorem dX5_load_17 : decode cX5_load 17 = .ok (.iconst 2, 1) := by decide +kernel
theorem dX5_load_18 : decode cX5_load 18 = .ok (.invokevirtual 43, 3) := by decide +kernel
theorem dX5_load_21 : decode cX5_load 21 = .ok (.iload_n 1, 1) := by decide +kernel
theorem dX5_load_22 : decode cX5_load 22 = .ok (.if_icmp .ne 12, 3) := by decide +kernel
theorem dX5_load_25 : decode cX5_load 25 = .ok (.aload_n 0, 1) := by decide +kernel
theorem dX5_load_26 : decode cX5_load 26 = .ok (.iload_n 3, 1) := by decide +kernel
theorem dX5_load_27 : decode cX5_load 27 = .ok (.iconst 0, 1) := by decide +kernel
theorem dX5_load_28 : decode cX5_load 28 = .ok (.invokevirtual 43, 3) := by decide +kernel
theorem dX5_load_31 : decode cX5_load 31 = .ok (.goto 4, 3) := by decide +kernel
theorem dX5_load_34 : decode cX5_load 34 = .ok (.iconst 0, 1) := by decide +kernel
theorem dX5_load_35 : decode cX5_load 35 = .ok (.iadd, 1) := by decide +kernel
theorem dX5_load_36 : decode cX5_load 36 = .ok (.istore_n 2, 1) := by decide +kernel
theorem dX5_load_37 : decode cX5_load 37 = .ok (.iinc 3 1, 3) := by decide +kernel
theorem dX5_load_40 : decode cX5_load 40 = .ok (.goto (-36), 3) := by decide +kernel
theorem dX5_load_43 : decode cX5_load 43 = .ok (.iload_n 2, 1) := by decide +kernel
theorem dX5_load_44 : decode cX5_load 44 = .ok (.ireturn, 1) := by decide +kernel
set_option maxRecDepth 20000 in
theorem ggX5_allLoads_X5_isDone : GoodIn wsX5_allLoads wsX5_isDone := goodIn_r _ [6, 7, 8, 9, 5, 10, 1, 11, 12, 13, 14, 15, 16, 17, 18, 19, 20, 21, 22, 23, 24, 25] (by decide +kernel) (by decide +kernel)
set_option maxRecDepth 20000 in
theorem gX5_allLoads_X5_isDone : GoodIn wsX5_allLoads (wsV RX5 47 RX5 yX5_isDone wsX5_isDone) := goodIn_app (goodIn_of _ (by decide +kernel)) ggX5_allLoads_X5_isDone
set_option maxRecDepth 20000 in
theorem ggX5_allLoads_X5_of : GoodIn wsX5_allLoads wsX5_of := goodIn_r _ [10, 1, 11, 12, 13, 14, 15, 16, 17, 18, 19, 20, 21, 22, 23, 24, 25] (by decide +kernel) (by decide +kernel)
set_option maxRecDepth 20000 in
theorem gX5_allLoads_X5_of : GoodIn wsX5_allLoads (wsV RX5 43 RX5 yX5_of wsX5_of) := goodIn_app (goodIn_of _ (by decide +kernel)) ggX5_allLoads_X5_of
theorem dX5_allLoads_0 : decode cX5_allLoads 0 = .ok (.iconst 0, 1) := by decide +kernel
theorem dX5_allLoads_1 : decode cX5_allLoads 1 = .ok (.istore_n 1, 1) := by decide +kernel
theorem dX5_allLoads_2 : decode cX5_allLoads 2 = .ok (.iconst 0, 1) := by decide +kernel
theorem dX5_allLoads_3 : decode cX5_allLoads 3 = .ok (.istore_n 2, 1) := by decide +kernel
theorem dX5_allLoads_4 : decode cX5_allLoads 4 = .ok (.iload_n 2, 1) := by decide +kernel
theorem dX5_allLoads_5 : decode cX5_allLoads 5 = .ok (.aload_n 0, 1) := by decide +kernel
theorem dX5_allLoads_6 : decode cX5_allLoads 6 = .ok (.getfield 7, 3) := by decide +kernel
theorem dX5_allLoads_9 : decode cX5_allLoads 9 = .ok (.iconst 2, 1) := by decide +kernel
theorem dX5_allLoads_10 : decode cX5_allLoads 10 = .ok (.iaload, 1) := by decide +kernel
theorem dX5_allLoads_11 : decode cX5_allLoads 11 = .ok (.if_icmp .ge 30, 3) := by decide +kernel
theorem dX5_allLoads_14 : decode cX5_allLoads 14 = .ok (.iload_n 1, 1) := by decide +kernel
theorem dX5_allLoads_15 : decode cX5_allLoads 15 = .ok (.aload_n 0, 1) := by decide +kernel
theorem dX5_allLoads_16 : decode cX5_allLoads 16 = .ok (.iload_n 2, 1) := by decide +kernel
theorem dX5_allLoads_17 : decode cX5_allLoads 17 = .ok (.invokevirtual 47, 3) := by decide +kernel
theorem dX5_allLoads_20 : decode cX5_allLoads 20 = .ok (.ifCond .eq 7, 3) := by decide +kernel
theorem dX5_allLoads_23 : decode cX5_allLoads 23 = .ok (.iconst 0, 1) := by decide +kernel
theorem dX5_allLoads_24 : decode cX5_allLoads 24 = .ok (.goto 9, 3) := by decide +kernel
theorem dX5_allLoads_27 : decode cX5_allLoads 27 = .ok (.aload_n 0, 1) := by decide +kernel
theorem dX5_allLoads_28 : decode cX5_allLoads 28 = .ok (.iload_n 2, 1) := by decide +kernel
theorem dX5_allLoads_29 : decode cX5_allLoads 29 = .ok (.iconst 0, 1) := by decide +kernel
theorem dX5_allLoads_30 : decode cX5_allLoads 30 = .ok (.invokevirtual 43, 3) := by decide +kernel
theorem dX5_allLoads_33 : decode cX5_allLoads 33 = .ok (.iadd, 1) := by decide +kernel
theorem dX5_allLoads_34 : decode cX5_allLoads 34 = .ok (.istore_n 1, 1) := by decide +kernel
theorem dX5_allLoads_35 : decode cX5_allLoads 35 = .ok (.iinc 2 1, 3) := by decide +kernel
theorem dX5_allLoads_38 : decode cX5_allLoads 38 = .ok (.goto (-34), 3) := by decide +kernel
theorem dX5_allLoads_41 : decode cX5_allLoads 41 = .ok (.iload_n 1, 1) := by decide +kernel
theorem dX5_allLoads_42 : decode cX5_allLoads 42 = .ok (.ireturn, 1) := by decide +kernel
set_option maxRecDepth 20000 in
theorem ggX5_greatest_X5_load : GoodIn wsX5_greatest wsX5_load := goodIn_r _ [6, 1, 7, 8, 9, 5, 10, 14, 15, 16, 17, 18, 19, 20, 21, 22, 23, 24, 25, 26, 27, 28] (by decide +kernel) (by decide +kernel)
set_option maxRecDepth 20000 in
theorem gX5_greatest_X5_load : GoodIn wsX5_greatest (wsV RX5 50 RX5 yX5_load wsX5_load) := goodIn_app (goodIn_of _ (by decide +kernel)) ggX5_greatest_X5_load
set_option maxRecDepth 20000 in
theorem ggX5_greatest_X5_greater : GoodIn wsX5_greatest wsX5_greater := goodIn_r _ [13] (by decide +kernel) (by decide +kernel)
set_option maxRecDepth 20000 in
theorem gX5_greatest_X5_greater : GoodIn wsX5_greatest (va_wsS RX5 54 yX5_greater wsX5_greater) := goodIn_app (goodIn_of _ (by decide +kernel)) ggX5_greatest_X5_greater
theorem dX5_greatest_0 : decode cX5_greatest 0 = .ok (.iconst 0, 1) := by decide +kernel
theorem dX5_greatest_1 : decode cX5_greatest 1 = .ok (.istore_n 1, 1) := by decide +kernel
theorem dX5_greatest_2 : decode cX5_greatest 2 = .ok (.iconst 0, 1) := by decide +kernel
theorem dX5_greatest_3 : decode cX5_greatest 3 = .ok (.istore_n 2, 1) := by decide +kernel
theorem dX5_greatest_4 : decode cX5_greatest 4 = .ok (.iload_n 2, 1) := by decide +kernel
theorem dX5_greatest_5 : decode cX5_greatest 5 = .ok (.aload_n 0, 1) := by decide +kernel
theorem dX5_greatest_6 : decode cX5_greatest 6 = .ok (.getfield 7, 3) := by decide +kernel
theorem dX5_greatest_9 : decode cX5_greatest 9 = .ok (.iconst 0, 1) := by decide +kernel
theorem dX5_greatest_10 : decode cX5_greatest 10 = .ok (.iaload, 1) := by decide +kernel
theorem dX5_greatest_11 : decode cX5_greatest 11 = .ok (.if_icmp .ge 19, 3) := by decide +kernel
theorem dX5_greatest_14 : decode cX5_greatest 14 = .ok (.iload_n 1, 1) := by decide +kernel
theorem dX5_greatest_15 : decode cX5_greatest 15 = .ok (.aload_n 0, 1) := by decide +kernel
theorem dX5_greatest_16 : decode cX5_greatest 16 = .ok (.iload_n 2, 1) := by decide +kernel
theorem dX5_greatest_17 : decode cX5_greatest 17 = .ok (.invokevirtual 50, 3) := by decide +kernel
theorem dX5_greatest_20 : decode cX5_greatest 20 = .ok (.invokestatic 54, 3) := by decide +kernel
theorem dX5_greatest_23 : decode cX5_greatest 23 = .ok (.istore_n 1, 1) := by decide +kernel
theorem dX5_greatest_24 : decode cX5_greatest 24 = .ok (.iinc 2 1, 3) := by decide +kernel
theorem dX5_greatest_27 : decode cX5_greatest 27 = .ok (.goto (-23), 3) := by decide +kernel
theorem dX5_greatest_30 : decode cX5_greatest 30 = .ok (.iload_n 1, 1) := by decide +kernel
theorem dX5_greatest_31 : decode cX5_greatest 31 = .ok (.ireturn, 1) := by decide +kernel
set_option maxRecDepth 20000 in
theorem ggX5_bound_X5_isDone : GoodIn wsX5_bound wsX5_isDone := goodIn_r _ [6, 7, 8, 9, 5, 10, 1, 22, 23, 24, 25, 26, 27, 28, 29, 30, 31, 32, 33, 34, 35, 36] (by decide +kernel) (by decide +kernel)
set_option maxRecDepth 20000 in
theorem gX5_bound_X5_isDone : GoodIn wsX5_bound (wsV RX5 47 RX5 yX5_isDone wsX5_isDone) := goodIn_app (goodIn_of _ (by decide +kernel)) ggX5_bound_X5_isDone
set_option maxRecDepth 20000 in
theorem ggX5_bound_X5_of : GoodIn wsX5_bound wsX5_of := goodIn_r _ [10, 1, 22, 23, 24, 25, 26, 27, 28, 29, 30, 31, 32, 33, 34, 35, 36] (by decide +kernel) (by decide +kernel)
set_option maxRecDepth 20000 in
theorem gX5_bound_X5_of : GoodIn wsX5_bound (wsV RX5 43 RX5 yX5_of wsX5_of) := goodIn_app (goodIn_of _ (by decide +kernel)) ggX5_bound_X5_of
set_option maxRecDepth 20000 in
theorem ggX5_bound_X5_greater : GoodIn wsX5_bound wsX5_greater := goodIn_r _ [13] (by decide +kernel) (by decide +kernel)
set_option maxRecDepth 20000 in
theorem gX5_bound_X5_greater : GoodIn wsX5_bound (va_wsS RX5 54 yX5_greater wsX5_greater) := goodIn_app (goodIn_of _ (by decide +kernel)) ggX5_bound_X5_greater
set_option maxRecDepth 20000 in
theorem ggX5_bound_X5_opens : GoodIn wsX5_bound wsX5_opens := goodIn_r _ [17, 1, 22, 23, 24, 25, 26, 27, 28, 29, 30, 31, 32, 33, 34, 35, 36] (by decide +kernel) (by decide +kernel)
set_option maxRecDepth 20000 in
theorem gX5_bound_X5_opens : GoodIn wsX5_bound (wsV RX5 57 RX5 yX5_opens wsX5_opens) := goodIn_app (goodIn_of _ (by decide +kernel)) ggX5_bound_X5_opens
set_option maxRecDepth 20000 in
theorem ggX5_bound_X5_allLoads : GoodIn wsX5_bound wsX5_allLoads := goodIn_r _ [21, 1, 2, 3, 4, 5, 6, 7, 8, 9, 10, 22, 23, 24, 25, 26, 27, 28, 29, 30, 31, 32, 33, 34, 35, 36] (by decide +kernel) (by decide +kernel)
set_option maxRecDepth 20000 in
theorem gX5_bound_X5_allLoads : GoodIn wsX5_bound (wsV RX5 61 RX5 yX5_allLoads wsX5_allLoads) := goodIn_app (goodIn_of _ (by decide +kernel)) ggX5_bound_X5_allLoads
theorem dX5_bound_0 : decode cX5_bound 0 = .ok (.iconst 0, 1) := by decide +kernel
theorem dX5_bound_1 : decode cX5_bound 1 = .ok (.istore_n 1, 1) := by decide +kernel
theorem dX5_bound_2 : decode cX5_bound 2 = .ok (.iconst 0, 1) := by decide +kernel
theorem dX5_bound_3 : decode cX5_bound 3 = .ok (.istore_n 2, 1) := by decide +kernel
theorem dX5_bound_4 : decode cX5_bound 4 = .ok (.iload_n 2, 1) := by decide +kernel
theorem dX5_bound_5 : decode cX5_bound 5 = .ok (.aload_n 0, 1) := by decide +kernel
theorem dX5_bound_6 : decode cX5_bound 6 = .ok (.getfield 7, 3) := by decide +kernel
theorem dX5_bound_9 : decode cX5_bound 9 = .ok (.iconst 2, 1) := by decide +kernel
theorem dX5_bound_10 : decode cX5_bound 10 = .ok (.iaload, 1) := by decide +kernel
theorem dX5_bound_11 : decode cX5_bound 11 = .ok (.if_icmp .ge 32, 3) := by decide +kernel
theorem dX5_bound_14 : decode cX5_bound 14 = .ok (.aload_n 0, 1) := by decide +kernel
theorem dX5_bound_15 : decode cX5_bound 15 = .ok (.iload_n 2, 1) := by decide +kernel
theorem dX5_bound_16 : decode cX5_bound 16 = .ok (.invokevirtual 47, 3) := by decide +kernel
theorem dX5_bound_19 : decode cX5_bound 19 = .ok (.ifCond .eq 7, 3) := by decide +kernel
theorem dX5_bound_22 : decode cX5_bound 22 = .ok (.iload_n 1, 1) := by decide +kernel
theorem dX5_bound_23 : decode cX5_bound 23 = .ok (.goto 13, 3) := by decide +kernel
theorem dX5_bound_26 : decode cX5_bound 26 = .ok (.iload_n 1, 1) := by decide +kernel
theorem dX5_bound_27 : decode cX5_bound 27 = .ok (.aload_n 0, 1) := by decide +kernel
theorem dX5_bound_28 : decode cX5_bound 28 = .ok (.iload_n 2, 1) := by decide +kernel
theorem dX5_bound_29 : decode cX5_bound 29 = .ok (.iconst 0, 1) := by decide +kernel
theorem dX5_bound_30 : decode cX5_bound 30 = .ok (.invokevirtual 43, 3) := by decide +kernel
theorem dX5_bound_33 : decode cX5_bound 33 = .ok (.invokestatic 54, 3) := by decide +kernel
theorem dX5_bound_36 : decode cX5_bound 36 = .ok (.istore_n 1, 1) := by decide +kernel
theorem dX5_bound_37 : decode cX5_bound 37 = .ok (.iinc 2 1, 3) := by decide +kernel
theorem dX5_bound_40 : decode cX5_bound 40 = .ok (.goto (-36), 3) := by decide +kernel
theorem dX5_bound_43 : decode cX5_bound 43 = .ok (.aload_n 0, 1) := by decide +kernel
theorem dX5_bound_44 : decode cX5_bound 44 = .ok (.invokevirtual 57, 3) := by decide +kernel
theorem dX5_bound_47 : decode cX5_bound 47 = .ok (.istore_n 2, 1) := by decide +kernel
theorem dX5_bound_48 : decode cX5_bound 48 = .ok (.iload_n 2, 1) := by decide +kernel
theorem dX5_bound_49 : decode cX5_bound 49 = .ok (.ifCond .ne 7, 3) := by decide +kernel
theorem dX5_bound_52 : decode cX5_bound 52 = .ok (.iconst 0, 1) := by decide +kernel
theorem dX5_bound_53 : decode cX5_bound 53 = .ok (.goto 17, 3) := by decide +kernel
theorem dX5_bound_56 : decode cX5_bound 56 = .ok (.iload_n 1, 1) := by decide +kernel
theorem dX5_bound_57 : decode cX5_bound 57 = .ok (.aload_n 0, 1) := by decide +kernel
theorem dX5_bound_58 : decode cX5_bound 58 = .ok (.invokevirtual 61, 3) := by decide +kernel
theorem dX5_bound_61 : decode cX5_bound 61 = .ok (.iload_n 2, 1) := by decide +kernel
theorem dX5_bound_62 : decode cX5_bound 62 = .ok (.iadd, 1) := by decide +kernel
theorem dX5_bound_63 : decode cX5_bound 63 = .ok (.iconst 1, 1) := by decide +kernel
theorem dX5_bound_64 : decode cX5_bound 64 = .ok (.isub, 1) := by decide +kernel
theorem dX5_bound_65 : decode cX5_bound 65 = .ok (.iload_n 2, 1) := by decide +kernel
theorem dX5_bound_66 : decode cX5_bound 66 = .ok (.idiv, 1) := by decide +kernel
theorem dX5_bound_67 : decode cX5_bound 67 = .ok (.invokestatic 54, 3) := by decide +kernel
theorem dX5_bound_70 : decode cX5_bound 70 = .ok (.ireturn, 1) := by decide +kernel
set_option maxRecDepth 20000 in
theorem ggX5_target_X5_bound : GoodIn wsX5_target wsX5_bound := goodIn_r _ [6, 1, 7, 8, 9, 5, 10, 11, 12, 13, 14, 15, 16, 17, 18, 19, 20, 21, 22, 23, 24, 25, 26, 27, 28, 29, 30, 31, 32, 33, 34, 35, 36, 37, 38, 39, 40] (by decide +kernel) (by decide +kernel)
set_option maxRecDepth 20000 in
theorem gX5_target_X5_bound : GoodIn wsX5_target (wsV RX5 64 RX5 yX5_bound wsX5_bound) := goodIn_app (goodIn_of _ (by decide +kernel)) ggX5_target_X5_bound
theorem dX5_target_0 : decode cX5_target 0 = .ok (.aload_n 0, 1) := by decide +kernel
theorem dX5_target_1 : decode cX5_target 1 = .ok (.invokevirtual 64, 3) := by decide +kernel
theorem dX5_target_4 : decode cX5_target 4 = .ok (.aload_n 0, 1) := by decide +kernel
theorem dX5_target_5 : decode cX5_target 5 = .ok (.getfield 7, 3) := by decide +kernel
theorem dX5_target_8 : decode cX5_target 8 = .ok (.iconst 4, 1) := by decide +kernel
theorem dX5_target_9 : decode cX5_target 9 = .ok (.iaload, 1) := by decide +kernel
theorem dX5_target_10 : decode cX5_target 10 = .ok (.imul, 1) := by decide +kernel
theorem dX5_target_11 : decode cX5_target 11 = .ok (.bipush 100, 2) := by decide +kernel
theorem dX5_target_13 : decode cX5_target 13 = .ok (.idiv, 1) := by decide +kernel
theorem dX5_target_14 : decode cX5_target 14 = .ok (.ireturn, 1) := by decide +kernel
set_option maxRecDepth 20000 in
theorem ggX5_areEven_X5_greatest : GoodIn wsX5_areEven wsX5_greatest := goodIn_r _ [5, 6, 7, 8, 9, 4, 10, 11, 12, 13, 14, 15, 16, 17, 38, 39, 40, 41, 42, 43, 44, 45, 46, 47, 48, 49, 50, 51, 52] (by decide +kernel) (by decide +kernel)
set_option maxRecDepth 20000 in
theorem gX5_areEven_X5_greatest : GoodIn wsX5_areEven (wsV RX5 67 RX5 yX5_greatest wsX5_greatest) := goodIn_app (goodIn_of _ (by decide +kernel)) ggX5_areEven_X5_greatest
set_option maxRecDepth 20000 in
theorem ggX5_areEven_X5_target : GoodIn wsX5_areEven wsX5_target := goodIn_r _ [21, 6, 22, 23, 24, 4, 25, 26, 27, 28, 29, 11, 12, 13, 14, 15, 16, 17, 30, 31, 32, 33, 34, 35, 36, 37, 38, 39, 40, 41, 42, 43, 44, 45, 46, 47, 48, 49, 50, 51, 52] (by decide +kernel) (by decide +kernel)
set_option maxRecDepth 20000 in
theorem gX5_areEven_X5_target : GoodIn wsX5_areEven (wsV RX5 70 RX5 yX5_target wsX5_target) := goodIn_app (goodIn_of _ (by decide +kernel)) ggX5_areEven_X5_target
theorem dX5_areEven_0 : decode cX5_areEven 0 = .ok (.aload_n 0, 1) := by decide +kernel
theorem dX5_areEven_1 : decode cX5_areEven 1 = .ok (.invokevirtual 67, 3) := by decide +kernel
theorem dX5_areEven_4 : decode cX5_areEven 4 = .ok (.aload_n 0, 1) := by decide +kernel
theorem dX5_areEven_5 : decode cX5_areEven 5 = .ok (.invokevirtual 70, 3) := by decide +kernel
theorem dX5_areEven_8 : decode cX5_areEven 8 = .ok (.if_icmp .gt 7, 3) := by decide +kernel
theorem dX5_areEven_11 : decode cX5_areEven 11 = .ok (.iconst 1, 1) := by decide +kernel
theorem dX5_areEven_12 : decode cX5_areEven 12 = .ok (.goto 4, 3) := by decide +kernel
theorem dX5_areEven_15 : decode cX5_areEven 15 = .ok (.iconst 0, 1) := by decide +kernel
theorem dX5_areEven_16 : decode cX5_areEven 16 = .ok (.ireturn, 1) := by decide +kernel
set_option maxRecDepth 20000 in
theorem ggX5_addServer_X5_aside : GoodIn wsX5_addServer wsX5_aside := goodIn_r _ [6, 7, 1, 18, 19, 20, 21, 22, 23, 24, 25, 26, 27, 28, 29, 30, 31, 32] (by decide +kernel) (by decide +kernel)
set_option maxRecDepth 20000 in
theorem gX5_addServer_X5_aside : GoodIn wsX5_addServer (wsV RX5 73 RX5 yX5_aside wsX5_aside) := goodIn_app (goodIn_of _ (by decide +kernel)) ggX5_addServer_X5_aside
set_option maxRecDepth 20000 in
theorem ggX5_addServer_X5_acted : GoodIn wsX5_addServer wsX5_acted := goodIn_r _ [11, 12, 13, 14, 5, 15, 16, 17, 7, 18, 19, 20, 21, 22, 23, 24, 25, 26, 27, 28, 29, 30, 31, 32] (by decide +kernel) (by decide +kernel)
set_option maxRecDepth 20000 in
theorem gX5_addServer_X5_acted : GoodIn wsX5_addServer (wsV RX5 76 RX5 yX5_acted wsX5_acted) := goodIn_app (goodIn_of _ (by decide +kernel)) ggX5_addServer_X5_acted
theorem dX5_addServer_0 : decode cX5_addServer 0 = .ok (.aload_n 0, 1) := by decide +kernel
theorem dX5_addServer_1 : decode cX5_addServer 1 = .ok (.getfield 7, 3) := by decide +kernel
theorem dX5_addServer_4 : decode cX5_addServer 4 = .ok (.iconst 0, 1) := by decide +kernel
theorem dX5_addServer_5 : decode cX5_addServer 5 = .ok (.iaload, 1) := by decide +kernel
theorem dX5_addServer_6 : decode cX5_addServer 6 = .ok (.bipush 6, 2) := by decide +kernel
theorem dX5_addServer_8 : decode cX5_addServer 8 = .ok (.if_icmp .ne 6, 3) := by decide +kernel
theorem dX5_addServer_11 : decode cX5_addServer 11 = .ok (.bipush (-3), 2) := by decide +kernel
theorem dX5_addServer_13 : decode cX5_addServer 13 = .ok (.ireturn, 1) := by decide +kernel
theorem dX5_addServer_14 : decode cX5_addServer 14 = .ok (.aload_n 0, 1) := by decide +kernel
theorem dX5_addServer_15 : decode cX5_addServer 15 = .ok (.invokevirtual 73, 3) := by decide +kernel
theorem dX5_addServer_18 : decode cX5_addServer 18 = .ok (.aload_n 0, 1) := by decide +kernel
theorem dX5_addServer_19 : decode cX5_addServer 19 = .ok (.getfield 7, 3) := by decide +kernel
theorem dX5_addServer_22 : decode cX5_addServer 22 = .ok (.iconst 1, 1) := by decide +kernel
theorem dX5_addServer_23 : decode cX5_addServer 23 = .ok (.dup2, 1) := by decide +kernel
theorem dX5_addServer_24 : decode cX5_addServer 24 = .ok (.iaload, 1) := by decide +kernel
theorem dX5_addServer_25 : decode cX5_addServer 25 = .ok (.iconst 1, 1) := by decide +kernel
theorem dX5_addServer_26 : decode cX5_addServer 26 = .ok (.aload_n 0, 1) := by decide +kernel
theorem dX5_addServer_27 : decode cX5_addServer 27 = .ok (.getfield 7, 3) := by decide +kernel
theorem dX5_addServer_30 : decode cX5_addServer 30 = .ok (.iconst 0, 1) := by decide +kernel
theorem dX5_addServer_31 : decode cX5_addServer 31 = .ok (.iaload, 1) := by decide +kernel
theorem dX5_addServer_32 : decode cX5_addServer 32 = .ok (.ishl, 1) := by decide +kernel
theorem dX5_addServer_33 : decode cX5_addServer 33 = .ok (.ior, 1) := by decide +kernel
theorem dX5_addServer_34 : decode cX5_addServer 34 = .ok (.iastore, 1) := by decide +kernel
theorem dX5_addServer_35 : decode cX5_addServer 35 = .ok (.aload_n 0, 1) := by decide +kernel
theorem dX5_addServer_36 : decode cX5_addServer 36 = .ok (.getfield 7, 3) := by decide +kernel
theorem dX5_addServer_39 : decode cX5_addServer 39 = .ok (.iconst 0, 1) := by decide +kernel
theorem dX5_addServer_40 : decode cX5_addServer 40 = .ok (.dup2, 1) := by decide +kernel
theorem dX5_addServer_41 : decode cX5_addServer 41 = .ok (.iaload, 1) := by decide +kernel
theorem dX5_addServer_42 : decode cX5_addServer 42 = .ok (.iconst 1, 1) := by decide +kernel
theorem dX5_addServer_43 : decode cX5_addServer 43 = .ok (.iadd, 1) := by decide +kernel
theorem dX5_addServer_44 : decode cX5_addServer 44 = .ok (.iastore, 1) := by decide +kernel
theorem dX5_addServer_45 : decode cX5_addServer 45 = .ok (.aload_n 0, 1) := by decide +kernel
theorem dX5_addServer_46 : decode cX5_addServer 46 = .ok (.aload_n 0, 1) := by decide +kernel
theorem dX5_addServer_47 : decode cX5_addServer 47 = .ok (.getfield 7, 3) := by decide +kernel
theorem dX5_addServer_50 : decode cX5_addServer 50 = .ok (.iconst 0, 1) := by decide +kernel
theorem dX5_addServer_51 : decode cX5_addServer 51 = .ok (.iaload, 1) := by decide +kernel
theorem dX5_addServer_52 : decode cX5_addServer 52 = .ok (.iconst 1, 1) := by decide +kernel
theorem dX5_addServer_53 : decode cX5_addServer 53 = .ok (.isub, 1) := by decide +kernel
theorem dX5_addServer_54 : decode cX5_addServer 54 = .ok (.invokevirtual 76, 3) := by decide +kernel
theorem dX5_addServer_57 : decode cX5_addServer 57 = .ok (.ireturn, 1) := by decide +kernel
set_option maxRecDepth 20000 in
theorem ggX5_adds_X5_in : GoodIn wsX5_adds wsX5_in := goodIn_r _ [5] (by decide +kernel) (by decide +kernel)
set_option maxRecDepth 20000 in
theorem gX5_adds_X5_in : GoodIn wsX5_adds (va_wsS RX5 35 yX5_in wsX5_in) := goodIn_app (goodIn_of _ (by decide +kernel)) ggX5_adds_X5_in
set_option maxRecDepth 20000 in
theorem ggX5_adds_X5_isServer : GoodIn wsX5_adds wsX5_isServer := goodIn_r _ [9, 1, 2, 3, 4, 5, 14, 15, 16, 17, 18, 19, 20, 21, 22, 23, 24, 25, 26, 27, 28] (by decide +kernel) (by decide +kernel)
set_option maxRecDepth 20000 in
theorem gX5_adds_X5_isServer : GoodIn wsX5_adds (wsV RX5 39 RX5 yX5_isServer wsX5_isServer) := goodIn_app (goodIn_of _ (by decide +kernel)) ggX5_adds_X5_isServer
set_option maxRecDepth 20000 in
theorem ggX5_adds_X5_isOpen : GoodIn wsX5_adds wsX5_isOpen := goodIn_r _ [13, 1, 6, 7, 8, 4, 9, 2, 3, 5, 14, 15, 16, 17, 18, 19, 20, 21, 22, 23, 24, 25, 26, 27, 28] (by decide +kernel) (by decide +kernel)
set_option maxRecDepth 20000 in
theorem gX5_adds_X5_isOpen : GoodIn wsX5_adds (wsV RX5 79 RX5 yX5_isOpen wsX5_isOpen) := goodIn_app (goodIn_of _ (by decide +kernel)) ggX5_adds_X5_isOpen
theorem dX5_adds_0 : decode cX5_adds 0 = .ok (.iload_n 1, 1) := by decide +kernel
theorem dX5_adds_1 : decode cX5_adds 1 = .ok (.iconst 1, 1) := by decide +kernel
theorem dX5_adds_2 : decode cX5_adds 2 = .ok (.sipush 1000, 3) := by decide +kernel
theorem dX5_adds_5 : decode cX5_adds 5 = .ok (.invokestatic 35, 3) := by decide +kernel
theorem dX5_adds_8 : decode cX5_adds 8 = .ok (.ifCond .eq 21, 3) := by decide +kernel
theorem dX5_adds_11 : decode cX5_adds 11 = .ok (.iload_n 2, 1) := by decide +kernel
theorem dX5_adds_12 : decode cX5_adds 12 = .ok (.iconst 0, 1) := by decide +kernel
theorem dX5_adds_13 : decode cX5_adds 13 = .ok (.bipush 100, 2) := by decide +kernel
theorem dX5_adds_15 : decode cX5_adds 15 = .ok (.invokestatic 35, 3) := by decide +kernel
theorem dX5_adds_18 : decode cX5_adds 18 = .ok (.ifCond .eq 11, 3) := by decide +kernel
theorem dX5_adds_21 : decode cX5_adds 21 = .ok (.aload_n 0, 1) := by decide +kernel
theorem dX5_adds_22 : decode cX5_adds 22 = .ok (.iload_n 3, 1) := by decide +kernel
theorem dX5_adds_23 : decode cX5_adds 23 = .ok (.invokevirtual 39, 3) := by decide +kernel
theorem dX5_adds_26 : decode cX5_adds 26 = .ok (.ifCond .ne 5, 3) := by decide +kernel
theorem dX5_adds_29 : decode cX5_adds 29 = .ok (.iconst (-1), 1) := by decide +kernel
theorem dX5_adds_30 : decode cX5_adds 30 = .ok (.ireturn, 1) := by decide +kernel
theorem dX5_adds_31 : decode cX5_adds 31 = .ok (.aload_n 0, 1) := by decide +kernel
theorem dX5_adds_32 : decode cX5_adds 32 = .ok (.iload_n 3, 1) := by decide +kernel
theorem dX5_adds_33 : decode cX5_adds 33 = .ok (.invokevirtual 79, 3) := by decide +kernel
theorem dX5_adds_36 : decode cX5_adds 36 = .ok (.ifCond .ne 6, 3) := by decide +kernel
theorem dX5_adds_39 : decode cX5_adds 39 = .ok (.bipush (-2), 2) := by decide +kernel
theorem dX5_adds_41 : decode cX5_adds 41 = .ok (.ireturn, 1) := by decide +kernel
theorem dX5_adds_42 : decode cX5_adds 42 = .ok (.aload_n 0, 1) := by decide +kernel
theorem dX5_adds_43 : decode cX5_adds 43 = .ok (.getfield 7, 3) := by decide +kernel
theorem dX5_adds_46 : decode cX5_adds 46 = .ok (.iconst 2, 1) := by decide +kernel
theorem dX5_adds_47 : decode cX5_adds 47 = .ok (.iaload, 1) := by decide +kernel
theorem dX5_adds_48 : decode cX5_adds 48 = .ok (.bipush 24, 2) := by decide +kernel
theorem dX5_adds_50 : decode cX5_adds 50 = .ok (.if_icmp .ne 6, 3) := by decide +kernel
theorem dX5_adds_53 : decode cX5_adds 53 = .ok (.bipush (-3), 2) := by decide +kernel
theorem dX5_adds_55 : decode cX5_adds 55 = .ok (.ireturn, 1) := by decide +kernel
theorem dX5_adds_56 : decode cX5_adds 56 = .ok (.bipush 6, 2) := by decide +kernel
theorem dX5_adds_58 : decode cX5_adds 58 = .ok (.iconst 4, 1) := by decide +kernel
theorem dX5_adds_59 : decode cX5_adds 59 = .ok (.aload_n 0, 1) := by decide +kernel
theorem dX5_adds_60 : decode cX5_adds 60 = .ok (.getfield 7, 3) := by decide +kernel
theorem dX5_adds_63 : decode cX5_adds 63 = .ok (.iconst 2, 1) := by decide +kernel
theorem dX5_adds_64 : decode cX5_adds 64 = .ok (.iaload, 1) := by decide +kernel
theorem dX5_adds_65 : decode cX5_adds 65 = .ok (.imul, 1) := by decide +kernel
theorem dX5_adds_66 : decode cX5_adds 66 = .ok (.iadd, 1) := by decide +kernel
theorem dX5_adds_67 : decode cX5_adds 67 = .ok (.istore 4, 2) := by decide +kernel
theorem dX5_adds_69 : decode cX5_adds 69 = .ok (.aload_n 0, 1) := by decide +kernel
theorem dX5_adds_70 : decode cX5_adds 70 = .ok (.getfield 7, 3) := by decide +kernel
theorem dX5_adds_73 : decode cX5_adds 73 = .ok (.iload 4, 2) := by decide +kernel
theorem dX5_adds_75 : decode cX5_adds 75 = .ok (.iload_n 1, 1) := by decide +kernel
theorem dX5_adds_76 : decode cX5_adds 76 = .ok (.iastore, 1) := by decide +kernel
theorem dX5_adds_77 : decode cX5_adds 77 = .ok (.aload_n 0, 1) := by decide +kernel
theorem dX5_adds_78 : decode cX5_adds 78 = .ok (.getfield 7, 3) := by decide +kernel
theorem dX5_adds_81 : decode cX5_adds 81 = .ok (.iload 4, 2) := by decide +kernel
theorem dX5_adds_83 : decode cX5_adds 83 = .ok (.iconst 1, 1) := by decide +kernel
theorem dX5_adds_84 : decode cX5_adds 84 = .ok (.iadd, 1) := by decide +kernel
theorem dX5_adds_85 : decode cX5_adds 85 = .ok (.iload_n 2, 1) := by decide +kernel
theorem dX5_adds_86 : decode cX5_adds 86 = .ok (.iastore, 1) := by decide +kernel
theorem dX5_adds_87 : decode cX5_adds 87 = .ok (.aload_n 0, 1) := by decide +kernel
theorem dX5_adds_88 : decode cX5_adds 88 = .ok (.getfield 7, 3) := by decide +kernel
theorem dX5_adds_91 : decode cX5_adds 91 = .ok (.iload 4, 2) := by decide +kernel
theorem dX5_adds_93 : decode cX5_adds 93 = .ok (.iconst 2, 1) := by decide +kernel
theorem dX5_adds_94 : decode cX5_adds 94 = .ok (.iadd, 1) := by decide +kernel
theorem dX5_adds_95 : decode cX5_adds 95 = .ok (.iload_n 3, 1) := by decide +kernel
theorem dX5_adds_96 : decode cX5_adds 96 = .ok (.iastore, 1) := by decide +kernel
theorem dX5_adds_97 : decode cX5_adds 97 = .ok (.aload_n 0, 1) := by decide +kernel
theorem dX5_adds_98 : decode cX5_adds 98 = .ok (.getfield 7, 3) := by decide +kernel
theorem dX5_adds_101 : decode cX5_adds 101 = .ok (.iload 4, 2) := by decide +kernel
theorem dX5_adds_103 : decode cX5_adds 103 = .ok (.iconst 3, 1) := by decide +kernel
theorem dX5_adds_104 : decode cX5_adds 104 = .ok (.iadd, 1) := by decide +kernel
theorem dX5_adds_105 : decode cX5_adds 105 = .ok (.iconst 0, 1) := by decide +kernel
theorem dX5_adds_106 : decode cX5_adds 106 = .ok (.iastore, 1) := by decide +kernel
theorem dX5_adds_107 : decode cX5_adds 107 = .ok (.aload_n 0, 1) := by decide +kernel
theorem dX5_adds_108 : decode cX5_adds 108 = .ok (.getfield 7, 3) := by decide +kernel
theorem dX5_adds_111 : decode cX5_adds 111 = .ok (.iconst 2, 1) := by decide +kernel
theorem dX5_adds_112 : decode cX5_adds 112 = .ok (.dup2, 1) := by decide +kernel
theorem dX5_adds_113 : decode cX5_adds 113 = .ok (.iaload, 1) := by decide +kernel
theorem dX5_adds_114 : decode cX5_adds 114 = .ok (.iconst 1, 1) := by decide +kernel
theorem dX5_adds_115 : decode cX5_adds 115 = .ok (.iadd, 1) := by decide +kernel
theorem dX5_adds_116 : decode cX5_adds 116 = .ok (.iastore, 1) := by decide +kernel
theorem dX5_adds_117 : decode cX5_adds 117 = .ok (.aload_n 0, 1) := by decide +kernel
theorem dX5_adds_118 : decode cX5_adds 118 = .ok (.getfield 7, 3) := by decide +kernel
theorem dX5_adds_121 : decode cX5_adds 121 = .ok (.iconst 2, 1) := by decide +kernel
theorem dX5_adds_122 : decode cX5_adds 122 = .ok (.iaload, 1) := by decide +kernel
theorem dX5_adds_123 : decode cX5_adds 123 = .ok (.iconst 1, 1) := by decide +kernel
theorem dX5_adds_124 : decode cX5_adds 124 = .ok (.isub, 1) := by decide +kernel
theorem dX5_adds_125 : decode cX5_adds 125 = .ok (.ireturn, 1) := by decide +kernel
set_option maxRecDepth 20000 in
theorem ggX5_add_X5_aside : GoodIn wsX5_add wsX5_aside := goodIn_r _ [5, 6, 7, 33, 34, 35, 36, 37, 38, 39, 40, 41, 42, 43, 44, 45, 46, 47] (by decide +kernel) (by decide +kernel)
set_option maxRecDepth 20000 in
theorem gX5_add_X5_aside : GoodIn wsX5_add (wsV RX5 73 RX5 yX5_aside wsX5_aside) := goodIn_app (goodIn_of _ (by decide +kernel)) ggX5_add_X5_aside
set_option maxRecDepth 20000 in
theorem ggX5_add_X5_adds : GoodIn wsX5_add wsX5_adds := goodIn_r _ [11, 7, 12, 13, 4, 14, 15, 16, 17, 18, 19, 20, 21, 22, 33, 34, 35, 36, 37, 38, 39, 40, 41, 42, 43, 44, 45, 46, 47] (by decide +kernel) (by decide +kernel)
set_option maxRecDepth 20000 in
theorem gX5_add_X5_adds : GoodIn wsX5_add (wsV RX5 82 RX5 yX5_adds wsX5_adds) := goodIn_app (goodIn_of _ (by decide +kernel)) ggX5_add_X5_adds
set_option maxRecDepth 20000 in
theorem ggX5_add_X5_acted : GoodIn wsX5_add wsX5_acted := goodIn_r _ [26, 27, 28, 29, 4, 30, 31, 32, 6, 33, 34, 35, 36, 37, 38, 39, 40, 41, 42, 43, 44, 45, 46, 47] (by decide +kernel) (by decide +kernel)
set_option maxRecDepth 20000 in
theorem gX5_add_X5_acted : GoodIn wsX5_add (wsV RX5 76 RX5 yX5_acted wsX5_acted) := goodIn_app (goodIn_of _ (by decide +kernel)) ggX5_add_X5_acted
theorem dX5_add_0 : decode cX5_add 0 = .ok (.aload_n 0, 1) := by decide +kernel
theorem dX5_add_1 : decode cX5_add 1 = .ok (.invokevirtual 73, 3) := by decide +kernel
theorem dX5_add_4 : decode cX5_add 4 = .ok (.aload_n 0, 1) := by decide +kernel
theorem dX5_add_5 : decode cX5_add 5 = .ok (.aload_n 0, 1) := by decide +kernel
theorem dX5_add_6 : decode cX5_add 6 = .ok (.iload_n 1, 1) := by decide +kernel
theorem dX5_add_7 : decode cX5_add 7 = .ok (.iload_n 2, 1) := by decide +kernel
theorem dX5_add_8 : decode cX5_add 8 = .ok (.iload_n 3, 1) := by decide +kernel
theorem dX5_add_9 : decode cX5_add 9 = .ok (.invokevirtual 82, 3) := by decide +kernel
theorem dX5_add_12 : decode cX5_add 12 = .ok (.invokevirtual 76, 3) := by decide +kernel
theorem dX5_add_15 : decode cX5_add 15 = .ok (.ireturn, 1) := by decide +kernel
set_option maxRecDepth 20000 in
theorem ggX5_finishes_X5_isJob : GoodIn wsX5_finishes wsX5_isJob := goodIn_r _ [6, 1, 7, 8, 5, 9, 18, 19, 20, 21, 22, 23, 24, 25, 26, 27, 28, 29, 30, 31, 32] (by decide +kernel) (by decide +kernel)
set_option maxRecDepth 20000 in
theorem gX5_finishes_X5_isJob : GoodIn wsX5_finishes (wsV RX5 86 RX5 yX5_isJob wsX5_isJob) := goodIn_app (goodIn_of _ (by decide +kernel)) ggX5_finishes_X5_isJob
set_option maxRecDepth 20000 in
theorem ggX5_finishes_X5_of : GoodIn wsX5_finishes wsX5_of := goodIn_r _ [13, 1, 18, 19, 20, 21, 22, 23, 24, 25, 26, 27, 28, 29, 30, 31, 32] (by decide +kernel) (by decide +kernel)
set_option maxRecDepth 20000 in
theorem gX5_finishes_X5_of : GoodIn wsX5_finishes (wsV RX5 43 RX5 yX5_of wsX5_of) := goodIn_app (goodIn_of _ (by decide +kernel)) ggX5_finishes_X5_of
set_option maxRecDepth 20000 in
theorem ggX5_finishes_X5_load : GoodIn wsX5_finishes wsX5_load := goodIn_r _ [17, 1, 10, 11, 12, 5, 13, 18, 19, 20, 21, 22, 23, 24, 25, 26, 27, 28, 29, 30, 31, 32] (by decide +kernel) (by decide +kernel)
set_option maxRecDepth 20000 in
theorem gX5_finishes_X5_load : GoodIn wsX5_finishes (wsV RX5 50 RX5 yX5_load wsX5_load) := goodIn_app (goodIn_of _ (by decide +kernel)) ggX5_finishes_X5_load
theorem dX5_finishes_0 : decode cX5_finishes 0 = .ok (.aload_n 0, 1) := by decide +kernel
theorem dX5_finishes_1 : decode cX5_finishes 1 = .ok (.iload_n 1, 1) := by decide +kernel
theorem dX5_finishes_2 : decode cX5_finishes 2 = .ok (.invokevirtual 86, 3) := by decide +kernel
theorem dX5_finishes_5 : decode cX5_finishes 5 = .ok (.ifCond .ne 5, 3) := by decide +kernel
theorem dX5_finishes_8 : decode cX5_finishes 8 = .ok (.iconst (-1), 1) := by decide +kernel
theorem dX5_finishes_9 : decode cX5_finishes 9 = .ok (.ireturn, 1) := by decide +kernel
theorem dX5_finishes_10 : decode cX5_finishes 10 = .ok (.aload_n 0, 1) := by decide +kernel
theorem dX5_finishes_11 : decode cX5_finishes 11 = .ok (.iload_n 1, 1) := by decide +kernel
theorem dX5_finishes_12 : decode cX5_finishes 12 = .ok (.iconst 2, 1) := by decide +kernel
theorem dX5_finishes_13 : decode cX5_finishes 13 = .ok (.invokevirtual 43, 3) := by decide +kernel
theorem dX5_finishes_16 : decode cX5_finishes 16 = .ok (.istore_n 2, 1) := by decide +kernel
theorem dX5_finishes_17 : decode cX5_finishes 17 = .ok (.iload_n 2, 1) := by decide +kernel
theorem dX5_finishes_18 : decode cX5_finishes 18 = .ok (.bipush (-9), 2) := by decide +kernel
theorem dX5_finishes_20 : decode cX5_finishes 20 = .ok (.if_icmp .ne 6, 3) := by decide +kernel
theorem dX5_finishes_23 : decode cX5_finishes 23 = .ok (.bipush (-2), 2) := by decide +kernel
theorem dX5_finishes_25 : decode cX5_finishes 25 = .ok (.ireturn, 1) := by decide +kernel
theorem dX5_finishes_26 : decode cX5_finishes 26 = .ok (.aload_n 0, 1) := by decide +kernel
theorem dX5_finishes_27 : decode cX5_finishes 27 = .ok (.getfield 7, 3) := by decide +kernel
theorem dX5_finishes_30 : decode cX5_finishes 30 = .ok (.bipush 6, 2) := by decide +kernel
theorem dX5_finishes_32 : decode cX5_finishes 32 = .ok (.iconst 4, 1) := by decide +kernel
theorem dX5_finishes_33 : decode cX5_finishes 33 = .ok (.iload_n 1, 1) := by decide +kernel
theorem dX5_finishes_34 : decode cX5_finishes 34 = .ok (.imul, 1) := by decide +kernel
theorem dX5_finishes_35 : decode cX5_finishes 35 = .ok (.iadd, 1) := by decide +kernel
theorem dX5_finishes_36 : decode cX5_finishes 36 = .ok (.iconst 2, 1) := by decide +kernel
theorem dX5_finishes_37 : decode cX5_finishes 37 = .ok (.iadd, 1) := by decide +kernel
theorem dX5_finishes_38 : decode cX5_finishes 38 = .ok (.bipush (-9), 2) := by decide +kernel
theorem dX5_finishes_40 : decode cX5_finishes 40 = .ok (.iastore, 1) := by decide +kernel
theorem dX5_finishes_41 : decode cX5_finishes 41 = .ok (.aload_n 0, 1) := by decide +kernel
theorem dX5_finishes_42 : decode cX5_finishes 42 = .ok (.iload_n 2, 1) := by decide +kernel
theorem dX5_finishes_43 : decode cX5_finishes 43 = .ok (.invokevirtual 50, 3) := by decide +kernel
theorem dX5_finishes_46 : decode cX5_finishes 46 = .ok (.ireturn, 1) := by decide +kernel
set_option maxRecDepth 20000 in
theorem ggX5_finish_X5_aside : GoodIn wsX5_finish wsX5_aside := goodIn_r _ [5, 6, 7, 37, 38, 39, 40, 41, 42, 43, 44, 45, 46, 47, 48, 49, 50, 51] (by decide +kernel) (by decide +kernel)
set_option maxRecDepth 20000 in
theorem gX5_finish_X5_aside : GoodIn wsX5_finish (wsV RX5 73 RX5 yX5_aside wsX5_aside) := goodIn_app (goodIn_of _ (by decide +kernel)) ggX5_finish_X5_aside
set_option maxRecDepth 20000 in
theorem ggX5_finish_X5_finishes : GoodIn wsX5_finish wsX5_finishes := goodIn_r _ [11, 7, 12, 13, 14, 4, 15, 16, 17, 18, 19, 20, 21, 22, 23, 24, 25, 26, 37, 38, 39, 40, 41, 42, 43, 44, 45, 46, 47, 48, 49, 50, 51] (by decide +kernel) (by decide +kernel)
set_option maxRecDepth 20000 in
theorem gX5_finish_X5_finishes : GoodIn wsX5_finish (wsV RX5 89 RX5 yX5_finishes wsX5_finishes) := goodIn_app (goodIn_of _ (by decide +kernel)) ggX5_finish_X5_finishes
set_option maxRecDepth 20000 in
theorem ggX5_finish_X5_acted : GoodIn wsX5_finish wsX5_acted := goodIn_r _ [30, 31, 32, 33, 4, 34, 35, 36, 6, 37, 38, 39, 40, 41, 42, 43, 44, 45, 46, 47, 48, 49, 50, 51] (by decide +kernel) (by decide +kernel)
set_option maxRecDepth 20000 in
theorem gX5_finish_X5_acted : GoodIn wsX5_finish (wsV RX5 76 RX5 yX5_acted wsX5_acted) := goodIn_app (goodIn_of _ (by decide +kernel)) ggX5_finish_X5_acted
theorem dX5_finish_0 : decode cX5_finish 0 = .ok (.aload_n 0, 1) := by decide +kernel
theorem dX5_finish_1 : decode cX5_finish 1 = .ok (.invokevirtual 73, 3) := by decide +kernel
theorem dX5_finish_4 : decode cX5_finish 4 = .ok (.aload_n 0, 1) := by decide +kernel
theorem dX5_finish_5 : decode cX5_finish 5 = .ok (.aload_n 0, 1) := by decide +kernel
theorem dX5_finish_6 : decode cX5_finish 6 = .ok (.iload_n 1, 1) := by decide +kernel
theorem dX5_finish_7 : decode cX5_finish 7 = .ok (.invokevirtual 89, 3) := by decide +kernel
theorem dX5_finish_10 : decode cX5_finish 10 = .ok (.invokevirtual 76, 3) := by decide +kernel
theorem dX5_finish_13 : decode cX5_finish 13 = .ok (.ireturn, 1) := by decide +kernel
set_option maxRecDepth 20000 in
theorem ggX5_setBudget_X5_in : GoodIn wsX5_setBudget wsX5_in := goodIn_r _ [5] (by decide +kernel) (by decide +kernel)
set_option maxRecDepth 20000 in
theorem gX5_setBudget_X5_in : GoodIn wsX5_setBudget (va_wsS RX5 35 yX5_in wsX5_in) := goodIn_app (goodIn_of _ (by decide +kernel)) ggX5_setBudget_X5_in
set_option maxRecDepth 20000 in
theorem ggX5_setBudget_X5_aside : GoodIn wsX5_setBudget wsX5_aside := goodIn_r _ [9, 10, 1, 21, 22, 23, 24, 25, 26, 27, 28, 29, 30, 31, 32, 33, 34, 35] (by decide +kernel) (by decide +kernel)
set_option maxRecDepth 20000 in
theorem gX5_setBudget_X5_aside : GoodIn wsX5_setBudget (wsV RX5 73 RX5 yX5_aside wsX5_aside) := goodIn_app (goodIn_of _ (by decide +kernel)) ggX5_setBudget_X5_aside
set_option maxRecDepth 20000 in
theorem ggX5_setBudget_X5_acted : GoodIn wsX5_setBudget wsX5_acted := goodIn_r _ [14, 15, 16, 17, 4, 18, 19, 20, 10, 21, 22, 23, 24, 25, 26, 27, 28, 29, 30, 31, 32, 33, 34, 35] (by decide +kernel) (by decide +kernel)
set_option maxRecDepth 20000 in
theorem gX5_setBudget_X5_acted : GoodIn wsX5_setBudget (wsV RX5 76 RX5 yX5_acted wsX5_acted) := goodIn_app (goodIn_of _ (by decide +kernel)) ggX5_setBudget_X5_acted
theorem dX5_setBudget_0 : decode cX5_setBudget 0 = .ok (.iload_n 1, 1) := by decide +kernel
theorem dX5_setBudget_1 : decode cX5_setBudget 1 = .ok (.iconst 0, 1) := by decide +kernel
theorem dX5_setBudget_2 : decode cX5_setBudget 2 = .ok (.sipush 10000, 3) := by decide +kernel
theorem dX5_setBudget_5 : decode cX5_setBudget 5 = .ok (.invokestatic 35, 3) := by decide +kernel
theorem dX5_setBudget_8 : decode cX5_setBudget 8 = .ok (.ifCond .ne 5, 3) := by decide +kernel
theorem dX5_setBudget_11 : decode cX5_setBudget 11 = .ok (.iconst (-1), 1) := by decide +kernel
theorem dX5_setBudget_12 : decode cX5_setBudget 12 = .ok (.ireturn, 1) := by decide +kernel
theorem dX5_setBudget_13 : decode cX5_setBudget 13 = .ok (.aload_n 0, 1) := by decide +kernel
theorem dX5_setBudget_14 : decode cX5_setBudget 14 = .ok (.invokevirtual 73, 3) := by decide +kernel
theorem dX5_setBudget_17 : decode cX5_setBudget 17 = .ok (.aload_n 0, 1) := by decide +kernel
theorem dX5_setBudget_18 : decode cX5_setBudget 18 = .ok (.getfield 7, 3) := by decide +kernel
theorem dX5_setBudget_21 : decode cX5_setBudget 21 = .ok (.iconst 3, 1) := by decide +kernel
theorem dX5_setBudget_22 : decode cX5_setBudget 22 = .ok (.iaload, 1) := by decide +kernel
theorem dX5_setBudget_23 : decode cX5_setBudget 23 = .ok (.istore_n 2, 1) := by decide +kernel
theorem dX5_setBudget_24 : decode cX5_setBudget 24 = .ok (.aload_n 0, 1) := by decide +kernel
theorem dX5_setBudget_25 : decode cX5_setBudget 25 = .ok (.getfield 7, 3) := by decide +kernel
theorem dX5_setBudget_28 : decode cX5_setBudget 28 = .ok (.iconst 3, 1) := by decide +kernel
theorem dX5_setBudget_29 : decode cX5_setBudget 29 = .ok (.iload_n 1, 1) := by decide +kernel
theorem dX5_setBudget_30 : decode cX5_setBudget 30 = .ok (.iastore, 1) := by decide +kernel
theorem dX5_setBudget_31 : decode cX5_setBudget 31 = .ok (.aload_n 0, 1) := by decide +kernel
theorem dX5_setBudget_32 : decode cX5_setBudget 32 = .ok (.iload_n 2, 1) := by decide +kernel
theorem dX5_setBudget_33 : decode cX5_setBudget 33 = .ok (.invokevirtual 76, 3) := by decide +kernel
theorem dX5_setBudget_36 : decode cX5_setBudget 36 = .ok (.ireturn, 1) := by decide +kernel
set_option maxRecDepth 20000 in
theorem ggX5_setFactor_X5_in : GoodIn wsX5_setFactor wsX5_in := goodIn_r _ [5] (by decide +kernel) (by decide +kernel)
set_option maxRecDepth 20000 in
theorem gX5_setFactor_X5_in : GoodIn wsX5_setFactor (va_wsS RX5 35 yX5_in wsX5_in) := goodIn_app (goodIn_of _ (by decide +kernel)) ggX5_setFactor_X5_in
set_option maxRecDepth 20000 in
theorem ggX5_setFactor_X5_aside : GoodIn wsX5_setFactor wsX5_aside := goodIn_r _ [9, 10, 1, 48, 49, 50, 51, 52, 53, 54, 55, 56, 57, 58, 59, 60, 61, 62] (by decide +kernel) (by decide +kernel)
set_option maxRecDepth 20000 in
theorem gX5_setFactor_X5_aside : GoodIn wsX5_setFactor (wsV RX5 73 RX5 yX5_aside wsX5_aside) := goodIn_app (goodIn_of _ (by decide +kernel)) ggX5_setFactor_X5_aside
set_option maxRecDepth 20000 in
theorem ggX5_setFactor_X5_target : GoodIn wsX5_setFactor wsX5_target := goodIn_r _ [14, 1, 15, 16, 17, 4, 18, 19, 20, 21, 22, 23, 24, 25, 26, 27, 28, 29, 30, 31, 32, 33, 34, 35, 36, 37, 48, 49, 50, 51, 52, 53, 54, 55, 56, 57, 58, 59, 60, 61, 62] (by decide +kernel) (by decide +kernel)
set_option maxRecDepth 20000 in
theorem gX5_setFactor_X5_target : GoodIn wsX5_setFactor (wsV RX5 70 RX5 yX5_target wsX5_target) := goodIn_app (goodIn_of _ (by decide +kernel)) ggX5_setFactor_X5_target
set_option maxRecDepth 20000 in
theorem ggX5_setFactor_X5_acted : GoodIn wsX5_setFactor wsX5_acted := goodIn_r _ [41, 42, 43, 44, 4, 45, 46, 47, 10, 48, 49, 50, 51, 52, 53, 54, 55, 56, 57, 58, 59, 60, 61, 62] (by decide +kernel) (by decide +kernel)
set_option maxRecDepth 20000 in
theorem gX5_setFactor_X5_acted : GoodIn wsX5_setFactor (wsV RX5 76 RX5 yX5_acted wsX5_acted) := goodIn_app (goodIn_of _ (by decide +kernel)) ggX5_setFactor_X5_acted
theorem dX5_setFactor_0 : decode cX5_setFactor 0 = .ok (.iload_n 1, 1) := by decide +kernel
theorem dX5_setFactor_1 : decode cX5_setFactor 1 = .ok (.bipush 100, 2) := by decide +kernel
theorem dX5_setFactor_3 : decode cX5_setFactor 3 = .ok (.sipush 400, 3) := by decide +kernel
theorem dX5_setFactor_6 : decode cX5_setFactor 6 = .ok (.invokestatic 35, 3) := by decide +kernel
theorem dX5_setFactor_9 : decode cX5_setFactor 9 = .ok (.ifCond .ne 5, 3) := by decide +kernel
theorem dX5_setFactor_12 : decode cX5_setFactor 12 = .ok (.iconst (-1), 1) := by decide +kernel
theorem dX5_setFactor_13 : decode cX5_setFactor 13 = .ok (.ireturn, 1) := by decide +kernel
theorem dX5_setFactor_14 : decode cX5_setFactor 14 = .ok (.aload_n 0, 1) := by decide +kernel
theorem dX5_setFactor_15 : decode cX5_setFactor 15 = .ok (.invokevirtual 73, 3) := by decide +kernel
theorem dX5_setFactor_18 : decode cX5_setFactor 18 = .ok (.aload_n 0, 1) := by decide +kernel
theorem dX5_setFactor_19 : decode cX5_setFactor 19 = .ok (.getfield 7, 3) := by decide +kernel
theorem dX5_setFactor_22 : decode cX5_setFactor 22 = .ok (.iconst 4, 1) := by decide +kernel
theorem dX5_setFactor_23 : decode cX5_setFactor 23 = .ok (.iload_n 1, 1) := by decide +kernel
theorem dX5_setFactor_24 : decode cX5_setFactor 24 = .ok (.iastore, 1) := by decide +kernel
theorem dX5_setFactor_25 : decode cX5_setFactor 25 = .ok (.aload_n 0, 1) := by decide +kernel
theorem dX5_setFactor_26 : decode cX5_setFactor 26 = .ok (.aload_n 0, 1) := by decide +kernel
theorem dX5_setFactor_27 : decode cX5_setFactor 27 = .ok (.invokevirtual 70, 3) := by decide +kernel
theorem dX5_setFactor_30 : decode cX5_setFactor 30 = .ok (.invokevirtual 76, 3) := by decide +kernel
theorem dX5_setFactor_33 : decode cX5_setFactor 33 = .ok (.ireturn, 1) := by decide +kernel
set_option maxRecDepth 20000 in
theorem ggX5_goes_X5_of : GoodIn wsX5_goes wsX5_of := goodIn_r _ [6, 1, 7, 8, 9, 10, 11, 12, 13, 14, 15, 16, 17, 18, 19, 20, 21] (by decide +kernel) (by decide +kernel)
set_option maxRecDepth 20000 in
theorem gX5_goes_X5_of : GoodIn wsX5_goes (wsV RX5 43 RX5 yX5_of wsX5_of) := goodIn_app (goodIn_of _ (by decide +kernel)) ggX5_goes_X5_of
theorem dX5_goes_0 : decode cX5_goes 0 = .ok (.aload_n 0, 1) := by decide +kernel
theorem dX5_goes_1 : decode cX5_goes 1 = .ok (.getfield 7, 3) := by decide +kernel
theorem dX5_goes_4 : decode cX5_goes 4 = .ok (.bipush 6, 2) := by decide +kernel
theorem dX5_goes_6 : decode cX5_goes 6 = .ok (.iconst 4, 1) := by decide +kernel
theorem dX5_goes_7 : decode cX5_goes 7 = .ok (.iload_n 1, 1) := by decide +kernel
theorem dX5_goes_8 : decode cX5_goes 8 = .ok (.imul, 1) := by decide +kernel
theorem dX5_goes_9 : decode cX5_goes 9 = .ok (.iadd, 1) := by decide +kernel
theorem dX5_goes_10 : decode cX5_goes 10 = .ok (.iconst 2, 1) := by decide +kernel
theorem dX5_goes_11 : decode cX5_goes 11 = .ok (.iadd, 1) := by decide +kernel
theorem dX5_goes_12 : decode cX5_goes 12 = .ok (.iload_n 2, 1) := by decide +kernel
theorem dX5_goes_13 : decode cX5_goes 13 = .ok (.iastore, 1) := by decide +kernel
theorem dX5_goes_14 : decode cX5_goes 14 = .ok (.aload_n 0, 1) := by decide +kernel
theorem dX5_goes_15 : decode cX5_goes 15 = .ok (.getfield 7, 3) := by decide +kernel
theorem dX5_goes_18 : decode cX5_goes 18 = .ok (.bipush 6, 2) := by decide +kernel
theorem dX5_goes_20 : decode cX5_goes 20 = .ok (.iconst 4, 1) := by decide +kernel
theorem dX5_goes_21 : decode cX5_goes 21 = .ok (.iload_n 1, 1) := by decide +kernel
theorem dX5_goes_22 : decode cX5_goes 22 = .ok (.imul, 1) := by decide +kernel
theorem dX5_goes_23 : decode cX5_goes 23 = .ok (.iadd, 1) := by decide +kernel
theorem dX5_goes_24 : decode cX5_goes 24 = .ok (.iconst 3, 1) := by decide +kernel
theorem dX5_goes_25 : decode cX5_goes 25 = .ok (.iadd, 1) := by decide +kernel
theorem dX5_goes_26 : decode cX5_goes 26 = .ok (.dup2, 1) := by decide +kernel
theorem dX5_goes_27 : decode cX5_goes 27 = .ok (.iaload, 1) := by decide +kernel
theorem dX5_goes_28 : decode cX5_goes 28 = .ok (.iconst 1, 1) := by decide +kernel
theorem dX5_goes_29 : decode cX5_goes 29 = .ok (.iadd, 1) := by decide +kernel
theorem dX5_goes_30 : decode cX5_goes 30 = .ok (.iastore, 1) := by decide +kernel
theorem dX5_goes_31 : decode cX5_goes 31 = .ok (.aload_n 0, 1) := by decide +kernel
theorem dX5_goes_32 : decode cX5_goes 32 = .ok (.getfield 7, 3) := by decide +kernel
theorem dX5_goes_35 : decode cX5_goes 35 = .ok (.iconst 3, 1) := by decide +kernel
theorem dX5_goes_36 : decode cX5_goes 36 = .ok (.dup2, 1) := by decide +kernel
theorem dX5_goes_37 : decode cX5_goes 37 = .ok (.iaload, 1) := by decide +kernel
theorem dX5_goes_38 : decode cX5_goes 38 = .ok (.aload_n 0, 1) := by decide +kernel
theorem dX5_goes_39 : decode cX5_goes 39 = .ok (.iload_n 1, 1) := by decide +kernel
theorem dX5_goes_40 : decode cX5_goes 40 = .ok (.iconst 1, 1) := by decide +kernel
theorem dX5_goes_41 : decode cX5_goes 41 = .ok (.invokevirtual 43, 3) := by decide +kernel
theorem dX5_goes_44 : decode cX5_goes 44 = .ok (.isub, 1) := by decide +kernel
theorem dX5_goes_45 : decode cX5_goes 45 = .ok (.iastore, 1) := by decide +kernel
theorem dX5_goes_46 : decode cX5_goes 46 = .ok (.aload_n 0, 1) := by decide +kernel
theorem dX5_goes_47 : decode cX5_goes 47 = .ok (.getfield 7, 3) := by decide +kernel
theorem dX5_goes_50 : decode cX5_goes 50 = .ok (.iconst 5, 1) := by decide +kernel
theorem dX5_goes_51 : decode cX5_goes 51 = .ok (.dup2, 1) := by decide +kernel
theorem dX5_goes_52 : decode cX5_goes 52 = .ok (.iaload, 1) := by decide +kernel
theorem dX5_goes_53 : decode cX5_goes 53 = .ok (.iconst 1, 1) := by decide +kernel
theorem dX5_goes_54 : decode cX5_goes 54 = .ok (.iadd, 1) := by decide +kernel
theorem dX5_goes_55 : decode cX5_goes 55 = .ok (.iastore, 1) := by decide +kernel
theorem dX5_goes_56 : decode cX5_goes 56 = .ok (.return_, 1) := by decide +kernel
set_option maxRecDepth 20000 in
theorem ggX5_moves_X5_isJob : GoodIn wsX5_moves wsX5_isJob := goodIn_r _ [6, 1, 7, 8, 5, 9, 41, 42, 43, 44, 45, 46, 47, 48, 49, 50, 51, 52, 53, 54, 55] (by decide +kernel) (by decide +kernel)
set_option maxRecDepth 20000 in
theorem gX5_moves_X5_isJob : GoodIn wsX5_moves (wsV RX5 86 RX5 yX5_isJob wsX5_isJob) := goodIn_app (goodIn_of _ (by decide +kernel)) ggX5_moves_X5_isJob
set_option maxRecDepth 20000 in
theorem ggX5_moves_X5_isServer : GoodIn wsX5_moves wsX5_isServer := goodIn_r _ [13, 1, 7, 8, 5, 9, 41, 42, 43, 44, 45, 46, 47, 48, 49, 50, 51, 52, 53, 54, 55] (by decide +kernel) (by decide +kernel)
set_option maxRecDepth 20000 in
theorem gX5_moves_X5_isServer : GoodIn wsX5_moves (wsV RX5 39 RX5 yX5_isServer wsX5_isServer) := goodIn_app (goodIn_of _ (by decide +kernel)) ggX5_moves_X5_isServer
set_option maxRecDepth 20000 in
theorem ggX5_moves_X5_isDone : GoodIn wsX5_moves wsX5_isDone := goodIn_r _ [17, 18, 19, 20, 5, 21, 1, 41, 42, 43, 44, 45, 46, 47, 48, 49, 50, 51, 52, 53, 54, 55] (by decide +kernel) (by decide +kernel)
set_option maxRecDepth 20000 in
theorem gX5_moves_X5_isDone : GoodIn wsX5_moves (wsV RX5 47 RX5 yX5_isDone wsX5_isDone) := goodIn_app (goodIn_of _ (by decide +kernel)) ggX5_moves_X5_isDone
set_option maxRecDepth 20000 in
theorem ggX5_moves_X5_of : GoodIn wsX5_moves wsX5_of := goodIn_r _ [21, 1, 41, 42, 43, 44, 45, 46, 47, 48, 49, 50, 51, 52, 53, 54, 55] (by decide +kernel) (by decide +kernel)
set_option maxRecDepth 20000 in
theorem gX5_moves_X5_of : GoodIn wsX5_moves (wsV RX5 43 RX5 yX5_of wsX5_of) := goodIn_app (goodIn_of _ (by decide +kernel)) ggX5_moves_X5_of
set_option maxRecDepth 20000 in
theorem ggX5_moves_X5_isOpen : GoodIn wsX5_moves wsX5_isOpen := goodIn_r _ [25, 1, 10, 11, 12, 5, 13, 7, 8, 9, 41, 42, 43, 44, 45, 46, 47, 48, 49, 50, 51, 52, 53, 54, 55] (by decide +kernel) (by decide +kernel)
set_option maxRecDepth 20000 in
theorem gX5_moves_X5_isOpen : GoodIn wsX5_moves (wsV RX5 79 RX5 yX5_isOpen wsX5_isOpen) := goodIn_app (goodIn_of _ (by decide +kernel)) ggX5_moves_X5_isOpen
set_option maxRecDepth 20000 in
theorem ggX5_moves_X5_goes : GoodIn wsX5_moves wsX5_goes := goodIn_r _ [29, 1, 18, 19, 20, 5, 21, 41, 42, 43, 44, 45, 46, 47, 48, 49, 50, 51, 52, 53, 54, 55] (by decide +kernel) (by decide +kernel)
set_option maxRecDepth 20000 in
theorem gX5_moves_X5_goes : GoodIn wsX5_moves (wsV RX5 92 RX5 yX5_goes wsX5_goes) := goodIn_app (goodIn_of _ (by decide +kernel)) ggX5_moves_X5_goes
set_option maxRecDepth 20000 in
theorem ggX5_moves_X5_greatest : GoodIn wsX5_moves wsX5_greatest := goodIn_r _ [33, 1, 34, 35, 36, 5, 37, 18, 19, 20, 21, 38, 39, 40, 41, 42, 43, 44, 45, 46, 47, 48, 49, 50, 51, 52, 53, 54, 55] (by decide +kernel) (by decide +kernel)
set_option maxRecDepth 20000 in
theorem gX5_moves_X5_greatest : GoodIn wsX5_moves (wsV RX5 67 RX5 yX5_greatest wsX5_greatest) := goodIn_app (goodIn_of _ (by decide +kernel)) ggX5_moves_X5_greatest
theorem dX5_moves_0 : decode cX5_moves 0 = .ok (.aload_n 0, 1) := by decide +kernel
theorem dX5_moves_1 : decode cX5_moves 1 = .ok (.iload_n 1, 1) := by decide +kernel
theorem dX5_moves_2 : decode cX5_moves 2 = .ok (.invokevirtual 86, 3) := by decide +kernel
theorem dX5_moves_5 : decode cX5_moves 5 = .ok (.ifCond .eq 11, 3) := by decide +kernel
theorem dX5_moves_8 : decode cX5_moves 8 = .ok (.aload_n 0, 1) := by decide +kernel
theorem dX5_moves_9 : decode cX5_moves 9 = .ok (.iload_n 2, 1) := by decide +kernel
theorem dX5_moves_10 : decode cX5_moves 10 = .ok (.invokevirtual 39, 3) := by decide +kernel
theorem dX5_moves_13 : decode cX5_moves 13 = .ok (.ifCond .ne 5, 3) := by decide +kernel
theorem dX5_moves_16 : decode cX5_moves 16 = .ok (.iconst (-1), 1) := by decide +kernel
theorem dX5_moves_17 : decode cX5_moves 17 = .ok (.ireturn, 1) := by decide +kernel
theorem dX5_moves_18 : decode cX5_moves 18 = .ok (.aload_n 0, 1) := by decide +kernel
theorem dX5_moves_19 : decode cX5_moves 19 = .ok (.iload_n 1, 1) := by decide +kernel
theorem dX5_moves_20 : decode cX5_moves 20 = .ok (.invokevirtual 47, 3) := by decide +kernel
theorem dX5_moves_23 : decode cX5_moves 23 = .ok (.ifCond .ne 36, 3) := by decide +kernel
theorem dX5_moves_26 : decode cX5_moves 26 = .ok (.aload_n 0, 1) := by decide +kernel
theorem dX5_moves_27 : decode cX5_moves 27 = .ok (.iload_n 1, 1) := by decide +kernel
theorem dX5_moves_28 : decode cX5_moves 28 = .ok (.iconst 2, 1) := by decide +kernel
theorem dX5_moves_29 : decode cX5_moves 29 = .ok (.invokevirtual 43, 3) := by decide +kernel
theorem dX5_moves_32 : decode cX5_moves 32 = .ok (.iload_n 2, 1) := by decide +kernel
theorem dX5_moves_33 : decode cX5_moves 33 = .ok (.if_icmp .eq 26, 3) := by decide +kernel
theorem dX5_moves_36 : decode cX5_moves 36 = .ok (.aload_n 0, 1) := by decide +kernel
theorem dX5_moves_37 : decode cX5_moves 37 = .ok (.iload_n 2, 1) := by decide +kernel
theorem dX5_moves_38 : decode cX5_moves 38 = .ok (.invokevirtual 79, 3) := by decide +kernel
theorem dX5_moves_41 : decode cX5_moves 41 = .ok (.ifCond .eq 18, 3) := by decide +kernel
theorem dX5_moves_44 : decode cX5_moves 44 = .ok (.aload_n 0, 1) := by decide +kernel
theorem dX5_moves_45 : decode cX5_moves 45 = .ok (.iload_n 1, 1) := by decide +kernel
theorem dX5_moves_46 : decode cX5_moves 46 = .ok (.iconst 1, 1) := by decide +kernel
theorem dX5_moves_47 : decode cX5_moves 47 = .ok (.invokevirtual 43, 3) := by decide +kernel
theorem dX5_moves_50 : decode cX5_moves 50 = .ok (.aload_n 0, 1) := by decide +kernel
theorem dX5_moves_51 : decode cX5_moves 51 = .ok (.getfield 7, 3) := by decide +kernel
theorem dX5_moves_54 : decode cX5_moves 54 = .ok (.iconst 3, 1) := by decide +kernel
theorem dX5_moves_55 : decode cX5_moves 55 = .ok (.iaload, 1) := by decide +kernel
theorem dX5_moves_56 : decode cX5_moves 56 = .ok (.if_icmp .le 6, 3) := by decide +kernel
theorem dX5_moves_59 : decode cX5_moves 59 = .ok (.bipush (-2), 2) := by decide +kernel
theorem dX5_moves_61 : decode cX5_moves 61 = .ok (.ireturn, 1) := by decide +kernel
theorem dX5_moves_62 : decode cX5_moves 62 = .ok (.aload_n 0, 1) := by decide +kernel
theorem dX5_moves_63 : decode cX5_moves 63 = .ok (.iload_n 1, 1) := by decide +kernel
theorem dX5_moves_64 : decode cX5_moves 64 = .ok (.iload_n 2, 1) := by decide +kernel
theorem dX5_moves_65 : decode cX5_moves 65 = .ok (.invokevirtual 92, 3) := by decide +kernel
theorem dX5_moves_68 : decode cX5_moves 68 = .ok (.aload_n 0, 1) := by decide +kernel
theorem dX5_moves_69 : decode cX5_moves 69 = .ok (.invokevirtual 67, 3) := by decide +kernel
theorem dX5_moves_72 : decode cX5_moves 72 = .ok (.ireturn, 1) := by decide +kernel
set_option maxRecDepth 20000 in
theorem ggX5_move_X5_aside : GoodIn wsX5_move wsX5_aside := goodIn_r _ [5, 6, 7, 60, 61, 62, 63, 64, 65, 66, 67, 68, 69, 70, 71, 72, 73, 74] (by decide +kernel) (by decide +kernel)
set_option maxRecDepth 20000 in
theorem gX5_move_X5_aside : GoodIn wsX5_move (wsV RX5 73 RX5 yX5_aside wsX5_aside) := goodIn_app (goodIn_of _ (by decide +kernel)) ggX5_move_X5_aside
set_option maxRecDepth 20000 in
theorem ggX5_move_X5_moves : GoodIn wsX5_move wsX5_moves := goodIn_r _ [11, 7, 12, 13, 14, 4, 15, 16, 17, 18, 19, 20, 21, 22, 23, 24, 25, 26, 27, 28, 29, 30, 31, 32, 33, 34, 35, 36, 37, 38, 39, 40, 41, 42, 43, 44, 45, 46, 47, 48, 49, 60, 61, 62, 63, 64, 65, 66, 67, 68, 69, 70, 71, 72, 73, 74] (by decide +kernel) (by decide +kernel)
set_option maxRecDepth 20000 in
theorem gX5_move_X5_moves : GoodIn wsX5_move (wsV RX5 96 RX5 yX5_moves wsX5_moves) := goodIn_app (goodIn_of _ (by decide +kernel)) ggX5_move_X5_moves
set_option maxRecDepth 20000 in
theorem ggX5_move_X5_acted : GoodIn wsX5_move wsX5_acted := goodIn_r _ [53, 54, 55, 56, 4, 57, 58, 59, 6, 60, 61, 62, 63, 64, 65, 66, 67, 68, 69, 70, 71, 72, 73, 74] (by decide +kernel) (by decide +kernel)
set_option maxRecDepth 20000 in
theorem gX5_move_X5_acted : GoodIn wsX5_move (wsV RX5 76 RX5 yX5_acted wsX5_acted) := goodIn_app (goodIn_of _ (by decide +kernel)) ggX5_move_X5_acted
theorem dX5_move_0 : decode cX5_move 0 = .ok (.aload_n 0, 1) := by decide +kernel
theorem dX5_move_1 : decode cX5_move 1 = .ok (.invokevirtual 73, 3) := by decide +kernel
theorem dX5_move_4 : decode cX5_move 4 = .ok (.aload_n 0, 1) := by decide +kernel
theorem dX5_move_5 : decode cX5_move 5 = .ok (.aload_n 0, 1) := by decide +kernel
theorem dX5_move_6 : decode cX5_move 6 = .ok (.iload_n 1, 1) := by decide +kernel
theorem dX5_move_7 : decode cX5_move 7 = .ok (.iload_n 2, 1) := by decide +kernel
theorem dX5_move_8 : decode cX5_move 8 = .ok (.invokevirtual 96, 3) := by decide +kernel
theorem dX5_move_11 : decode cX5_move 11 = .ok (.invokevirtual 76, 3) := by decide +kernel
theorem dX5_move_14 : decode cX5_move 14 = .ok (.ireturn, 1) := by decide +kernel
set_option maxRecDepth 20000 in
theorem ggX5_exchanges_X5_isJob : GoodIn wsX5_exchanges wsX5_isJob := goodIn_r _ [6, 1, 7, 8, 5, 9, 33, 34, 35, 36, 37, 38, 39, 40, 41, 42, 43, 44, 45, 46, 47] (by decide +kernel) (by decide +kernel)
set_option maxRecDepth 20000 in
theorem gX5_exchanges_X5_isJob : GoodIn wsX5_exchanges (wsV RX5 86 RX5 yX5_isJob wsX5_isJob) := goodIn_app (goodIn_of _ (by decide +kernel)) ggX5_exchanges_X5_isJob
set_option maxRecDepth 20000 in
theorem ggX5_exchanges_X5_of : GoodIn wsX5_exchanges wsX5_of := goodIn_r _ [13, 1, 33, 34, 35, 36, 37, 38, 39, 40, 41, 42, 43, 44, 45, 46, 47] (by decide +kernel) (by decide +kernel)
set_option maxRecDepth 20000 in
theorem gX5_exchanges_X5_of : GoodIn wsX5_exchanges (wsV RX5 43 RX5 yX5_of wsX5_of) := goodIn_app (goodIn_of _ (by decide +kernel)) ggX5_exchanges_X5_of
set_option maxRecDepth 20000 in
theorem ggX5_exchanges_X5_isDone : GoodIn wsX5_exchanges wsX5_isDone := goodIn_r _ [17, 10, 11, 12, 5, 13, 1, 33, 34, 35, 36, 37, 38, 39, 40, 41, 42, 43, 44, 45, 46, 47] (by decide +kernel) (by decide +kernel)
set_option maxRecDepth 20000 in
theorem gX5_exchanges_X5_isDone : GoodIn wsX5_exchanges (wsV RX5 47 RX5 yX5_isDone wsX5_isDone) := goodIn_app (goodIn_of _ (by decide +kernel)) ggX5_exchanges_X5_isDone
set_option maxRecDepth 20000 in
theorem ggX5_exchanges_X5_goes : GoodIn wsX5_exchanges wsX5_goes := goodIn_r _ [21, 1, 10, 11, 12, 5, 13, 33, 34, 35, 36, 37, 38, 39, 40, 41, 42, 43, 44, 45, 46, 47] (by decide +kernel) (by decide +kernel)
set_option maxRecDepth 20000 in
theorem gX5_exchanges_X5_goes : GoodIn wsX5_exchanges (wsV RX5 92 RX5 yX5_goes wsX5_goes) := goodIn_app (goodIn_of _ (by decide +kernel)) ggX5_exchanges_X5_goes
set_option maxRecDepth 20000 in
theorem ggX5_exchanges_X5_greatest : GoodIn wsX5_exchanges wsX5_greatest := goodIn_r _ [25, 1, 26, 27, 28, 5, 29, 10, 11, 12, 13, 30, 31, 32, 33, 34, 35, 36, 37, 38, 39, 40, 41, 42, 43, 44, 45, 46, 47] (by decide +kernel) (by decide +kernel)
set_option maxRecDepth 20000 in
theorem gX5_exchanges_X5_greatest : GoodIn wsX5_exchanges (wsV RX5 67 RX5 yX5_greatest wsX5_greatest) := goodIn_app (goodIn_of _ (by decide +kernel)) ggX5_exchanges_X5_greatest
theorem dX5_exchanges_0 : decode cX5_exchanges 0 = .ok (.aload_n 0, 1) := by decide +kernel
theorem dX5_exchanges_1 : decode cX5_exchanges 1 = .ok (.iload_n 1, 1) := by decide +kernel
theorem dX5_exchanges_2 : decode cX5_exchanges 2 = .ok (.invokevirtual 86, 3) := by decide +kernel
theorem dX5_exchanges_5 : decode cX5_exchanges 5 = .ok (.ifCond .eq 16, 3) := by decide +kernel
theorem dX5_exchanges_8 : decode cX5_exchanges 8 = .ok (.aload_n 0, 1) := by decide +kernel
theorem dX5_exchanges_9 : decode cX5_exchanges 9 = .ok (.iload_n 2, 1) := by decide +kernel
theorem dX5_exchanges_10 : decode cX5_exchanges 10 = .ok (.invokevirtual 86, 3) := by decide +kernel
theorem dX5_exchanges_13 : decode cX5_exchanges 13 = .ok (.ifCond .eq 8, 3) := by decide +kernel
theorem dX5_exchanges_16 : decode cX5_exchanges 16 = .ok (.iload_n 1, 1) := by decide +kernel
theorem dX5_exchanges_17 : decode cX5_exchanges 17 = .ok (.iload_n 2, 1) := by decide +kernel
theorem dX5_exchanges_18 : decode cX5_exchanges 18 = .ok (.if_icmp .ne 5, 3) := by decide +kernel
theorem dX5_exchanges_21 : decode cX5_exchanges 21 = .ok (.iconst (-1), 1) := by decide +kernel
theorem dX5_exchanges_22 : decode cX5_exchanges 22 = .ok (.ireturn, 1) := by decide +kernel
theorem dX5_exchanges_23 : decode cX5_exchanges 23 = .ok (.aload_n 0, 1) := by decide +kernel
theorem dX5_exchanges_24 : decode cX5_exchanges 24 = .ok (.iload_n 1, 1) := by decide +kernel
theorem dX5_exchanges_25 : decode cX5_exchanges 25 = .ok (.iconst 2, 1) := by decide +kernel
theorem dX5_exchanges_26 : decode cX5_exchanges 26 = .ok (.invokevirtual 43, 3) := by decide +kernel
theorem dX5_exchanges_29 : decode cX5_exchanges 29 = .ok (.istore_n 3, 1) := by decide +kernel
theorem dX5_exchanges_30 : decode cX5_exchanges 30 = .ok (.aload_n 0, 1) := by decide +kernel
theorem dX5_exchanges_31 : decode cX5_exchanges 31 = .ok (.iload_n 2, 1) := by decide +kernel
theorem dX5_exchanges_32 : decode cX5_exchanges 32 = .ok (.iconst 2, 1) := by decide +kernel
theorem dX5_exchanges_33 : decode cX5_exchanges 33 = .ok (.invokevirtual 43, 3) := by decide +kernel
theorem dX5_exchanges_36 : decode cX5_exchanges 36 = .ok (.istore 4, 2) := by decide +kernel
theorem dX5_exchanges_38 : decode cX5_exchanges 38 = .ok (.aload_n 0, 1) := by decide +kernel
theorem dX5_exchanges_39 : decode cX5_exchanges 39 = .ok (.iload_n 1, 1) := by decide +kernel
theorem dX5_exchanges_40 : decode cX5_exchanges 40 = .ok (.invokevirtual 47, 3) := by decide +kernel
theorem dX5_exchanges_43 : decode cX5_exchanges 43 = .ok (.ifCond .ne 39, 3) := by decide +kernel
theorem dX5_exchanges_46 : decode cX5_exchanges 46 = .ok (.aload_n 0, 1) := by decide +kernel
theorem dX5_exchanges_47 : decode cX5_exchanges 47 = .ok (.iload_n 2, 1) := by decide +kernel
theorem dX5_exchanges_48 : decode cX5_exchanges 48 = .ok (.invokevirtual 47, 3) := by decide +kernel
theorem dX5_exchanges_51 : decode cX5_exchanges 51 = .ok (.ifCond .ne 31, 3) := by decide +kernel
theorem dX5_exchanges_54 : decode cX5_exchanges 54 = .ok (.iload_n 3, 1) := by decide +kernel
theorem dX5_exchanges_55 : decode cX5_exchanges 55 = .ok (.iload 4, 2) := by decide +kernel
theorem dX5_exchanges_57 : decode cX5_exchanges 57 = .ok (.if_icmp .eq 25, 3) := by decide +kernel
theorem dX5_exchanges_60 : decode cX5_exchanges 60 = .ok (.aload_n 0, 1) := by decide +kernel
theorem dX5_exchanges_61 : decode cX5_exchanges 61 = .ok (.iload_n 1, 1) := by decide +kernel
theorem dX5_exchanges_62 : decode cX5_exchanges 62 = .ok (.iconst 1, 1) := by decide +kernel
theorem dX5_exchanges_63 : decode cX5_exchanges 63 = .ok (.invokevirtual 43, 3) := by decide +kernel
theorem dX5_exchanges_66 : decode cX5_exchanges 66 = .ok (.aload_n 0, 1) := by decide +kernel
theorem dX5_exchanges_67 : decode cX5_exchanges 67 = .ok (.iload_n 2, 1) := by decide +kernel
theorem dX5_exchanges_68 : decode cX5_exchanges 68 = .ok (.iconst 1, 1) := by decide +kernel
theorem dX5_exchanges_69 : decode cX5_exchanges 69 = .ok (.invokevirtual 43, 3) := by decide +kernel
theorem dX5_exchanges_72 : decode cX5_exchanges 72 = .ok (.iadd, 1) := by decide +kernel
theorem dX5_exchanges_73 : decode cX5_exchanges 73 = .ok (.aload_n 0, 1) := by decide +kernel
theorem dX5_exchanges_74 : decode cX5_exchanges 74 = .ok (.getfield 7, 3) := by decide +kernel
theorem dX5_exchanges_77 : decode cX5_exchanges 77 = .ok (.iconst 3, 1) := by decide +kernel
theorem dX5_exchanges_78 : decode cX5_exchanges 78 = .ok (.iaload, 1) := by decide +kernel
theorem dX5_exchanges_79 : decode cX5_exchanges 79 = .ok (.if_icmp .le 6, 3) := by decide +kernel
theorem dX5_exchanges_82 : decode cX5_exchanges 82 = .ok (.bipush (-2), 2) := by decide +kernel
theorem dX5_exchanges_84 : decode cX5_exchanges 84 = .ok (.ireturn, 1) := by decide +kernel
theorem dX5_exchanges_85 : decode cX5_exchanges 85 = .ok (.aload_n 0, 1) := by decide +kernel
theorem dX5_exchanges_86 : decode cX5_exchanges 86 = .ok (.iload_n 1, 1) := by decide +kernel
theorem dX5_exchanges_87 : decode cX5_exchanges 87 = .ok (.iload 4, 2) := by decide +kernel
theorem dX5_exchanges_89 : decode cX5_exchanges 89 = .ok (.invokevirtual 92, 3) := by decide +kernel
theorem dX5_exchanges_92 : decode cX5_exchanges 92 = .ok (.aload_n 0, 1) := by decide +kernel
theorem dX5_exchanges_93 : decode cX5_exchanges 93 = .ok (.iload_n 2, 1) := by decide +kernel
theorem dX5_exchanges_94 : decode cX5_exchanges 94 = .ok (.iload_n 3, 1) := by decide +kernel
theorem dX5_exchanges_95 : decode cX5_exchanges 95 = .ok (.invokevirtual 92, 3) := by decide +kernel
theorem dX5_exchanges_98 : decode cX5_exchanges 98 = .ok (.aload_n 0, 1) := by decide +kernel
theorem dX5_exchanges_99 : decode cX5_exchanges 99 = .ok (.invokevirtual 67, 3) := by decide +kernel
theorem dX5_exchanges_102 : decode cX5_exchanges 102 = .ok (.ireturn, 1) := by decide +kernel
set_option maxRecDepth 20000 in
theorem ggX5_exchange_X5_aside : GoodIn wsX5_exchange wsX5_aside := goodIn_r _ [5, 6, 7, 52, 53, 54, 55, 56, 57, 58, 59, 60, 61, 62, 63, 64, 65, 66] (by decide +kernel) (by decide +kernel)
set_option maxRecDepth 20000 in
theorem gX5_exchange_X5_aside : GoodIn wsX5_exchange (wsV RX5 73 RX5 yX5_aside wsX5_aside) := goodIn_app (goodIn_of _ (by decide +kernel)) ggX5_exchange_X5_aside
set_option maxRecDepth 20000 in
theorem ggX5_exchange_X5_exchanges : GoodIn wsX5_exchange wsX5_exchanges := goodIn_r _ [11, 7, 12, 13, 14, 4, 15, 16, 17, 18, 19, 20, 21, 22, 23, 24, 25, 26, 27, 28, 29, 30, 31, 32, 33, 34, 35, 36, 37, 38, 39, 40, 41, 52, 53, 54, 55, 56, 57, 58, 59, 60, 61, 62, 63, 64, 65, 66] (by decide +kernel) (by decide +kernel)
set_option maxRecDepth 20000 in
theorem gX5_exchange_X5_exchanges : GoodIn wsX5_exchange (wsV RX5 99 RX5 yX5_exchanges wsX5_exchanges) := goodIn_app (goodIn_of _ (by decide +kernel)) ggX5_exchange_X5_exchanges
set_option maxRecDepth 20000 in
theorem ggX5_exchange_X5_acted : GoodIn wsX5_exchange wsX5_acted := goodIn_r _ [45, 46, 47, 48, 4, 49, 50, 51, 6, 52, 53, 54, 55, 56, 57, 58, 59, 60, 61, 62, 63, 64, 65, 66] (by decide +kernel) (by decide +kernel)
set_option maxRecDepth 20000 in
theorem gX5_exchange_X5_acted : GoodIn wsX5_exchange (wsV RX5 76 RX5 yX5_acted wsX5_acted) := goodIn_app (goodIn_of _ (by decide +kernel)) ggX5_exchange_X5_acted
theorem dX5_exchange_0 : decode cX5_exchange 0 = .ok (.aload_n 0, 1) := by decide +kernel
theorem dX5_exchange_1 : decode cX5_exchange 1 = .ok (.invokevirtual 73, 3) := by decide +kernel
theorem dX5_exchange_4 : decode cX5_exchange 4 = .ok (.aload_n 0, 1) := by decide +kernel
theorem dX5_exchange_5 : decode cX5_exchange 5 = .ok (.aload_n 0, 1) := by decide +kernel
theorem dX5_exchange_6 : decode cX5_exchange 6 = .ok (.iload_n 1, 1) := by decide +kernel
theorem dX5_exchange_7 : decode cX5_exchange 7 = .ok (.iload_n 2, 1) := by decide +kernel
theorem dX5_exchange_8 : decode cX5_exchange 8 = .ok (.invokevirtual 99, 3) := by decide +kernel
theorem dX5_exchange_11 : decode cX5_exchange 11 = .ok (.invokevirtual 76, 3) := by decide +kernel
theorem dX5_exchange_14 : decode cX5_exchange 14 = .ok (.ireturn, 1) := by decide +kernel
set_option maxRecDepth 20000 in
theorem ggX5_rings_X5_isJob : GoodIn wsX5_rings wsX5_isJob := goodIn_r _ [6, 1, 7, 8, 5, 9, 33, 34, 35, 36, 37, 38, 39, 40, 41, 42, 43, 44, 45, 46, 47] (by decide +kernel) (by decide +kernel)
set_option maxRecDepth 20000 in
theorem gX5_rings_X5_isJob : GoodIn wsX5_rings (wsV RX5 86 RX5 yX5_isJob wsX5_isJob) := goodIn_app (goodIn_of _ (by decide +kernel)) ggX5_rings_X5_isJob
set_option maxRecDepth 20000 in
theorem ggX5_rings_X5_of : GoodIn wsX5_rings wsX5_of := goodIn_r _ [13, 1, 33, 34, 35, 36, 37, 38, 39, 40, 41, 42, 43, 44, 45, 46, 47] (by decide +kernel) (by decide +kernel)
set_option maxRecDepth 20000 in
theorem gX5_rings_X5_of : GoodIn wsX5_rings (wsV RX5 43 RX5 yX5_of wsX5_of) := goodIn_app (goodIn_of _ (by decide +kernel)) ggX5_rings_X5_of
set_option maxRecDepth 20000 in
theorem ggX5_rings_X5_isDone : GoodIn wsX5_rings wsX5_isDone := goodIn_r _ [17, 10, 11, 12, 5, 13, 1, 33, 34, 35, 36, 37, 38, 39, 40, 41, 42, 43, 44, 45, 46, 47] (by decide +kernel) (by decide +kernel)
set_option maxRecDepth 20000 in
theorem gX5_rings_X5_isDone : GoodIn wsX5_rings (wsV RX5 47 RX5 yX5_isDone wsX5_isDone) := goodIn_app (goodIn_of _ (by decide +kernel)) ggX5_rings_X5_isDone
set_option maxRecDepth 20000 in
theorem ggX5_rings_X5_goes : GoodIn wsX5_rings wsX5_goes := goodIn_r _ [21, 1, 10, 11, 12, 5, 13, 33, 34, 35, 36, 37, 38, 39, 40, 41, 42, 43, 44, 45, 46, 47] (by decide +kernel) (by decide +kernel)
set_option maxRecDepth 20000 in
theorem gX5_rings_X5_goes : GoodIn wsX5_rings (wsV RX5 92 RX5 yX5_goes wsX5_goes) := goodIn_app (goodIn_of _ (by decide +kernel)) ggX5_rings_X5_goes
set_option maxRecDepth 20000 in
theorem ggX5_rings_X5_greatest : GoodIn wsX5_rings wsX5_greatest := goodIn_r _ [25, 1, 26, 27, 28, 5, 29, 10, 11, 12, 13, 30, 31, 32, 33, 34, 35, 36, 37, 38, 39, 40, 41, 42, 43, 44, 45, 46, 47] (by decide +kernel) (by decide +kernel)
set_option maxRecDepth 20000 in
theorem gX5_rings_X5_greatest : GoodIn wsX5_rings (wsV RX5 67 RX5 yX5_greatest wsX5_greatest) := goodIn_app (goodIn_of _ (by decide +kernel)) ggX5_rings_X5_greatest
theorem dX5_rings_0 : decode cX5_rings 0 = .ok (.aload_n 0, 1) := by decide +kernel
theorem dX5_rings_1 : decode cX5_rings 1 = .ok (.iload_n 1, 1) := by decide +kernel
theorem dX5_rings_2 : decode cX5_rings 2 = .ok (.invokevirtual 86, 3) := by decide +kernel
theorem dX5_rings_5 : decode cX5_rings 5 = .ok (.ifCond .eq 34, 3) := by decide +kernel
theorem dX5_rings_8 : decode cX5_rings 8 = .ok (.aload_n 0, 1) := by decide +kernel
theorem dX5_rings_9 : decode cX5_rings 9 = .ok (.iload_n 2, 1) := by decide +kernel
theorem dX5_rings_10 : decode cX5_rings 10 = .ok (.invokevirtual 86, 3) := by decide +kernel
theorem dX5_rings_13 : decode cX5_rings 13 = .ok (.ifCond .eq 26, 3) := by decide +kernel
theorem dX5_rings_16 : decode cX5_rings 16 = .ok (.aload_n 0, 1) := by decide +kernel
theorem dX5_rings_17 : decode cX5_rings 17 = .ok (.iload_n 3, 1) := by decide +kernel
theorem dX5_rings_18 : decode cX5_rings 18 = .ok (.invokevirtual 86, 3) := by decide +kernel
theorem dX5_rings_21 : decode cX5_rings 21 = .ok (.ifCond .eq 18, 3) := by decide +kernel
theorem dX5_rings_24 : decode cX5_rings 24 = .ok (.iload_n 1, 1) := by decide +kernel
theorem dX5_rings_25 : decode cX5_rings 25 = .ok (.iload_n 2, 1) := by decide +kernel
theorem dX5_rings_26 : decode cX5_rings 26 = .ok (.if_icmp .eq 13, 3) := by decide +kernel
theorem dX5_rings_29 : decode cX5_rings 29 = .ok (.iload_n 2, 1) := by decide +kernel
theorem dX5_rings_30 : decode cX5_rings 30 = .ok (.iload_n 3, 1) := by decide +kernel
theorem dX5_rings_31 : decode cX5_rings 31 = .ok (.if_icmp .eq 8, 3) := by decide +kernel
theorem dX5_rings_34 : decode cX5_rings 34 = .ok (.iload_n 1, 1) := by decide +kernel
theorem dX5_rings_35 : decode cX5_rings 35 = .ok (.iload_n 3, 1) := by decide +kernel
theorem dX5_rings_36 : decode cX5_rings 36 = .ok (.if_icmp .ne 5, 3) := by decide +kernel
theorem dX5_rings_39 : decode cX5_rings 39 = .ok (.iconst (-1), 1) := by decide +kernel
theorem dX5_rings_40 : decode cX5_rings 40 = .ok (.ireturn, 1) := by decide +kernel
theorem dX5_rings_41 : decode cX5_rings 41 = .ok (.aload_n 0, 1) := by decide +kernel
theorem dX5_rings_42 : decode cX5_rings 42 = .ok (.iload_n 1, 1) := by decide +kernel
theorem dX5_rings_43 : decode cX5_rings 43 = .ok (.iconst 2, 1) := by decide +kernel
theorem dX5_rings_44 : decode cX5_rings 44 = .ok (.invokevirtual 43, 3) := by decide +kernel
theorem dX5_rings_47 : decode cX5_rings 47 = .ok (.istore 4, 2) := by decide +kernel
theorem dX5_rings_49 : decode cX5_rings 49 = .ok (.aload_n 0, 1) := by decide +kernel
theorem dX5_rings_50 : decode cX5_rings 50 = .ok (.iload_n 2, 1) := by decide +kernel
theorem dX5_rings_51 : decode cX5_rings 51 = .ok (.iconst 2, 1) := by decide +kernel
theorem dX5_rings_52 : decode cX5_rings 52 = .ok (.invokevirtual 43, 3) := by decide +kernel
theorem dX5_rings_55 : decode cX5_rings 55 = .ok (.istore 5, 2) := by decide +kernel
theorem dX5_rings_57 : decode cX5_rings 57 = .ok (.aload_n 0, 1) := by decide +kernel
theorem dX5_rings_58 : decode cX5_rings 58 = .ok (.iload_n 3, 1) := by decide +kernel
theorem dX5_rings_59 : decode cX5_rings 59 = .ok (.iconst 2, 1) := by decide +kernel
theorem dX5_rings_60 : decode cX5_rings 60 = .ok (.invokevirtual 43, 3) := by decide +kernel
theorem dX5_rings_63 : decode cX5_rings 63 = .ok (.istore 6, 2) := by decide +kernel
theorem dX5_rings_65 : decode cX5_rings 65 = .ok (.iload 4, 2) := by decide +kernel
theorem dX5_rings_67 : decode cX5_rings 67 = .ok (.iload 5, 2) := by decide +kernel
theorem dX5_rings_69 : decode cX5_rings 69 = .ok (.if_icmp .eq 21, 3) := by decide +kernel
theorem dX5_rings_72 : decode cX5_rings 72 = .ok (.iload 5, 2) := by decide +kernel
theorem dX5_rings_74 : decode cX5_rings 74 = .ok (.iload 6, 2) := by decide +kernel
theorem dX5_rings_76 : decode cX5_rings 76 = .ok (.if_icmp .eq 14, 3) := by decide +kernel
theorem dX5_rings_79 : decode cX5_rings 79 = .ok (.iload 4, 2) := by decide +kernel
theorem dX5_rings_81 : decode cX5_rings 81 = .ok (.iload 6, 2) := by decide +kernel
theorem dX5_rings_83 : decode cX5_rings 83 = .ok (.if_icmp .eq 7, 3) := by decide +kernel
theorem dX5_rings_86 : decode cX5_rings 86 = .ok (.iconst 1, 1) := by decide +kernel
theorem dX5_rings_87 : decode cX5_rings 87 = .ok (.goto 4, 3) := by decide +kernel
theorem dX5_rings_90 : decode cX5_rings 90 = .ok (.iconst 0, 1) := by decide +kernel
theorem dX5_rings_91 : decode cX5_rings 91 = .ok (.istore 7, 2) := by decide +kernel
theorem dX5_rings_93 : decode cX5_rings 93 = .ok (.aload_n 0, 1) := by decide +kernel
theorem dX5_rings_94 : decode cX5_rings 94 = .ok (.iload_n 1, 1) := by decide +kernel
theorem dX5_rings_95 : decode cX5_rings 95 = .ok (.invokevirtual 47, 3) := by decide +kernel
theorem dX5_rings_98 : decode cX5_rings 98 = .ok (.ifCond .ne 53, 3) := by decide +kernel
theorem dX5_rings_101 : decode cX5_rings 101 = .ok (.aload_n 0, 1) := by decide +kernel
theorem dX5_rings_102 : decode cX5_rings 102 = .ok (.iload_n 2, 1) := by decide +kernel
theorem dX5_rings_103 : decode cX5_rings 103 = .ok (.invokevirtual 47, 3) := by decide +kernel
theorem dX5_rings_106 : decode cX5_rings 106 = .ok (.ifCond .ne 45, 3) := by decide +kernel
theorem dX5_rings_109 : decode cX5_rings 109 = .ok (.aload_n 0, 1) := by decide +kernel
theorem dX5_rings_110 : decode cX5_rings 110 = .ok (.iload_n 3, 1) := by decide +kernel
theorem dX5_rings_111 : decode cX5_rings 111 = .ok (.invokevirtual 47, 3) := by decide +kernel
theorem dX5_rings_114 : decode cX5_rings 114 = .ok (.ifCond .ne 37, 3) := by decide +kernel
theorem dX5_rings_117 : decode cX5_rings 117 = .ok (.iload 7, 2) := by decide +kernel
theorem dX5_rings_119 : decode cX5_rings 119 = .ok (.ifCond .eq 32, 3) := by decide +kernel
theorem dX5_rings_122 : decode cX5_rings 122 = .ok (.aload_n 0, 1) := by decide +kernel
theorem dX5_rings_123 : decode cX5_rings 123 = .ok (.iload_n 1, 1) := by decide +kernel
theorem dX5_rings_124 : decode cX5_rings 124 = .ok (.iconst 1, 1) := by decide +kernel
theorem dX5_rings_125 : decode cX5_rings 125 = .ok (.invokevirtual 43, 3) := by decide +kernel
theorem dX5_rings_128 : decode cX5_rings 128 = .ok (.aload_n 0, 1) := by decide +kernel
theorem dX5_rings_129 : decode cX5_rings 129 = .ok (.iload_n 2, 1) := by decide +kernel
theorem dX5_rings_130 : decode cX5_rings 130 = .ok (.iconst 1, 1) := by decide +kernel
theorem dX5_rings_131 : decode cX5_rings 131 = .ok (.invokevirtual 43, 3) := by decide +kernel
theorem dX5_rings_134 : decode cX5_rings 134 = .ok (.iadd, 1) := by decide +kernel
theorem dX5_rings_135 : decode cX5_rings 135 = .ok (.aload_n 0, 1) := by decide +kernel
theorem dX5_rings_136 : decode cX5_rings 136 = .ok (.iload_n 3, 1) := by decide +kernel
theorem dX5_rings_137 : decode cX5_rings 137 = .ok (.iconst 1, 1) := by decide +kernel
theorem dX5_rings_138 : decode cX5_rings 138 = .ok (.invokevirtual 43, 3) := by decide +kernel
theorem dX5_rings_141 : decode cX5_rings 141 = .ok (.iadd, 1) := by decide +kernel
theorem dX5_rings_142 : decode cX5_rings 142 = .ok (.aload_n 0, 1) := by decide +kernel
theorem dX5_rings_143 : decode cX5_rings 143 = .ok (.getfield 7, 3) := by decide +kernel
theorem dX5_rings_146 : decode cX5_rings 146 = .ok (.iconst 3, 1) := by decide +kernel
theorem dX5_rings_147 : decode cX5_rings 147 = .ok (.iaload, 1) := by decide +kernel
theorem dX5_rings_148 : decode cX5_rings 148 = .ok (.if_icmp .le 6, 3) := by decide +kernel
theorem dX5_rings_151 : decode cX5_rings 151 = .ok (.bipush (-2), 2) := by decide +kernel
theorem dX5_rings_153 : decode cX5_rings 153 = .ok (.ireturn, 1) := by decide +kernel
theorem dX5_rings_154 : decode cX5_rings 154 = .ok (.aload_n 0, 1) := by decide +kernel
theorem dX5_rings_155 : decode cX5_rings 155 = .ok (.iload_n 1, 1) := by decide +kernel
theorem dX5_rings_156 : decode cX5_rings 156 = .ok (.iload 5, 2) := by decide +kernel
theorem dX5_rings_158 : decode cX5_rings 158 = .ok (.invokevirtual 92, 3) := by decide +kernel
theorem dX5_rings_161 : decode cX5_rings 161 = .ok (.aload_n 0, 1) := by decide +kernel
theorem dX5_rings_162 : decode cX5_rings 162 = .ok (.iload_n 2, 1) := by decide +kernel
theorem dX5_rings_163 : decode cX5_rings 163 = .ok (.iload 6, 2) := by decide +kernel
theorem dX5_rings_165 : decode cX5_rings 165 = .ok (.invokevirtual 92, 3) := by decide +kernel
theorem dX5_rings_168 : decode cX5_rings 168 = .ok (.aload_n 0, 1) := by decide +kernel
theorem dX5_rings_169 : decode cX5_rings 169 = .ok (.iload_n 3, 1) := by decide +kernel
theorem dX5_rings_170 : decode cX5_rings 170 = .ok (.iload 4, 2) := by decide +kernel
theorem dX5_rings_172 : decode cX5_rings 172 = .ok (.invokevirtual 92, 3) := by decide +kernel
theorem dX5_rings_175 : decode cX5_rings 175 = .ok (.aload_n 0, 1) := by decide +kernel
theorem dX5_rings_176 : decode cX5_rings 176 = .ok (.invokevirtual 67, 3) := by decide +kernel
theorem dX5_rings_179 : decode cX5_rings 179 = .ok (.ireturn, 1) := by decide +kernel
set_option maxRecDepth 20000 in
theorem ggX5_ring_X5_aside : GoodIn wsX5_ring wsX5_aside := goodIn_r _ [5, 6, 7, 52, 53, 54, 55, 56, 57, 58, 59, 60, 61, 62, 63, 64, 65, 66] (by decide +kernel) (by decide +kernel)
set_option maxRecDepth 20000 in
theorem gX5_ring_X5_aside : GoodIn wsX5_ring (wsV RX5 73 RX5 yX5_aside wsX5_aside) := goodIn_app (goodIn_of _ (by decide +kernel)) ggX5_ring_X5_aside
set_option maxRecDepth 20000 in
theorem ggX5_ring_X5_rings : GoodIn wsX5_ring wsX5_rings := goodIn_r _ [11, 7, 12, 13, 14, 4, 15, 16, 17, 18, 19, 20, 21, 22, 23, 24, 25, 26, 27, 28, 29, 30, 31, 32, 33, 34, 35, 36, 37, 38, 39, 40, 41, 52, 53, 54, 55, 56, 57, 58, 59, 60, 61, 62, 63, 64, 65, 66] (by decide +kernel) (by decide +kernel)
set_option maxRecDepth 20000 in
theorem gX5_ring_X5_rings : GoodIn wsX5_ring (wsV RX5 102 RX5 yX5_rings wsX5_rings) := goodIn_app (goodIn_of _ (by decide +kernel)) ggX5_ring_X5_rings
set_option maxRecDepth 20000 in
theorem ggX5_ring_X5_acted : GoodIn wsX5_ring wsX5_acted := goodIn_r _ [45, 46, 47, 48, 4, 49, 50, 51, 6, 52, 53, 54, 55, 56, 57, 58, 59, 60, 61, 62, 63, 64, 65, 66] (by decide +kernel) (by decide +kernel)
set_option maxRecDepth 20000 in
theorem gX5_ring_X5_acted : GoodIn wsX5_ring (wsV RX5 76 RX5 yX5_acted wsX5_acted) := goodIn_app (goodIn_of _ (by decide +kernel)) ggX5_ring_X5_acted
theorem dX5_ring_0 : decode cX5_ring 0 = .ok (.aload_n 0, 1) := by decide +kernel
theorem dX5_ring_1 : decode cX5_ring 1 = .ok (.invokevirtual 73, 3) := by decide +kernel
theorem dX5_ring_4 : decode cX5_ring 4 = .ok (.aload_n 0, 1) := by decide +kernel
theorem dX5_ring_5 : decode cX5_ring 5 = .ok (.aload_n 0, 1) := by decide +kernel
theorem dX5_ring_6 : decode cX5_ring 6 = .ok (.iload_n 1, 1) := by decide +kernel
theorem dX5_ring_7 : decode cX5_ring 7 = .ok (.iload_n 2, 1) := by decide +kernel
theorem dX5_ring_8 : decode cX5_ring 8 = .ok (.iload_n 3, 1) := by decide +kernel
theorem dX5_ring_9 : decode cX5_ring 9 = .ok (.invokevirtual 102, 3) := by decide +kernel
theorem dX5_ring_12 : decode cX5_ring 12 = .ok (.invokevirtual 76, 3) := by decide +kernel
theorem dX5_ring_15 : decode cX5_ring 15 = .ok (.ireturn, 1) := by decide +kernel
set_option maxRecDepth 20000 in
theorem ggX5_full_X5_isOpen : GoodIn wsX5_full wsX5_isOpen := goodIn_r _ [6, 1, 7, 8, 9, 5, 10, 11, 12, 13, 22, 23, 24, 25, 26, 27, 28, 29, 30, 31, 32, 33, 34, 35, 36] (by decide +kernel) (by decide +kernel)
set_option maxRecDepth 20000 in
theorem gX5_full_X5_isOpen : GoodIn wsX5_full (wsV RX5 79 RX5 yX5_isOpen wsX5_isOpen) := goodIn_app (goodIn_of _ (by decide +kernel)) ggX5_full_X5_isOpen
set_option maxRecDepth 20000 in
theorem ggX5_full_X5_load : GoodIn wsX5_full wsX5_load := goodIn_r _ [17, 1, 18, 19, 20, 5, 21, 22, 23, 24, 25, 26, 27, 28, 29, 30, 31, 32, 33, 34, 35, 36] (by decide +kernel) (by decide +kernel)
set_option maxRecDepth 20000 in
theorem gX5_full_X5_load : GoodIn wsX5_full (wsV RX5 50 RX5 yX5_load wsX5_load) := goodIn_app (goodIn_of _ (by decide +kernel)) ggX5_full_X5_load
theorem dX5_full_0 : decode cX5_full 0 = .ok (.bipush (-9), 2) := by decide +kernel
theorem dX5_full_2 : decode cX5_full 2 = .ok (.istore_n 1, 1) := by decide +kernel
theorem dX5_full_3 : decode cX5_full 3 = .ok (.aload_n 0, 1) := by decide +kernel
theorem dX5_full_4 : decode cX5_full 4 = .ok (.getfield 7, 3) := by decide +kernel
theorem dX5_full_7 : decode cX5_full 7 = .ok (.iconst 0, 1) := by decide +kernel
theorem dX5_full_8 : decode cX5_full 8 = .ok (.iaload, 1) := by decide +kernel
theorem dX5_full_9 : decode cX5_full 9 = .ok (.iconst 1, 1) := by decide +kernel
theorem dX5_full_10 : decode cX5_full 10 = .ok (.isub, 1) := by decide +kernel
theorem dX5_full_11 : decode cX5_full 11 = .ok (.istore_n 2, 1) := by decide +kernel
theorem dX5_full_12 : decode cX5_full 12 = .ok (.iload_n 2, 1) := by decide +kernel
theorem dX5_full_13 : decode cX5_full 13 = .ok (.ifCond .lt 42, 3) := by decide +kernel
theorem dX5_full_16 : decode cX5_full 16 = .ok (.aload_n 0, 1) := by decide +kernel
theorem dX5_full_17 : decode cX5_full 17 = .ok (.iload_n 2, 1) := by decide +kernel
theorem dX5_full_18 : decode cX5_full 18 = .ok (.invokevirtual 79, 3) := by decide +kernel
theorem dX5_full_21 : decode cX5_full 21 = .ok (.ifCond .eq 26, 3) := by decide +kernel
theorem dX5_full_24 : decode cX5_full 24 = .ok (.iload_n 1, 1) := by decide +kernel
theorem dX5_full_25 : decode cX5_full 25 = .ok (.bipush (-9), 2) := by decide +kernel
theorem dX5_full_27 : decode cX5_full 27 = .ok (.if_icmp .eq 16, 3) := by decide +kernel
theorem dX5_full_30 : decode cX5_full 30 = .ok (.aload_n 0, 1) := by decide +kernel
theorem dX5_full_31 : decode cX5_full 31 = .ok (.iload_n 2, 1) := by decide +kernel
theorem dX5_full_32 : decode cX5_full 32 = .ok (.invokevirtual 50, 3) := by decide +kernel
theorem dX5_full_35 : decode cX5_full 35 = .ok (.aload_n 0, 1) := by decide +kernel
theorem dX5_full_36 : decode cX5_full 36 = .ok (.iload_n 1, 1) := by decide +kernel
theorem dX5_full_37 : decode cX5_full 37 = .ok (.invokevirtual 50, 3) := by decide +kernel
theorem dX5_full_40 : decode cX5_full 40 = .ok (.if_icmp .lt 7, 3) := by decide +kernel
theorem dX5_full_43 : decode cX5_full 43 = .ok (.iload_n 2, 1) := by decide +kernel
theorem dX5_full_44 : decode cX5_full 44 = .ok (.goto 4, 3) := by decide +kernel
theorem dX5_full_47 : decode cX5_full 47 = .ok (.iload_n 1, 1) := by decide +kernel
theorem dX5_full_48 : decode cX5_full 48 = .ok (.istore_n 1, 1) := by decide +kernel
theorem dX5_full_49 : decode cX5_full 49 = .ok (.iinc 2 (-1), 3) := by decide +kernel
theorem dX5_full_52 : decode cX5_full 52 = .ok (.goto (-40), 3) := by decide +kernel
theorem dX5_full_55 : decode cX5_full 55 = .ok (.iload_n 1, 1) := by decide +kernel
theorem dX5_full_56 : decode cX5_full 56 = .ok (.ireturn, 1) := by decide +kernel
set_option maxRecDepth 20000 in
theorem ggX5_findsMove_X5_load : GoodIn wsX5_findsMove wsX5_load := goodIn_r _ [13, 3, 14, 15, 16, 12, 17, 32, 33, 34, 35, 36, 37, 38, 39, 40, 41, 42, 43, 44, 45, 46] (by decide +kernel) (by decide +kernel)
set_option maxRecDepth 20000 in
theorem gX5_findsMove_X5_load : GoodIn wsX5_findsMove (wsV RX5 50 RX5 yX5_load wsX5_load) := goodIn_app (goodIn_of _ (by decide +kernel)) ggX5_findsMove_X5_load
set_option maxRecDepth 20000 in
theorem ggX5_findsMove_X5_of : GoodIn wsX5_findsMove wsX5_of := goodIn_r _ [17, 3, 32, 33, 34, 35, 36, 37, 38, 39, 40, 41, 42, 43, 44, 45, 46] (by decide +kernel) (by decide +kernel)
set_option maxRecDepth 20000 in
theorem gX5_findsMove_X5_of : GoodIn wsX5_findsMove (wsV RX5 43 RX5 yX5_of wsX5_of) := goodIn_app (goodIn_of _ (by decide +kernel)) ggX5_findsMove_X5_of
set_option maxRecDepth 20000 in
theorem ggX5_findsMove_X5_isOpen : GoodIn wsX5_findsMove wsX5_isOpen := goodIn_r _ [21, 3, 22, 23, 24, 12, 25, 26, 27, 28, 32, 33, 34, 35, 36, 37, 38, 39, 40, 41, 42, 43, 44, 45, 46] (by decide +kernel) (by decide +kernel)
set_option maxRecDepth 20000 in
theorem gX5_findsMove_X5_isOpen : GoodIn wsX5_findsMove (wsV RX5 79 RX5 yX5_isOpen wsX5_isOpen) := goodIn_app (goodIn_of _ (by decide +kernel)) ggX5_findsMove_X5_isOpen
set_option maxRecDepth 20000 in
theorem ggX5_findsMove_X5_greater : GoodIn wsX5_findsMove wsX5_greater := goodIn_r _ [31] (by decide +kernel) (by decide +kernel)
set_option maxRecDepth 20000 in
theorem gX5_findsMove_X5_greater : GoodIn wsX5_findsMove (va_wsS RX5 54 yX5_greater wsX5_greater) := goodIn_app (goodIn_of _ (by decide +kernel)) ggX5_findsMove_X5_greater
theorem dX5_findsMove_0 : decode cX5_findsMove 0 = .ok (.aload_n 0, 1) := by decide +kernel
theorem dX5_findsMove_1 : decode cX5_findsMove 1 = .ok (.iload_n 1, 1) := by decide +kernel
theorem dX5_findsMove_2 : decode cX5_findsMove 2 = .ok (.invokevirtual 50, 3) := by decide +kernel
theorem dX5_findsMove_5 : decode cX5_findsMove 5 = .ok (.i2l, 1) := by decide +kernel
theorem dX5_findsMove_6 : decode cX5_findsMove 6 = .ok (.ldc2_w 105, 3) := by decide +kernel
theorem dX5_findsMove_9 : decode cX5_findsMove 9 = .ok (.lmul, 1) := by decide +kernel
theorem dX5_findsMove_10 : decode cX5_findsMove 10 = .ok (.lstore_n 2, 1) := by decide +kernel
theorem dX5_findsMove_11 : decode cX5_findsMove 11 = .ok (.aload_n 0, 1) := by decide +kernel
theorem dX5_findsMove_12 : decode cX5_findsMove 12 = .ok (.bipush (-9), 2) := by decide +kernel
theorem dX5_findsMove_14 : decode cX5_findsMove 14 = .ok (.putfield 107, 3) := by decide +kernel
theorem dX5_findsMove_17 : decode cX5_findsMove 17 = .ok (.iconst 0, 1) := by decide +kernel
theorem dX5_findsMove_18 : decode cX5_findsMove 18 = .ok (.istore 4, 2) := by decide +kernel
theorem dX5_findsMove_20 : decode cX5_findsMove 20 = .ok (.iload 4, 2) := by decide +kernel
theorem dX5_findsMove_22 : decode cX5_findsMove 22 = .ok (.aload_n 0, 1) := by decide +kernel
theorem dX5_findsMove_23 : decode cX5_findsMove 23 = .ok (.getfield 7, 3) := by decide +kernel
theorem dX5_findsMove_26 : decode cX5_findsMove 26 = .ok (.iconst 2, 1) := by decide +kernel
theorem dX5_findsMove_27 : decode cX5_findsMove 27 = .ok (.iaload, 1) := by decide +kernel
theorem dX5_findsMove_28 : decode cX5_findsMove 28 = .ok (.if_icmp .ge 160, 3) := by decide +kernel
theorem dX5_findsMove_31 : decode cX5_findsMove 31 = .ok (.iconst 0, 1) := by decide +kernel
theorem dX5_findsMove_32 : decode cX5_findsMove 32 = .ok (.istore 5, 2) := by decide +kernel
theorem dX5_findsMove_34 : decode cX5_findsMove 34 = .ok (.iload 5, 2) := by decide +kernel
theorem dX5_findsMove_36 : decode cX5_findsMove 36 = .ok (.aload_n 0, 1) := by decide +kernel
theorem dX5_findsMove_37 : decode cX5_findsMove 37 = .ok (.getfield 7, 3) := by decide +kernel
theorem dX5_findsMove_40 : decode cX5_findsMove 40 = .ok (.iconst 0, 1) := by decide +kernel
theorem dX5_findsMove_41 : decode cX5_findsMove 41 = .ok (.iaload, 1) := by decide +kernel
theorem dX5_findsMove_42 : decode cX5_findsMove 42 = .ok (.if_icmp .ge 140, 3) := by decide +kernel
theorem dX5_findsMove_45 : decode cX5_findsMove 45 = .ok (.aload_n 0, 1) := by decide +kernel
theorem dX5_findsMove_46 : decode cX5_findsMove 46 = .ok (.iload 4, 2) := by decide +kernel
theorem dX5_findsMove_48 : decode cX5_findsMove 48 = .ok (.iconst 2, 1) := by decide +kernel
theorem dX5_findsMove_49 : decode cX5_findsMove 49 = .ok (.invokevirtual 43, 3) := by decide +kernel
theorem dX5_findsMove_52 : decode cX5_findsMove 52 = .ok (.iload_n 1, 1) := by decide +kernel
theorem dX5_findsMove_53 : decode cX5_findsMove 53 = .ok (.if_icmp .ne 129, 3) := by decide +kernel
theorem dX5_findsMove_56 : decode cX5_findsMove 56 = .ok (.iload 5, 2) := by decide +kernel
theorem dX5_findsMove_58 : decode cX5_findsMove 58 = .ok (.iload_n 1, 1) := by decide +kernel
theorem dX5_findsMove_59 : decode cX5_findsMove 59 = .ok (.if_icmp .eq 117, 3) := by decide +kernel
theorem dX5_findsMove_62 : decode cX5_findsMove 62 = .ok (.aload_n 0, 1) := by decide +kernel
theorem dX5_findsMove_63 : decode cX5_findsMove 63 = .ok (.iload 5, 2) := by decide +kernel
theorem dX5_findsMove_65 : decode cX5_findsMove 65 = .ok (.invokevirtual 79, 3) := by decide +kernel
theorem dX5_findsMove_68 : decode cX5_findsMove 68 = .ok (.ifCond .eq 108, 3) := by decide +kernel
theorem dX5_findsMove_71 : decode cX5_findsMove 71 = .ok (.aload_n 0, 1) := by decide +kernel
theorem dX5_findsMove_72 : decode cX5_findsMove 72 = .ok (.iload_n 1, 1) := by decide +kernel
theorem dX5_findsMove_73 : decode cX5_findsMove 73 = .ok (.invokevirtual 50, 3) := by decide +kernel
theorem dX5_findsMove_76 : decode cX5_findsMove 76 = .ok (.aload_n 0, 1) := by decide +kernel
theorem dX5_findsMove_77 : decode cX5_findsMove 77 = .ok (.iload 4, 2) := by decide +kernel
theorem dX5_findsMove_79 : decode cX5_findsMove 79 = .ok (.iconst 0, 1) := by decide +kernel
theorem dX5_findsMove_80 : decode cX5_findsMove 80 = .ok (.invokevirtual 43, 3) := by decide +kernel
theorem dX5_findsMove_83 : decode cX5_findsMove 83 = .ok (.isub, 1) := by decide +kernel
theorem dX5_findsMove_84 : decode cX5_findsMove 84 = .ok (.aload_n 0, 1) := by decide +kernel
theorem dX5_findsMove_85 : decode cX5_findsMove 85 = .ok (.iload 5, 2) := by decide +kernel
theorem dX5_findsMove_87 : decode cX5_findsMove 87 = .ok (.invokevirtual 50, 3) := by decide +kernel
theorem dX5_findsMove_90 : decode cX5_findsMove 90 = .ok (.aload_n 0, 1) := by decide +kernel
theorem dX5_findsMove_91 : decode cX5_findsMove 91 = .ok (.iload 4, 2) := by decide +kernel
theorem dX5_findsMove_93 : decode cX5_findsMove 93 = .ok (.iconst 0, 1) := by decide +kernel
theorem dX5_findsMove_94 : decode cX5_findsMove 94 = .ok (.invokevirtual 43, 3) := by decide +kernel
theorem dX5_findsMove_97 : decode cX5_findsMove 97 = .ok (.iadd, 1) := by decide +kernel
theorem dX5_findsMove_98 : decode cX5_findsMove 98 = .ok (.invokestatic 54, 3) := by decide +kernel
theorem dX5_findsMove_101 : decode cX5_findsMove 101 = .ok (.istore 6, 2) := by decide +kernel
theorem dX5_findsMove_103 : decode cX5_findsMove 103 = .ok (.iload 6, 2) := by decide +kernel
theorem dX5_findsMove_105 : decode cX5_findsMove 105 = .ok (.i2l, 1) := by decide +kernel
theorem dX5_findsMove_106 : decode cX5_findsMove 106 = .ok (.ldc2_w 105, 3) := by decide +kernel
theorem dX5_findsMove_109 : decode cX5_findsMove 109 = .ok (.lmul, 1) := by decide +kernel
theorem dX5_findsMove_110 : decode cX5_findsMove 110 = .ok (.aload_n 0, 1) := by decide +kernel
theorem dX5_findsMove_111 : decode cX5_findsMove 111 = .ok (.iload 4, 2) := by decide +kernel
theorem dX5_findsMove_113 : decode cX5_findsMove 113 = .ok (.iconst 1, 1) := by decide +kernel
theorem dX5_findsMove_114 : decode cX5_findsMove 114 = .ok (.invokevirtual 43, 3) := by decide +kernel
theorem dX5_findsMove_117 : decode cX5_findsMove 117 = .ok (.i2l, 1) := by decide +kernel
theorem dX5_findsMove_118 : decode cX5_findsMove 118 = .ok (.ldc2_w 110, 3) := by decide +kernel
theorem dX5_findsMove_121 : decode cX5_findsMove 121 = .ok (.lmul, 1) := by decide +kernel
theorem dX5_findsMove_122 : decode cX5_findsMove 122 = .ok (.ladd, 1) := by decide +kernel
theorem dX5_findsMove_123 : decode cX5_findsMove 123 = .ok (.iload 4, 2) := by decide +kernel
theorem dX5_findsMove_125 : decode cX5_findsMove 125 = .ok (.i2l, 1) := by decide +kernel
theorem dX5_findsMove_126 : decode cX5_findsMove 126 = .ok (.ldc2_w 112, 3) := by decide +kernel
theorem dX5_findsMove_129 : decode cX5_findsMove 129 = .ok (.lmul, 1) := by decide +kernel
theorem dX5_findsMove_130 : decode cX5_findsMove 130 = .ok (.ladd, 1) := by decide +kernel
theorem dX5_findsMove_131 : decode cX5_findsMove 131 = .ok (.iload 5, 2) := by decide +kernel
theorem dX5_findsMove_133 : decode cX5_findsMove 133 = .ok (.i2l, 1) := by decide +kernel
theorem dX5_findsMove_134 : decode cX5_findsMove 134 = .ok (.ladd, 1) := by decide +kernel
theorem dX5_findsMove_135 : decode cX5_findsMove 135 = .ok (.lstore 7, 2) := by decide +kernel
theorem dX5_findsMove_137 : decode cX5_findsMove 137 = .ok (.lload 7, 2) := by decide +kernel
theorem dX5_findsMove_139 : decode cX5_findsMove 139 = .ok (.lload_n 2, 1) := by decide +kernel
theorem dX5_findsMove_140 : decode cX5_findsMove 140 = .ok (.lcmp, 1) := by decide +kernel
theorem dX5_findsMove_141 : decode cX5_findsMove 141 = .ok (.ifCond .ge 35, 3) := by decide +kernel
theorem dX5_findsMove_144 : decode cX5_findsMove 144 = .ok (.lload 7, 2) := by decide +kernel
theorem dX5_findsMove_146 : decode cX5_findsMove 146 = .ok (.lstore_n 2, 1) := by decide +kernel
theorem dX5_findsMove_147 : decode cX5_findsMove 147 = .ok (.aload_n 0, 1) := by decide +kernel
theorem dX5_findsMove_148 : decode cX5_findsMove 148 = .ok (.iload 4, 2) := by decide +kernel
theorem dX5_findsMove_150 : decode cX5_findsMove 150 = .ok (.putfield 107, 3) := by decide +kernel
theorem dX5_findsMove_153 : decode cX5_findsMove 153 = .ok (.aload_n 0, 1) := by decide +kernel
theorem dX5_findsMove_154 : decode cX5_findsMove 154 = .ok (.iload 5, 2) := by decide +kernel
theorem dX5_findsMove_156 : decode cX5_findsMove 156 = .ok (.putfield 114, 3) := by decide +kernel
theorem dX5_findsMove_159 : decode cX5_findsMove 159 = .ok (.aload_n 0, 1) := by decide +kernel
theorem dX5_findsMove_160 : decode cX5_findsMove 160 = .ok (.bipush (-9), 2) := by decide +kernel
theorem dX5_findsMove_162 : decode cX5_findsMove 162 = .ok (.putfield 117, 3) := by decide +kernel
theorem dX5_findsMove_165 : decode cX5_findsMove 165 = .ok (.aload_n 0, 1) := by decide +kernel
theorem dX5_findsMove_166 : decode cX5_findsMove 166 = .ok (.aload_n 0, 1) := by decide +kernel
theorem dX5_findsMove_167 : decode cX5_findsMove 167 = .ok (.iload 4, 2) := by decide +kernel
theorem dX5_findsMove_169 : decode cX5_findsMove 169 = .ok (.iconst 1, 1) := by decide +kernel
theorem dX5_findsMove_170 : decode cX5_findsMove 170 = .ok (.invokevirtual 43, 3) := by decide +kernel
theorem dX5_findsMove_173 : decode cX5_findsMove 173 = .ok (.putfield 120, 3) := by decide +kernel
theorem dX5_findsMove_176 : decode cX5_findsMove 176 = .ok (.iinc 5 1, 3) := by decide +kernel
theorem dX5_findsMove_179 : decode cX5_findsMove 179 = .ok (.goto (-145), 3) := by decide +kernel
theorem dX5_findsMove_182 : decode cX5_findsMove 182 = .ok (.iinc 4 1, 3) := by decide +kernel
theorem dX5_findsMove_185 : decode cX5_findsMove 185 = .ok (.goto (-165), 3) := by decide +kernel
theorem dX5_findsMove_188 : decode cX5_findsMove 188 = .ok (.aload_n 0, 1) := by decide +kernel
theorem dX5_findsMove_189 : decode cX5_findsMove 189 = .ok (.getfield 107, 3) := by decide +kernel
theorem dX5_findsMove_192 : decode cX5_findsMove 192 = .ok (.bipush (-9), 2) := by decide +kernel
theorem dX5_findsMove_194 : decode cX5_findsMove 194 = .ok (.if_icmp .eq 20, 3) := by decide +kernel
theorem dX5_findsMove_197 : decode cX5_findsMove 197 = .ok (.aload_n 0, 1) := by decide +kernel
theorem dX5_findsMove_198 : decode cX5_findsMove 198 = .ok (.getfield 120, 3) := by decide +kernel
theorem dX5_findsMove_201 : decode cX5_findsMove 201 = .ok (.aload_n 0, 1) := by decide +kernel
theorem dX5_findsMove_202 : decode cX5_findsMove 202 = .ok (.getfield 7, 3) := by decide +kernel
theorem dX5_findsMove_205 : decode cX5_findsMove 205 = .ok (.iconst 3, 1) := by decide +kernel
theorem dX5_findsMove_206 : decode cX5_findsMove 206 = .ok (.iaload, 1) := by decide +kernel
theorem dX5_findsMove_207 : decode cX5_findsMove 207 = .ok (.if_icmp .gt 7, 3) := by decide +kernel
theorem dX5_findsMove_210 : decode cX5_findsMove 210 = .ok (.iconst 1, 1) := by decide +kernel
theorem dX5_findsMove_211 : decode cX5_findsMove 211 = .ok (.goto 4, 3) := by decide +kernel
theorem dX5_findsMove_214 : decode cX5_findsMove 214 = .ok (.iconst 0, 1) := by decide +kernel
theorem dX5_findsMove_215 : decode cX5_findsMove 215 = .ok (.ireturn, 1) := by decide +kernel
set_option maxRecDepth 20000 in
theorem ggX5_findsExchange_X5_load : GoodIn wsX5_findsExchange wsX5_load := goodIn_r _ [13, 3, 14, 15, 16, 12, 17, 21, 22, 23, 24, 25, 26, 27, 28, 29, 30, 31, 32, 33, 34, 35] (by decide +kernel) (by decide +kernel)
set_option maxRecDepth 20000 in
theorem gX5_findsExchange_X5_load : GoodIn wsX5_findsExchange (wsV RX5 50 RX5 yX5_load wsX5_load) := goodIn_app (goodIn_of _ (by decide +kernel)) ggX5_findsExchange_X5_load
set_option maxRecDepth 20000 in
theorem ggX5_findsExchange_X5_of : GoodIn wsX5_findsExchange wsX5_of := goodIn_r _ [17, 3, 21, 22, 23, 24, 25, 26, 27, 28, 29, 30, 31, 32, 33, 34, 35] (by decide +kernel) (by decide +kernel)
set_option maxRecDepth 20000 in
theorem gX5_findsExchange_X5_of : GoodIn wsX5_findsExchange (wsV RX5 43 RX5 yX5_of wsX5_of) := goodIn_app (goodIn_of _ (by decide +kernel)) ggX5_findsExchange_X5_of
set_option maxRecDepth 20000 in
theorem ggX5_findsExchange_X5_greater : GoodIn wsX5_findsExchange wsX5_greater := goodIn_r _ [20] (by decide +kernel) (by decide +kernel)
set_option maxRecDepth 20000 in
theorem gX5_findsExchange_X5_greater : GoodIn wsX5_findsExchange (va_wsS RX5 54 yX5_greater wsX5_greater) := goodIn_app (goodIn_of _ (by decide +kernel)) ggX5_findsExchange_X5_greater
theorem dX5_findsExchange_0 : decode cX5_findsExchange 0 = .ok (.aload_n 0, 1) := by decide +kernel
theorem dX5_findsExchange_1 : decode cX5_findsExchange 1 = .ok (.iload_n 1, 1) := by decide +kernel
theorem dX5_findsExchange_2 : decode cX5_findsExchange 2 = .ok (.invokevirtual 50, 3) := by decide +kernel
theorem dX5_findsExchange_5 : decode cX5_findsExchange 5 = .ok (.i2l, 1) := by decide +kernel
theorem dX5_findsExchange_6 : decode cX5_findsExchange 6 = .ok (.ldc2_w 105, 3) := by decide +kernel
theorem dX5_findsExchange_9 : decode cX5_findsExchange 9 = .ok (.lmul, 1) := by decide +kernel
theorem dX5_findsExchange_10 : decode cX5_findsExchange 10 = .ok (.lstore_n 2, 1) := by decide +kernel
theorem dX5_findsExchange_11 : decode cX5_findsExchange 11 = .ok (.aload_n 0, 1) := by decide +kernel
theorem dX5_findsExchange_12 : decode cX5_findsExchange 12 = .ok (.bipush (-9), 2) := by decide +kernel
theorem dX5_findsExchange_14 : decode cX5_findsExchange 14 = .ok (.putfield 107, 3) := by decide +kernel
theorem dX5_findsExchange_17 : decode cX5_findsExchange 17 = .ok (.iconst 0, 1) := by decide +kernel
theorem dX5_findsExchange_18 : decode cX5_findsExchange 18 = .ok (.istore 4, 2) := by decide +kernel
theorem dX5_findsExchange_20 : decode cX5_findsExchange 20 = .ok (.iload 4, 2) := by decide +kernel
theorem dX5_findsExchange_22 : decode cX5_findsExchange 22 = .ok (.aload_n 0, 1) := by decide +kernel
theorem dX5_findsExchange_23 : decode cX5_findsExchange 23 = .ok (.getfield 7, 3) := by decide +kernel
theorem dX5_findsExchange_26 : decode cX5_findsExchange 26 = .ok (.iconst 2, 1) := by decide +kernel
theorem dX5_findsExchange_27 : decode cX5_findsExchange 27 = .ok (.iaload, 1) := by decide +kernel
theorem dX5_findsExchange_28 : decode cX5_findsExchange 28 = .ok (.if_icmp .ge 181, 3) := by decide +kernel
theorem dX5_findsExchange_31 : decode cX5_findsExchange 31 = .ok (.iconst 0, 1) := by decide +kernel
theorem dX5_findsExchange_32 : decode cX5_findsExchange 32 = .ok (.istore 5, 2) := by decide +kernel
theorem dX5_findsExchange_34 : decode cX5_findsExchange 34 = .ok (.iload 5, 2) := by decide +kernel
theorem dX5_findsExchange_36 : decode cX5_findsExchange 36 = .ok (.aload_n 0, 1) := by decide +kernel
theorem dX5_findsExchange_37 : decode cX5_findsExchange 37 = .ok (.getfield 7, 3) := by decide +kernel
theorem dX5_findsExchange_40 : decode cX5_findsExchange 40 = .ok (.iconst 2, 1) := by decide +kernel
theorem dX5_findsExchange_41 : decode cX5_findsExchange 41 = .ok (.iaload, 1) := by decide +kernel
theorem dX5_findsExchange_42 : decode cX5_findsExchange 42 = .ok (.if_icmp .ge 161, 3) := by decide +kernel
theorem dX5_findsExchange_45 : decode cX5_findsExchange 45 = .ok (.aload_n 0, 1) := by decide +kernel
theorem dX5_findsExchange_46 : decode cX5_findsExchange 46 = .ok (.iload 4, 2) := by decide +kernel
theorem dX5_findsExchange_48 : decode cX5_findsExchange 48 = .ok (.iconst 2, 1) := by decide +kernel
theorem dX5_findsExchange_49 : decode cX5_findsExchange 49 = .ok (.invokevirtual 43, 3) := by decide +kernel
theorem dX5_findsExchange_52 : decode cX5_findsExchange 52 = .ok (.iload_n 1, 1) := by decide +kernel
theorem dX5_findsExchange_53 : decode cX5_findsExchange 53 = .ok (.if_icmp .ne 150, 3) := by decide +kernel
theorem dX5_findsExchange_56 : decode cX5_findsExchange 56 = .ok (.aload_n 0, 1) := by decide +kernel
theorem dX5_findsExchange_57 : decode cX5_findsExchange 57 = .ok (.iload 5, 2) := by decide +kernel
theorem dX5_findsExchange_59 : decode cX5_findsExchange 59 = .ok (.iconst 2, 1) := by decide +kernel
theorem dX5_findsExchange_60 : decode cX5_findsExchange 60 = .ok (.invokevirtual 43, 3) := by decide +kernel
theorem dX5_findsExchange_63 : decode cX5_findsExchange 63 = .ok (.istore 6, 2) := by decide +kernel
theorem dX5_findsExchange_65 : decode cX5_findsExchange 65 = .ok (.iload 6, 2) := by decide +kernel
theorem dX5_findsExchange_67 : decode cX5_findsExchange 67 = .ok (.bipush (-9), 2) := by decide +kernel
theorem dX5_findsExchange_69 : decode cX5_findsExchange 69 = .ok (.if_icmp .eq 128, 3) := by decide +kernel
theorem dX5_findsExchange_72 : decode cX5_findsExchange 72 = .ok (.iload 6, 2) := by decide +kernel
theorem dX5_findsExchange_74 : decode cX5_findsExchange 74 = .ok (.iload_n 1, 1) := by decide +kernel
theorem dX5_findsExchange_75 : decode cX5_findsExchange 75 = .ok (.if_icmp .eq 122, 3) := by decide +kernel
theorem dX5_findsExchange_78 : decode cX5_findsExchange 78 = .ok (.aload_n 0, 1) := by decide +kernel
theorem dX5_findsExchange_79 : decode cX5_findsExchange 79 = .ok (.iload 5, 2) := by decide +kernel
theorem dX5_findsExchange_81 : decode cX5_findsExchange 81 = .ok (.iconst 0, 1) := by decide +kernel
theorem dX5_findsExchange_82 : decode cX5_findsExchange 82 = .ok (.invokevirtual 43, 3) := by decide +kernel
theorem dX5_findsExchange_85 : decode cX5_findsExchange 85 = .ok (.aload_n 0, 1) := by decide +kernel
theorem dX5_findsExchange_86 : decode cX5_findsExchange 86 = .ok (.iload 4, 2) := by decide +kernel
theorem dX5_findsExchange_88 : decode cX5_findsExchange 88 = .ok (.iconst 0, 1) := by decide +kernel
theorem dX5_findsExchange_89 : decode cX5_findsExchange 89 = .ok (.invokevirtual 43, 3) := by decide +kernel
theorem dX5_findsExchange_92 : decode cX5_findsExchange 92 = .ok (.isub, 1) := by decide +kernel
theorem dX5_findsExchange_93 : decode cX5_findsExchange 93 = .ok (.istore 7, 2) := by decide +kernel
theorem dX5_findsExchange_95 : decode cX5_findsExchange 95 = .ok (.aload_n 0, 1) := by decide +kernel
theorem dX5_findsExchange_96 : decode cX5_findsExchange 96 = .ok (.iload_n 1, 1) := by decide +kernel
theorem dX5_findsExchange_97 : decode cX5_findsExchange 97 = .ok (.invokevirtual 50, 3) := by decide +kernel
theorem dX5_findsExchange_100 : decode cX5_findsExchange 100 = .ok (.iload 7, 2) := by decide +kernel
theorem dX5_findsExchange_102 : decode cX5_findsExchange 102 = .ok (.iadd, 1) := by decide +kernel
theorem dX5_findsExchange_103 : decode cX5_findsExchange 103 = .ok (.aload_n 0, 1) := by decide +kernel
theorem dX5_findsExchange_104 : decode cX5_findsExchange 104 = .ok (.iload 6, 2) := by decide +kernel
theorem dX5_findsExchange_106 : decode cX5_findsExchange 106 = .ok (.invokevirtual 50, 3) := by decide +kernel
theorem dX5_findsExchange_109 : decode cX5_findsExchange 109 = .ok (.iload 7, 2) := by decide +kernel
theorem dX5_findsExchange_111 : decode cX5_findsExchange 111 = .ok (.isub, 1) := by decide +kernel
theorem dX5_findsExchange_112 : decode cX5_findsExchange 112 = .ok (.invokestatic 54, 3) := by decide +kernel
theorem dX5_findsExchange_115 : decode cX5_findsExchange 115 = .ok (.istore 8, 2) := by decide +kernel
theorem dX5_findsExchange_117 : decode cX5_findsExchange 117 = .ok (.aload_n 0, 1) := by decide +kernel
theorem dX5_findsExchange_118 : decode cX5_findsExchange 118 = .ok (.iload 4, 2) := by decide +kernel
theorem dX5_findsExchange_120 : decode cX5_findsExchange 120 = .ok (.iconst 1, 1) := by decide +kernel
theorem dX5_findsExchange_121 : decode cX5_findsExchange 121 = .ok (.invokevirtual 43, 3) := by decide +kernel
theorem dX5_findsExchange_124 : decode cX5_findsExchange 124 = .ok (.aload_n 0, 1) := by decide +kernel
theorem dX5_findsExchange_125 : decode cX5_findsExchange 125 = .ok (.iload 5, 2) := by decide +kernel
theorem dX5_findsExchange_127 : decode cX5_findsExchange 127 = .ok (.iconst 1, 1) := by decide +kernel
theorem dX5_findsExchange_128 : decode cX5_findsExchange 128 = .ok (.invokevirtual 43, 3) := by decide +kernel
theorem dX5_findsExchange_131 : decode cX5_findsExchange 131 = .ok (.iadd, 1) := by decide +kernel
theorem dX5_findsExchange_132 : decode cX5_findsExchange 132 = .ok (.istore 9, 2) := by decide +kernel
theorem dX5_findsExchange_134 : decode cX5_findsExchange 134 = .ok (.iload 8, 2) := by decide +kernel
theorem dX5_findsExchange_136 : decode cX5_findsExchange 136 = .ok (.i2l, 1) := by decide +kernel
theorem dX5_findsExchange_137 : decode cX5_findsExchange 137 = .ok (.ldc2_w 105, 3) := by decide +kernel
theorem dX5_findsExchange_140 : decode cX5_findsExchange 140 = .ok (.lmul, 1) := by decide +kernel
theorem dX5_findsExchange_141 : decode cX5_findsExchange 141 = .ok (.iload 9, 2) := by decide +kernel
theorem dX5_findsExchange_143 : decode cX5_findsExchange 143 = .ok (.i2l, 1) := by decide +kernel
theorem dX5_findsExchange_144 : decode cX5_findsExchange 144 = .ok (.ldc2_w 110, 3) := by decide +kernel
theorem dX5_findsExchange_147 : decode cX5_findsExchange 147 = .ok (.lmul, 1) := by decide +kernel
theorem dX5_findsExchange_148 : decode cX5_findsExchange 148 = .ok (.ladd, 1) := by decide +kernel
theorem dX5_findsExchange_149 : decode cX5_findsExchange 149 = .ok (.iload 4, 2) := by decide +kernel
theorem dX5_findsExchange_151 : decode cX5_findsExchange 151 = .ok (.i2l, 1) := by decide +kernel
theorem dX5_findsExchange_152 : decode cX5_findsExchange 152 = .ok (.ldc2_w 112, 3) := by decide +kernel
theorem dX5_findsExchange_155 : decode cX5_findsExchange 155 = .ok (.lmul, 1) := by decide +kernel
theorem dX5_findsExchange_156 : decode cX5_findsExchange 156 = .ok (.ladd, 1) := by decide +kernel
theorem dX5_findsExchange_157 : decode cX5_findsExchange 157 = .ok (.iload 5, 2) := by decide +kernel
theorem dX5_findsExchange_159 : decode cX5_findsExchange 159 = .ok (.i2l, 1) := by decide +kernel
theorem dX5_findsExchange_160 : decode cX5_findsExchange 160 = .ok (.ladd, 1) := by decide +kernel
theorem dX5_findsExchange_161 : decode cX5_findsExchange 161 = .ok (.lstore 10, 2) := by decide +kernel
theorem dX5_findsExchange_163 : decode cX5_findsExchange 163 = .ok (.lload 10, 2) := by decide +kernel
theorem dX5_findsExchange_165 : decode cX5_findsExchange 165 = .ok (.lload_n 2, 1) := by decide +kernel
theorem dX5_findsExchange_166 : decode cX5_findsExchange 166 = .ok (.lcmp, 1) := by decide +kernel
theorem dX5_findsExchange_167 : decode cX5_findsExchange 167 = .ok (.ifCond .ge 30, 3) := by decide +kernel
theorem dX5_findsExchange_170 : decode cX5_findsExchange 170 = .ok (.lload 10, 2) := by decide +kernel
theorem dX5_findsExchange_172 : decode cX5_findsExchange 172 = .ok (.lstore_n 2, 1) := by decide +kernel
theorem dX5_findsExchange_173 : decode cX5_findsExchange 173 = .ok (.aload_n 0, 1) := by decide +kernel
theorem dX5_findsExchange_174 : decode cX5_findsExchange 174 = .ok (.iload 4, 2) := by decide +kernel
theorem dX5_findsExchange_176 : decode cX5_findsExchange 176 = .ok (.putfield 107, 3) := by decide +kernel
theorem dX5_findsExchange_179 : decode cX5_findsExchange 179 = .ok (.aload_n 0, 1) := by decide +kernel
theorem dX5_findsExchange_180 : decode cX5_findsExchange 180 = .ok (.iload 6, 2) := by decide +kernel
theorem dX5_findsExchange_182 : decode cX5_findsExchange 182 = .ok (.putfield 114, 3) := by decide +kernel
theorem dX5_findsExchange_185 : decode cX5_findsExchange 185 = .ok (.aload_n 0, 1) := by decide +kernel
theorem dX5_findsExchange_186 : decode cX5_findsExchange 186 = .ok (.iload 5, 2) := by decide +kernel
theorem dX5_findsExchange_188 : decode cX5_findsExchange 188 = .ok (.putfield 117, 3) := by decide +kernel
theorem dX5_findsExchange_191 : decode cX5_findsExchange 191 = .ok (.aload_n 0, 1) := by decide +kernel
theorem dX5_findsExchange_192 : decode cX5_findsExchange 192 = .ok (.iload 9, 2) := by decide +kernel
theorem dX5_findsExchange_194 : decode cX5_findsExchange 194 = .ok (.putfield 120, 3) := by decide +kernel
theorem dX5_findsExchange_197 : decode cX5_findsExchange 197 = .ok (.iinc 5 1, 3) := by decide +kernel
theorem dX5_findsExchange_200 : decode cX5_findsExchange 200 = .ok (.goto (-166), 3) := by decide +kernel
theorem dX5_findsExchange_203 : decode cX5_findsExchange 203 = .ok (.iinc 4 1, 3) := by decide +kernel
theorem dX5_findsExchange_206 : decode cX5_findsExchange 206 = .ok (.goto (-186), 3) := by decide +kernel
theorem dX5_findsExchange_209 : decode cX5_findsExchange 209 = .ok (.aload_n 0, 1) := by decide +kernel
theorem dX5_findsExchange_210 : decode cX5_findsExchange 210 = .ok (.getfield 107, 3) := by decide +kernel
theorem dX5_findsExchange_213 : decode cX5_findsExchange 213 = .ok (.bipush (-9), 2) := by decide +kernel
theorem dX5_findsExchange_215 : decode cX5_findsExchange 215 = .ok (.if_icmp .eq 20, 3) := by decide +kernel
theorem dX5_findsExchange_218 : decode cX5_findsExchange 218 = .ok (.aload_n 0, 1) := by decide +kernel
theorem dX5_findsExchange_219 : decode cX5_findsExchange 219 = .ok (.getfield 120, 3) := by decide +kernel
theorem dX5_findsExchange_222 : decode cX5_findsExchange 222 = .ok (.aload_n 0, 1) := by decide +kernel
theorem dX5_findsExchange_223 : decode cX5_findsExchange 223 = .ok (.getfield 7, 3) := by decide +kernel
theorem dX5_findsExchange_226 : decode cX5_findsExchange 226 = .ok (.iconst 3, 1) := by decide +kernel
theorem dX5_findsExchange_227 : decode cX5_findsExchange 227 = .ok (.iaload, 1) := by decide +kernel
theorem dX5_findsExchange_228 : decode cX5_findsExchange 228 = .ok (.if_icmp .gt 7, 3) := by decide +kernel
theorem dX5_findsExchange_231 : decode cX5_findsExchange 231 = .ok (.iconst 1, 1) := by decide +kernel
theorem dX5_findsExchange_232 : decode cX5_findsExchange 232 = .ok (.goto 4, 3) := by decide +kernel
theorem dX5_findsExchange_235 : decode cX5_findsExchange 235 = .ok (.iconst 0, 1) := by decide +kernel
theorem dX5_findsExchange_236 : decode cX5_findsExchange 236 = .ok (.ireturn, 1) := by decide +kernel
set_option maxRecDepth 20000 in
theorem ggX5_findsStep_X5_areEven : GoodIn wsX5_findsStep wsX5_areEven := goodIn_r _ [5, 6, 7, 8, 4, 9, 10, 11, 12, 13, 14, 15, 16, 17, 18, 19, 20, 21, 22, 23, 24, 25, 26, 27, 28, 29, 30, 31, 32, 33, 34, 35, 36, 37, 38, 39, 40, 41, 72, 73, 74, 75, 76, 77, 78, 79, 80, 81, 82, 83, 84, 85, 86] (by decide +kernel) (by decide +kernel)
set_option maxRecDepth 20000 in
theorem gX5_findsStep_X5_areEven : GoodIn wsX5_findsStep (wsV RX5 123 RX5 yX5_areEven wsX5_areEven) := goodIn_app (goodIn_of _ (by decide +kernel)) ggX5_findsStep_X5_areEven
set_option maxRecDepth 20000 in
theorem ggX5_findsStep_X5_full : GoodIn wsX5_findsStep wsX5_full := goodIn_r _ [45, 10, 46, 47, 48, 4, 49, 50, 51, 52, 53, 54, 55, 56, 11, 12, 13, 14, 15, 16, 17, 18, 72, 73, 74, 75, 76, 77, 78, 79, 80, 81, 82, 83, 84, 85, 86] (by decide +kernel) (by decide +kernel)
set_option maxRecDepth 20000 in
theorem gX5_findsStep_X5_full : GoodIn wsX5_findsStep (wsV RX5 127 RX5 yX5_full wsX5_full) := goodIn_app (goodIn_of _ (by decide +kernel)) ggX5_findsStep_X5_full
set_option maxRecDepth 20000 in
theorem ggX5_findsStep_X5_findsMove : GoodIn wsX5_findsStep wsX5_findsMove := goodIn_r _ [60, 61, 62, 10, 63, 64, 65, 66, 67, 11, 12, 13, 4, 14, 15, 16, 17, 18, 46, 47, 48, 49, 50, 51, 52, 53, 54, 55, 56, 19, 20, 21, 72, 73, 74, 75, 76, 77, 78, 79, 80, 81, 82, 83, 84, 85, 86] (by decide +kernel) (by decide +kernel)
set_option maxRecDepth 20000 in
theorem gX5_findsStep_X5_findsMove : GoodIn wsX5_findsStep (wsV RX5 130 RX5 yX5_findsMove wsX5_findsMove) := goodIn_app (goodIn_of _ (by decide +kernel)) ggX5_findsStep_X5_findsMove
set_option maxRecDepth 20000 in
theorem ggX5_findsStep_X5_findsExchange : GoodIn wsX5_findsStep wsX5_findsExchange := goodIn_r _ [71, 61, 62, 10, 63, 64, 65, 66, 67, 11, 12, 13, 4, 14, 15, 16, 17, 18, 19, 20, 21, 72, 73, 74, 75, 76, 77, 78, 79, 80, 81, 82, 83, 84, 85, 86] (by decide +kernel) (by decide +kernel)
set_option maxRecDepth 20000 in
theorem gX5_findsStep_X5_findsExchange : GoodIn wsX5_findsStep (wsV RX5 133 RX5 yX5_findsExchange wsX5_findsExchange) := goodIn_app (goodIn_of _ (by decide +kernel)) ggX5_findsStep_X5_findsExchange
theorem dX5_findsStep_0 : decode cX5_findsStep 0 = .ok (.aload_n 0, 1) := by decide +kernel
theorem dX5_findsStep_1 : decode cX5_findsStep 1 = .ok (.invokevirtual 123, 3) := by decide +kernel
theorem dX5_findsStep_4 : decode cX5_findsStep 4 = .ok (.ifCond .eq 5, 3) := by decide +kernel
theorem dX5_findsStep_7 : decode cX5_findsStep 7 = .ok (.iconst 0, 1) := by decide +kernel
theorem dX5_findsStep_8 : decode cX5_findsStep 8 = .ok (.ireturn, 1) := by decide +kernel
theorem dX5_findsStep_9 : decode cX5_findsStep 9 = .ok (.aload_n 0, 1) := by decide +kernel
theorem dX5_findsStep_10 : decode cX5_findsStep 10 = .ok (.invokevirtual 127, 3) := by decide +kernel
theorem dX5_findsStep_13 : decode cX5_findsStep 13 = .ok (.istore_n 1, 1) := by decide +kernel
theorem dX5_findsStep_14 : decode cX5_findsStep 14 = .ok (.aload_n 0, 1) := by decide +kernel
theorem dX5_findsStep_15 : decode cX5_findsStep 15 = .ok (.iload_n 1, 1) := by decide +kernel
theorem dX5_findsStep_16 : decode cX5_findsStep 16 = .ok (.invokevirtual 130, 3) := by decide +kernel
theorem dX5_findsStep_19 : decode cX5_findsStep 19 = .ok (.ifCond .ne 11, 3) := by decide +kernel
theorem dX5_findsStep_22 : decode cX5_findsStep 22 = .ok (.aload_n 0, 1) := by decide +kernel
theorem dX5_findsStep_23 : decode cX5_findsStep 23 = .ok (.iload_n 1, 1) := by decide +kernel
theorem dX5_findsStep_24 : decode cX5_findsStep 24 = .ok (.invokevirtual 133, 3) := by decide +kernel
theorem dX5_findsStep_27 : decode cX5_findsStep 27 = .ok (.ifCond .eq 7, 3) := by decide +kernel
theorem dX5_findsStep_30 : decode cX5_findsStep 30 = .ok (.iconst 1, 1) := by decide +kernel
theorem dX5_findsStep_31 : decode cX5_findsStep 31 = .ok (.goto 4, 3) := by decide +kernel
theorem dX5_findsStep_34 : decode cX5_findsStep 34 = .ok (.iconst 0, 1) := by decide +kernel
theorem dX5_findsStep_35 : decode cX5_findsStep 35 = .ok (.ireturn, 1) := by decide +kernel
set_option maxRecDepth 20000 in
theorem ggX5_evens_X5_findsStep : GoodIn wsX5_evens wsX5_findsStep := goodIn_r _ [8, 9, 10, 11, 7, 12, 13, 14, 15, 16, 17, 18, 19, 20, 21, 22, 23, 24, 25, 26, 27, 28, 29, 30, 31, 32, 33, 34, 35, 36, 37, 38, 39, 40, 41, 42, 43, 44, 45, 46, 47, 48, 49, 50, 51, 52, 53, 54, 55, 56, 57, 58, 59, 60, 61, 62, 63, 64, 65, 66, 67, 68, 2, 69, 70, 3, 1, 71, 72, 73, 74, 75, 92, 93, 94, 95, 96, 97, 98, 99, 100, 101, 102, 103, 104, 105, 106] (by decide +kernel) (by decide +kernel)
set_option maxRecDepth 20000 in
theorem gX5_evens_X5_findsStep : GoodIn wsX5_evens (wsV RX5 136 RX5 yX5_findsStep wsX5_findsStep) := goodIn_app (goodIn_of _ (by decide +kernel)) ggX5_evens_X5_findsStep
set_option maxRecDepth 20000 in
theorem ggX5_evens_X5_moves : GoodIn wsX5_evens wsX5_moves := goodIn_r _ [79, 17, 80, 81, 82, 7, 83, 61, 62, 63, 57, 58, 59, 60, 37, 38, 39, 40, 22, 23, 24, 25, 53, 54, 55, 56, 84, 85, 86, 87, 13, 14, 15, 16, 18, 19, 20, 21, 26, 27, 28, 92, 93, 94, 95, 96, 97, 98, 99, 100, 101, 102, 103, 104, 105, 106] (by decide +kernel) (by decide +kernel)
set_option maxRecDepth 20000 in
theorem gX5_evens_X5_moves : GoodIn wsX5_evens (wsV RX5 96 RX5 yX5_moves wsX5_moves) := goodIn_app (goodIn_of _ (by decide +kernel)) ggX5_evens_X5_moves
set_option maxRecDepth 20000 in
theorem ggX5_evens_X5_exchanges : GoodIn wsX5_evens wsX5_exchanges := goodIn_r _ [91, 17, 80, 81, 82, 7, 83, 61, 62, 63, 22, 23, 24, 25, 37, 38, 39, 40, 84, 85, 86, 87, 13, 14, 15, 16, 18, 19, 20, 21, 26, 27, 28, 92, 93, 94, 95, 96, 97, 98, 99, 100, 101, 102, 103, 104, 105, 106] (by decide +kernel) (by decide +kernel)
set_option maxRecDepth 20000 in
theorem gX5_evens_X5_exchanges : GoodIn wsX5_evens (wsV RX5 99 RX5 yX5_exchanges wsX5_exchanges) := goodIn_app (goodIn_of _ (by decide +kernel)) ggX5_evens_X5_exchanges
theorem dX5_evens_0 : decode cX5_evens 0 = .ok (.iconst 0, 1) := by decide +kernel
theorem dX5_evens_1 : decode cX5_evens 1 = .ok (.istore_n 2, 1) := by decide +kernel
theorem dX5_evens_2 : decode cX5_evens 2 = .ok (.iload_n 2, 1) := by decide +kernel
theorem dX5_evens_3 : decode cX5_evens 3 = .ok (.iload_n 1, 1) := by decide +kernel
theorem dX5_evens_4 : decode cX5_evens 4 = .ok (.if_icmp .ge 62, 3) := by decide +kernel
theorem dX5_evens_7 : decode cX5_evens 7 = .ok (.aload_n 0, 1) := by decide +kernel
theorem dX5_evens_8 : decode cX5_evens 8 = .ok (.invokevirtual 136, 3) := by decide +kernel
theorem dX5_evens_11 : decode cX5_evens 11 = .ok (.ifCond .eq 55, 3) := by decide +kernel
theorem dX5_evens_14 : decode cX5_evens 14 = .ok (.aload_n 0, 1) := by decide +kernel
theorem dX5_evens_15 : decode cX5_evens 15 = .ok (.getfield 117, 3) := by decide +kernel
theorem dX5_evens_18 : decode cX5_evens 18 = .ok (.bipush (-9), 2) := by decide +kernel
theorem dX5_evens_20 : decode cX5_evens 20 = .ok (.if_icmp .ne 18, 3) := by decide +kernel
theorem dX5_evens_23 : decode cX5_evens 23 = .ok (.aload_n 0, 1) := by decide +kernel
theorem dX5_evens_24 : decode cX5_evens 24 = .ok (.aload_n 0, 1) := by decide +kernel
theorem dX5_evens_25 : decode cX5_evens 25 = .ok (.getfield 107, 3) := by decide +kernel
theorem dX5_evens_28 : decode cX5_evens 28 = .ok (.aload_n 0, 1) := by decide +kernel
theorem dX5_evens_29 : decode cX5_evens 29 = .ok (.getfield 114, 3) := by decide +kernel
theorem dX5_evens_32 : decode cX5_evens 32 = .ok (.invokevirtual 96, 3) := by decide +kernel
theorem dX5_evens_35 : decode cX5_evens 35 = .ok (.goto 15, 3) := by decide +kernel
theorem dX5_evens_38 : decode cX5_evens 38 = .ok (.aload_n 0, 1) := by decide +kernel
theorem dX5_evens_39 : decode cX5_evens 39 = .ok (.aload_n 0, 1) := by decide +kernel
theorem dX5_evens_40 : decode cX5_evens 40 = .ok (.getfield 107, 3) := by decide +kernel
theorem dX5_evens_43 : decode cX5_evens 43 = .ok (.aload_n 0, 1) := by decide +kernel
theorem dX5_evens_44 : decode cX5_evens 44 = .ok (.getfield 117, 3) := by decide +kernel
theorem dX5_evens_47 : decode cX5_evens 47 = .ok (.invokevirtual 99, 3) := by decide +kernel
theorem dX5_evens_50 : decode cX5_evens 50 = .ok (.istore_n 3, 1) := by decide +kernel
theorem dX5_evens_51 : decode cX5_evens 51 = .ok (.iload_n 2, 1) := by decide +kernel
theorem dX5_evens_52 : decode cX5_evens 52 = .ok (.iload_n 3, 1) := by decide +kernel
theorem dX5_evens_53 : decode cX5_evens 53 = .ok (.ifCond .ge 7, 3) := by decide +kernel
theorem dX5_evens_56 : decode cX5_evens 56 = .ok (.iconst 0, 1) := by decide +kernel
theorem dX5_evens_57 : decode cX5_evens 57 = .ok (.goto 4, 3) := by decide +kernel
theorem dX5_evens_60 : decode cX5_evens 60 = .ok (.iconst 1, 1) := by decide +kernel
theorem dX5_evens_61 : decode cX5_evens 61 = .ok (.iadd, 1) := by decide +kernel
theorem dX5_evens_62 : decode cX5_evens 62 = .ok (.istore_n 2, 1) := by decide +kernel
theorem dX5_evens_63 : decode cX5_evens 63 = .ok (.goto (-61), 3) := by decide +kernel
end
section
theorem dX5_evens_66 : decode cX5_evens 66 = .ok (.iload_n 2, 1) := by decide +kernel
theorem dX5_evens_67 : decode cX5_evens 67 = .ok (.ireturn, 1) := by decide +kernel
set_option maxRecDepth 20000 in
theorem ggX5_evensBy_X5_in : GoodIn wsX5_evensBy wsX5_in := goodIn_r _ [4] (by decide +kernel) (by decide +kernel)
set_option maxRecDepth 20000 in
theorem gX5_evensBy_X5_in : GoodIn wsX5_evensBy (va_wsS RX5 35 yX5_in wsX5_in) := goodIn_app (goodIn_of _ (by decide +kernel)) ggX5_evensBy_X5_in
set_option maxRecDepth 20000 in
theorem ggX5_evensBy_X5_evens : GoodIn wsX5_evensBy wsX5_evens := goodIn_r _ [8, 9, 10, 11, 12, 13, 14, 3, 15, 16, 17, 18, 19, 20, 21, 22, 23, 24, 25, 26, 27, 28, 29, 30, 31, 32, 33, 34, 35, 36, 37, 38, 39, 40, 41, 42, 43, 44, 45, 46, 47, 48, 49, 50, 51, 52, 53, 54, 55, 56, 57, 58, 59, 60, 61, 62, 63, 64, 65, 66, 67, 1, 2, 4, 68, 69, 70, 71, 72, 73, 74, 75, 76, 77, 78, 79, 80, 81, 82, 83, 84, 85, 86, 87, 88, 89, 90, 91, 92, 93, 94, 95, 96, 97, 98, 99, 100, 101, 102, 103, 104, 105, 106, 107, 108, 109, 110] (by decide +kernel) (by decide +kernel)
set_option maxRecDepth 20000 in
theorem gX5_evensBy_X5_evens : GoodIn wsX5_evensBy (wsV RX5 139 RX5 yX5_evens wsX5_evens) := goodIn_app (goodIn_of _ (by decide +kernel)) ggX5_evensBy_X5_evens
theorem dX5_evensBy_0 : decode cX5_evensBy 0 = .ok (.iload_n 1, 1) := by decide +kernel
theorem dX5_evensBy_1 : decode cX5_evensBy 1 = .ok (.iconst 1, 1) := by decide +kernel
theorem dX5_evensBy_2 : decode cX5_evensBy 2 = .ok (.bipush 30, 2) := by decide +kernel
theorem dX5_evensBy_4 : decode cX5_evensBy 4 = .ok (.invokestatic 35, 3) := by decide +kernel
theorem dX5_evensBy_7 : decode cX5_evensBy 7 = .ok (.ifCond .eq 11, 3) := by decide +kernel
theorem dX5_evensBy_10 : decode cX5_evensBy 10 = .ok (.aload_n 0, 1) := by decide +kernel
theorem dX5_evensBy_11 : decode cX5_evensBy 11 = .ok (.iload_n 1, 1) := by decide +kernel
theorem dX5_evensBy_12 : decode cX5_evensBy 12 = .ok (.invokevirtual 139, 3) := by decide +kernel
theorem dX5_evensBy_15 : decode cX5_evensBy 15 = .ok (.goto 4, 3) := by decide +kernel
theorem dX5_evensBy_18 : decode cX5_evensBy 18 = .ok (.iconst (-1), 1) := by decide +kernel
theorem dX5_evensBy_19 : decode cX5_evensBy 19 = .ok (.ireturn, 1) := by decide +kernel
set_option maxRecDepth 20000 in
theorem ggX5_even_X5_aside : GoodIn wsX5_even wsX5_aside := goodIn_r _ [5, 6, 7, 115, 116, 117, 118, 119, 120, 121, 122, 123, 124, 125, 126, 127, 128, 129] (by decide +kernel) (by decide +kernel)
set_option maxRecDepth 20000 in
theorem gX5_even_X5_aside : GoodIn wsX5_even (wsV RX5 73 RX5 yX5_aside wsX5_aside) := goodIn_app (goodIn_of _ (by decide +kernel)) ggX5_even_X5_aside
set_option maxRecDepth 20000 in
theorem ggX5_even_X5_evensBy : GoodIn wsX5_even wsX5_evensBy := goodIn_r _ [11, 12, 13, 4, 14, 15, 16, 17, 18, 19, 20, 21, 22, 23, 24, 25, 26, 27, 28, 29, 30, 31, 32, 33, 7, 34, 35, 36, 37, 38, 39, 40, 41, 42, 43, 44, 45, 46, 47, 48, 49, 50, 51, 52, 53, 54, 55, 56, 57, 58, 59, 60, 61, 62, 63, 64, 65, 66, 67, 68, 69, 70, 71, 72, 73, 74, 75, 76, 77, 78, 79, 80, 81, 82, 83, 84, 85, 86, 87, 88, 89, 90, 91, 92, 93, 94, 95, 96, 97, 98, 99, 100, 101, 102, 103, 104, 115, 116, 117, 118, 119, 120, 121, 122, 123, 124, 125, 126, 127, 128, 129] (by decide +kernel) (by decide +kernel)
set_option maxRecDepth 20000 in
theorem gX5_even_X5_evensBy : GoodIn wsX5_even (wsV RX5 142 RX5 yX5_evensBy wsX5_evensBy) := goodIn_app (goodIn_of _ (by decide +kernel)) ggX5_even_X5_evensBy
set_option maxRecDepth 20000 in
theorem ggX5_even_X5_acted : GoodIn wsX5_even wsX5_acted := goodIn_r _ [108, 109, 110, 111, 4, 112, 113, 114, 6, 115, 116, 117, 118, 119, 120, 121, 122, 123, 124, 125, 126, 127, 128, 129] (by decide +kernel) (by decide +kernel)
set_option maxRecDepth 20000 in
theorem gX5_even_X5_acted : GoodIn wsX5_even (wsV RX5 76 RX5 yX5_acted wsX5_acted) := goodIn_app (goodIn_of _ (by decide +kernel)) ggX5_even_X5_acted
theorem dX5_even_0 : decode cX5_even 0 = .ok (.aload_n 0, 1) := by decide +kernel
theorem dX5_even_1 : decode cX5_even 1 = .ok (.invokevirtual 73, 3) := by decide +kernel
theorem dX5_even_4 : decode cX5_even 4 = .ok (.aload_n 0, 1) := by decide +kernel
theorem dX5_even_5 : decode cX5_even 5 = .ok (.aload_n 0, 1) := by decide +kernel
theorem dX5_even_6 : decode cX5_even 6 = .ok (.iload_n 1, 1) := by decide +kernel
theorem dX5_even_7 : decode cX5_even 7 = .ok (.invokevirtual 142, 3) := by decide +kernel
theorem dX5_even_10 : decode cX5_even 10 = .ok (.invokevirtual 76, 3) := by decide +kernel
theorem dX5_even_13 : decode cX5_even 13 = .ok (.ireturn, 1) := by decide +kernel
set_option maxRecDepth 20000 in
theorem ggX5_leaver_X5_of : GoodIn wsX5_leaver wsX5_of := goodIn_r _ [6, 1, 7, 8, 9, 10, 11, 12, 13, 14, 15, 16, 17, 18, 19, 20, 21] (by decide +kernel) (by decide +kernel)
set_option maxRecDepth 20000 in
theorem gX5_leaver_X5_of : GoodIn wsX5_leaver (wsV RX5 43 RX5 yX5_of wsX5_of) := goodIn_app (goodIn_of _ (by decide +kernel)) ggX5_leaver_X5_of
theorem dX5_leaver_0 : decode cX5_leaver 0 = .ok (.bipush (-9), 2) := by decide +kernel
theorem dX5_leaver_2 : decode cX5_leaver 2 = .ok (.istore_n 3, 1) := by decide +kernel
theorem dX5_leaver_3 : decode cX5_leaver 3 = .ok (.iconst 0, 1) := by decide +kernel
theorem dX5_leaver_4 : decode cX5_leaver 4 = .ok (.istore 4, 2) := by decide +kernel
theorem dX5_leaver_6 : decode cX5_leaver 6 = .ok (.iload 4, 2) := by decide +kernel
theorem dX5_leaver_8 : decode cX5_leaver 8 = .ok (.aload_n 0, 1) := by decide +kernel
theorem dX5_leaver_9 : decode cX5_leaver 9 = .ok (.getfield 7, 3) := by decide +kernel
theorem dX5_leaver_12 : decode cX5_leaver 12 = .ok (.iconst 2, 1) := by decide +kernel
theorem dX5_leaver_13 : decode cX5_leaver 13 = .ok (.iaload, 1) := by decide +kernel
theorem dX5_leaver_14 : decode cX5_leaver 14 = .ok (.if_icmp .ge 102, 3) := by decide +kernel
theorem dX5_leaver_17 : decode cX5_leaver 17 = .ok (.aload_n 0, 1) := by decide +kernel
theorem dX5_leaver_18 : decode cX5_leaver 18 = .ok (.iload 4, 2) := by decide +kernel
theorem dX5_leaver_20 : decode cX5_leaver 20 = .ok (.iconst 2, 1) := by decide +kernel
theorem dX5_leaver_21 : decode cX5_leaver 21 = .ok (.invokevirtual 43, 3) := by decide +kernel
theorem dX5_leaver_24 : decode cX5_leaver 24 = .ok (.iload_n 1, 1) := by decide +kernel
theorem dX5_leaver_25 : decode cX5_leaver 25 = .ok (.if_icmp .ne 85, 3) := by decide +kernel
theorem dX5_leaver_28 : decode cX5_leaver 28 = .ok (.iload_n 2, 1) := by decide +kernel
theorem dX5_leaver_29 : decode cX5_leaver 29 = .ok (.iload 4, 2) := by decide +kernel
theorem dX5_leaver_31 : decode cX5_leaver 31 = .ok (.ishr, 1) := by decide +kernel
theorem dX5_leaver_32 : decode cX5_leaver 32 = .ok (.iconst 1, 1) := by decide +kernel
theorem dX5_leaver_33 : decode cX5_leaver 33 = .ok (.iand, 1) := by decide +kernel
theorem dX5_leaver_34 : decode cX5_leaver 34 = .ok (.ifCond .ne 76, 3) := by decide +kernel
theorem dX5_leaver_37 : decode cX5_leaver 37 = .ok (.iload_n 3, 1) := by decide +kernel
theorem dX5_leaver_38 : decode cX5_leaver 38 = .ok (.bipush (-9), 2) := by decide +kernel
theorem dX5_leaver_40 : decode cX5_leaver 40 = .ok (.if_icmp .eq 51, 3) := by decide +kernel
theorem dX5_leaver_43 : decode cX5_leaver 43 = .ok (.aload_n 0, 1) := by decide +kernel
theorem dX5_leaver_44 : decode cX5_leaver 44 = .ok (.iload 4, 2) := by decide +kernel
theorem dX5_leaver_46 : decode cX5_leaver 46 = .ok (.iconst 0, 1) := by decide +kernel
theorem dX5_leaver_47 : decode cX5_leaver 47 = .ok (.invokevirtual 43, 3) := by decide +kernel
theorem dX5_leaver_50 : decode cX5_leaver 50 = .ok (.aload_n 0, 1) := by decide +kernel
theorem dX5_leaver_51 : decode cX5_leaver 51 = .ok (.iload_n 3, 1) := by decide +kernel
theorem dX5_leaver_52 : decode cX5_leaver 52 = .ok (.iconst 0, 1) := by decide +kernel
theorem dX5_leaver_53 : decode cX5_leaver 53 = .ok (.invokevirtual 43, 3) := by decide +kernel
theorem dX5_leaver_56 : decode cX5_leaver 56 = .ok (.if_icmp .gt 35, 3) := by decide +kernel
theorem dX5_leaver_59 : decode cX5_leaver 59 = .ok (.aload_n 0, 1) := by decide +kernel
theorem dX5_leaver_60 : decode cX5_leaver 60 = .ok (.iload 4, 2) := by decide +kernel
theorem dX5_leaver_62 : decode cX5_leaver 62 = .ok (.iconst 0, 1) := by decide +kernel
theorem dX5_leaver_63 : decode cX5_leaver 63 = .ok (.invokevirtual 43, 3) := by decide +kernel
theorem dX5_leaver_66 : decode cX5_leaver 66 = .ok (.aload_n 0, 1) := by decide +kernel
theorem dX5_leaver_67 : decode cX5_leaver 67 = .ok (.iload_n 3, 1) := by decide +kernel
theorem dX5_leaver_68 : decode cX5_leaver 68 = .ok (.iconst 0, 1) := by decide +kernel
theorem dX5_leaver_69 : decode cX5_leaver 69 = .ok (.invokevirtual 43, 3) := by decide +kernel
theorem dX5_leaver_72 : decode cX5_leaver 72 = .ok (.if_icmp .ne 23, 3) := by decide +kernel
theorem dX5_leaver_75 : decode cX5_leaver 75 = .ok (.aload_n 0, 1) := by decide +kernel
theorem dX5_leaver_76 : decode cX5_leaver 76 = .ok (.iload 4, 2) := by decide +kernel
theorem dX5_leaver_78 : decode cX5_leaver 78 = .ok (.iconst 1, 1) := by decide +kernel
theorem dX5_leaver_79 : decode cX5_leaver 79 = .ok (.invokevirtual 43, 3) := by decide +kernel
theorem dX5_leaver_82 : decode cX5_leaver 82 = .ok (.aload_n 0, 1) := by decide +kernel
theorem dX5_leaver_83 : decode cX5_leaver 83 = .ok (.iload_n 3, 1) := by decide +kernel
theorem dX5_leaver_84 : decode cX5_leaver 84 = .ok (.iconst 1, 1) := by decide +kernel
theorem dX5_leaver_85 : decode cX5_leaver 85 = .ok (.invokevirtual 43, 3) := by decide +kernel
theorem dX5_leaver_88 : decode cX5_leaver 88 = .ok (.if_icmp .ge 7, 3) := by decide +kernel
theorem dX5_leaver_91 : decode cX5_leaver 91 = .ok (.iconst 1, 1) := by decide +kernel
theorem dX5_leaver_92 : decode cX5_leaver 92 = .ok (.goto 4, 3) := by decide +kernel
theorem dX5_leaver_95 : decode cX5_leaver 95 = .ok (.iconst 0, 1) := by decide +kernel
theorem dX5_leaver_96 : decode cX5_leaver 96 = .ok (.istore 5, 2) := by decide +kernel
theorem dX5_leaver_98 : decode cX5_leaver 98 = .ok (.iload 5, 2) := by decide +kernel
theorem dX5_leaver_100 : decode cX5_leaver 100 = .ok (.ifCond .eq 8, 3) := by decide +kernel
theorem dX5_leaver_103 : decode cX5_leaver 103 = .ok (.iload 4, 2) := by decide +kernel
theorem dX5_leaver_105 : decode cX5_leaver 105 = .ok (.goto 4, 3) := by decide +kernel
theorem dX5_leaver_108 : decode cX5_leaver 108 = .ok (.iload_n 3, 1) := by decide +kernel
theorem dX5_leaver_109 : decode cX5_leaver 109 = .ok (.istore_n 3, 1) := by decide +kernel
theorem dX5_leaver_110 : decode cX5_leaver 110 = .ok (.iinc 4 1, 3) := by decide +kernel
theorem dX5_leaver_113 : decode cX5_leaver 113 = .ok (.goto (-107), 3) := by decide +kernel
theorem dX5_leaver_116 : decode cX5_leaver 116 = .ok (.iload_n 3, 1) := by decide +kernel
theorem dX5_leaver_117 : decode cX5_leaver 117 = .ok (.ireturn, 1) := by decide +kernel
set_option maxRecDepth 20000 in
theorem ggX5_emptiest_X5_isOpen : GoodIn wsX5_emptiest wsX5_isOpen := goodIn_r _ [6, 1, 7, 8, 9, 5, 10, 11, 12, 13, 22, 23, 24, 25, 26, 27, 28, 29, 30, 31, 32, 33, 34, 35, 36] (by decide +kernel) (by decide +kernel)
set_option maxRecDepth 20000 in
theorem gX5_emptiest_X5_isOpen : GoodIn wsX5_emptiest (wsV RX5 79 RX5 yX5_isOpen wsX5_isOpen) := goodIn_app (goodIn_of _ (by decide +kernel)) ggX5_emptiest_X5_isOpen
set_option maxRecDepth 20000 in
theorem ggX5_emptiest_X5_load : GoodIn wsX5_emptiest wsX5_load := goodIn_r _ [17, 1, 18, 19, 20, 5, 21, 22, 23, 24, 25, 26, 27, 28, 29, 30, 31, 32, 33, 34, 35, 36] (by decide +kernel) (by decide +kernel)
set_option maxRecDepth 20000 in
theorem gX5_emptiest_X5_load : GoodIn wsX5_emptiest (wsV RX5 50 RX5 yX5_load wsX5_load) := goodIn_app (goodIn_of _ (by decide +kernel)) ggX5_emptiest_X5_load
theorem dX5_emptiest_0 : decode cX5_emptiest 0 = .ok (.bipush (-9), 2) := by decide +kernel
theorem dX5_emptiest_2 : decode cX5_emptiest 2 = .ok (.istore_n 1, 1) := by decide +kernel
theorem dX5_emptiest_3 : decode cX5_emptiest 3 = .ok (.iconst 0, 1) := by decide +kernel
theorem dX5_emptiest_4 : decode cX5_emptiest 4 = .ok (.istore_n 2, 1) := by decide +kernel
theorem dX5_emptiest_5 : decode cX5_emptiest 5 = .ok (.iload_n 2, 1) := by decide +kernel
theorem dX5_emptiest_6 : decode cX5_emptiest 6 = .ok (.aload_n 0, 1) := by decide +kernel
theorem dX5_emptiest_7 : decode cX5_emptiest 7 = .ok (.getfield 7, 3) := by decide +kernel
theorem dX5_emptiest_10 : decode cX5_emptiest 10 = .ok (.iconst 0, 1) := by decide +kernel
theorem dX5_emptiest_11 : decode cX5_emptiest 11 = .ok (.iaload, 1) := by decide +kernel
theorem dX5_emptiest_12 : decode cX5_emptiest 12 = .ok (.if_icmp .ge 42, 3) := by decide +kernel
theorem dX5_emptiest_15 : decode cX5_emptiest 15 = .ok (.aload_n 0, 1) := by decide +kernel
theorem dX5_emptiest_16 : decode cX5_emptiest 16 = .ok (.iload_n 2, 1) := by decide +kernel
theorem dX5_emptiest_17 : decode cX5_emptiest 17 = .ok (.invokevirtual 79, 3) := by decide +kernel
theorem dX5_emptiest_20 : decode cX5_emptiest 20 = .ok (.ifCond .eq 26, 3) := by decide +kernel
theorem dX5_emptiest_23 : decode cX5_emptiest 23 = .ok (.iload_n 1, 1) := by decide +kernel
theorem dX5_emptiest_24 : decode cX5_emptiest 24 = .ok (.bipush (-9), 2) := by decide +kernel
theorem dX5_emptiest_26 : decode cX5_emptiest 26 = .ok (.if_icmp .eq 16, 3) := by decide +kernel
theorem dX5_emptiest_29 : decode cX5_emptiest 29 = .ok (.aload_n 0, 1) := by decide +kernel
theorem dX5_emptiest_30 : decode cX5_emptiest 30 = .ok (.iload_n 2, 1) := by decide +kernel
theorem dX5_emptiest_31 : decode cX5_emptiest 31 = .ok (.invokevirtual 50, 3) := by decide +kernel
theorem dX5_emptiest_34 : decode cX5_emptiest 34 = .ok (.aload_n 0, 1) := by decide +kernel
theorem dX5_emptiest_35 : decode cX5_emptiest 35 = .ok (.iload_n 1, 1) := by decide +kernel
theorem dX5_emptiest_36 : decode cX5_emptiest 36 = .ok (.invokevirtual 50, 3) := by decide +kernel
theorem dX5_emptiest_39 : decode cX5_emptiest 39 = .ok (.if_icmp .ge 7, 3) := by decide +kernel
theorem dX5_emptiest_42 : decode cX5_emptiest 42 = .ok (.iload_n 2, 1) := by decide +kernel
theorem dX5_emptiest_43 : decode cX5_emptiest 43 = .ok (.goto 4, 3) := by decide +kernel
theorem dX5_emptiest_46 : decode cX5_emptiest 46 = .ok (.iload_n 1, 1) := by decide +kernel
theorem dX5_emptiest_47 : decode cX5_emptiest 47 = .ok (.istore_n 1, 1) := by decide +kernel
theorem dX5_emptiest_48 : decode cX5_emptiest 48 = .ok (.iinc 2 1, 3) := by decide +kernel
theorem dX5_emptiest_51 : decode cX5_emptiest 51 = .ok (.goto (-46), 3) := by decide +kernel
theorem dX5_emptiest_54 : decode cX5_emptiest 54 = .ok (.iload_n 1, 1) := by decide +kernel
theorem dX5_emptiest_55 : decode cX5_emptiest 55 = .ok (.ireturn, 1) := by decide +kernel
set_option maxRecDepth 20000 in
theorem ggX5_empties_X5_leaver : GoodIn wsX5_empties wsX5_leaver := goodIn_r _ [6, 1, 7, 8, 9, 5, 10, 34, 35, 36, 37, 38, 39, 40, 41, 42, 43, 44, 45, 46, 47, 48] (by decide +kernel) (by decide +kernel)
set_option maxRecDepth 20000 in
theorem gX5_empties_X5_leaver : GoodIn wsX5_empties (wsV RX5 145 RX5 yX5_leaver wsX5_leaver) := goodIn_app (goodIn_of _ (by decide +kernel)) ggX5_empties_X5_leaver
set_option maxRecDepth 20000 in
theorem ggX5_empties_X5_emptiest : GoodIn wsX5_empties wsX5_emptiest := goodIn_r _ [14, 1, 15, 16, 17, 5, 18, 19, 20, 21, 22, 23, 24, 25, 26, 27, 28, 29, 7, 8, 9, 10, 34, 35, 36, 37, 38, 39, 40, 41, 42, 43, 44, 45, 46, 47, 48] (by decide +kernel) (by decide +kernel)
set_option maxRecDepth 20000 in
theorem gX5_empties_X5_emptiest : GoodIn wsX5_empties (wsV RX5 148 RX5 yX5_emptiest wsX5_emptiest) := goodIn_app (goodIn_of _ (by decide +kernel)) ggX5_empties_X5_emptiest
set_option maxRecDepth 20000 in
theorem ggX5_empties_X5_goes : GoodIn wsX5_empties wsX5_goes := goodIn_r _ [33, 1, 7, 8, 9, 5, 10, 34, 35, 36, 37, 38, 39, 40, 41, 42, 43, 44, 45, 46, 47, 48] (by decide +kernel) (by decide +kernel)
set_option maxRecDepth 20000 in
theorem gX5_empties_X5_goes : GoodIn wsX5_empties (wsV RX5 92 RX5 yX5_goes wsX5_goes) := goodIn_app (goodIn_of _ (by decide +kernel)) ggX5_empties_X5_goes
theorem dX5_empties_0 : decode cX5_empties 0 = .ok (.aload_n 0, 1) := by decide +kernel
theorem dX5_empties_1 : decode cX5_empties 1 = .ok (.getfield 7, 3) := by decide +kernel
theorem dX5_empties_4 : decode cX5_empties 4 = .ok (.iconst 1, 1) := by decide +kernel
theorem dX5_empties_5 : decode cX5_empties 5 = .ok (.dup2, 1) := by decide +kernel
theorem dX5_empties_6 : decode cX5_empties 6 = .ok (.iaload, 1) := by decide +kernel
theorem dX5_empties_7 : decode cX5_empties 7 = .ok (.iconst 1, 1) := by decide +kernel
theorem dX5_empties_8 : decode cX5_empties 8 = .ok (.iload_n 1, 1) := by decide +kernel
theorem dX5_empties_9 : decode cX5_empties 9 = .ok (.ishl, 1) := by decide +kernel
theorem dX5_empties_10 : decode cX5_empties 10 = .ok (.iconst (-1), 1) := by decide +kernel
theorem dX5_empties_11 : decode cX5_empties 11 = .ok (.ixor, 1) := by decide +kernel
theorem dX5_empties_12 : decode cX5_empties 12 = .ok (.iand, 1) := by decide +kernel
theorem dX5_empties_13 : decode cX5_empties 13 = .ok (.iastore, 1) := by decide +kernel
theorem dX5_empties_14 : decode cX5_empties 14 = .ok (.iconst 0, 1) := by decide +kernel
theorem dX5_empties_15 : decode cX5_empties 15 = .ok (.istore_n 2, 1) := by decide +kernel
theorem dX5_empties_16 : decode cX5_empties 16 = .ok (.aload_n 0, 1) := by decide +kernel
theorem dX5_empties_17 : decode cX5_empties 17 = .ok (.iload_n 1, 1) := by decide +kernel
theorem dX5_empties_18 : decode cX5_empties 18 = .ok (.iconst 0, 1) := by decide +kernel
theorem dX5_empties_19 : decode cX5_empties 19 = .ok (.invokevirtual 145, 3) := by decide +kernel
theorem dX5_empties_22 : decode cX5_empties 22 = .ok (.istore_n 3, 1) := by decide +kernel
theorem dX5_empties_23 : decode cX5_empties 23 = .ok (.iload_n 3, 1) := by decide +kernel
theorem dX5_empties_24 : decode cX5_empties 24 = .ok (.bipush (-9), 2) := by decide +kernel
theorem dX5_empties_26 : decode cX5_empties 26 = .ok (.if_icmp .eq 25, 3) := by decide +kernel
theorem dX5_empties_29 : decode cX5_empties 29 = .ok (.aload_n 0, 1) := by decide +kernel
theorem dX5_empties_30 : decode cX5_empties 30 = .ok (.iload_n 3, 1) := by decide +kernel
theorem dX5_empties_31 : decode cX5_empties 31 = .ok (.aload_n 0, 1) := by decide +kernel
theorem dX5_empties_32 : decode cX5_empties 32 = .ok (.invokevirtual 148, 3) := by decide +kernel
theorem dX5_empties_35 : decode cX5_empties 35 = .ok (.invokevirtual 92, 3) := by decide +kernel
theorem dX5_empties_38 : decode cX5_empties 38 = .ok (.iinc 2 1, 3) := by decide +kernel
theorem dX5_empties_41 : decode cX5_empties 41 = .ok (.aload_n 0, 1) := by decide +kernel
theorem dX5_empties_42 : decode cX5_empties 42 = .ok (.iload_n 1, 1) := by decide +kernel
theorem dX5_empties_43 : decode cX5_empties 43 = .ok (.iconst 0, 1) := by decide +kernel
theorem dX5_empties_44 : decode cX5_empties 44 = .ok (.invokevirtual 145, 3) := by decide +kernel
theorem dX5_empties_47 : decode cX5_empties 47 = .ok (.istore_n 3, 1) := by decide +kernel
theorem dX5_empties_48 : decode cX5_empties 48 = .ok (.goto (-25), 3) := by decide +kernel
theorem dX5_empties_51 : decode cX5_empties 51 = .ok (.iload_n 2, 1) := by decide +kernel
theorem dX5_empties_52 : decode cX5_empties 52 = .ok (.ireturn, 1) := by decide +kernel
set_option maxRecDepth 20000 in
theorem ggX5_closes_X5_isServer : GoodIn wsX5_closes wsX5_isServer := goodIn_r _ [6, 1, 7, 8, 5, 9, 42, 43, 44, 45, 46, 47, 48, 49, 50, 51, 52, 53, 54, 55, 56] (by decide +kernel) (by decide +kernel)
set_option maxRecDepth 20000 in
theorem gX5_closes_X5_isServer : GoodIn wsX5_closes (wsV RX5 39 RX5 yX5_isServer wsX5_isServer) := goodIn_app (goodIn_of _ (by decide +kernel)) ggX5_closes_X5_isServer
set_option maxRecDepth 20000 in
theorem ggX5_closes_X5_of : GoodIn wsX5_closes wsX5_of := goodIn_r _ [13, 1, 42, 43, 44, 45, 46, 47, 48, 49, 50, 51, 52, 53, 54, 55, 56] (by decide +kernel) (by decide +kernel)
set_option maxRecDepth 20000 in
theorem gX5_closes_X5_of : GoodIn wsX5_closes (wsV RX5 43 RX5 yX5_of wsX5_of) := goodIn_app (goodIn_of _ (by decide +kernel)) ggX5_closes_X5_of
set_option maxRecDepth 20000 in
theorem ggX5_closes_X5_isOpen : GoodIn wsX5_closes wsX5_isOpen := goodIn_r _ [17, 1, 2, 3, 4, 5, 6, 7, 8, 9, 42, 43, 44, 45, 46, 47, 48, 49, 50, 51, 52, 53, 54, 55, 56] (by decide +kernel) (by decide +kernel)
set_option maxRecDepth 20000 in
theorem gX5_closes_X5_isOpen : GoodIn wsX5_closes (wsV RX5 79 RX5 yX5_isOpen wsX5_isOpen) := goodIn_app (goodIn_of _ (by decide +kernel)) ggX5_closes_X5_isOpen
set_option maxRecDepth 20000 in
theorem ggX5_closes_X5_opens : GoodIn wsX5_closes wsX5_opens := goodIn_r _ [21, 1, 42, 43, 44, 45, 46, 47, 48, 49, 50, 51, 52, 53, 54, 55, 56] (by decide +kernel) (by decide +kernel)
set_option maxRecDepth 20000 in
theorem gX5_closes_X5_opens : GoodIn wsX5_closes (wsV RX5 57 RX5 yX5_opens wsX5_opens) := goodIn_app (goodIn_of _ (by decide +kernel)) ggX5_closes_X5_opens
set_option maxRecDepth 20000 in
theorem ggX5_closes_X5_empties : GoodIn wsX5_closes wsX5_empties := goodIn_r _ [25, 1, 26, 27, 28, 5, 29, 10, 11, 12, 13, 30, 31, 32, 33, 14, 15, 16, 17, 2, 3, 4, 6, 7, 8, 9, 34, 35, 36, 37, 38, 39, 40, 41, 42, 43, 44, 45, 46, 47, 48, 49, 50, 51, 52, 53, 54, 55, 56] (by decide +kernel) (by decide +kernel)
set_option maxRecDepth 20000 in
theorem gX5_closes_X5_empties : GoodIn wsX5_closes (wsV RX5 151 RX5 yX5_empties wsX5_empties) := goodIn_app (goodIn_of _ (by decide +kernel)) ggX5_closes_X5_empties
theorem dX5_closes_0 : decode cX5_closes 0 = .ok (.aload_n 0, 1) := by decide +kernel
theorem dX5_closes_1 : decode cX5_closes 1 = .ok (.iload_n 1, 1) := by decide +kernel
theorem dX5_closes_2 : decode cX5_closes 2 = .ok (.invokevirtual 39, 3) := by decide +kernel
theorem dX5_closes_5 : decode cX5_closes 5 = .ok (.ifCond .ne 5, 3) := by decide +kernel
theorem dX5_closes_8 : decode cX5_closes 8 = .ok (.iconst (-1), 1) := by decide +kernel
theorem dX5_closes_9 : decode cX5_closes 9 = .ok (.ireturn, 1) := by decide +kernel
theorem dX5_closes_10 : decode cX5_closes 10 = .ok (.iconst 0, 1) := by decide +kernel
theorem dX5_closes_11 : decode cX5_closes 11 = .ok (.istore_n 2, 1) := by decide +kernel
theorem dX5_closes_12 : decode cX5_closes 12 = .ok (.iconst 0, 1) := by decide +kernel
theorem dX5_closes_13 : decode cX5_closes 13 = .ok (.istore_n 3, 1) := by decide +kernel
theorem dX5_closes_14 : decode cX5_closes 14 = .ok (.iload_n 3, 1) := by decide +kernel
theorem dX5_closes_15 : decode cX5_closes 15 = .ok (.aload_n 0, 1) := by decide +kernel
theorem dX5_closes_16 : decode cX5_closes 16 = .ok (.getfield 7, 3) := by decide +kernel
theorem dX5_closes_19 : decode cX5_closes 19 = .ok (.iconst 2, 1) := by decide +kernel
theorem dX5_closes_20 : decode cX5_closes 20 = .ok (.iaload, 1) := by decide +kernel
theorem dX5_closes_21 : decode cX5_closes 21 = .ok (.if_icmp .ge 32, 3) := by decide +kernel
theorem dX5_closes_24 : decode cX5_closes 24 = .ok (.iload_n 2, 1) := by decide +kernel
theorem dX5_closes_25 : decode cX5_closes 25 = .ok (.aload_n 0, 1) := by decide +kernel
theorem dX5_closes_26 : decode cX5_closes 26 = .ok (.iload_n 3, 1) := by decide +kernel
theorem dX5_closes_27 : decode cX5_closes 27 = .ok (.iconst 2, 1) := by decide +kernel
theorem dX5_closes_28 : decode cX5_closes 28 = .ok (.invokevirtual 43, 3) := by decide +kernel
theorem dX5_closes_31 : decode cX5_closes 31 = .ok (.iload_n 1, 1) := by decide +kernel
theorem dX5_closes_32 : decode cX5_closes 32 = .ok (.if_icmp .ne 12, 3) := by decide +kernel
theorem dX5_closes_35 : decode cX5_closes 35 = .ok (.aload_n 0, 1) := by decide +kernel
theorem dX5_closes_36 : decode cX5_closes 36 = .ok (.iload_n 3, 1) := by decide +kernel
theorem dX5_closes_37 : decode cX5_closes 37 = .ok (.iconst 1, 1) := by decide +kernel
theorem dX5_closes_38 : decode cX5_closes 38 = .ok (.invokevirtual 43, 3) := by decide +kernel
theorem dX5_closes_41 : decode cX5_closes 41 = .ok (.goto 4, 3) := by decide +kernel
theorem dX5_closes_44 : decode cX5_closes 44 = .ok (.iconst 0, 1) := by decide +kernel
theorem dX5_closes_45 : decode cX5_closes 45 = .ok (.iadd, 1) := by decide +kernel
theorem dX5_closes_46 : decode cX5_closes 46 = .ok (.istore_n 2, 1) := by decide +kernel
theorem dX5_closes_47 : decode cX5_closes 47 = .ok (.iinc 3 1, 3) := by decide +kernel
theorem dX5_closes_50 : decode cX5_closes 50 = .ok (.goto (-36), 3) := by decide +kernel
theorem dX5_closes_53 : decode cX5_closes 53 = .ok (.aload_n 0, 1) := by decide +kernel
theorem dX5_closes_54 : decode cX5_closes 54 = .ok (.iload_n 1, 1) := by decide +kernel
theorem dX5_closes_55 : decode cX5_closes 55 = .ok (.invokevirtual 79, 3) := by decide +kernel
theorem dX5_closes_58 : decode cX5_closes 58 = .ok (.ifCond .eq 21, 3) := by decide +kernel
theorem dX5_closes_61 : decode cX5_closes 61 = .ok (.aload_n 0, 1) := by decide +kernel
theorem dX5_closes_62 : decode cX5_closes 62 = .ok (.invokevirtual 57, 3) := by decide +kernel
theorem dX5_closes_65 : decode cX5_closes 65 = .ok (.iconst 1, 1) := by decide +kernel
theorem dX5_closes_66 : decode cX5_closes 66 = .ok (.if_icmp .eq 13, 3) := by decide +kernel
theorem dX5_closes_69 : decode cX5_closes 69 = .ok (.iload_n 2, 1) := by decide +kernel
theorem dX5_closes_70 : decode cX5_closes 70 = .ok (.aload_n 0, 1) := by decide +kernel
theorem dX5_closes_71 : decode cX5_closes 71 = .ok (.getfield 7, 3) := by decide +kernel
theorem dX5_closes_74 : decode cX5_closes 74 = .ok (.iconst 3, 1) := by decide +kernel
theorem dX5_closes_75 : decode cX5_closes 75 = .ok (.iaload, 1) := by decide +kernel
theorem dX5_closes_76 : decode cX5_closes 76 = .ok (.if_icmp .le 6, 3) := by decide +kernel
theorem dX5_closes_79 : decode cX5_closes 79 = .ok (.bipush (-2), 2) := by decide +kernel
theorem dX5_closes_81 : decode cX5_closes 81 = .ok (.ireturn, 1) := by decide +kernel
theorem dX5_closes_82 : decode cX5_closes 82 = .ok (.aload_n 0, 1) := by decide +kernel
theorem dX5_closes_83 : decode cX5_closes 83 = .ok (.iload_n 1, 1) := by decide +kernel
theorem dX5_closes_84 : decode cX5_closes 84 = .ok (.invokevirtual 151, 3) := by decide +kernel
theorem dX5_closes_87 : decode cX5_closes 87 = .ok (.ireturn, 1) := by decide +kernel
set_option maxRecDepth 20000 in
theorem ggX5_close_X5_aside : GoodIn wsX5_close wsX5_aside := goodIn_r _ [5, 6, 7, 61, 62, 63, 64, 65, 66, 67, 68, 69, 70, 71, 72, 73, 74, 75] (by decide +kernel) (by decide +kernel)
set_option maxRecDepth 20000 in
theorem gX5_close_X5_aside : GoodIn wsX5_close (wsV RX5 73 RX5 yX5_aside wsX5_aside) := goodIn_app (goodIn_of _ (by decide +kernel)) ggX5_close_X5_aside
set_option maxRecDepth 20000 in
theorem ggX5_close_X5_closes : GoodIn wsX5_close wsX5_closes := goodIn_r _ [11, 7, 12, 13, 14, 4, 15, 16, 17, 18, 19, 20, 21, 22, 23, 24, 25, 26, 27, 28, 29, 30, 31, 32, 33, 34, 35, 36, 37, 38, 39, 40, 41, 42, 43, 44, 45, 46, 47, 48, 49, 50, 61, 62, 63, 64, 65, 66, 67, 68, 69, 70, 71, 72, 73, 74, 75] (by decide +kernel) (by decide +kernel)
set_option maxRecDepth 20000 in
theorem gX5_close_X5_closes : GoodIn wsX5_close (wsV RX5 154 RX5 yX5_closes wsX5_closes) := goodIn_app (goodIn_of _ (by decide +kernel)) ggX5_close_X5_closes
set_option maxRecDepth 20000 in
theorem ggX5_close_X5_acted : GoodIn wsX5_close wsX5_acted := goodIn_r _ [54, 55, 56, 57, 4, 58, 59, 60, 6, 61, 62, 63, 64, 65, 66, 67, 68, 69, 70, 71, 72, 73, 74, 75] (by decide +kernel) (by decide +kernel)
set_option maxRecDepth 20000 in
theorem gX5_close_X5_acted : GoodIn wsX5_close (wsV RX5 76 RX5 yX5_acted wsX5_acted) := goodIn_app (goodIn_of _ (by decide +kernel)) ggX5_close_X5_acted
theorem dX5_close_0 : decode cX5_close 0 = .ok (.aload_n 0, 1) := by decide +kernel
theorem dX5_close_1 : decode cX5_close 1 = .ok (.invokevirtual 73, 3) := by decide +kernel
theorem dX5_close_4 : decode cX5_close 4 = .ok (.aload_n 0, 1) := by decide +kernel
theorem dX5_close_5 : decode cX5_close 5 = .ok (.aload_n 0, 1) := by decide +kernel
theorem dX5_close_6 : decode cX5_close 6 = .ok (.iload_n 1, 1) := by decide +kernel
theorem dX5_close_7 : decode cX5_close 7 = .ok (.invokevirtual 154, 3) := by decide +kernel
theorem dX5_close_10 : decode cX5_close 10 = .ok (.invokevirtual 76, 3) := by decide +kernel
theorem dX5_close_13 : decode cX5_close 13 = .ok (.ireturn, 1) := by decide +kernel
set_option maxRecDepth 20000 in
theorem ggX5_open_X5_isServer : GoodIn wsX5_open wsX5_isServer := goodIn_r _ [6, 1, 7, 8, 5, 9, 33, 34, 35, 36, 37, 38, 39, 40, 41, 42, 43, 44, 45, 46, 47] (by decide +kernel) (by decide +kernel)
set_option maxRecDepth 20000 in
theorem gX5_open_X5_isServer : GoodIn wsX5_open (wsV RX5 39 RX5 yX5_isServer wsX5_isServer) := goodIn_app (goodIn_of _ (by decide +kernel)) ggX5_open_X5_isServer
set_option maxRecDepth 20000 in
theorem ggX5_open_X5_isOpen : GoodIn wsX5_open wsX5_isOpen := goodIn_r _ [13, 1, 2, 3, 4, 5, 6, 7, 8, 9, 33, 34, 35, 36, 37, 38, 39, 40, 41, 42, 43, 44, 45, 46, 47] (by decide +kernel) (by decide +kernel)
set_option maxRecDepth 20000 in
theorem gX5_open_X5_isOpen : GoodIn wsX5_open (wsV RX5 79 RX5 yX5_isOpen wsX5_isOpen) := goodIn_app (goodIn_of _ (by decide +kernel)) ggX5_open_X5_isOpen
set_option maxRecDepth 20000 in
theorem ggX5_open_X5_aside : GoodIn wsX5_open wsX5_aside := goodIn_r _ [17, 18, 1, 33, 34, 35, 36, 37, 38, 39, 40, 41, 42, 43, 44, 45, 46, 47] (by decide +kernel) (by decide +kernel)
set_option maxRecDepth 20000 in
theorem gX5_open_X5_aside : GoodIn wsX5_open (wsV RX5 73 RX5 yX5_aside wsX5_aside) := goodIn_app (goodIn_of _ (by decide +kernel)) ggX5_open_X5_aside
set_option maxRecDepth 20000 in
theorem ggX5_open_X5_opens : GoodIn wsX5_open wsX5_opens := goodIn_r _ [22, 1, 33, 34, 35, 36, 37, 38, 39, 40, 41, 42, 43, 44, 45, 46, 47] (by decide +kernel) (by decide +kernel)
set_option maxRecDepth 20000 in
theorem gX5_open_X5_opens : GoodIn wsX5_open (wsV RX5 57 RX5 yX5_opens wsX5_opens) := goodIn_app (goodIn_of _ (by decide +kernel)) ggX5_open_X5_opens
set_option maxRecDepth 20000 in
theorem ggX5_open_X5_acted : GoodIn wsX5_open wsX5_acted := goodIn_r _ [26, 27, 28, 29, 5, 30, 31, 32, 18, 33, 34, 35, 36, 37, 38, 39, 40, 41, 42, 43, 44, 45, 46, 47] (by decide +kernel) (by decide +kernel)
set_option maxRecDepth 20000 in
theorem gX5_open_X5_acted : GoodIn wsX5_open (wsV RX5 76 RX5 yX5_acted wsX5_acted) := goodIn_app (goodIn_of _ (by decide +kernel)) ggX5_open_X5_acted
theorem dX5_open_0 : decode cX5_open 0 = .ok (.aload_n 0, 1) := by decide +kernel
theorem dX5_open_1 : decode cX5_open 1 = .ok (.iload_n 1, 1) := by decide +kernel
theorem dX5_open_2 : decode cX5_open 2 = .ok (.invokevirtual 39, 3) := by decide +kernel
theorem dX5_open_5 : decode cX5_open 5 = .ok (.ifCond .ne 5, 3) := by decide +kernel
theorem dX5_open_8 : decode cX5_open 8 = .ok (.iconst (-1), 1) := by decide +kernel
theorem dX5_open_9 : decode cX5_open 9 = .ok (.ireturn, 1) := by decide +kernel
theorem dX5_open_10 : decode cX5_open 10 = .ok (.aload_n 0, 1) := by decide +kernel
theorem dX5_open_11 : decode cX5_open 11 = .ok (.iload_n 1, 1) := by decide +kernel
theorem dX5_open_12 : decode cX5_open 12 = .ok (.invokevirtual 79, 3) := by decide +kernel
theorem dX5_open_15 : decode cX5_open 15 = .ok (.ifCond .eq 6, 3) := by decide +kernel
theorem dX5_open_18 : decode cX5_open 18 = .ok (.bipush (-2), 2) := by decide +kernel
theorem dX5_open_20 : decode cX5_open 20 = .ok (.ireturn, 1) := by decide +kernel
theorem dX5_open_21 : decode cX5_open 21 = .ok (.aload_n 0, 1) := by decide +kernel
theorem dX5_open_22 : decode cX5_open 22 = .ok (.invokevirtual 73, 3) := by decide +kernel
theorem dX5_open_25 : decode cX5_open 25 = .ok (.aload_n 0, 1) := by decide +kernel
theorem dX5_open_26 : decode cX5_open 26 = .ok (.getfield 7, 3) := by decide +kernel
theorem dX5_open_29 : decode cX5_open 29 = .ok (.iconst 1, 1) := by decide +kernel
theorem dX5_open_30 : decode cX5_open 30 = .ok (.dup2, 1) := by decide +kernel
theorem dX5_open_31 : decode cX5_open 31 = .ok (.iaload, 1) := by decide +kernel
theorem dX5_open_32 : decode cX5_open 32 = .ok (.iconst 1, 1) := by decide +kernel
theorem dX5_open_33 : decode cX5_open 33 = .ok (.iload_n 1, 1) := by decide +kernel
theorem dX5_open_34 : decode cX5_open 34 = .ok (.ishl, 1) := by decide +kernel
theorem dX5_open_35 : decode cX5_open 35 = .ok (.ior, 1) := by decide +kernel
theorem dX5_open_36 : decode cX5_open 36 = .ok (.iastore, 1) := by decide +kernel
theorem dX5_open_37 : decode cX5_open 37 = .ok (.aload_n 0, 1) := by decide +kernel
theorem dX5_open_38 : decode cX5_open 38 = .ok (.aload_n 0, 1) := by decide +kernel
theorem dX5_open_39 : decode cX5_open 39 = .ok (.invokevirtual 57, 3) := by decide +kernel
theorem dX5_open_42 : decode cX5_open 42 = .ok (.invokevirtual 76, 3) := by decide +kernel
theorem dX5_open_45 : decode cX5_open 45 = .ok (.ireturn, 1) := by decide +kernel
set_option maxRecDepth 20000 in
theorem ggX5_append_X5_in : GoodIn wsX5_append wsX5_in := goodIn_r _ [6] (by decide +kernel) (by decide +kernel)
set_option maxRecDepth 20000 in
theorem gX5_append_X5_in : GoodIn wsX5_append (va_wsS RX5 35 yX5_in wsX5_in) := goodIn_app (goodIn_of _ (by decide +kernel)) ggX5_append_X5_in
theorem dX5_append_0 : decode cX5_append 0 = .ok (.iload_n 1, 1) := by decide +kernel
theorem dX5_append_1 : decode cX5_append 1 = .ok (.iconst 1, 1) := by decide +kernel
theorem dX5_append_2 : decode cX5_append 2 = .ok (.sipush 255, 3) := by decide +kernel
theorem dX5_append_5 : decode cX5_append 5 = .ok (.invokestatic 35, 3) := by decide +kernel
theorem dX5_append_8 : decode cX5_append 8 = .ok (.ifCond .ne 5, 3) := by decide +kernel
theorem dX5_append_11 : decode cX5_append 11 = .ok (.iconst (-1), 1) := by decide +kernel
theorem dX5_append_12 : decode cX5_append 12 = .ok (.ireturn, 1) := by decide +kernel
theorem dX5_append_13 : decode cX5_append 13 = .ok (.aload_n 0, 1) := by decide +kernel
theorem dX5_append_14 : decode cX5_append 14 = .ok (.getfield 157, 3) := by decide +kernel
theorem dX5_append_17 : decode cX5_append 17 = .ok (.bipush 100, 2) := by decide +kernel
theorem dX5_append_19 : decode cX5_append 19 = .ok (.if_icmp .ne 6, 3) := by decide +kernel
theorem dX5_append_22 : decode cX5_append 22 = .ok (.bipush (-3), 2) := by decide +kernel
theorem dX5_append_24 : decode cX5_append 24 = .ok (.ireturn, 1) := by decide +kernel
theorem dX5_append_25 : decode cX5_append 25 = .ok (.aload_n 0, 1) := by decide +kernel
theorem dX5_append_26 : decode cX5_append 26 = .ok (.getfield 19, 3) := by decide +kernel
theorem dX5_append_29 : decode cX5_append 29 = .ok (.aload_n 0, 1) := by decide +kernel
theorem dX5_append_30 : decode cX5_append 30 = .ok (.getfield 157, 3) := by decide +kernel
theorem dX5_append_33 : decode cX5_append 33 = .ok (.iload_n 1, 1) := by decide +kernel
theorem dX5_append_34 : decode cX5_append 34 = .ok (.iastore, 1) := by decide +kernel
theorem dX5_append_35 : decode cX5_append 35 = .ok (.aload_n 0, 1) := by decide +kernel
theorem dX5_append_36 : decode cX5_append 36 = .ok (.dup, 1) := by decide +kernel
theorem dX5_append_37 : decode cX5_append 37 = .ok (.getfield 157, 3) := by decide +kernel
theorem dX5_append_40 : decode cX5_append 40 = .ok (.iconst 1, 1) := by decide +kernel
theorem dX5_append_41 : decode cX5_append 41 = .ok (.iadd, 1) := by decide +kernel
theorem dX5_append_42 : decode cX5_append 42 = .ok (.putfield 157, 3) := by decide +kernel
theorem dX5_append_45 : decode cX5_append 45 = .ok (.aload_n 0, 1) := by decide +kernel
theorem dX5_append_46 : decode cX5_append 46 = .ok (.getfield 157, 3) := by decide +kernel
theorem dX5_append_49 : decode cX5_append 49 = .ok (.ireturn, 1) := by decide +kernel
theorem dX5_clearText_0 : decode cX5_clearText 0 = .ok (.aload_n 0, 1) := by decide +kernel
theorem dX5_clearText_1 : decode cX5_clearText 1 = .ok (.getfield 157, 3) := by decide +kernel
theorem dX5_clearText_4 : decode cX5_clearText 4 = .ok (.istore_n 1, 1) := by decide +kernel
theorem dX5_clearText_5 : decode cX5_clearText 5 = .ok (.aload_n 0, 1) := by decide +kernel
theorem dX5_clearText_6 : decode cX5_clearText 6 = .ok (.iconst 0, 1) := by decide +kernel
theorem dX5_clearText_7 : decode cX5_clearText 7 = .ok (.putfield 157, 3) := by decide +kernel
theorem dX5_clearText_10 : decode cX5_clearText 10 = .ok (.iload_n 1, 1) := by decide +kernel
theorem dX5_clearText_11 : decode cX5_clearText 11 = .ok (.ireturn, 1) := by decide +kernel
theorem dX5_look_0 : decode cX5_look 0 = .ok (.aload_n 0, 1) := by decide +kernel
theorem dX5_look_1 : decode cX5_look 1 = .ok (.getfield 160, 3) := by decide +kernel
theorem dX5_look_4 : decode cX5_look 4 = .ok (.aload_n 0, 1) := by decide +kernel
theorem dX5_look_5 : decode cX5_look 5 = .ok (.getfield 157, 3) := by decide +kernel
theorem dX5_look_8 : decode cX5_look 8 = .ok (.if_icmp .ge 15, 3) := by decide +kernel
theorem dX5_look_11 : decode cX5_look 11 = .ok (.aload_n 0, 1) := by decide +kernel
theorem dX5_look_12 : decode cX5_look 12 = .ok (.getfield 19, 3) := by decide +kernel
theorem dX5_look_15 : decode cX5_look 15 = .ok (.aload_n 0, 1) := by decide +kernel
theorem dX5_look_16 : decode cX5_look 16 = .ok (.getfield 160, 3) := by decide +kernel
theorem dX5_look_19 : decode cX5_look 19 = .ok (.iaload, 1) := by decide +kernel
theorem dX5_look_20 : decode cX5_look 20 = .ok (.goto 4, 3) := by decide +kernel
theorem dX5_look_23 : decode cX5_look 23 = .ok (.iconst (-1), 1) := by decide +kernel
theorem dX5_look_24 : decode cX5_look 24 = .ok (.ireturn, 1) := by decide +kernel
set_option maxRecDepth 20000 in
theorem ggX5_skips_X5_look : GoodIn wsX5_skips wsX5_look := goodIn_r _ [6, 1, 7, 8, 9, 10, 11, 12, 13, 14, 15, 16, 17, 18, 19, 20, 21, 22, 23] (by decide +kernel) (by decide +kernel)
set_option maxRecDepth 20000 in
theorem gX5_skips_X5_look : GoodIn wsX5_skips (wsV RX5 163 RX5 yX5_look wsX5_look) := goodIn_app (goodIn_of _ (by decide +kernel)) ggX5_skips_X5_look
theorem dX5_skips_0 : decode cX5_skips 0 = .ok (.iconst 0, 1) := by decide +kernel
theorem dX5_skips_1 : decode cX5_skips 1 = .ok (.istore_n 1, 1) := by decide +kernel
theorem dX5_skips_2 : decode cX5_skips 2 = .ok (.aload_n 0, 1) := by decide +kernel
theorem dX5_skips_3 : decode cX5_skips 3 = .ok (.invokevirtual 163, 3) := by decide +kernel
theorem dX5_skips_6 : decode cX5_skips 6 = .ok (.bipush 32, 2) := by decide +kernel
theorem dX5_skips_8 : decode cX5_skips 8 = .ok (.if_icmp .ne 19, 3) := by decide +kernel
theorem dX5_skips_11 : decode cX5_skips 11 = .ok (.aload_n 0, 1) := by decide +kernel
theorem dX5_skips_12 : decode cX5_skips 12 = .ok (.dup, 1) := by decide +kernel
theorem dX5_skips_13 : decode cX5_skips 13 = .ok (.getfield 160, 3) := by decide +kernel
theorem dX5_skips_16 : decode cX5_skips 16 = .ok (.iconst 1, 1) := by decide +kernel
theorem dX5_skips_17 : decode cX5_skips 17 = .ok (.iadd, 1) := by decide +kernel
theorem dX5_skips_18 : decode cX5_skips 18 = .ok (.putfield 160, 3) := by decide +kernel
theorem dX5_skips_21 : decode cX5_skips 21 = .ok (.iinc 1 1, 3) := by decide +kernel
theorem dX5_skips_24 : decode cX5_skips 24 = .ok (.goto (-22), 3) := by decide +kernel
theorem dX5_skips_27 : decode cX5_skips 27 = .ok (.iload_n 1, 1) := by decide +kernel
theorem dX5_skips_28 : decode cX5_skips 28 = .ok (.ireturn, 1) := by decide +kernel
theorem dX5_manyOf_0 : decode cX5_manyOf 0 = .ok (.iload_n 0, 1) := by decide +kernel
theorem dX5_manyOf_1 : decode cX5_manyOf 1 = .ok (.tableswitch 97 102 120 #[95, 97, 97, 97, 91, 97, 97, 93, 97, 97, 95, 97, 91, 97, 97, 97, 97, 97, 93], 91) := by decide +kernel
theorem dX5_manyOf_92 : decode cX5_manyOf 92 = .ok (.iconst 3, 1) := by decide +kernel
theorem dX5_manyOf_93 : decode cX5_manyOf 93 = .ok (.ireturn, 1) := by decide +kernel
theorem dX5_manyOf_94 : decode cX5_manyOf 94 = .ok (.iconst 2, 1) := by decide +kernel
theorem dX5_manyOf_95 : decode cX5_manyOf 95 = .ok (.ireturn, 1) := by decide +kernel
theorem dX5_manyOf_96 : decode cX5_manyOf 96 = .ok (.iconst 1, 1) := by decide +kernel
theorem dX5_manyOf_97 : decode cX5_manyOf 97 = .ok (.ireturn, 1) := by decide +kernel
theorem dX5_manyOf_98 : decode cX5_manyOf 98 = .ok (.iconst 0, 1) := by decide +kernel
theorem dX5_manyOf_99 : decode cX5_manyOf 99 = .ok (.ireturn, 1) := by decide +kernel
set_option maxRecDepth 20000 in
theorem ggX5_reads_X5_look : GoodIn wsX5_reads wsX5_look := goodIn_r _ [8, 1, 9, 10, 14, 15, 16, 17, 18, 19, 20, 21, 22, 23, 24, 25, 26, 27, 28] (by decide +kernel) (by decide +kernel)
set_option maxRecDepth 20000 in
theorem gX5_reads_X5_look : GoodIn wsX5_reads (wsV RX5 163 RX5 yX5_look wsX5_look) := goodIn_app (goodIn_of _ (by decide +kernel)) ggX5_reads_X5_look
set_option maxRecDepth 20000 in
theorem ggX5_reads_X5_in : GoodIn wsX5_reads wsX5_in := goodIn_r _ [13] (by decide +kernel) (by decide +kernel)
set_option maxRecDepth 20000 in
theorem gX5_reads_X5_in : GoodIn wsX5_reads (va_wsS RX5 35 yX5_in wsX5_in) := goodIn_app (goodIn_of _ (by decide +kernel)) ggX5_reads_X5_in
theorem dX5_reads_0 : decode cX5_reads 0 = .ok (.aload_n 0, 1) := by decide +kernel
theorem dX5_reads_1 : decode cX5_reads 1 = .ok (.getfield 160, 3) := by decide +kernel
theorem dX5_reads_4 : decode cX5_reads 4 = .ok (.istore_n 2, 1) := by decide +kernel
theorem dX5_reads_5 : decode cX5_reads 5 = .ok (.iconst 0, 1) := by decide +kernel
theorem dX5_reads_6 : decode cX5_reads 6 = .ok (.istore_n 3, 1) := by decide +kernel
theorem dX5_reads_7 : decode cX5_reads 7 = .ok (.aload_n 0, 1) := by decide +kernel
theorem dX5_reads_8 : decode cX5_reads 8 = .ok (.invokevirtual 163, 3) := by decide +kernel
theorem dX5_reads_11 : decode cX5_reads 11 = .ok (.bipush 48, 2) := by decide +kernel
theorem dX5_reads_13 : decode cX5_reads 13 = .ok (.bipush 57, 2) := by decide +kernel
theorem dX5_reads_15 : decode cX5_reads 15 = .ok (.invokestatic 35, 3) := by decide +kernel
theorem dX5_reads_18 : decode cX5_reads 18 = .ok (.ifCond .eq 51, 3) := by decide +kernel
theorem dX5_reads_21 : decode cX5_reads 21 = .ok (.aload_n 0, 1) := by decide +kernel
theorem dX5_reads_22 : decode cX5_reads 22 = .ok (.getfield 160, 3) := by decide +kernel
theorem dX5_reads_25 : decode cX5_reads 25 = .ok (.iload_n 2, 1) := by decide +kernel
theorem dX5_reads_26 : decode cX5_reads 26 = .ok (.iconst 4, 1) := by decide +kernel
theorem dX5_reads_27 : decode cX5_reads 27 = .ok (.iadd, 1) := by decide +kernel
theorem dX5_reads_28 : decode cX5_reads 28 = .ok (.if_icmp .ge 41, 3) := by decide +kernel
theorem dX5_reads_31 : decode cX5_reads 31 = .ok (.aload_n 0, 1) := by decide +kernel
theorem dX5_reads_32 : decode cX5_reads 32 = .ok (.getfield 160, 3) := by decide +kernel
theorem dX5_reads_35 : decode cX5_reads 35 = .ok (.iload_n 2, 1) := by decide +kernel
theorem dX5_reads_36 : decode cX5_reads 36 = .ok (.if_icmp .le 7, 3) := by decide +kernel
theorem dX5_reads_39 : decode cX5_reads 39 = .ok (.iload_n 3, 1) := by decide +kernel
theorem dX5_reads_40 : decode cX5_reads 40 = .ok (.ifCond .eq 29, 3) := by decide +kernel
theorem dX5_reads_43 : decode cX5_reads 43 = .ok (.bipush 10, 2) := by decide +kernel
theorem dX5_reads_45 : decode cX5_reads 45 = .ok (.iload_n 3, 1) := by decide +kernel
theorem dX5_reads_46 : decode cX5_reads 46 = .ok (.imul, 1) := by decide +kernel
theorem dX5_reads_47 : decode cX5_reads 47 = .ok (.aload_n 0, 1) := by decide +kernel
theorem dX5_reads_48 : decode cX5_reads 48 = .ok (.invokevirtual 163, 3) := by decide +kernel
theorem dX5_reads_51 : decode cX5_reads 51 = .ok (.iadd, 1) := by decide +kernel
theorem dX5_reads_52 : decode cX5_reads 52 = .ok (.bipush 48, 2) := by decide +kernel
theorem dX5_reads_54 : decode cX5_reads 54 = .ok (.isub, 1) := by decide +kernel
theorem dX5_reads_55 : decode cX5_reads 55 = .ok (.istore_n 3, 1) := by decide +kernel
theorem dX5_reads_56 : decode cX5_reads 56 = .ok (.aload_n 0, 1) := by decide +kernel
theorem dX5_reads_57 : decode cX5_reads 57 = .ok (.dup, 1) := by decide +kernel
theorem dX5_reads_58 : decode cX5_reads 58 = .ok (.getfield 160, 3) := by decide +kernel
theorem dX5_reads_61 : decode cX5_reads 61 = .ok (.iconst 1, 1) := by decide +kernel
theorem dX5_reads_62 : decode cX5_reads 62 = .ok (.iadd, 1) := by decide +kernel
theorem dX5_reads_63 : decode cX5_reads 63 = .ok (.putfield 160, 3) := by decide +kernel
theorem dX5_reads_66 : decode cX5_reads 66 = .ok (.goto (-59), 3) := by decide +kernel
theorem dX5_reads_69 : decode cX5_reads 69 = .ok (.aload_n 0, 1) := by decide +kernel
theorem dX5_reads_70 : decode cX5_reads 70 = .ok (.aload_n 0, 1) := by decide +kernel
theorem dX5_reads_71 : decode cX5_reads 71 = .ok (.getfield 160, 3) := by decide +kernel
theorem dX5_reads_74 : decode cX5_reads 74 = .ok (.iload_n 2, 1) := by decide +kernel
theorem dX5_reads_75 : decode cX5_reads 75 = .ok (.if_icmp .eq 17, 3) := by decide +kernel
theorem dX5_reads_78 : decode cX5_reads 78 = .ok (.aload_n 0, 1) := by decide +kernel
theorem dX5_reads_79 : decode cX5_reads 79 = .ok (.invokevirtual 163, 3) := by decide +kernel
theorem dX5_reads_82 : decode cX5_reads 82 = .ok (.bipush 48, 2) := by decide +kernel
theorem dX5_reads_84 : decode cX5_reads 84 = .ok (.bipush 57, 2) := by decide +kernel
theorem dX5_reads_86 : decode cX5_reads 86 = .ok (.invokestatic 35, 3) := by decide +kernel
theorem dX5_reads_89 : decode cX5_reads 89 = .ok (.ifCond .eq 10, 3) := by decide +kernel
theorem dX5_reads_92 : decode cX5_reads 92 = .ok (.aload_n 0, 1) := by decide +kernel
theorem dX5_reads_93 : decode cX5_reads 93 = .ok (.getfield 160, 3) := by decide +kernel
theorem dX5_reads_96 : decode cX5_reads 96 = .ok (.goto 7, 3) := by decide +kernel
theorem dX5_reads_99 : decode cX5_reads 99 = .ok (.aload_n 0, 1) := by decide +kernel
theorem dX5_reads_100 : decode cX5_reads 100 = .ok (.getfield 166, 3) := by decide +kernel
theorem dX5_reads_103 : decode cX5_reads 103 = .ok (.putfield 166, 3) := by decide +kernel
theorem dX5_reads_106 : decode cX5_reads 106 = .ok (.aload_n 0, 1) := by decide +kernel
theorem dX5_reads_107 : decode cX5_reads 107 = .ok (.getfield 22, 3) := by decide +kernel
theorem dX5_reads_110 : decode cX5_reads 110 = .ok (.iload_n 1, 1) := by decide +kernel
theorem dX5_reads_111 : decode cX5_reads 111 = .ok (.iload_n 3, 1) := by decide +kernel
theorem dX5_reads_112 : decode cX5_reads 112 = .ok (.iastore, 1) := by decide +kernel
theorem dX5_reads_113 : decode cX5_reads 113 = .ok (.return_, 1) := by decide +kernel
set_option maxRecDepth 20000 in
theorem ggX5_does_X5_adds : GoodIn wsX5_does wsX5_adds := goodIn_r _ [6, 7, 8, 9, 5, 10, 11, 12, 13, 14, 15, 16, 17, 18, 113, 114, 115, 116, 117, 118, 119, 120, 121, 122, 123, 124, 125, 126, 127] (by decide +kernel) (by decide +kernel)
set_option maxRecDepth 20000 in
theorem gX5_does_X5_adds : GoodIn wsX5_does (wsV RX5 82 RX5 yX5_adds wsX5_adds) := goodIn_app (goodIn_of _ (by decide +kernel)) ggX5_does_X5_adds
set_option maxRecDepth 20000 in
theorem ggX5_does_X5_finishes : GoodIn wsX5_does wsX5_finishes := goodIn_r _ [22, 7, 23, 24, 25, 5, 26, 8, 9, 10, 27, 28, 29, 30, 31, 32, 33, 34, 113, 114, 115, 116, 117, 118, 119, 120, 121, 122, 123, 124, 125, 126, 127] (by decide +kernel) (by decide +kernel)
set_option maxRecDepth 20000 in
theorem gX5_does_X5_finishes : GoodIn wsX5_does (wsV RX5 89 RX5 yX5_finishes wsX5_finishes) := goodIn_app (goodIn_of _ (by decide +kernel)) ggX5_does_X5_finishes
set_option maxRecDepth 20000 in
theorem ggX5_does_X5_moves : GoodIn wsX5_does wsX5_moves := goodIn_r _ [38, 7, 23, 24, 25, 5, 26, 8, 9, 10, 11, 12, 13, 14, 39, 40, 41, 42, 27, 28, 29, 30, 15, 16, 17, 18, 43, 44, 45, 46, 47, 48, 49, 50, 31, 32, 33, 34, 51, 52, 53, 113, 114, 115, 116, 117, 118, 119, 120, 121, 122, 123, 124, 125, 126, 127] (by decide +kernel) (by decide +kernel)
set_option maxRecDepth 20000 in
theorem gX5_does_X5_moves : GoodIn wsX5_does (wsV RX5 96 RX5 yX5_moves wsX5_moves) := goodIn_app (goodIn_of _ (by decide +kernel)) ggX5_does_X5_moves
set_option maxRecDepth 20000 in
theorem ggX5_does_X5_exchanges : GoodIn wsX5_does wsX5_exchanges := goodIn_r _ [57, 7, 23, 24, 25, 5, 26, 8, 9, 10, 27, 28, 29, 30, 39, 40, 41, 42, 43, 44, 45, 46, 47, 48, 49, 50, 31, 32, 33, 34, 51, 52, 53, 113, 114, 115, 116, 117, 118, 119, 120, 121, 122, 123, 124, 125, 126, 127] (by decide +kernel) (by decide +kernel)
set_option maxRecDepth 20000 in
theorem gX5_does_X5_exchanges : GoodIn wsX5_does (wsV RX5 99 RX5 yX5_exchanges wsX5_exchanges) := goodIn_app (goodIn_of _ (by decide +kernel)) ggX5_does_X5_exchanges
set_option maxRecDepth 20000 in
theorem ggX5_does_X5_rings : GoodIn wsX5_does wsX5_rings := goodIn_r _ [61, 7, 23, 24, 25, 5, 26, 8, 9, 10, 27, 28, 29, 30, 39, 40, 41, 42, 43, 44, 45, 46, 47, 48, 49, 50, 31, 32, 33, 34, 51, 52, 53, 113, 114, 115, 116, 117, 118, 119, 120, 121, 122, 123, 124, 125, 126, 127] (by decide +kernel) (by decide +kernel)
set_option maxRecDepth 20000 in
theorem gX5_does_X5_rings : GoodIn wsX5_does (wsV RX5 102 RX5 yX5_rings wsX5_rings) := goodIn_app (goodIn_of _ (by decide +kernel)) ggX5_does_X5_rings
set_option maxRecDepth 20000 in
theorem ggX5_does_X5_evensBy : GoodIn wsX5_does wsX5_evensBy := goodIn_r _ [65, 8, 9, 5, 10, 66, 67, 68, 69, 70, 71, 72, 73, 74, 75, 76, 77, 78, 79, 80, 47, 48, 49, 50, 7, 31, 32, 33, 34, 27, 28, 29, 30, 51, 52, 53, 81, 82, 83, 84, 85, 86, 87, 88, 39, 40, 41, 42, 89, 90, 91, 92, 93, 94, 95, 96, 97, 98, 99, 100, 15, 16, 17, 18, 11, 12, 13, 14, 101, 102, 103, 104, 105, 106, 107, 108, 109, 110, 111, 112, 35, 36, 37, 38, 23, 24, 25, 26, 43, 44, 45, 46, 54, 55, 56, 57, 113, 114, 115, 116, 117, 118, 119, 120, 121, 122, 123, 124, 125, 126, 127] (by decide +kernel) (by decide +kernel)
set_option maxRecDepth 20000 in
theorem gX5_does_X5_evensBy : GoodIn wsX5_does (wsV RX5 142 RX5 yX5_evensBy wsX5_evensBy) := goodIn_app (goodIn_of _ (by decide +kernel)) ggX5_does_X5_evensBy
theorem dX5_does_0 : decode cX5_does 0 = .ok (.aload_n 0, 1) := by decide +kernel
theorem dX5_does_1 : decode cX5_does 1 = .ok (.getfield 22, 3) := by decide +kernel
theorem dX5_does_4 : decode cX5_does 4 = .ok (.iconst 0, 1) := by decide +kernel
theorem dX5_does_5 : decode cX5_does 5 = .ok (.iaload, 1) := by decide +kernel
theorem dX5_does_6 : decode cX5_does 6 = .ok (.istore_n 2, 1) := by decide +kernel
theorem dX5_does_7 : decode cX5_does 7 = .ok (.aload_n 0, 1) := by decide +kernel
theorem dX5_does_8 : decode cX5_does 8 = .ok (.getfield 22, 3) := by decide +kernel
theorem dX5_does_11 : decode cX5_does 11 = .ok (.iconst 1, 1) := by decide +kernel
theorem dX5_does_12 : decode cX5_does 12 = .ok (.iaload, 1) := by decide +kernel
theorem dX5_does_13 : decode cX5_does 13 = .ok (.istore_n 3, 1) := by decide +kernel
theorem dX5_does_14 : decode cX5_does 14 = .ok (.aload_n 0, 1) := by decide +kernel
theorem dX5_does_15 : decode cX5_does 15 = .ok (.getfield 22, 3) := by decide +kernel
theorem dX5_does_18 : decode cX5_does 18 = .ok (.iconst 2, 1) := by decide +kernel
theorem dX5_does_19 : decode cX5_does 19 = .ok (.iaload, 1) := by decide +kernel
theorem dX5_does_20 : decode cX5_does 20 = .ok (.istore 4, 2) := by decide +kernel
theorem dX5_does_22 : decode cX5_does 22 = .ok (.iload_n 1, 1) := by decide +kernel
theorem dX5_does_23 : decode cX5_does 23 = .ok (.lookupswitch 87 #[(102, 58), (106, 49), (109, 64), (114, 78), (120, 71)], 49) := by decide +kernel
theorem dX5_does_72 : decode cX5_does 72 = .ok (.aload_n 0, 1) := by decide +kernel
theorem dX5_does_73 : decode cX5_does 73 = .ok (.iload_n 2, 1) := by decide +kernel
theorem dX5_does_74 : decode cX5_does 74 = .ok (.iload_n 3, 1) := by decide +kernel
theorem dX5_does_75 : decode cX5_does 75 = .ok (.iload 4, 2) := by decide +kernel
theorem dX5_does_77 : decode cX5_does 77 = .ok (.invokevirtual 82, 3) := by decide +kernel
theorem dX5_does_80 : decode cX5_does 80 = .ok (.ireturn, 1) := by decide +kernel
theorem dX5_does_81 : decode cX5_does 81 = .ok (.aload_n 0, 1) := by decide +kernel
theorem dX5_does_82 : decode cX5_does 82 = .ok (.iload_n 2, 1) := by decide +kernel
theorem dX5_does_83 : decode cX5_does 83 = .ok (.invokevirtual 89, 3) := by decide +kernel
theorem dX5_does_86 : decode cX5_does 86 = .ok (.ireturn, 1) := by decide +kernel
theorem dX5_does_87 : decode cX5_does 87 = .ok (.aload_n 0, 1) := by decide +kernel
theorem dX5_does_88 : decode cX5_does 88 = .ok (.iload_n 2, 1) := by decide +kernel
theorem dX5_does_89 : decode cX5_does 89 = .ok (.iload_n 3, 1) := by decide +kernel
theorem dX5_does_90 : decode cX5_does 90 = .ok (.invokevirtual 96, 3) := by decide +kernel
theorem dX5_does_93 : decode cX5_does 93 = .ok (.ireturn, 1) := by decide +kernel
theorem dX5_does_94 : decode cX5_does 94 = .ok (.aload_n 0, 1) := by decide +kernel
theorem dX5_does_95 : decode cX5_does 95 = .ok (.iload_n 2, 1) := by decide +kernel
theorem dX5_does_96 : decode cX5_does 96 = .ok (.iload_n 3, 1) := by decide +kernel
theorem dX5_does_97 : decode cX5_does 97 = .ok (.invokevirtual 99, 3) := by decide +kernel
theorem dX5_does_100 : decode cX5_does 100 = .ok (.ireturn, 1) := by decide +kernel
theorem dX5_does_101 : decode cX5_does 101 = .ok (.aload_n 0, 1) := by decide +kernel
theorem dX5_does_102 : decode cX5_does 102 = .ok (.iload_n 2, 1) := by decide +kernel
theorem dX5_does_103 : decode cX5_does 103 = .ok (.iload_n 3, 1) := by decide +kernel
theorem dX5_does_104 : decode cX5_does 104 = .ok (.iload 4, 2) := by decide +kernel
theorem dX5_does_106 : decode cX5_does 106 = .ok (.invokevirtual 102, 3) := by decide +kernel
theorem dX5_does_109 : decode cX5_does 109 = .ok (.ireturn, 1) := by decide +kernel
theorem dX5_does_110 : decode cX5_does 110 = .ok (.aload_n 0, 1) := by decide +kernel
theorem dX5_does_111 : decode cX5_does 111 = .ok (.iload_n 2, 1) := by decide +kernel
theorem dX5_does_112 : decode cX5_does 112 = .ok (.invokevirtual 142, 3) := by decide +kernel
theorem dX5_does_115 : decode cX5_does 115 = .ok (.ireturn, 1) := by decide +kernel
set_option maxRecDepth 20000 in
theorem ggX5_order_X5_look : GoodIn wsX5_order wsX5_look := goodIn_r _ [7, 1, 8, 9, 136, 137, 138, 139, 140, 141, 142, 143, 144, 145, 146, 147, 148, 149, 150] (by decide +kernel) (by decide +kernel)
set_option maxRecDepth 20000 in
theorem gX5_order_X5_look : GoodIn wsX5_order (wsV RX5 163 RX5 yX5_look wsX5_look) := goodIn_app (goodIn_of _ (by decide +kernel)) ggX5_order_X5_look
set_option maxRecDepth 20000 in
theorem ggX5_order_X5_manyOf : GoodIn wsX5_order wsX5_manyOf := goodIn_r _ [12] (by decide +kernel) (by decide +kernel)
set_option maxRecDepth 20000 in
theorem gX5_order_X5_manyOf : GoodIn wsX5_order (va_wsS RX5 169 yX5_manyOf wsX5_manyOf) := goodIn_app (goodIn_of _ (by decide +kernel)) ggX5_order_X5_manyOf
set_option maxRecDepth 20000 in
theorem ggX5_order_X5_skips : GoodIn wsX5_order wsX5_skips := goodIn_r _ [16, 1, 3, 4, 5, 6, 7, 8, 9, 136, 137, 138, 139, 140, 141, 142, 143, 144, 145, 146, 147, 148, 149, 150] (by decide +kernel) (by decide +kernel)
set_option maxRecDepth 20000 in
theorem gX5_order_X5_skips : GoodIn wsX5_order (wsV RX5 172 RX5 yX5_skips wsX5_skips) := goodIn_app (goodIn_of _ (by decide +kernel)) ggX5_order_X5_skips
set_option maxRecDepth 20000 in
theorem ggX5_order_X5_reads : GoodIn wsX5_order wsX5_reads := goodIn_r _ [20, 1, 2, 21, 3, 4, 5, 6, 7, 8, 9, 22, 23, 24, 136, 137, 138, 139, 140, 141, 142, 143, 144, 145, 146, 147, 148, 149, 150] (by decide +kernel) (by decide +kernel)
set_option maxRecDepth 20000 in
theorem gX5_order_X5_reads : GoodIn wsX5_order (wsV RX5 175 RX5 yX5_reads wsX5_reads) := goodIn_app (goodIn_of _ (by decide +kernel)) ggX5_order_X5_reads
set_option maxRecDepth 20000 in
theorem ggX5_order_X5_does : GoodIn wsX5_order wsX5_does := goodIn_r _ [28, 21, 29, 30, 31, 6, 32, 33, 22, 23, 24, 34, 35, 36, 37, 38, 39, 40, 41, 42, 43, 44, 45, 46, 47, 48, 49, 50, 51, 52, 53, 54, 55, 56, 57, 58, 59, 60, 61, 62, 63, 64, 65, 66, 67, 68, 69, 70, 71, 72, 73, 74, 75, 76, 77, 78, 79, 80, 81, 82, 83, 84, 85, 86, 87, 88, 89, 90, 91, 92, 93, 94, 95, 96, 97, 98, 99, 100, 101, 102, 103, 104, 105, 106, 107, 108, 109, 110, 111, 112, 113, 114, 115, 116, 117, 118, 119, 120, 121, 122, 123, 124, 125, 126, 127, 128, 129, 130, 131, 132, 133, 134, 135, 136, 137, 138, 139, 140, 141, 142, 143, 144, 145, 146, 147, 148, 149, 150] (by decide +kernel) (by decide +kernel)
set_option maxRecDepth 20000 in
theorem gX5_order_X5_does : GoodIn wsX5_order (wsV RX5 179 RX5 yX5_does wsX5_does) := goodIn_app (goodIn_of _ (by decide +kernel)) ggX5_order_X5_does
theorem dX5_order_0 : decode cX5_order 0 = .ok (.aload_n 0, 1) := by decide +kernel
theorem dX5_order_1 : decode cX5_order 1 = .ok (.getfield 160, 3) := by decide +kernel
theorem dX5_order_4 : decode cX5_order 4 = .ok (.istore_n 1, 1) := by decide +kernel
theorem dX5_order_5 : decode cX5_order 5 = .ok (.aload_n 0, 1) := by decide +kernel
theorem dX5_order_6 : decode cX5_order 6 = .ok (.invokevirtual 163, 3) := by decide +kernel
theorem dX5_order_9 : decode cX5_order 9 = .ok (.istore_n 2, 1) := by decide +kernel
theorem dX5_order_10 : decode cX5_order 10 = .ok (.iload_n 2, 1) := by decide +kernel
theorem dX5_order_11 : decode cX5_order 11 = .ok (.invokestatic 169, 3) := by decide +kernel
theorem dX5_order_14 : decode cX5_order 14 = .ok (.istore_n 3, 1) := by decide +kernel
theorem dX5_order_15 : decode cX5_order 15 = .ok (.iload_n 3, 1) := by decide +kernel
theorem dX5_order_16 : decode cX5_order 16 = .ok (.ifCond .ne 9, 3) := by decide +kernel
theorem dX5_order_19 : decode cX5_order 19 = .ok (.aload_n 0, 1) := by decide +kernel
theorem dX5_order_20 : decode cX5_order 20 = .ok (.iload_n 1, 1) := by decide +kernel
theorem dX5_order_21 : decode cX5_order 21 = .ok (.putfield 166, 3) := by decide +kernel
theorem dX5_order_24 : decode cX5_order 24 = .ok (.return_, 1) := by decide +kernel
theorem dX5_order_25 : decode cX5_order 25 = .ok (.aload_n 0, 1) := by decide +kernel
theorem dX5_order_26 : decode cX5_order 26 = .ok (.dup, 1) := by decide +kernel
theorem dX5_order_27 : decode cX5_order 27 = .ok (.getfield 160, 3) := by decide +kernel
theorem dX5_order_30 : decode cX5_order 30 = .ok (.iconst 1, 1) := by decide +kernel
theorem dX5_order_31 : decode cX5_order 31 = .ok (.iadd, 1) := by decide +kernel
theorem dX5_order_32 : decode cX5_order 32 = .ok (.putfield 160, 3) := by decide +kernel
theorem dX5_order_35 : decode cX5_order 35 = .ok (.iconst 0, 1) := by decide +kernel
theorem dX5_order_36 : decode cX5_order 36 = .ok (.istore 4, 2) := by decide +kernel
theorem dX5_order_38 : decode cX5_order 38 = .ok (.iload 4, 2) := by decide +kernel
theorem dX5_order_40 : decode cX5_order 40 = .ok (.iload_n 3, 1) := by decide +kernel
theorem dX5_order_41 : decode cX5_order 41 = .ok (.if_icmp .ge 49, 3) := by decide +kernel
theorem dX5_order_44 : decode cX5_order 44 = .ok (.aload_n 0, 1) := by decide +kernel
theorem dX5_order_45 : decode cX5_order 45 = .ok (.getfield 166, 3) := by decide +kernel
theorem dX5_order_48 : decode cX5_order 48 = .ok (.bipush (-9), 2) := by decide +kernel
theorem dX5_order_50 : decode cX5_order 50 = .ok (.if_icmp .ne 40, 3) := by decide +kernel
theorem dX5_order_53 : decode cX5_order 53 = .ok (.aload_n 0, 1) := by decide +kernel
theorem dX5_order_54 : decode cX5_order 54 = .ok (.invokevirtual 172, 3) := by decide +kernel
theorem dX5_order_57 : decode cX5_order 57 = .ok (.istore 5, 2) := by decide +kernel
theorem dX5_order_59 : decode cX5_order 59 = .ok (.iload 4, 2) := by decide +kernel
theorem dX5_order_61 : decode cX5_order 61 = .ok (.ifCond .le 17, 3) := by decide +kernel
theorem dX5_order_64 : decode cX5_order 64 = .ok (.iload 5, 2) := by decide +kernel
theorem dX5_order_66 : decode cX5_order 66 = .ok (.ifCond .ne 12, 3) := by decide +kernel
theorem dX5_order_69 : decode cX5_order 69 = .ok (.aload_n 0, 1) := by decide +kernel
theorem dX5_order_70 : decode cX5_order 70 = .ok (.aload_n 0, 1) := by decide +kernel
theorem dX5_order_71 : decode cX5_order 71 = .ok (.getfield 160, 3) := by decide +kernel
theorem dX5_order_74 : decode cX5_order 74 = .ok (.putfield 166, 3) := by decide +kernel
theorem dX5_order_77 : decode cX5_order 77 = .ok (.return_, 1) := by decide +kernel
theorem dX5_order_78 : decode cX5_order 78 = .ok (.aload_n 0, 1) := by decide +kernel
theorem dX5_order_79 : decode cX5_order 79 = .ok (.iload 4, 2) := by decide +kernel
theorem dX5_order_81 : decode cX5_order 81 = .ok (.invokevirtual 175, 3) := by decide +kernel
theorem dX5_order_84 : decode cX5_order 84 = .ok (.iinc 4 1, 3) := by decide +kernel
theorem dX5_order_87 : decode cX5_order 87 = .ok (.goto (-49), 3) := by decide +kernel
theorem dX5_order_90 : decode cX5_order 90 = .ok (.aload_n 0, 1) := by decide +kernel
theorem dX5_order_91 : decode cX5_order 91 = .ok (.getfield 166, 3) := by decide +kernel
theorem dX5_order_94 : decode cX5_order 94 = .ok (.bipush (-9), 2) := by decide +kernel
theorem dX5_order_96 : decode cX5_order 96 = .ok (.if_icmp .eq 4, 3) := by decide +kernel
theorem dX5_order_99 : decode cX5_order 99 = .ok (.return_, 1) := by decide +kernel
theorem dX5_order_100 : decode cX5_order 100 = .ok (.aload_n 0, 1) := by decide +kernel
theorem dX5_order_101 : decode cX5_order 101 = .ok (.invokevirtual 172, 3) := by decide +kernel
theorem dX5_order_104 : decode cX5_order 104 = .ok (.pop, 1) := by decide +kernel
theorem dX5_order_105 : decode cX5_order 105 = .ok (.aload_n 0, 1) := by decide +kernel
theorem dX5_order_106 : decode cX5_order 106 = .ok (.invokevirtual 163, 3) := by decide +kernel
theorem dX5_order_109 : decode cX5_order 109 = .ok (.bipush 59, 2) := by decide +kernel
theorem dX5_order_111 : decode cX5_order 111 = .ok (.if_icmp .eq 12, 3) := by decide +kernel
theorem dX5_order_114 : decode cX5_order 114 = .ok (.aload_n 0, 1) := by decide +kernel
theorem dX5_order_115 : decode cX5_order 115 = .ok (.aload_n 0, 1) := by decide +kernel
theorem dX5_order_116 : decode cX5_order 116 = .ok (.getfield 160, 3) := by decide +kernel
theorem dX5_order_119 : decode cX5_order 119 = .ok (.putfield 166, 3) := by decide +kernel
theorem dX5_order_122 : decode cX5_order 122 = .ok (.return_, 1) := by decide +kernel
theorem dX5_order_123 : decode cX5_order 123 = .ok (.aload_n 0, 1) := by decide +kernel
theorem dX5_order_124 : decode cX5_order 124 = .ok (.dup, 1) := by decide +kernel
theorem dX5_order_125 : decode cX5_order 125 = .ok (.getfield 160, 3) := by decide +kernel
theorem dX5_order_128 : decode cX5_order 128 = .ok (.iconst 1, 1) := by decide +kernel
theorem dX5_order_129 : decode cX5_order 129 = .ok (.iadd, 1) := by decide +kernel
theorem dX5_order_130 : decode cX5_order 130 = .ok (.putfield 160, 3) := by decide +kernel
theorem dX5_order_133 : decode cX5_order 133 = .ok (.aload_n 0, 1) := by decide +kernel
theorem dX5_order_134 : decode cX5_order 134 = .ok (.aload_n 0, 1) := by decide +kernel
theorem dX5_order_135 : decode cX5_order 135 = .ok (.iload_n 2, 1) := by decide +kernel
theorem dX5_order_136 : decode cX5_order 136 = .ok (.invokevirtual 179, 3) := by decide +kernel
theorem dX5_order_139 : decode cX5_order 139 = .ok (.ifCond .ge 7, 3) := by decide +kernel
theorem dX5_order_142 : decode cX5_order 142 = .ok (.iload_n 1, 1) := by decide +kernel
theorem dX5_order_143 : decode cX5_order 143 = .ok (.goto 5, 3) := by decide +kernel
theorem dX5_order_146 : decode cX5_order 146 = .ok (.bipush (-9), 2) := by decide +kernel
theorem dX5_order_148 : decode cX5_order 148 = .ok (.putfield 166, 3) := by decide +kernel
theorem dX5_order_151 : decode cX5_order 151 = .ok (.return_, 1) := by decide +kernel
set_option maxRecDepth 20000 in
theorem ggX5_run_X5_aside : GoodIn wsX5_run wsX5_aside := goodIn_r _ [8, 9, 10, 159, 160, 161, 162, 163, 164, 165, 166, 167, 168, 169, 170, 171, 172, 173] (by decide +kernel) (by decide +kernel)
set_option maxRecDepth 20000 in
theorem gX5_run_X5_aside : GoodIn wsX5_run (wsV RX5 73 RX5 yX5_aside wsX5_aside) := goodIn_app (goodIn_of _ (by decide +kernel)) ggX5_run_X5_aside
set_option maxRecDepth 20000 in
theorem ggX5_run_X5_skips : GoodIn wsX5_run wsX5_skips := goodIn_r _ [14, 1, 15, 16, 17, 7, 18, 3, 19, 159, 160, 161, 162, 163, 164, 165, 166, 167, 168, 169, 170, 171, 172, 173] (by decide +kernel) (by decide +kernel)
set_option maxRecDepth 20000 in
theorem gX5_run_X5_skips : GoodIn wsX5_run (wsV RX5 172 RX5 yX5_skips wsX5_skips) := goodIn_app (goodIn_of _ (by decide +kernel)) ggX5_run_X5_skips
set_option maxRecDepth 20000 in
theorem ggX5_run_X5_order : GoodIn wsX5_run wsX5_order := goodIn_r _ [23, 1, 2, 15, 16, 17, 7, 18, 3, 19, 24, 25, 26, 11, 12, 13, 14, 27, 28, 29, 30, 31, 32, 33, 34, 35, 36, 37, 38, 39, 40, 41, 42, 10, 43, 44, 45, 46, 47, 48, 49, 50, 51, 52, 53, 54, 55, 56, 57, 58, 59, 60, 61, 62, 63, 64, 65, 66, 67, 68, 69, 70, 71, 72, 73, 74, 75, 76, 77, 78, 79, 80, 81, 82, 83, 84, 85, 86, 87, 88, 89, 90, 91, 92, 93, 94, 95, 96, 97, 98, 99, 100, 101, 102, 103, 104, 105, 106, 107, 108, 109, 110, 111, 112, 113, 114, 115, 116, 117, 118, 119, 120, 121, 122, 123, 124, 125, 126, 127, 128, 129, 130, 131, 132, 133, 134, 135, 136, 137, 138, 139, 140, 141, 142, 143, 144, 159, 160, 161, 162, 163, 164, 165, 166, 167, 168, 169, 170, 171, 172, 173] (by decide +kernel) (by decide +kernel)
set_option maxRecDepth 20000 in
theorem gX5_run_X5_order : GoodIn wsX5_run (wsV RX5 182 RX5 yX5_order wsX5_order) := goodIn_app (goodIn_of _ (by decide +kernel)) ggX5_run_X5_order
set_option maxRecDepth 20000 in
theorem ggX5_run_X5_layBack : GoodIn wsX5_run wsX5_layBack := goodIn_r _ [148, 10, 9, 159, 160, 161, 162, 163, 164, 165, 166, 167, 168, 169, 170, 171, 172, 173] (by decide +kernel) (by decide +kernel)
set_option maxRecDepth 20000 in
theorem gX5_run_X5_layBack : GoodIn wsX5_run (wsV RX5 185 RX5 yX5_layBack wsX5_layBack) := goodIn_app (goodIn_of _ (by decide +kernel)) ggX5_run_X5_layBack
set_option maxRecDepth 20000 in
theorem ggX5_run_X5_acted : GoodIn wsX5_run wsX5_acted := goodIn_r _ [152, 153, 154, 155, 7, 156, 157, 158, 9, 159, 160, 161, 162, 163, 164, 165, 166, 167, 168, 169, 170, 171, 172, 173] (by decide +kernel) (by decide +kernel)
set_option maxRecDepth 20000 in
theorem gX5_run_X5_acted : GoodIn wsX5_run (wsV RX5 76 RX5 yX5_acted wsX5_acted) := goodIn_app (goodIn_of _ (by decide +kernel)) ggX5_run_X5_acted
theorem dX5_run_0 : decode cX5_run 0 = .ok (.aload_n 0, 1) := by decide +kernel
theorem dX5_run_1 : decode cX5_run 1 = .ok (.invokevirtual 73, 3) := by decide +kernel
theorem dX5_run_4 : decode cX5_run 4 = .ok (.aload_n 0, 1) := by decide +kernel
theorem dX5_run_5 : decode cX5_run 5 = .ok (.iconst 0, 1) := by decide +kernel
theorem dX5_run_6 : decode cX5_run 6 = .ok (.putfield 160, 3) := by decide +kernel
theorem dX5_run_9 : decode cX5_run 9 = .ok (.aload_n 0, 1) := by decide +kernel
theorem dX5_run_10 : decode cX5_run 10 = .ok (.bipush (-9), 2) := by decide +kernel
theorem dX5_run_12 : decode cX5_run 12 = .ok (.putfield 166, 3) := by decide +kernel
theorem dX5_run_15 : decode cX5_run 15 = .ok (.iconst 0, 1) := by decide +kernel
theorem dX5_run_16 : decode cX5_run 16 = .ok (.istore_n 1, 1) := by decide +kernel
theorem dX5_run_17 : decode cX5_run 17 = .ok (.aload_n 0, 1) := by decide +kernel
theorem dX5_run_18 : decode cX5_run 18 = .ok (.invokevirtual 172, 3) := by decide +kernel
theorem dX5_run_21 : decode cX5_run 21 = .ok (.pop, 1) := by decide +kernel
theorem dX5_run_22 : decode cX5_run 22 = .ok (.aload_n 0, 1) := by decide +kernel
theorem dX5_run_23 : decode cX5_run 23 = .ok (.getfield 160, 3) := by decide +kernel
theorem dX5_run_26 : decode cX5_run 26 = .ok (.aload_n 0, 1) := by decide +kernel
theorem dX5_run_27 : decode cX5_run 27 = .ok (.getfield 157, 3) := by decide +kernel
theorem dX5_run_30 : decode cX5_run 30 = .ok (.if_icmp .ge 36, 3) := by decide +kernel
theorem dX5_run_33 : decode cX5_run 33 = .ok (.aload_n 0, 1) := by decide +kernel
theorem dX5_run_34 : decode cX5_run 34 = .ok (.getfield 166, 3) := by decide +kernel
theorem dX5_run_37 : decode cX5_run 37 = .ok (.bipush (-9), 2) := by decide +kernel
theorem dX5_run_39 : decode cX5_run 39 = .ok (.if_icmp .ne 27, 3) := by decide +kernel
theorem dX5_run_42 : decode cX5_run 42 = .ok (.aload_n 0, 1) := by decide +kernel
theorem dX5_run_43 : decode cX5_run 43 = .ok (.invokevirtual 182, 3) := by decide +kernel
theorem dX5_run_46 : decode cX5_run 46 = .ok (.iinc 1 1, 3) := by decide +kernel
theorem dX5_run_49 : decode cX5_run 49 = .ok (.aload_n 0, 1) := by decide +kernel
theorem dX5_run_50 : decode cX5_run 50 = .ok (.getfield 166, 3) := by decide +kernel
theorem dX5_run_53 : decode cX5_run 53 = .ok (.bipush (-9), 2) := by decide +kernel
theorem dX5_run_55 : decode cX5_run 55 = .ok (.if_icmp .ne (-33), 3) := by decide +kernel
theorem dX5_run_58 : decode cX5_run 58 = .ok (.aload_n 0, 1) := by decide +kernel
theorem dX5_run_59 : decode cX5_run 59 = .ok (.invokevirtual 172, 3) := by decide +kernel
theorem dX5_run_62 : decode cX5_run 62 = .ok (.pop, 1) := by decide +kernel
theorem dX5_run_63 : decode cX5_run 63 = .ok (.goto (-41), 3) := by decide +kernel
theorem dX5_run_66 : decode cX5_run 66 = .ok (.aload_n 0, 1) := by decide +kernel
theorem dX5_run_67 : decode cX5_run 67 = .ok (.getfield 166, 3) := by decide +kernel
theorem dX5_run_70 : decode cX5_run 70 = .ok (.bipush (-9), 2) := by decide +kernel
theorem dX5_run_72 : decode cX5_run 72 = .ok (.if_icmp .eq 16, 3) := by decide +kernel
theorem dX5_run_75 : decode cX5_run 75 = .ok (.aload_n 0, 1) := by decide +kernel
theorem dX5_run_76 : decode cX5_run 76 = .ok (.invokevirtual 185, 3) := by decide +kernel
theorem dX5_run_79 : decode cX5_run 79 = .ok (.sipush (-1000), 3) := by decide +kernel
theorem dX5_run_82 : decode cX5_run 82 = .ok (.aload_n 0, 1) := by decide +kernel
theorem dX5_run_83 : decode cX5_run 83 = .ok (.getfield 166, 3) := by decide +kernel
theorem dX5_run_86 : decode cX5_run 86 = .ok (.isub, 1) := by decide +kernel
theorem dX5_run_87 : decode cX5_run 87 = .ok (.ireturn, 1) := by decide +kernel
theorem dX5_run_88 : decode cX5_run 88 = .ok (.aload_n 0, 1) := by decide +kernel
theorem dX5_run_89 : decode cX5_run 89 = .ok (.iconst 0, 1) := by decide +kernel
theorem dX5_run_90 : decode cX5_run 90 = .ok (.putfield 157, 3) := by decide +kernel
theorem dX5_run_93 : decode cX5_run 93 = .ok (.aload_n 0, 1) := by decide +kernel
theorem dX5_run_94 : decode cX5_run 94 = .ok (.iload_n 1, 1) := by decide +kernel
theorem dX5_run_95 : decode cX5_run 95 = .ok (.invokevirtual 76, 3) := by decide +kernel
theorem dX5_run_98 : decode cX5_run 98 = .ok (.ireturn, 1) := by decide +kernel
set_option maxRecDepth 20000 in
theorem ggX5_manyOn_X5_of : GoodIn wsX5_manyOn wsX5_of := goodIn_r _ [6, 1, 7, 8, 9, 10, 11, 12, 13, 14, 15, 16, 17, 18, 19, 20, 21] (by decide +kernel) (by decide +kernel)
set_option maxRecDepth 20000 in
theorem gX5_manyOn_X5_of : GoodIn wsX5_manyOn (wsV RX5 43 RX5 yX5_of wsX5_of) := goodIn_app (goodIn_of _ (by decide +kernel)) ggX5_manyOn_X5_of
theorem dX5_manyOn_0 : decode cX5_manyOn 0 = .ok (.iconst 0, 1) := by decide +kernel
theorem dX5_manyOn_1 : decode cX5_manyOn 1 = .ok (.istore_n 2, 1) := by decide +kernel
theorem dX5_manyOn_2 : decode cX5_manyOn 2 = .ok (.iconst 0, 1) := by decide +kernel
theorem dX5_manyOn_3 : decode cX5_manyOn 3 = .ok (.istore_n 3, 1) := by decide +kernel
theorem dX5_manyOn_4 : decode cX5_manyOn 4 = .ok (.iload_n 3, 1) := by decide +kernel
theorem dX5_manyOn_5 : decode cX5_manyOn 5 = .ok (.aload_n 0, 1) := by decide +kernel
theorem dX5_manyOn_6 : decode cX5_manyOn 6 = .ok (.getfield 7, 3) := by decide +kernel
theorem dX5_manyOn_9 : decode cX5_manyOn 9 = .ok (.iconst 2, 1) := by decide +kernel
theorem dX5_manyOn_10 : decode cX5_manyOn 10 = .ok (.iaload, 1) := by decide +kernel
theorem dX5_manyOn_11 : decode cX5_manyOn 11 = .ok (.if_icmp .ge 27, 3) := by decide +kernel
theorem dX5_manyOn_14 : decode cX5_manyOn 14 = .ok (.iload_n 2, 1) := by decide +kernel
theorem dX5_manyOn_15 : decode cX5_manyOn 15 = .ok (.aload_n 0, 1) := by decide +kernel
theorem dX5_manyOn_16 : decode cX5_manyOn 16 = .ok (.iload_n 3, 1) := by decide +kernel
theorem dX5_manyOn_17 : decode cX5_manyOn 17 = .ok (.iconst 2, 1) := by decide +kernel
theorem dX5_manyOn_18 : decode cX5_manyOn 18 = .ok (.invokevirtual 43, 3) := by decide +kernel
theorem dX5_manyOn_21 : decode cX5_manyOn 21 = .ok (.iload_n 1, 1) := by decide +kernel
theorem dX5_manyOn_22 : decode cX5_manyOn 22 = .ok (.if_icmp .ne 7, 3) := by decide +kernel
theorem dX5_manyOn_25 : decode cX5_manyOn 25 = .ok (.iconst 1, 1) := by decide +kernel
theorem dX5_manyOn_26 : decode cX5_manyOn 26 = .ok (.goto 4, 3) := by decide +kernel
theorem dX5_manyOn_29 : decode cX5_manyOn 29 = .ok (.iconst 0, 1) := by decide +kernel
theorem dX5_manyOn_30 : decode cX5_manyOn 30 = .ok (.iadd, 1) := by decide +kernel
theorem dX5_manyOn_31 : decode cX5_manyOn 31 = .ok (.istore_n 2, 1) := by decide +kernel
theorem dX5_manyOn_32 : decode cX5_manyOn 32 = .ok (.iinc 3 1, 3) := by decide +kernel
theorem dX5_manyOn_35 : decode cX5_manyOn 35 = .ok (.goto (-31), 3) := by decide +kernel
theorem dX5_manyOn_38 : decode cX5_manyOn 38 = .ok (.iload_n 2, 1) := by decide +kernel
theorem dX5_manyOn_39 : decode cX5_manyOn 39 = .ok (.ireturn, 1) := by decide +kernel
set_option maxRecDepth 20000 in
theorem ggX5_count_X5_opens : GoodIn wsX5_count wsX5_opens := goodIn_r _ [8, 1, 63, 64, 65, 66, 67, 68, 69, 70, 71, 72, 73, 74, 75, 76, 77] (by decide +kernel) (by decide +kernel)
set_option maxRecDepth 20000 in
theorem gX5_count_X5_opens : GoodIn wsX5_count (wsV RX5 57 RX5 yX5_opens wsX5_opens) := goodIn_app (goodIn_of _ (by decide +kernel)) ggX5_count_X5_opens
set_option maxRecDepth 20000 in
theorem ggX5_count_X5_manyOn : GoodIn wsX5_count wsX5_manyOn := goodIn_r _ [12, 1, 13, 14, 15, 7, 16, 63, 64, 65, 66, 67, 68, 69, 70, 71, 72, 73, 74, 75, 76, 77] (by decide +kernel) (by decide +kernel)
set_option maxRecDepth 20000 in
theorem gX5_count_X5_manyOn : GoodIn wsX5_count (wsV RX5 188 RX5 yX5_manyOn wsX5_manyOn) := goodIn_app (goodIn_of _ (by decide +kernel)) ggX5_count_X5_manyOn
set_option maxRecDepth 20000 in
theorem ggX5_count_X5_allLoads : GoodIn wsX5_count wsX5_allLoads := goodIn_r _ [20, 1, 21, 22, 23, 7, 24, 13, 14, 15, 16, 63, 64, 65, 66, 67, 68, 69, 70, 71, 72, 73, 74, 75, 76, 77] (by decide +kernel) (by decide +kernel)
set_option maxRecDepth 20000 in
theorem gX5_count_X5_allLoads : GoodIn wsX5_count (wsV RX5 61 RX5 yX5_allLoads wsX5_allLoads) := goodIn_app (goodIn_of _ (by decide +kernel)) ggX5_count_X5_allLoads
set_option maxRecDepth 20000 in
theorem ggX5_count_X5_greatest : GoodIn wsX5_count wsX5_greatest := goodIn_r _ [28, 1, 29, 30, 31, 7, 32, 13, 14, 15, 16, 33, 34, 35, 63, 64, 65, 66, 67, 68, 69, 70, 71, 72, 73, 74, 75, 76, 77] (by decide +kernel) (by decide +kernel)
set_option maxRecDepth 20000 in
theorem gX5_count_X5_greatest : GoodIn wsX5_count (wsV RX5 67 RX5 yX5_greatest wsX5_greatest) := goodIn_app (goodIn_of _ (by decide +kernel)) ggX5_count_X5_greatest
set_option maxRecDepth 20000 in
theorem ggX5_count_X5_emptiest : GoodIn wsX5_count wsX5_emptiest := goodIn_r _ [39, 1, 40, 41, 42, 7, 43, 44, 45, 46, 47, 48, 49, 50, 29, 30, 31, 32, 13, 14, 15, 16, 63, 64, 65, 66, 67, 68, 69, 70, 71, 72, 73, 74, 75, 76, 77] (by decide +kernel) (by decide +kernel)
set_option maxRecDepth 20000 in
theorem gX5_count_X5_emptiest : GoodIn wsX5_count (wsV RX5 148 RX5 yX5_emptiest wsX5_emptiest) := goodIn_app (goodIn_of _ (by decide +kernel)) ggX5_count_X5_emptiest
set_option maxRecDepth 20000 in
theorem ggX5_count_X5_load : GoodIn wsX5_count wsX5_load := goodIn_r _ [32, 1, 13, 14, 15, 7, 16, 63, 64, 65, 66, 67, 68, 69, 70, 71, 72, 73, 74, 75, 76, 77] (by decide +kernel) (by decide +kernel)
set_option maxRecDepth 20000 in
theorem gX5_count_X5_load : GoodIn wsX5_count (wsV RX5 50 RX5 yX5_load wsX5_load) := goodIn_app (goodIn_of _ (by decide +kernel)) ggX5_count_X5_load
set_option maxRecDepth 20000 in
theorem ggX5_count_X5_bound : GoodIn wsX5_count wsX5_bound := goodIn_r _ [54, 1, 21, 22, 23, 7, 24, 13, 14, 15, 16, 33, 34, 35, 4, 5, 6, 8, 17, 18, 19, 20, 63, 64, 65, 66, 67, 68, 69, 70, 71, 72, 73, 74, 75, 76, 77] (by decide +kernel) (by decide +kernel)
set_option maxRecDepth 20000 in
theorem gX5_count_X5_bound : GoodIn wsX5_count (wsV RX5 64 RX5 yX5_bound wsX5_bound) := goodIn_app (goodIn_of _ (by decide +kernel)) ggX5_count_X5_bound
set_option maxRecDepth 20000 in
theorem ggX5_count_X5_target : GoodIn wsX5_count wsX5_target := goodIn_r _ [58, 1, 51, 52, 53, 7, 54, 21, 22, 23, 24, 13, 14, 15, 16, 33, 34, 35, 4, 5, 6, 8, 17, 18, 19, 20, 63, 64, 65, 66, 67, 68, 69, 70, 71, 72, 73, 74, 75, 76, 77] (by decide +kernel) (by decide +kernel)
set_option maxRecDepth 20000 in
theorem gX5_count_X5_target : GoodIn wsX5_count (wsV RX5 70 RX5 yX5_target wsX5_target) := goodIn_app (goodIn_of _ (by decide +kernel)) ggX5_count_X5_target
set_option maxRecDepth 20000 in
theorem ggX5_count_X5_areEven : GoodIn wsX5_count wsX5_areEven := goodIn_r _ [62, 25, 26, 27, 7, 28, 1, 29, 30, 31, 32, 13, 14, 15, 16, 33, 34, 35, 55, 56, 57, 58, 51, 52, 53, 54, 21, 22, 23, 24, 4, 5, 6, 8, 17, 18, 19, 20, 63, 64, 65, 66, 67, 68, 69, 70, 71, 72, 73, 74, 75, 76, 77] (by decide +kernel) (by decide +kernel)
set_option maxRecDepth 20000 in
theorem gX5_count_X5_areEven : GoodIn wsX5_count (wsV RX5 123 RX5 yX5_areEven wsX5_areEven) := goodIn_app (goodIn_of _ (by decide +kernel)) ggX5_count_X5_areEven
theorem dX5_count_0 : decode cX5_count 0 = .ok (.iload_n 1, 1) := by decide +kernel
theorem dX5_count_1 : decode cX5_count 1 = .ok (.tableswitch 187 0 14 #[75, 82, 87, 94, 101, 106, 111, 133, 138, 143, 156, 163, 170, 177, 182], 75) := by decide +kernel
theorem dX5_count_76 : decode cX5_count 76 = .ok (.aload_n 0, 1) := by decide +kernel
theorem dX5_count_77 : decode cX5_count 77 = .ok (.getfield 7, 3) := by decide +kernel
theorem dX5_count_80 : decode cX5_count 80 = .ok (.iconst 0, 1) := by decide +kernel
theorem dX5_count_81 : decode cX5_count 81 = .ok (.iaload, 1) := by decide +kernel
theorem dX5_count_82 : decode cX5_count 82 = .ok (.ireturn, 1) := by decide +kernel
theorem dX5_count_83 : decode cX5_count 83 = .ok (.aload_n 0, 1) := by decide +kernel
theorem dX5_count_84 : decode cX5_count 84 = .ok (.invokevirtual 57, 3) := by decide +kernel
theorem dX5_count_87 : decode cX5_count 87 = .ok (.ireturn, 1) := by decide +kernel
theorem dX5_count_88 : decode cX5_count 88 = .ok (.aload_n 0, 1) := by decide +kernel
theorem dX5_count_89 : decode cX5_count 89 = .ok (.getfield 7, 3) := by decide +kernel
theorem dX5_count_92 : decode cX5_count 92 = .ok (.iconst 2, 1) := by decide +kernel
theorem dX5_count_93 : decode cX5_count 93 = .ok (.iaload, 1) := by decide +kernel
theorem dX5_count_94 : decode cX5_count 94 = .ok (.ireturn, 1) := by decide +kernel
theorem dX5_count_95 : decode cX5_count 95 = .ok (.aload_n 0, 1) := by decide +kernel
theorem dX5_count_96 : decode cX5_count 96 = .ok (.bipush (-9), 2) := by decide +kernel
theorem dX5_count_98 : decode cX5_count 98 = .ok (.invokevirtual 188, 3) := by decide +kernel
theorem dX5_count_101 : decode cX5_count 101 = .ok (.ireturn, 1) := by decide +kernel
theorem dX5_count_102 : decode cX5_count 102 = .ok (.aload_n 0, 1) := by decide +kernel
theorem dX5_count_103 : decode cX5_count 103 = .ok (.invokevirtual 61, 3) := by decide +kernel
theorem dX5_count_106 : decode cX5_count 106 = .ok (.ireturn, 1) := by decide +kernel
theorem dX5_count_107 : decode cX5_count 107 = .ok (.aload_n 0, 1) := by decide +kernel
theorem dX5_count_108 : decode cX5_count 108 = .ok (.invokevirtual 67, 3) := by decide +kernel
theorem dX5_count_111 : decode cX5_count 111 = .ok (.ireturn, 1) := by decide +kernel
theorem dX5_count_112 : decode cX5_count 112 = .ok (.aload_n 0, 1) := by decide +kernel
theorem dX5_count_113 : decode cX5_count 113 = .ok (.getfield 7, 3) := by decide +kernel
theorem dX5_count_116 : decode cX5_count 116 = .ok (.iconst 0, 1) := by decide +kernel
theorem dX5_count_117 : decode cX5_count 117 = .ok (.iaload, 1) := by decide +kernel
theorem dX5_count_118 : decode cX5_count 118 = .ok (.ifCond .ne 7, 3) := by decide +kernel
theorem dX5_count_121 : decode cX5_count 121 = .ok (.iconst 0, 1) := by decide +kernel
theorem dX5_count_122 : decode cX5_count 122 = .ok (.goto 11, 3) := by decide +kernel
theorem dX5_count_125 : decode cX5_count 125 = .ok (.aload_n 0, 1) := by decide +kernel
theorem dX5_count_126 : decode cX5_count 126 = .ok (.aload_n 0, 1) := by decide +kernel
theorem dX5_count_127 : decode cX5_count 127 = .ok (.invokevirtual 148, 3) := by decide +kernel
theorem dX5_count_130 : decode cX5_count 130 = .ok (.invokevirtual 50, 3) := by decide +kernel
theorem dX5_count_133 : decode cX5_count 133 = .ok (.ireturn, 1) := by decide +kernel
theorem dX5_count_134 : decode cX5_count 134 = .ok (.aload_n 0, 1) := by decide +kernel
theorem dX5_count_135 : decode cX5_count 135 = .ok (.invokevirtual 64, 3) := by decide +kernel
theorem dX5_count_138 : decode cX5_count 138 = .ok (.ireturn, 1) := by decide +kernel
theorem dX5_count_139 : decode cX5_count 139 = .ok (.aload_n 0, 1) := by decide +kernel
theorem dX5_count_140 : decode cX5_count 140 = .ok (.invokevirtual 70, 3) := by decide +kernel
theorem dX5_count_143 : decode cX5_count 143 = .ok (.ireturn, 1) := by decide +kernel
theorem dX5_count_144 : decode cX5_count 144 = .ok (.aload_n 0, 1) := by decide +kernel
theorem dX5_count_145 : decode cX5_count 145 = .ok (.invokevirtual 123, 3) := by decide +kernel
theorem dX5_count_148 : decode cX5_count 148 = .ok (.ifCond .eq 7, 3) := by decide +kernel
theorem dX5_count_151 : decode cX5_count 151 = .ok (.iconst 1, 1) := by decide +kernel
theorem dX5_count_152 : decode cX5_count 152 = .ok (.goto 4, 3) := by decide +kernel
theorem dX5_count_155 : decode cX5_count 155 = .ok (.iconst 0, 1) := by decide +kernel
theorem dX5_count_156 : decode cX5_count 156 = .ok (.ireturn, 1) := by decide +kernel
theorem dX5_count_157 : decode cX5_count 157 = .ok (.aload_n 0, 1) := by decide +kernel
theorem dX5_count_158 : decode cX5_count 158 = .ok (.getfield 7, 3) := by decide +kernel
theorem dX5_count_161 : decode cX5_count 161 = .ok (.iconst 3, 1) := by decide +kernel
theorem dX5_count_162 : decode cX5_count 162 = .ok (.iaload, 1) := by decide +kernel
theorem dX5_count_163 : decode cX5_count 163 = .ok (.ireturn, 1) := by decide +kernel
theorem dX5_count_164 : decode cX5_count 164 = .ok (.aload_n 0, 1) := by decide +kernel
theorem dX5_count_165 : decode cX5_count 165 = .ok (.getfield 7, 3) := by decide +kernel
theorem dX5_count_168 : decode cX5_count 168 = .ok (.iconst 4, 1) := by decide +kernel
theorem dX5_count_169 : decode cX5_count 169 = .ok (.iaload, 1) := by decide +kernel
theorem dX5_count_170 : decode cX5_count 170 = .ok (.ireturn, 1) := by decide +kernel
theorem dX5_count_171 : decode cX5_count 171 = .ok (.aload_n 0, 1) := by decide +kernel
theorem dX5_count_172 : decode cX5_count 172 = .ok (.getfield 7, 3) := by decide +kernel
theorem dX5_count_175 : decode cX5_count 175 = .ok (.iconst 5, 1) := by decide +kernel
theorem dX5_count_176 : decode cX5_count 176 = .ok (.iaload, 1) := by decide +kernel
theorem dX5_count_177 : decode cX5_count 177 = .ok (.ireturn, 1) := by decide +kernel
theorem dX5_count_178 : decode cX5_count 178 = .ok (.aload_n 0, 1) := by decide +kernel
theorem dX5_count_179 : decode cX5_count 179 = .ok (.getfield 28, 3) := by decide +kernel
theorem dX5_count_182 : decode cX5_count 182 = .ok (.ireturn, 1) := by decide +kernel
theorem dX5_count_183 : decode cX5_count 183 = .ok (.aload_n 0, 1) := by decide +kernel
theorem dX5_count_184 : decode cX5_count 184 = .ok (.getfield 157, 3) := by decide +kernel
theorem dX5_count_187 : decode cX5_count 187 = .ok (.ireturn, 1) := by decide +kernel
theorem dX5_count_188 : decode cX5_count 188 = .ok (.iconst (-1), 1) := by decide +kernel
theorem dX5_count_189 : decode cX5_count 189 = .ok (.ireturn, 1) := by decide +kernel
set_option maxRecDepth 20000 in
theorem ggX5_jobsOn_X5_of : GoodIn wsX5_jobsOn wsX5_of := goodIn_r _ [6, 1, 7, 8, 9, 10, 11, 12, 13, 14, 15, 16, 17, 18, 19, 20, 21] (by decide +kernel) (by decide +kernel)
set_option maxRecDepth 20000 in
theorem gX5_jobsOn_X5_of : GoodIn wsX5_jobsOn (wsV RX5 43 RX5 yX5_of wsX5_of) := goodIn_app (goodIn_of _ (by decide +kernel)) ggX5_jobsOn_X5_of
theorem dX5_jobsOn_0 : decode cX5_jobsOn 0 = .ok (.iconst 0, 1) := by decide +kernel
theorem dX5_jobsOn_1 : decode cX5_jobsOn 1 = .ok (.istore_n 2, 1) := by decide +kernel
theorem dX5_jobsOn_2 : decode cX5_jobsOn 2 = .ok (.iconst 0, 1) := by decide +kernel
theorem dX5_jobsOn_3 : decode cX5_jobsOn 3 = .ok (.istore_n 3, 1) := by decide +kernel
theorem dX5_jobsOn_4 : decode cX5_jobsOn 4 = .ok (.iload_n 3, 1) := by decide +kernel
theorem dX5_jobsOn_5 : decode cX5_jobsOn 5 = .ok (.aload_n 0, 1) := by decide +kernel
theorem dX5_jobsOn_6 : decode cX5_jobsOn 6 = .ok (.getfield 7, 3) := by decide +kernel
theorem dX5_jobsOn_9 : decode cX5_jobsOn 9 = .ok (.iconst 2, 1) := by decide +kernel
theorem dX5_jobsOn_10 : decode cX5_jobsOn 10 = .ok (.iaload, 1) := by decide +kernel
theorem dX5_jobsOn_11 : decode cX5_jobsOn 11 = .ok (.if_icmp .ge 29, 3) := by decide +kernel
theorem dX5_jobsOn_14 : decode cX5_jobsOn 14 = .ok (.iload_n 2, 1) := by decide +kernel
theorem dX5_jobsOn_15 : decode cX5_jobsOn 15 = .ok (.aload_n 0, 1) := by decide +kernel
theorem dX5_jobsOn_16 : decode cX5_jobsOn 16 = .ok (.iload_n 3, 1) := by decide +kernel
theorem dX5_jobsOn_17 : decode cX5_jobsOn 17 = .ok (.iconst 2, 1) := by decide +kernel
theorem dX5_jobsOn_18 : decode cX5_jobsOn 18 = .ok (.invokevirtual 43, 3) := by decide +kernel
theorem dX5_jobsOn_21 : decode cX5_jobsOn 21 = .ok (.iload_n 1, 1) := by decide +kernel
theorem dX5_jobsOn_22 : decode cX5_jobsOn 22 = .ok (.if_icmp .ne 9, 3) := by decide +kernel
theorem dX5_jobsOn_25 : decode cX5_jobsOn 25 = .ok (.iconst 1, 1) := by decide +kernel
theorem dX5_jobsOn_26 : decode cX5_jobsOn 26 = .ok (.iload_n 3, 1) := by decide +kernel
theorem dX5_jobsOn_27 : decode cX5_jobsOn 27 = .ok (.ishl, 1) := by decide +kernel
theorem dX5_jobsOn_28 : decode cX5_jobsOn 28 = .ok (.goto 4, 3) := by decide +kernel
theorem dX5_jobsOn_31 : decode cX5_jobsOn 31 = .ok (.iconst 0, 1) := by decide +kernel
theorem dX5_jobsOn_32 : decode cX5_jobsOn 32 = .ok (.ior, 1) := by decide +kernel
theorem dX5_jobsOn_33 : decode cX5_jobsOn 33 = .ok (.istore_n 2, 1) := by decide +kernel
theorem dX5_jobsOn_34 : decode cX5_jobsOn 34 = .ok (.iinc 3 1, 3) := by decide +kernel
theorem dX5_jobsOn_37 : decode cX5_jobsOn 37 = .ok (.goto (-33), 3) := by decide +kernel
theorem dX5_jobsOn_40 : decode cX5_jobsOn 40 = .ok (.iload_n 2, 1) := by decide +kernel
theorem dX5_jobsOn_41 : decode cX5_jobsOn 41 = .ok (.ireturn, 1) := by decide +kernel
set_option maxRecDepth 20000 in
theorem ggX5_server_X5_isServer : GoodIn wsX5_server wsX5_isServer := goodIn_r _ [5, 6, 7, 8, 4, 9, 38, 39, 40, 41, 42, 43, 44, 45, 46, 47, 48, 49, 50, 51, 52] (by decide +kernel) (by decide +kernel)
set_option maxRecDepth 20000 in
theorem gX5_server_X5_isServer : GoodIn wsX5_server (wsV RX5 39 RX5 yX5_isServer wsX5_isServer) := goodIn_app (goodIn_of _ (by decide +kernel)) ggX5_server_X5_isServer
set_option maxRecDepth 20000 in
theorem ggX5_server_X5_in : GoodIn wsX5_server wsX5_in := goodIn_r _ [9] (by decide +kernel) (by decide +kernel)
set_option maxRecDepth 20000 in
theorem gX5_server_X5_in : GoodIn wsX5_server (va_wsS RX5 35 yX5_in wsX5_in) := goodIn_app (goodIn_of _ (by decide +kernel)) ggX5_server_X5_in
set_option maxRecDepth 20000 in
theorem ggX5_server_X5_isOpen : GoodIn wsX5_server wsX5_isOpen := goodIn_r _ [13, 6, 1, 2, 3, 4, 5, 7, 8, 9, 38, 39, 40, 41, 42, 43, 44, 45, 46, 47, 48, 49, 50, 51, 52] (by decide +kernel) (by decide +kernel)
set_option maxRecDepth 20000 in
theorem gX5_server_X5_isOpen : GoodIn wsX5_server (wsV RX5 79 RX5 yX5_isOpen wsX5_isOpen) := goodIn_app (goodIn_of _ (by decide +kernel)) ggX5_server_X5_isOpen
set_option maxRecDepth 20000 in
theorem ggX5_server_X5_load : GoodIn wsX5_server wsX5_load := goodIn_r _ [17, 6, 18, 19, 20, 4, 21, 38, 39, 40, 41, 42, 43, 44, 45, 46, 47, 48, 49, 50, 51, 52] (by decide +kernel) (by decide +kernel)
set_option maxRecDepth 20000 in
theorem gX5_server_X5_load : GoodIn wsX5_server (wsV RX5 50 RX5 yX5_load wsX5_load) := goodIn_app (goodIn_of _ (by decide +kernel)) ggX5_server_X5_load
set_option maxRecDepth 20000 in
theorem ggX5_server_X5_manyOn : GoodIn wsX5_server wsX5_manyOn := goodIn_r _ [25, 6, 18, 19, 20, 4, 21, 38, 39, 40, 41, 42, 43, 44, 45, 46, 47, 48, 49, 50, 51, 52] (by decide +kernel) (by decide +kernel)
set_option maxRecDepth 20000 in
theorem gX5_server_X5_manyOn : GoodIn wsX5_server (wsV RX5 188 RX5 yX5_manyOn wsX5_manyOn) := goodIn_app (goodIn_of _ (by decide +kernel)) ggX5_server_X5_manyOn
set_option maxRecDepth 20000 in
theorem ggX5_server_X5_allLoads : GoodIn wsX5_server wsX5_allLoads := goodIn_r _ [29, 6, 30, 31, 32, 4, 33, 18, 19, 20, 21, 38, 39, 40, 41, 42, 43, 44, 45, 46, 47, 48, 49, 50, 51, 52] (by decide +kernel) (by decide +kernel)
set_option maxRecDepth 20000 in
theorem gX5_server_X5_allLoads : GoodIn wsX5_server (wsV RX5 61 RX5 yX5_allLoads wsX5_allLoads) := goodIn_app (goodIn_of _ (by decide +kernel)) ggX5_server_X5_allLoads
set_option maxRecDepth 20000 in
theorem ggX5_server_X5_jobsOn : GoodIn wsX5_server wsX5_jobsOn := goodIn_r _ [37, 6, 18, 19, 20, 4, 21, 38, 39, 40, 41, 42, 43, 44, 45, 46, 47, 48, 49, 50, 51, 52] (by decide +kernel) (by decide +kernel)
set_option maxRecDepth 20000 in
theorem gX5_server_X5_jobsOn : GoodIn wsX5_server (wsV RX5 191 RX5 yX5_jobsOn wsX5_jobsOn) := goodIn_app (goodIn_of _ (by decide +kernel)) ggX5_server_X5_jobsOn
theorem dX5_server_0 : decode cX5_server 0 = .ok (.aload_n 0, 1) := by decide +kernel
theorem dX5_server_1 : decode cX5_server 1 = .ok (.iload_n 1, 1) := by decide +kernel
theorem dX5_server_2 : decode cX5_server 2 = .ok (.invokevirtual 39, 3) := by decide +kernel
theorem dX5_server_5 : decode cX5_server 5 = .ok (.ifCond .eq 12, 3) := by decide +kernel
theorem dX5_server_8 : decode cX5_server 8 = .ok (.iload_n 2, 1) := by decide +kernel
theorem dX5_server_9 : decode cX5_server 9 = .ok (.iconst 0, 1) := by decide +kernel
theorem dX5_server_10 : decode cX5_server 10 = .ok (.iconst 4, 1) := by decide +kernel
theorem dX5_server_11 : decode cX5_server 11 = .ok (.invokestatic 35, 3) := by decide +kernel
theorem dX5_server_14 : decode cX5_server 14 = .ok (.ifCond .ne 5, 3) := by decide +kernel
theorem dX5_server_17 : decode cX5_server 17 = .ok (.iconst (-1), 1) := by decide +kernel
theorem dX5_server_18 : decode cX5_server 18 = .ok (.ireturn, 1) := by decide +kernel
theorem dX5_server_19 : decode cX5_server 19 = .ok (.iload_n 2, 1) := by decide +kernel
theorem dX5_server_20 : decode cX5_server 20 = .ok (.tableswitch 84 0 3 #[32, 46, 52, 58], 32) := by decide +kernel
theorem dX5_server_52 : decode cX5_server 52 = .ok (.aload_n 0, 1) := by decide +kernel
theorem dX5_server_53 : decode cX5_server 53 = .ok (.iload_n 1, 1) := by decide +kernel
theorem dX5_server_54 : decode cX5_server 54 = .ok (.invokevirtual 79, 3) := by decide +kernel
theorem dX5_server_57 : decode cX5_server 57 = .ok (.ifCond .eq 7, 3) := by decide +kernel
theorem dX5_server_60 : decode cX5_server 60 = .ok (.iconst 1, 1) := by decide +kernel
theorem dX5_server_61 : decode cX5_server 61 = .ok (.goto 4, 3) := by decide +kernel
theorem dX5_server_64 : decode cX5_server 64 = .ok (.iconst 0, 1) := by decide +kernel
theorem dX5_server_65 : decode cX5_server 65 = .ok (.ireturn, 1) := by decide +kernel
theorem dX5_server_66 : decode cX5_server 66 = .ok (.aload_n 0, 1) := by decide +kernel
theorem dX5_server_67 : decode cX5_server 67 = .ok (.iload_n 1, 1) := by decide +kernel
theorem dX5_server_68 : decode cX5_server 68 = .ok (.invokevirtual 50, 3) := by decide +kernel
theorem dX5_server_71 : decode cX5_server 71 = .ok (.ireturn, 1) := by decide +kernel
theorem dX5_server_72 : decode cX5_server 72 = .ok (.aload_n 0, 1) := by decide +kernel
theorem dX5_server_73 : decode cX5_server 73 = .ok (.iload_n 1, 1) := by decide +kernel
theorem dX5_server_74 : decode cX5_server 74 = .ok (.invokevirtual 188, 3) := by decide +kernel
theorem dX5_server_77 : decode cX5_server 77 = .ok (.ireturn, 1) := by decide +kernel
theorem dX5_server_78 : decode cX5_server 78 = .ok (.aload_n 0, 1) := by decide +kernel
theorem dX5_server_79 : decode cX5_server 79 = .ok (.invokevirtual 61, 3) := by decide +kernel
theorem dX5_server_82 : decode cX5_server 82 = .ok (.ifCond .ne 7, 3) := by decide +kernel
theorem dX5_server_85 : decode cX5_server 85 = .ok (.iconst 0, 1) := by decide +kernel
theorem dX5_server_86 : decode cX5_server 86 = .ok (.goto 17, 3) := by decide +kernel
theorem dX5_server_89 : decode cX5_server 89 = .ok (.sipush 1000, 3) := by decide +kernel
theorem dX5_server_92 : decode cX5_server 92 = .ok (.aload_n 0, 1) := by decide +kernel
theorem dX5_server_93 : decode cX5_server 93 = .ok (.iload_n 1, 1) := by decide +kernel
theorem dX5_server_94 : decode cX5_server 94 = .ok (.invokevirtual 50, 3) := by decide +kernel
theorem dX5_server_97 : decode cX5_server 97 = .ok (.imul, 1) := by decide +kernel
theorem dX5_server_98 : decode cX5_server 98 = .ok (.aload_n 0, 1) := by decide +kernel
theorem dX5_server_99 : decode cX5_server 99 = .ok (.invokevirtual 61, 3) := by decide +kernel
theorem dX5_server_102 : decode cX5_server 102 = .ok (.idiv, 1) := by decide +kernel
theorem dX5_server_103 : decode cX5_server 103 = .ok (.ireturn, 1) := by decide +kernel
theorem dX5_server_104 : decode cX5_server 104 = .ok (.aload_n 0, 1) := by decide +kernel
theorem dX5_server_105 : decode cX5_server 105 = .ok (.iload_n 1, 1) := by decide +kernel
theorem dX5_server_106 : decode cX5_server 106 = .ok (.invokevirtual 191, 3) := by decide +kernel
theorem dX5_server_109 : decode cX5_server 109 = .ok (.ireturn, 1) := by decide +kernel
set_option maxRecDepth 20000 in
theorem ggX5_job_X5_isJob : GoodIn wsX5_job wsX5_isJob := goodIn_r _ [5, 6, 7, 8, 4, 9, 14, 15, 16, 17, 18, 19, 20, 21, 22, 23, 24, 25, 26, 27, 28] (by decide +kernel) (by decide +kernel)
set_option maxRecDepth 20000 in
theorem gX5_job_X5_isJob : GoodIn wsX5_job (wsV RX5 86 RX5 yX5_isJob wsX5_isJob) := goodIn_app (goodIn_of _ (by decide +kernel)) ggX5_job_X5_isJob
set_option maxRecDepth 20000 in
theorem ggX5_job_X5_in : GoodIn wsX5_job wsX5_in := goodIn_r _ [9] (by decide +kernel) (by decide +kernel)
set_option maxRecDepth 20000 in
theorem gX5_job_X5_in : GoodIn wsX5_job (va_wsS RX5 35 yX5_in wsX5_in) := goodIn_app (goodIn_of _ (by decide +kernel)) ggX5_job_X5_in
set_option maxRecDepth 20000 in
theorem ggX5_job_X5_of : GoodIn wsX5_job wsX5_of := goodIn_r _ [13, 6, 14, 15, 16, 17, 18, 19, 20, 21, 22, 23, 24, 25, 26, 27, 28] (by decide +kernel) (by decide +kernel)
set_option maxRecDepth 20000 in
theorem gX5_job_X5_of : GoodIn wsX5_job (wsV RX5 43 RX5 yX5_of wsX5_of) := goodIn_app (goodIn_of _ (by decide +kernel)) ggX5_job_X5_of
theorem dX5_job_0 : decode cX5_job 0 = .ok (.aload_n 0, 1) := by decide +kernel
theorem dX5_job_1 : decode cX5_job 1 = .ok (.iload_n 1, 1) := by decide +kernel
theorem dX5_job_2 : decode cX5_job 2 = .ok (.invokevirtual 86, 3) := by decide +kernel
theorem dX5_job_5 : decode cX5_job 5 = .ok (.ifCond .eq 21, 3) := by decide +kernel
theorem dX5_job_8 : decode cX5_job 8 = .ok (.iload_n 2, 1) := by decide +kernel
theorem dX5_job_9 : decode cX5_job 9 = .ok (.iconst 0, 1) := by decide +kernel
theorem dX5_job_10 : decode cX5_job 10 = .ok (.iconst 3, 1) := by decide +kernel
theorem dX5_job_11 : decode cX5_job 11 = .ok (.invokestatic 35, 3) := by decide +kernel
theorem dX5_job_14 : decode cX5_job 14 = .ok (.ifCond .eq 12, 3) := by decide +kernel
theorem dX5_job_17 : decode cX5_job 17 = .ok (.aload_n 0, 1) := by decide +kernel
theorem dX5_job_18 : decode cX5_job 18 = .ok (.iload_n 1, 1) := by decide +kernel
theorem dX5_job_19 : decode cX5_job 19 = .ok (.iload_n 2, 1) := by decide +kernel
theorem dX5_job_20 : decode cX5_job 20 = .ok (.invokevirtual 43, 3) := by decide +kernel
theorem dX5_job_23 : decode cX5_job 23 = .ok (.goto 4, 3) := by decide +kernel
theorem dX5_job_26 : decode cX5_job 26 = .ok (.iconst (-1), 1) := by decide +kernel
theorem dX5_job_27 : decode cX5_job 27 = .ok (.ireturn, 1) := by decide +kernel
set_option maxRecDepth 20000 in
theorem ggX5_leaving_X5_isServer : GoodIn wsX5_leaving wsX5_isServer := goodIn_r _ [5, 6, 7, 8, 4, 9, 18, 19, 20, 21, 22, 23, 24, 25, 26, 27, 28, 29, 30, 31, 32] (by decide +kernel) (by decide +kernel)
set_option maxRecDepth 20000 in
theorem gX5_leaving_X5_isServer : GoodIn wsX5_leaving (wsV RX5 39 RX5 yX5_isServer wsX5_isServer) := goodIn_app (goodIn_of _ (by decide +kernel)) ggX5_leaving_X5_isServer
set_option maxRecDepth 20000 in
theorem ggX5_leaving_X5_leaver : GoodIn wsX5_leaving wsX5_leaver := goodIn_r _ [13, 6, 14, 15, 16, 4, 17, 18, 19, 20, 21, 22, 23, 24, 25, 26, 27, 28, 29, 30, 31, 32] (by decide +kernel) (by decide +kernel)
set_option maxRecDepth 20000 in
theorem gX5_leaving_X5_leaver : GoodIn wsX5_leaving (wsV RX5 145 RX5 yX5_leaver wsX5_leaver) := goodIn_app (goodIn_of _ (by decide +kernel)) ggX5_leaving_X5_leaver
theorem dX5_leaving_0 : decode cX5_leaving 0 = .ok (.aload_n 0, 1) := by decide +kernel
theorem dX5_leaving_1 : decode cX5_leaving 1 = .ok (.iload_n 1, 1) := by decide +kernel
theorem dX5_leaving_2 : decode cX5_leaving 2 = .ok (.invokevirtual 39, 3) := by decide +kernel
theorem dX5_leaving_5 : decode cX5_leaving 5 = .ok (.ifCond .eq 7, 3) := by decide +kernel
theorem dX5_leaving_8 : decode cX5_leaving 8 = .ok (.iload_n 2, 1) := by decide +kernel
theorem dX5_leaving_9 : decode cX5_leaving 9 = .ok (.ifCond .ge 5, 3) := by decide +kernel
theorem dX5_leaving_12 : decode cX5_leaving 12 = .ok (.iconst (-1), 1) := by decide +kernel
theorem dX5_leaving_13 : decode cX5_leaving 13 = .ok (.ireturn, 1) := by decide +kernel
theorem dX5_leaving_14 : decode cX5_leaving 14 = .ok (.iconst 0, 1) := by decide +kernel
theorem dX5_leaving_15 : decode cX5_leaving 15 = .ok (.istore_n 3, 1) := by decide +kernel
theorem dX5_leaving_16 : decode cX5_leaving 16 = .ok (.aload_n 0, 1) := by decide +kernel
theorem dX5_leaving_17 : decode cX5_leaving 17 = .ok (.iload_n 1, 1) := by decide +kernel
theorem dX5_leaving_18 : decode cX5_leaving 18 = .ok (.iconst 0, 1) := by decide +kernel
theorem dX5_leaving_19 : decode cX5_leaving 19 = .ok (.invokevirtual 145, 3) := by decide +kernel
theorem dX5_leaving_22 : decode cX5_leaving 22 = .ok (.istore 4, 2) := by decide +kernel
theorem dX5_leaving_24 : decode cX5_leaving 24 = .ok (.iconst 0, 1) := by decide +kernel
theorem dX5_leaving_25 : decode cX5_leaving 25 = .ok (.istore 5, 2) := by decide +kernel
theorem dX5_leaving_27 : decode cX5_leaving 27 = .ok (.iload 5, 2) := by decide +kernel
theorem dX5_leaving_29 : decode cX5_leaving 29 = .ok (.iload_n 2, 1) := by decide +kernel
theorem dX5_leaving_30 : decode cX5_leaving 30 = .ok (.if_icmp .ge 31, 3) := by decide +kernel
theorem dX5_leaving_33 : decode cX5_leaving 33 = .ok (.iload 4, 2) := by decide +kernel
theorem dX5_leaving_35 : decode cX5_leaving 35 = .ok (.bipush (-9), 2) := by decide +kernel
theorem dX5_leaving_37 : decode cX5_leaving 37 = .ok (.if_icmp .eq 24, 3) := by decide +kernel
theorem dX5_leaving_40 : decode cX5_leaving 40 = .ok (.iload_n 3, 1) := by decide +kernel
theorem dX5_leaving_41 : decode cX5_leaving 41 = .ok (.iconst 1, 1) := by decide +kernel
theorem dX5_leaving_42 : decode cX5_leaving 42 = .ok (.iload 4, 2) := by decide +kernel
theorem dX5_leaving_44 : decode cX5_leaving 44 = .ok (.ishl, 1) := by decide +kernel
theorem dX5_leaving_45 : decode cX5_leaving 45 = .ok (.ior, 1) := by decide +kernel
theorem dX5_leaving_46 : decode cX5_leaving 46 = .ok (.istore_n 3, 1) := by decide +kernel
theorem dX5_leaving_47 : decode cX5_leaving 47 = .ok (.aload_n 0, 1) := by decide +kernel
theorem dX5_leaving_48 : decode cX5_leaving 48 = .ok (.iload_n 1, 1) := by decide +kernel
theorem dX5_leaving_49 : decode cX5_leaving 49 = .ok (.iload_n 3, 1) := by decide +kernel
theorem dX5_leaving_50 : decode cX5_leaving 50 = .ok (.invokevirtual 145, 3) := by decide +kernel
theorem dX5_leaving_53 : decode cX5_leaving 53 = .ok (.istore 4, 2) := by decide +kernel
theorem dX5_leaving_55 : decode cX5_leaving 55 = .ok (.iinc 5 1, 3) := by decide +kernel
theorem dX5_leaving_58 : decode cX5_leaving 58 = .ok (.goto (-31), 3) := by decide +kernel
theorem dX5_leaving_61 : decode cX5_leaving 61 = .ok (.iload 4, 2) := by decide +kernel
theorem dX5_leaving_63 : decode cX5_leaving 63 = .ok (.ireturn, 1) := by decide +kernel
set_option maxRecDepth 20000 in
theorem ggX5_step_X5_in : GoodIn wsX5_step wsX5_in := goodIn_r _ [8] (by decide +kernel) (by decide +kernel)
set_option maxRecDepth 20000 in
theorem gX5_step_X5_in : GoodIn wsX5_step (va_wsS RX5 35 yX5_in wsX5_in) := goodIn_app (goodIn_of _ (by decide +kernel)) ggX5_step_X5_in
set_option maxRecDepth 20000 in
theorem ggX5_step_X5_findsStep : GoodIn wsX5_step wsX5_findsStep := goodIn_r _ [12, 13, 14, 15, 7, 16, 17, 18, 19, 20, 21, 22, 23, 24, 25, 26, 27, 28, 29, 30, 31, 32, 33, 34, 35, 36, 37, 38, 39, 40, 41, 42, 43, 44, 45, 46, 47, 48, 49, 50, 51, 52, 53, 54, 55, 56, 57, 58, 59, 60, 61, 62, 63, 64, 5, 6, 8, 65, 66, 67, 68, 69, 1, 70, 71, 2, 3, 4, 72, 73, 74, 75, 76, 77, 78, 79, 80, 81, 82, 83, 84, 85, 86, 87, 88, 89, 90] (by decide +kernel) (by decide +kernel)
set_option maxRecDepth 20000 in
theorem gX5_step_X5_findsStep : GoodIn wsX5_step (wsV RX5 136 RX5 yX5_findsStep wsX5_findsStep) := goodIn_app (goodIn_of _ (by decide +kernel)) ggX5_step_X5_findsStep
theorem dX5_step_0 : decode cX5_step 0 = .ok (.iload_n 1, 1) := by decide +kernel
theorem dX5_step_1 : decode cX5_step 1 = .ok (.iconst 0, 1) := by decide +kernel
theorem dX5_step_2 : decode cX5_step 2 = .ok (.iconst 3, 1) := by decide +kernel
theorem dX5_step_3 : decode cX5_step 3 = .ok (.invokestatic 35, 3) := by decide +kernel
theorem dX5_step_6 : decode cX5_step 6 = .ok (.ifCond .ne 5, 3) := by decide +kernel
theorem dX5_step_9 : decode cX5_step 9 = .ok (.iconst (-1), 1) := by decide +kernel
theorem dX5_step_10 : decode cX5_step 10 = .ok (.ireturn, 1) := by decide +kernel
theorem dX5_step_11 : decode cX5_step 11 = .ok (.aload_n 0, 1) := by decide +kernel
theorem dX5_step_12 : decode cX5_step 12 = .ok (.invokevirtual 136, 3) := by decide +kernel
theorem dX5_step_15 : decode cX5_step 15 = .ok (.ifCond .ne 6, 3) := by decide +kernel
theorem dX5_step_18 : decode cX5_step 18 = .ok (.bipush (-9), 2) := by decide +kernel
theorem dX5_step_20 : decode cX5_step 20 = .ok (.ireturn, 1) := by decide +kernel
theorem dX5_step_21 : decode cX5_step 21 = .ok (.iload_n 1, 1) := by decide +kernel
theorem dX5_step_22 : decode cX5_step 22 = .ok (.ifCond .ne 10, 3) := by decide +kernel
theorem dX5_step_25 : decode cX5_step 25 = .ok (.aload_n 0, 1) := by decide +kernel
theorem dX5_step_26 : decode cX5_step 26 = .ok (.getfield 107, 3) := by decide +kernel
theorem dX5_step_29 : decode cX5_step 29 = .ok (.goto 31, 3) := by decide +kernel
theorem dX5_step_32 : decode cX5_step 32 = .ok (.iload_n 1, 1) := by decide +kernel
theorem dX5_step_33 : decode cX5_step 33 = .ok (.iconst 1, 1) := by decide +kernel
theorem dX5_step_34 : decode cX5_step 34 = .ok (.if_icmp .ne 10, 3) := by decide +kernel
theorem dX5_step_37 : decode cX5_step 37 = .ok (.aload_n 0, 1) := by decide +kernel
theorem dX5_step_38 : decode cX5_step 38 = .ok (.getfield 114, 3) := by decide +kernel
theorem dX5_step_41 : decode cX5_step 41 = .ok (.goto 19, 3) := by decide +kernel
theorem dX5_step_44 : decode cX5_step 44 = .ok (.iload_n 1, 1) := by decide +kernel
theorem dX5_step_45 : decode cX5_step 45 = .ok (.iconst 2, 1) := by decide +kernel
theorem dX5_step_46 : decode cX5_step 46 = .ok (.if_icmp .ne 10, 3) := by decide +kernel
theorem dX5_step_49 : decode cX5_step 49 = .ok (.aload_n 0, 1) := by decide +kernel
theorem dX5_step_50 : decode cX5_step 50 = .ok (.getfield 117, 3) := by decide +kernel
theorem dX5_step_53 : decode cX5_step 53 = .ok (.goto 7, 3) := by decide +kernel
theorem dX5_step_56 : decode cX5_step 56 = .ok (.aload_n 0, 1) := by decide +kernel
theorem dX5_step_57 : decode cX5_step 57 = .ok (.getfield 120, 3) := by decide +kernel
theorem dX5_step_60 : decode cX5_step 60 = .ok (.ireturn, 1) := by decide +kernel
set_option maxRecDepth 20000 in
theorem ggX5_plan_X5_in : GoodIn wsX5_plan wsX5_in := goodIn_r _ [6] (by decide +kernel) (by decide +kernel)
set_option maxRecDepth 20000 in
theorem gX5_plan_X5_in : GoodIn wsX5_plan (va_wsS RX5 35 yX5_in wsX5_in) := goodIn_app (goodIn_of _ (by decide +kernel)) ggX5_plan_X5_in
set_option maxRecDepth 20000 in
theorem ggX5_plan_X5_aside : GoodIn wsX5_plan wsX5_aside := goodIn_r _ [10, 2, 1, 105, 106, 107, 108, 109, 110, 111, 112, 113, 114, 115, 116, 117, 118, 119] (by decide +kernel) (by decide +kernel)
set_option maxRecDepth 20000 in
theorem gX5_plan_X5_aside : GoodIn wsX5_plan (wsV RX5 73 RX5 yX5_aside wsX5_aside) := goodIn_app (goodIn_of _ (by decide +kernel)) ggX5_plan_X5_aside
set_option maxRecDepth 20000 in
theorem ggX5_plan_X5_evens : GoodIn wsX5_plan wsX5_evens := goodIn_r _ [14, 15, 16, 17, 18, 19, 20, 5, 21, 22, 23, 24, 25, 26, 27, 28, 29, 1, 30, 31, 32, 33, 34, 35, 36, 37, 38, 39, 40, 41, 42, 43, 44, 45, 46, 47, 48, 49, 50, 51, 52, 53, 54, 55, 56, 57, 58, 59, 60, 61, 62, 63, 64, 65, 66, 67, 68, 69, 70, 71, 72, 3, 4, 6, 73, 74, 75, 76, 77, 78, 79, 80, 81, 82, 83, 84, 85, 86, 87, 88, 89, 90, 91, 92, 93, 94, 95, 96, 97, 98, 99, 100, 105, 106, 107, 108, 109, 110, 111, 112, 113, 114, 115, 116, 117, 118, 119] (by decide +kernel) (by decide +kernel)
set_option maxRecDepth 20000 in
theorem gX5_plan_X5_evens : GoodIn wsX5_plan (wsV RX5 139 RX5 yX5_evens wsX5_evens) := goodIn_app (goodIn_of _ (by decide +kernel)) ggX5_plan_X5_evens
set_option maxRecDepth 20000 in
theorem ggX5_plan_X5_greatest : GoodIn wsX5_plan wsX5_greatest := goodIn_r _ [29, 1, 30, 31, 32, 5, 33, 34, 35, 36, 37, 38, 39, 40, 105, 106, 107, 108, 109, 110, 111, 112, 113, 114, 115, 116, 117, 118, 119] (by decide +kernel) (by decide +kernel)
set_option maxRecDepth 20000 in
theorem gX5_plan_X5_greatest : GoodIn wsX5_plan (wsV RX5 67 RX5 yX5_greatest wsX5_greatest) := goodIn_app (goodIn_of _ (by decide +kernel)) ggX5_plan_X5_greatest
set_option maxRecDepth 20000 in
theorem ggX5_plan_X5_areEven : GoodIn wsX5_plan wsX5_areEven := goodIn_r _ [25, 26, 27, 28, 5, 29, 1, 30, 31, 32, 33, 34, 35, 36, 37, 38, 39, 40, 41, 42, 43, 44, 45, 46, 47, 48, 49, 50, 51, 52, 53, 54, 55, 56, 57, 58, 59, 60, 105, 106, 107, 108, 109, 110, 111, 112, 113, 114, 115, 116, 117, 118, 119] (by decide +kernel) (by decide +kernel)
set_option maxRecDepth 20000 in
theorem gX5_plan_X5_areEven : GoodIn wsX5_plan (wsV RX5 123 RX5 yX5_areEven wsX5_areEven) := goodIn_app (goodIn_of _ (by decide +kernel)) ggX5_plan_X5_areEven
set_option maxRecDepth 20000 in
theorem ggX5_plan_X5_layBack : GoodIn wsX5_plan wsX5_layBack := goodIn_r _ [104, 1, 2, 105, 106, 107, 108, 109, 110, 111, 112, 113, 114, 115, 116, 117, 118, 119] (by decide +kernel) (by decide +kernel)
set_option maxRecDepth 20000 in
theorem gX5_plan_X5_layBack : GoodIn wsX5_plan (wsV RX5 185 RX5 yX5_layBack wsX5_layBack) := goodIn_app (goodIn_of _ (by decide +kernel)) ggX5_plan_X5_layBack
theorem dX5_plan_0 : decode cX5_plan 0 = .ok (.iload_n 1, 1) := by decide +kernel
theorem dX5_plan_1 : decode cX5_plan 1 = .ok (.iconst 0, 1) := by decide +kernel
theorem dX5_plan_2 : decode cX5_plan 2 = .ok (.iconst 4, 1) := by decide +kernel
theorem dX5_plan_3 : decode cX5_plan 3 = .ok (.invokestatic 35, 3) := by decide +kernel
theorem dX5_plan_6 : decode cX5_plan 6 = .ok (.ifCond .ne 5, 3) := by decide +kernel
theorem dX5_plan_9 : decode cX5_plan 9 = .ok (.iconst (-1), 1) := by decide +kernel
theorem dX5_plan_10 : decode cX5_plan 10 = .ok (.ireturn, 1) := by decide +kernel
theorem dX5_plan_11 : decode cX5_plan 11 = .ok (.aload_n 0, 1) := by decide +kernel
theorem dX5_plan_12 : decode cX5_plan 12 = .ok (.invokevirtual 73, 3) := by decide +kernel
theorem dX5_plan_15 : decode cX5_plan 15 = .ok (.aload_n 0, 1) := by decide +kernel
theorem dX5_plan_16 : decode cX5_plan 16 = .ok (.bipush 30, 2) := by decide +kernel
theorem dX5_plan_18 : decode cX5_plan 18 = .ok (.invokevirtual 139, 3) := by decide +kernel
theorem dX5_plan_21 : decode cX5_plan 21 = .ok (.istore_n 2, 1) := by decide +kernel
theorem dX5_plan_22 : decode cX5_plan 22 = .ok (.iload_n 1, 1) := by decide +kernel
theorem dX5_plan_23 : decode cX5_plan 23 = .ok (.ifCond .ne 7, 3) := by decide +kernel
theorem dX5_plan_26 : decode cX5_plan 26 = .ok (.iload_n 2, 1) := by decide +kernel
theorem dX5_plan_27 : decode cX5_plan 27 = .ok (.goto 69, 3) := by decide +kernel
theorem dX5_plan_30 : decode cX5_plan 30 = .ok (.iload_n 1, 1) := by decide +kernel
theorem dX5_plan_31 : decode cX5_plan 31 = .ok (.iconst 1, 1) := by decide +kernel
theorem dX5_plan_32 : decode cX5_plan 32 = .ok (.if_icmp .ne 19, 3) := by decide +kernel
theorem dX5_plan_35 : decode cX5_plan 35 = .ok (.aload_n 0, 1) := by decide +kernel
theorem dX5_plan_36 : decode cX5_plan 36 = .ok (.getfield 7, 3) := by decide +kernel
theorem dX5_plan_39 : decode cX5_plan 39 = .ok (.iconst 5, 1) := by decide +kernel
theorem dX5_plan_40 : decode cX5_plan 40 = .ok (.iaload, 1) := by decide +kernel
theorem dX5_plan_41 : decode cX5_plan 41 = .ok (.aload_n 0, 1) := by decide +kernel
theorem dX5_plan_42 : decode cX5_plan 42 = .ok (.getfield 16, 3) := by decide +kernel
theorem dX5_plan_45 : decode cX5_plan 45 = .ok (.iconst 5, 1) := by decide +kernel
theorem dX5_plan_46 : decode cX5_plan 46 = .ok (.iaload, 1) := by decide +kernel
theorem dX5_plan_47 : decode cX5_plan 47 = .ok (.isub, 1) := by decide +kernel
theorem dX5_plan_48 : decode cX5_plan 48 = .ok (.goto 48, 3) := by decide +kernel
theorem dX5_plan_51 : decode cX5_plan 51 = .ok (.iload_n 1, 1) := by decide +kernel
theorem dX5_plan_52 : decode cX5_plan 52 = .ok (.iconst 2, 1) := by decide +kernel
theorem dX5_plan_53 : decode cX5_plan 53 = .ok (.if_icmp .ne 19, 3) := by decide +kernel
theorem dX5_plan_56 : decode cX5_plan 56 = .ok (.aload_n 0, 1) := by decide +kernel
theorem dX5_plan_57 : decode cX5_plan 57 = .ok (.getfield 16, 3) := by decide +kernel
theorem dX5_plan_60 : decode cX5_plan 60 = .ok (.iconst 3, 1) := by decide +kernel
theorem dX5_plan_61 : decode cX5_plan 61 = .ok (.iaload, 1) := by decide +kernel
theorem dX5_plan_62 : decode cX5_plan 62 = .ok (.aload_n 0, 1) := by decide +kernel
theorem dX5_plan_63 : decode cX5_plan 63 = .ok (.getfield 7, 3) := by decide +kernel
theorem dX5_plan_66 : decode cX5_plan 66 = .ok (.iconst 3, 1) := by decide +kernel
theorem dX5_plan_67 : decode cX5_plan 67 = .ok (.iaload, 1) := by decide +kernel
theorem dX5_plan_68 : decode cX5_plan 68 = .ok (.isub, 1) := by decide +kernel
theorem dX5_plan_69 : decode cX5_plan 69 = .ok (.goto 27, 3) := by decide +kernel
theorem dX5_plan_72 : decode cX5_plan 72 = .ok (.iload_n 1, 1) := by decide +kernel
theorem dX5_plan_73 : decode cX5_plan 73 = .ok (.iconst 3, 1) := by decide +kernel
theorem dX5_plan_74 : decode cX5_plan 74 = .ok (.if_icmp .ne 10, 3) := by decide +kernel
theorem dX5_plan_77 : decode cX5_plan 77 = .ok (.aload_n 0, 1) := by decide +kernel
theorem dX5_plan_78 : decode cX5_plan 78 = .ok (.invokevirtual 67, 3) := by decide +kernel
theorem dX5_plan_81 : decode cX5_plan 81 = .ok (.goto 15, 3) := by decide +kernel
theorem dX5_plan_84 : decode cX5_plan 84 = .ok (.aload_n 0, 1) := by decide +kernel
theorem dX5_plan_85 : decode cX5_plan 85 = .ok (.invokevirtual 123, 3) := by decide +kernel
theorem dX5_plan_88 : decode cX5_plan 88 = .ok (.ifCond .eq 7, 3) := by decide +kernel
theorem dX5_plan_91 : decode cX5_plan 91 = .ok (.iconst 1, 1) := by decide +kernel
theorem dX5_plan_92 : decode cX5_plan 92 = .ok (.goto 4, 3) := by decide +kernel
theorem dX5_plan_95 : decode cX5_plan 95 = .ok (.iconst 0, 1) := by decide +kernel
theorem dX5_plan_96 : decode cX5_plan 96 = .ok (.istore_n 3, 1) := by decide +kernel
theorem dX5_plan_97 : decode cX5_plan 97 = .ok (.aload_n 0, 1) := by decide +kernel
theorem dX5_plan_98 : decode cX5_plan 98 = .ok (.invokevirtual 185, 3) := by decide +kernel
theorem dX5_plan_101 : decode cX5_plan 101 = .ok (.iload_n 3, 1) := by decide +kernel
theorem dX5_plan_102 : decode cX5_plan 102 = .ok (.ireturn, 1) := by decide +kernel
set_option maxRecDepth 20000 in
theorem ggX5_loadsMove_X5_of : GoodIn wsX5_loadsMove wsX5_of := goodIn_r _ [6, 7, 8, 9, 10, 11, 12, 13, 14, 15, 16, 17, 18, 19, 20, 21, 22] (by decide +kernel) (by decide +kernel)
set_option maxRecDepth 20000 in
theorem gX5_loadsMove_X5_of : GoodIn wsX5_loadsMove (wsV RX5 43 RX5 yX5_of wsX5_of) := goodIn_app (goodIn_of _ (by decide +kernel)) ggX5_loadsMove_X5_of
theorem dX5_loadsMove_0 : decode cX5_loadsMove 0 = .ok (.aload_n 0, 1) := by decide +kernel
theorem dX5_loadsMove_1 : decode cX5_loadsMove 1 = .ok (.getfield 25, 3) := by decide +kernel
theorem dX5_loadsMove_4 : decode cX5_loadsMove 4 = .ok (.iload_n 2, 1) := by decide +kernel
theorem dX5_loadsMove_5 : decode cX5_loadsMove 5 = .ok (.dup2, 1) := by decide +kernel
theorem dX5_loadsMove_6 : decode cX5_loadsMove 6 = .ok (.iaload, 1) := by decide +kernel
theorem dX5_loadsMove_7 : decode cX5_loadsMove 7 = .ok (.aload_n 0, 1) := by decide +kernel
theorem dX5_loadsMove_8 : decode cX5_loadsMove 8 = .ok (.iload_n 1, 1) := by decide +kernel
theorem dX5_loadsMove_9 : decode cX5_loadsMove 9 = .ok (.iconst 0, 1) := by decide +kernel
theorem dX5_loadsMove_10 : decode cX5_loadsMove 10 = .ok (.invokevirtual 43, 3) := by decide +kernel
theorem dX5_loadsMove_13 : decode cX5_loadsMove 13 = .ok (.isub, 1) := by decide +kernel
theorem dX5_loadsMove_14 : decode cX5_loadsMove 14 = .ok (.iastore, 1) := by decide +kernel
theorem dX5_loadsMove_15 : decode cX5_loadsMove 15 = .ok (.aload_n 0, 1) := by decide +kernel
theorem dX5_loadsMove_16 : decode cX5_loadsMove 16 = .ok (.getfield 25, 3) := by decide +kernel
theorem dX5_loadsMove_19 : decode cX5_loadsMove 19 = .ok (.iload_n 3, 1) := by decide +kernel
theorem dX5_loadsMove_20 : decode cX5_loadsMove 20 = .ok (.dup2, 1) := by decide +kernel
theorem dX5_loadsMove_21 : decode cX5_loadsMove 21 = .ok (.iaload, 1) := by decide +kernel
theorem dX5_loadsMove_22 : decode cX5_loadsMove 22 = .ok (.aload_n 0, 1) := by decide +kernel
theorem dX5_loadsMove_23 : decode cX5_loadsMove 23 = .ok (.iload_n 1, 1) := by decide +kernel
theorem dX5_loadsMove_24 : decode cX5_loadsMove 24 = .ok (.iconst 0, 1) := by decide +kernel
theorem dX5_loadsMove_25 : decode cX5_loadsMove 25 = .ok (.invokevirtual 43, 3) := by decide +kernel
theorem dX5_loadsMove_28 : decode cX5_loadsMove 28 = .ok (.iadd, 1) := by decide +kernel
theorem dX5_loadsMove_29 : decode cX5_loadsMove 29 = .ok (.iastore, 1) := by decide +kernel
theorem dX5_loadsMove_30 : decode cX5_loadsMove 30 = .ok (.return_, 1) := by decide +kernel
theorem dX5_areBelow_0 : decode cX5_areBelow 0 = .ok (.iconst 1, 1) := by decide +kernel
theorem dX5_areBelow_1 : decode cX5_areBelow 1 = .ok (.istore_n 2, 1) := by decide +kernel
theorem dX5_areBelow_2 : decode cX5_areBelow 2 = .ok (.iconst 0, 1) := by decide +kernel
theorem dX5_areBelow_3 : decode cX5_areBelow 3 = .ok (.istore_n 3, 1) := by decide +kernel
theorem dX5_areBelow_4 : decode cX5_areBelow 4 = .ok (.iload_n 3, 1) := by decide +kernel
theorem dX5_areBelow_5 : decode cX5_areBelow 5 = .ok (.bipush 6, 2) := by decide +kernel
theorem dX5_areBelow_7 : decode cX5_areBelow 7 = .ok (.if_icmp .ge 29, 3) := by decide +kernel
theorem dX5_areBelow_10 : decode cX5_areBelow 10 = .ok (.iload_n 2, 1) := by decide +kernel
theorem dX5_areBelow_11 : decode cX5_areBelow 11 = .ok (.ifCond .eq 17, 3) := by decide +kernel
theorem dX5_areBelow_14 : decode cX5_areBelow 14 = .ok (.aload_n 0, 1) := by decide +kernel
theorem dX5_areBelow_15 : decode cX5_areBelow 15 = .ok (.getfield 25, 3) := by decide +kernel
theorem dX5_areBelow_18 : decode cX5_areBelow 18 = .ok (.iload_n 3, 1) := by decide +kernel
theorem dX5_areBelow_19 : decode cX5_areBelow 19 = .ok (.iaload, 1) := by decide +kernel
theorem dX5_areBelow_20 : decode cX5_areBelow 20 = .ok (.iload_n 1, 1) := by decide +kernel
theorem dX5_areBelow_21 : decode cX5_areBelow 21 = .ok (.if_icmp .gt 7, 3) := by decide +kernel
theorem dX5_areBelow_24 : decode cX5_areBelow 24 = .ok (.iconst 1, 1) := by decide +kernel
theorem dX5_areBelow_25 : decode cX5_areBelow 25 = .ok (.goto 4, 3) := by decide +kernel
theorem dX5_areBelow_28 : decode cX5_areBelow 28 = .ok (.iconst 0, 1) := by decide +kernel
theorem dX5_areBelow_29 : decode cX5_areBelow 29 = .ok (.istore_n 2, 1) := by decide +kernel
theorem dX5_areBelow_30 : decode cX5_areBelow 30 = .ok (.iinc 3 1, 3) := by decide +kernel
theorem dX5_areBelow_33 : decode cX5_areBelow 33 = .ok (.goto (-29), 3) := by decide +kernel
theorem dX5_areBelow_36 : decode cX5_areBelow 36 = .ok (.iload_n 2, 1) := by decide +kernel
theorem dX5_areBelow_37 : decode cX5_areBelow 37 = .ok (.ireturn, 1) := by decide +kernel
set_option maxRecDepth 20000 in
theorem ggX5_triesMoves_X5_of : GoodIn wsX5_triesMoves wsX5_of := goodIn_r _ [7, 1, 28, 29, 30, 31, 32, 33, 34, 35, 36, 37, 38, 39, 40, 41, 42] (by decide +kernel) (by decide +kernel)
set_option maxRecDepth 20000 in
theorem gX5_triesMoves_X5_of : GoodIn wsX5_triesMoves (wsV RX5 43 RX5 yX5_of wsX5_of) := goodIn_app (goodIn_of _ (by decide +kernel)) ggX5_triesMoves_X5_of
set_option maxRecDepth 20000 in
theorem ggX5_triesMoves_X5_isOpen : GoodIn wsX5_triesMoves wsX5_isOpen := goodIn_r _ [11, 1, 12, 13, 14, 6, 15, 16, 17, 18, 28, 29, 30, 31, 32, 33, 34, 35, 36, 37, 38, 39, 40, 41, 42] (by decide +kernel) (by decide +kernel)
set_option maxRecDepth 20000 in
theorem gX5_triesMoves_X5_isOpen : GoodIn wsX5_triesMoves (wsV RX5 79 RX5 yX5_isOpen wsX5_isOpen) := goodIn_app (goodIn_of _ (by decide +kernel)) ggX5_triesMoves_X5_isOpen
set_option maxRecDepth 20000 in
theorem ggX5_triesMoves_X5_loadsMove : GoodIn wsX5_triesMoves wsX5_loadsMove := goodIn_r _ [22, 23, 3, 4, 5, 6, 7, 1, 28, 29, 30, 31, 32, 33, 34, 35, 36, 37, 38, 39, 40, 41, 42] (by decide +kernel) (by decide +kernel)
set_option maxRecDepth 20000 in
theorem gX5_triesMoves_X5_loadsMove : GoodIn wsX5_triesMoves (wsV RX5 194 RX5 yX5_loadsMove wsX5_loadsMove) := goodIn_app (goodIn_of _ (by decide +kernel)) ggX5_triesMoves_X5_loadsMove
set_option maxRecDepth 20000 in
theorem ggX5_triesMoves_X5_areBelow : GoodIn wsX5_triesMoves wsX5_areBelow := goodIn_r _ [27, 23, 28, 29, 30, 31, 32, 33, 34, 35, 36, 37, 38, 39, 40, 41, 42] (by decide +kernel) (by decide +kernel)
set_option maxRecDepth 20000 in
theorem gX5_triesMoves_X5_areBelow : GoodIn wsX5_triesMoves (wsV RX5 198 RX5 yX5_areBelow wsX5_areBelow) := goodIn_app (goodIn_of _ (by decide +kernel)) ggX5_triesMoves_X5_areBelow
theorem dX5_triesMoves_0 : decode cX5_triesMoves 0 = .ok (.iload_n 1, 1) := by decide +kernel
theorem dX5_triesMoves_1 : decode cX5_triesMoves 1 = .ok (.istore 4, 2) := by decide +kernel
theorem dX5_triesMoves_3 : decode cX5_triesMoves 3 = .ok (.iload 4, 2) := by decide +kernel
theorem dX5_triesMoves_5 : decode cX5_triesMoves 5 = .ok (.aload_n 0, 1) := by decide +kernel
theorem dX5_triesMoves_6 : decode cX5_triesMoves 6 = .ok (.getfield 7, 3) := by decide +kernel
theorem dX5_triesMoves_9 : decode cX5_triesMoves 9 = .ok (.iconst 2, 1) := by decide +kernel
theorem dX5_triesMoves_10 : decode cX5_triesMoves 10 = .ok (.iaload, 1) := by decide +kernel
theorem dX5_triesMoves_11 : decode cX5_triesMoves 11 = .ok (.if_icmp .ge 131, 3) := by decide +kernel
theorem dX5_triesMoves_14 : decode cX5_triesMoves 14 = .ok (.aload_n 0, 1) := by decide +kernel
theorem dX5_triesMoves_15 : decode cX5_triesMoves 15 = .ok (.iload 4, 2) := by decide +kernel
theorem dX5_triesMoves_17 : decode cX5_triesMoves 17 = .ok (.iconst 2, 1) := by decide +kernel
theorem dX5_triesMoves_18 : decode cX5_triesMoves 18 = .ok (.invokevirtual 43, 3) := by decide +kernel
theorem dX5_triesMoves_21 : decode cX5_triesMoves 21 = .ok (.istore 5, 2) := by decide +kernel
theorem dX5_triesMoves_23 : decode cX5_triesMoves 23 = .ok (.iconst 0, 1) := by decide +kernel
theorem dX5_triesMoves_24 : decode cX5_triesMoves 24 = .ok (.istore 6, 2) := by decide +kernel
theorem dX5_triesMoves_26 : decode cX5_triesMoves 26 = .ok (.iload 6, 2) := by decide +kernel
theorem dX5_triesMoves_28 : decode cX5_triesMoves 28 = .ok (.aload_n 0, 1) := by decide +kernel
theorem dX5_triesMoves_29 : decode cX5_triesMoves 29 = .ok (.getfield 7, 3) := by decide +kernel
theorem dX5_triesMoves_32 : decode cX5_triesMoves 32 = .ok (.iconst 0, 1) := by decide +kernel
theorem dX5_triesMoves_33 : decode cX5_triesMoves 33 = .ok (.iaload, 1) := by decide +kernel
theorem dX5_triesMoves_34 : decode cX5_triesMoves 34 = .ok (.if_icmp .ge 102, 3) := by decide +kernel
theorem dX5_triesMoves_37 : decode cX5_triesMoves 37 = .ok (.iload 5, 2) := by decide +kernel
theorem dX5_triesMoves_39 : decode cX5_triesMoves 39 = .ok (.bipush (-9), 2) := by decide +kernel
theorem dX5_triesMoves_41 : decode cX5_triesMoves 41 = .ok (.if_icmp .eq 95, 3) := by decide +kernel
theorem dX5_triesMoves_44 : decode cX5_triesMoves 44 = .ok (.iload 6, 2) := by decide +kernel
theorem dX5_triesMoves_46 : decode cX5_triesMoves 46 = .ok (.iload 5, 2) := by decide +kernel
theorem dX5_triesMoves_48 : decode cX5_triesMoves 48 = .ok (.if_icmp .eq 82, 3) := by decide +kernel
theorem dX5_triesMoves_51 : decode cX5_triesMoves 51 = .ok (.aload_n 0, 1) := by decide +kernel
theorem dX5_triesMoves_52 : decode cX5_triesMoves 52 = .ok (.iload 6, 2) := by decide +kernel
theorem dX5_triesMoves_54 : decode cX5_triesMoves 54 = .ok (.invokevirtual 79, 3) := by decide +kernel
theorem dX5_triesMoves_57 : decode cX5_triesMoves 57 = .ok (.ifCond .eq 73, 3) := by decide +kernel
theorem dX5_triesMoves_60 : decode cX5_triesMoves 60 = .ok (.aload_n 0, 1) := by decide +kernel
theorem dX5_triesMoves_61 : decode cX5_triesMoves 61 = .ok (.iload 4, 2) := by decide +kernel
theorem dX5_triesMoves_63 : decode cX5_triesMoves 63 = .ok (.iload 5, 2) := by decide +kernel
theorem dX5_triesMoves_65 : decode cX5_triesMoves 65 = .ok (.iload 6, 2) := by decide +kernel
theorem dX5_triesMoves_67 : decode cX5_triesMoves 67 = .ok (.invokevirtual 194, 3) := by decide +kernel
theorem dX5_triesMoves_70 : decode cX5_triesMoves 70 = .ok (.iload_n 2, 1) := by decide +kernel
theorem dX5_triesMoves_71 : decode cX5_triesMoves 71 = .ok (.aload_n 0, 1) := by decide +kernel
theorem dX5_triesMoves_72 : decode cX5_triesMoves 72 = .ok (.iload 4, 2) := by decide +kernel
theorem dX5_triesMoves_74 : decode cX5_triesMoves 74 = .ok (.iconst 1, 1) := by decide +kernel
theorem dX5_triesMoves_75 : decode cX5_triesMoves 75 = .ok (.invokevirtual 43, 3) := by decide +kernel
theorem dX5_triesMoves_78 : decode cX5_triesMoves 78 = .ok (.iadd, 1) := by decide +kernel
theorem dX5_triesMoves_79 : decode cX5_triesMoves 79 = .ok (.istore 7, 2) := by decide +kernel
theorem dX5_triesMoves_81 : decode cX5_triesMoves 81 = .ok (.aload_n 0, 1) := by decide +kernel
theorem dX5_triesMoves_82 : decode cX5_triesMoves 82 = .ok (.aload_n 0, 1) := by decide +kernel
theorem dX5_triesMoves_83 : decode cX5_triesMoves 83 = .ok (.iload_n 3, 1) := by decide +kernel
theorem dX5_triesMoves_84 : decode cX5_triesMoves 84 = .ok (.invokevirtual 198, 3) := by decide +kernel
theorem dX5_triesMoves_87 : decode cX5_triesMoves 87 = .ok (.ifCond .eq 26, 3) := by decide +kernel
theorem dX5_triesMoves_90 : decode cX5_triesMoves 90 = .ok (.aload_n 0, 1) := by decide +kernel
theorem dX5_triesMoves_91 : decode cX5_triesMoves 91 = .ok (.getfield 201, 3) := by decide +kernel
theorem dX5_triesMoves_94 : decode cX5_triesMoves 94 = .ok (.bipush (-9), 2) := by decide +kernel
theorem dX5_triesMoves_96 : decode cX5_triesMoves 96 = .ok (.if_icmp .eq 12, 3) := by decide +kernel
theorem dX5_triesMoves_99 : decode cX5_triesMoves 99 = .ok (.iload 7, 2) := by decide +kernel
theorem dX5_triesMoves_101 : decode cX5_triesMoves 101 = .ok (.aload_n 0, 1) := by decide +kernel
theorem dX5_triesMoves_102 : decode cX5_triesMoves 102 = .ok (.getfield 201, 3) := by decide +kernel
theorem dX5_triesMoves_105 : decode cX5_triesMoves 105 = .ok (.if_icmp .ge 8, 3) := by decide +kernel
theorem dX5_triesMoves_108 : decode cX5_triesMoves 108 = .ok (.iload 7, 2) := by decide +kernel
theorem dX5_triesMoves_110 : decode cX5_triesMoves 110 = .ok (.goto 7, 3) := by decide +kernel
theorem dX5_triesMoves_113 : decode cX5_triesMoves 113 = .ok (.aload_n 0, 1) := by decide +kernel
theorem dX5_triesMoves_114 : decode cX5_triesMoves 114 = .ok (.getfield 201, 3) := by decide +kernel
theorem dX5_triesMoves_117 : decode cX5_triesMoves 117 = .ok (.putfield 201, 3) := by decide +kernel
theorem dX5_triesMoves_120 : decode cX5_triesMoves 120 = .ok (.aload_n 0, 1) := by decide +kernel
theorem dX5_triesMoves_121 : decode cX5_triesMoves 121 = .ok (.iload 4, 2) := by decide +kernel
theorem dX5_triesMoves_123 : decode cX5_triesMoves 123 = .ok (.iload 6, 2) := by decide +kernel
theorem dX5_triesMoves_125 : decode cX5_triesMoves 125 = .ok (.iload 5, 2) := by decide +kernel
theorem dX5_triesMoves_127 : decode cX5_triesMoves 127 = .ok (.invokevirtual 194, 3) := by decide +kernel
theorem dX5_triesMoves_130 : decode cX5_triesMoves 130 = .ok (.iinc 6 1, 3) := by decide +kernel
theorem dX5_triesMoves_133 : decode cX5_triesMoves 133 = .ok (.goto (-107), 3) := by decide +kernel
theorem dX5_triesMoves_136 : decode cX5_triesMoves 136 = .ok (.iinc 4 1, 3) := by decide +kernel
theorem dX5_triesMoves_139 : decode cX5_triesMoves 139 = .ok (.goto (-136), 3) := by decide +kernel
theorem dX5_triesMoves_142 : decode cX5_triesMoves 142 = .ok (.return_, 1) := by decide +kernel
set_option maxRecDepth 20000 in
theorem ggX5_fewest_X5_in : GoodIn wsX5_fewest wsX5_in := goodIn_r _ [7] (by decide +kernel) (by decide +kernel)
set_option maxRecDepth 20000 in
theorem gX5_fewest_X5_in : GoodIn wsX5_fewest (va_wsS RX5 35 yX5_in wsX5_in) := goodIn_app (goodIn_of _ (by decide +kernel)) ggX5_fewest_X5_in
set_option maxRecDepth 20000 in
theorem ggX5_fewest_X5_areEven : GoodIn wsX5_fewest wsX5_areEven := goodIn_r _ [11, 12, 13, 14, 6, 15, 2, 16, 17, 18, 19, 20, 21, 22, 23, 24, 25, 26, 27, 28, 29, 30, 31, 32, 33, 34, 35, 36, 37, 38, 39, 40, 41, 42, 43, 44, 45, 46, 67, 68, 69, 70, 71, 72, 73, 74, 75, 76, 77, 78, 79, 80, 81] (by decide +kernel) (by decide +kernel)
set_option maxRecDepth 20000 in
theorem gX5_fewest_X5_areEven : GoodIn wsX5_fewest (wsV RX5 123 RX5 yX5_areEven wsX5_areEven) := goodIn_app (goodIn_of _ (by decide +kernel)) ggX5_fewest_X5_areEven
set_option maxRecDepth 20000 in
theorem ggX5_fewest_X5_target : GoodIn wsX5_fewest wsX5_target := goodIn_r _ [30, 2, 31, 32, 33, 6, 34, 35, 36, 37, 38, 20, 21, 22, 23, 24, 25, 26, 39, 40, 41, 42, 43, 44, 45, 46, 67, 68, 69, 70, 71, 72, 73, 74, 75, 76, 77, 78, 79, 80, 81] (by decide +kernel) (by decide +kernel)
set_option maxRecDepth 20000 in
theorem gX5_fewest_X5_target : GoodIn wsX5_fewest (wsV RX5 70 RX5 yX5_target wsX5_target) := goodIn_app (goodIn_of _ (by decide +kernel)) ggX5_fewest_X5_target
set_option maxRecDepth 20000 in
theorem ggX5_fewest_X5_load : GoodIn wsX5_fewest wsX5_load := goodIn_r _ [19, 2, 20, 21, 22, 6, 23, 67, 68, 69, 70, 71, 72, 73, 74, 75, 76, 77, 78, 79, 80, 81] (by decide +kernel) (by decide +kernel)
set_option maxRecDepth 20000 in
theorem gX5_fewest_X5_load : GoodIn wsX5_fewest (wsV RX5 50 RX5 yX5_load wsX5_load) := goodIn_app (goodIn_of _ (by decide +kernel)) ggX5_fewest_X5_load
set_option maxRecDepth 20000 in
theorem ggX5_fewest_X5_triesMoves : GoodIn wsX5_fewest wsX5_triesMoves := goodIn_r _ [50, 2, 3, 20, 21, 22, 6, 23, 51, 52, 53, 54, 55, 56, 57, 58, 4, 5, 7, 59, 60, 61, 62, 1, 63, 64, 65, 66, 67, 68, 69, 70, 71, 72, 73, 74, 75, 76, 77, 78, 79, 80, 81] (by decide +kernel) (by decide +kernel)
set_option maxRecDepth 20000 in
theorem gX5_fewest_X5_triesMoves : GoodIn wsX5_fewest (wsV RX5 204 RX5 yX5_triesMoves wsX5_triesMoves) := goodIn_app (goodIn_of _ (by decide +kernel)) ggX5_fewest_X5_triesMoves
set_option maxRecDepth 20000 in
theorem ggX5_fewest_X5_of : GoodIn wsX5_fewest wsX5_of := goodIn_r _ [23, 2, 67, 68, 69, 70, 71, 72, 73, 74, 75, 76, 77, 78, 79, 80, 81] (by decide +kernel) (by decide +kernel)
set_option maxRecDepth 20000 in
theorem gX5_fewest_X5_of : GoodIn wsX5_fewest (wsV RX5 43 RX5 yX5_of wsX5_of) := goodIn_app (goodIn_of _ (by decide +kernel)) ggX5_fewest_X5_of
set_option maxRecDepth 20000 in
theorem ggX5_fewest_X5_isOpen : GoodIn wsX5_fewest wsX5_isOpen := goodIn_r _ [54, 2, 55, 56, 57, 6, 58, 4, 5, 7, 67, 68, 69, 70, 71, 72, 73, 74, 75, 76, 77, 78, 79, 80, 81] (by decide +kernel) (by decide +kernel)
set_option maxRecDepth 20000 in
theorem gX5_fewest_X5_isOpen : GoodIn wsX5_fewest (wsV RX5 79 RX5 yX5_isOpen wsX5_isOpen) := goodIn_app (goodIn_of _ (by decide +kernel)) ggX5_fewest_X5_isOpen
set_option maxRecDepth 20000 in
theorem ggX5_fewest_X5_loadsMove : GoodIn wsX5_fewest wsX5_loadsMove := goodIn_r _ [62, 1, 20, 21, 22, 6, 23, 2, 67, 68, 69, 70, 71, 72, 73, 74, 75, 76, 77, 78, 79, 80, 81] (by decide +kernel) (by decide +kernel)
set_option maxRecDepth 20000 in
theorem gX5_fewest_X5_loadsMove : GoodIn wsX5_fewest (wsV RX5 194 RX5 yX5_loadsMove wsX5_loadsMove) := goodIn_app (goodIn_of _ (by decide +kernel)) ggX5_fewest_X5_loadsMove
theorem dX5_fewest_0 : decode cX5_fewest 0 = .ok (.iload_n 1, 1) := by decide +kernel
theorem dX5_fewest_1 : decode cX5_fewest 1 = .ok (.iconst 0, 1) := by decide +kernel
theorem dX5_fewest_2 : decode cX5_fewest 2 = .ok (.iconst 1, 1) := by decide +kernel
theorem dX5_fewest_3 : decode cX5_fewest 3 = .ok (.invokestatic 35, 3) := by decide +kernel
theorem dX5_fewest_6 : decode cX5_fewest 6 = .ok (.ifCond .ne 5, 3) := by decide +kernel
theorem dX5_fewest_9 : decode cX5_fewest 9 = .ok (.iconst (-1), 1) := by decide +kernel
theorem dX5_fewest_10 : decode cX5_fewest 10 = .ok (.ireturn, 1) := by decide +kernel
theorem dX5_fewest_11 : decode cX5_fewest 11 = .ok (.aload_n 0, 1) := by decide +kernel
theorem dX5_fewest_12 : decode cX5_fewest 12 = .ok (.invokevirtual 123, 3) := by decide +kernel
theorem dX5_fewest_15 : decode cX5_fewest 15 = .ok (.ifCond .eq 5, 3) := by decide +kernel
theorem dX5_fewest_18 : decode cX5_fewest 18 = .ok (.iconst 0, 1) := by decide +kernel
theorem dX5_fewest_19 : decode cX5_fewest 19 = .ok (.ireturn, 1) := by decide +kernel
theorem dX5_fewest_20 : decode cX5_fewest 20 = .ok (.aload_n 0, 1) := by decide +kernel
theorem dX5_fewest_21 : decode cX5_fewest 21 = .ok (.invokevirtual 70, 3) := by decide +kernel
theorem dX5_fewest_24 : decode cX5_fewest 24 = .ok (.istore_n 2, 1) := by decide +kernel
theorem dX5_fewest_25 : decode cX5_fewest 25 = .ok (.iconst 0, 1) := by decide +kernel
theorem dX5_fewest_26 : decode cX5_fewest 26 = .ok (.istore_n 3, 1) := by decide +kernel
theorem dX5_fewest_27 : decode cX5_fewest 27 = .ok (.iload_n 3, 1) := by decide +kernel
theorem dX5_fewest_28 : decode cX5_fewest 28 = .ok (.bipush 6, 2) := by decide +kernel
theorem dX5_fewest_30 : decode cX5_fewest 30 = .ok (.if_icmp .ge 34, 3) := by decide +kernel
theorem dX5_fewest_33 : decode cX5_fewest 33 = .ok (.aload_n 0, 1) := by decide +kernel
theorem dX5_fewest_34 : decode cX5_fewest 34 = .ok (.getfield 25, 3) := by decide +kernel
theorem dX5_fewest_37 : decode cX5_fewest 37 = .ok (.iload_n 3, 1) := by decide +kernel
theorem dX5_fewest_38 : decode cX5_fewest 38 = .ok (.iload_n 3, 1) := by decide +kernel
theorem dX5_fewest_39 : decode cX5_fewest 39 = .ok (.aload_n 0, 1) := by decide +kernel
theorem dX5_fewest_40 : decode cX5_fewest 40 = .ok (.getfield 7, 3) := by decide +kernel
theorem dX5_fewest_43 : decode cX5_fewest 43 = .ok (.iconst 0, 1) := by decide +kernel
theorem dX5_fewest_44 : decode cX5_fewest 44 = .ok (.iaload, 1) := by decide +kernel
theorem dX5_fewest_45 : decode cX5_fewest 45 = .ok (.if_icmp .ge 11, 3) := by decide +kernel
theorem dX5_fewest_48 : decode cX5_fewest 48 = .ok (.aload_n 0, 1) := by decide +kernel
theorem dX5_fewest_49 : decode cX5_fewest 49 = .ok (.iload_n 3, 1) := by decide +kernel
theorem dX5_fewest_50 : decode cX5_fewest 50 = .ok (.invokevirtual 50, 3) := by decide +kernel
theorem dX5_fewest_53 : decode cX5_fewest 53 = .ok (.goto 4, 3) := by decide +kernel
theorem dX5_fewest_56 : decode cX5_fewest 56 = .ok (.iconst 0, 1) := by decide +kernel
theorem dX5_fewest_57 : decode cX5_fewest 57 = .ok (.iastore, 1) := by decide +kernel
theorem dX5_fewest_58 : decode cX5_fewest 58 = .ok (.iinc 3 1, 3) := by decide +kernel
theorem dX5_fewest_61 : decode cX5_fewest 61 = .ok (.goto (-34), 3) := by decide +kernel
theorem dX5_fewest_64 : decode cX5_fewest 64 = .ok (.aload_n 0, 1) := by decide +kernel
theorem dX5_fewest_65 : decode cX5_fewest 65 = .ok (.bipush (-9), 2) := by decide +kernel
theorem dX5_fewest_67 : decode cX5_fewest 67 = .ok (.putfield 201, 3) := by decide +kernel
theorem dX5_fewest_70 : decode cX5_fewest 70 = .ok (.aload_n 0, 1) := by decide +kernel
theorem dX5_fewest_71 : decode cX5_fewest 71 = .ok (.iconst 0, 1) := by decide +kernel
theorem dX5_fewest_72 : decode cX5_fewest 72 = .ok (.iconst 0, 1) := by decide +kernel
theorem dX5_fewest_73 : decode cX5_fewest 73 = .ok (.iload_n 2, 1) := by decide +kernel
theorem dX5_fewest_74 : decode cX5_fewest 74 = .ok (.invokevirtual 204, 3) := by decide +kernel
theorem dX5_fewest_77 : decode cX5_fewest 77 = .ok (.iconst 1, 1) := by decide +kernel
theorem dX5_fewest_78 : decode cX5_fewest 78 = .ok (.istore_n 3, 1) := by decide +kernel
theorem dX5_fewest_79 : decode cX5_fewest 79 = .ok (.iconst 0, 1) := by decide +kernel
theorem dX5_fewest_80 : decode cX5_fewest 80 = .ok (.istore 4, 2) := by decide +kernel
theorem dX5_fewest_82 : decode cX5_fewest 82 = .ok (.iload 4, 2) := by decide +kernel
theorem dX5_fewest_84 : decode cX5_fewest 84 = .ok (.aload_n 0, 1) := by decide +kernel
theorem dX5_fewest_85 : decode cX5_fewest 85 = .ok (.getfield 7, 3) := by decide +kernel
theorem dX5_fewest_88 : decode cX5_fewest 88 = .ok (.iconst 2, 1) := by decide +kernel
theorem dX5_fewest_89 : decode cX5_fewest 89 = .ok (.iaload, 1) := by decide +kernel
theorem dX5_fewest_90 : decode cX5_fewest 90 = .ok (.if_icmp .ge 113, 3) := by decide +kernel
theorem dX5_fewest_93 : decode cX5_fewest 93 = .ok (.iload_n 3, 1) := by decide +kernel
theorem dX5_fewest_94 : decode cX5_fewest 94 = .ok (.iconst 2, 1) := by decide +kernel
theorem dX5_fewest_95 : decode cX5_fewest 95 = .ok (.if_icmp .eq 12, 3) := by decide +kernel
theorem dX5_fewest_98 : decode cX5_fewest 98 = .ok (.aload_n 0, 1) := by decide +kernel
theorem dX5_fewest_99 : decode cX5_fewest 99 = .ok (.getfield 201, 3) := by decide +kernel
theorem dX5_fewest_102 : decode cX5_fewest 102 = .ok (.bipush (-9), 2) := by decide +kernel
theorem dX5_fewest_104 : decode cX5_fewest 104 = .ok (.if_icmp .ne 99, 3) := by decide +kernel
theorem dX5_fewest_107 : decode cX5_fewest 107 = .ok (.iconst 2, 1) := by decide +kernel
theorem dX5_fewest_108 : decode cX5_fewest 108 = .ok (.istore_n 3, 1) := by decide +kernel
theorem dX5_fewest_109 : decode cX5_fewest 109 = .ok (.aload_n 0, 1) := by decide +kernel
theorem dX5_fewest_110 : decode cX5_fewest 110 = .ok (.iload 4, 2) := by decide +kernel
theorem dX5_fewest_112 : decode cX5_fewest 112 = .ok (.iconst 2, 1) := by decide +kernel
theorem dX5_fewest_113 : decode cX5_fewest 113 = .ok (.invokevirtual 43, 3) := by decide +kernel
theorem dX5_fewest_116 : decode cX5_fewest 116 = .ok (.istore 5, 2) := by decide +kernel
theorem dX5_fewest_118 : decode cX5_fewest 118 = .ok (.iconst 0, 1) := by decide +kernel
theorem dX5_fewest_119 : decode cX5_fewest 119 = .ok (.istore 6, 2) := by decide +kernel
theorem dX5_fewest_121 : decode cX5_fewest 121 = .ok (.iload 6, 2) := by decide +kernel
theorem dX5_fewest_123 : decode cX5_fewest 123 = .ok (.aload_n 0, 1) := by decide +kernel
theorem dX5_fewest_124 : decode cX5_fewest 124 = .ok (.getfield 7, 3) := by decide +kernel
theorem dX5_fewest_127 : decode cX5_fewest 127 = .ok (.iconst 0, 1) := by decide +kernel
theorem dX5_fewest_128 : decode cX5_fewest 128 = .ok (.iaload, 1) := by decide +kernel
theorem dX5_fewest_129 : decode cX5_fewest 129 = .ok (.if_icmp .ge 68, 3) := by decide +kernel
theorem dX5_fewest_132 : decode cX5_fewest 132 = .ok (.iload 5, 2) := by decide +kernel
theorem dX5_fewest_134 : decode cX5_fewest 134 = .ok (.bipush (-9), 2) := by decide +kernel
theorem dX5_fewest_136 : decode cX5_fewest 136 = .ok (.if_icmp .eq 61, 3) := by decide +kernel
theorem dX5_fewest_139 : decode cX5_fewest 139 = .ok (.iload 6, 2) := by decide +kernel
theorem dX5_fewest_141 : decode cX5_fewest 141 = .ok (.iload 5, 2) := by decide +kernel
theorem dX5_fewest_143 : decode cX5_fewest 143 = .ok (.if_icmp .eq 48, 3) := by decide +kernel
theorem dX5_fewest_146 : decode cX5_fewest 146 = .ok (.aload_n 0, 1) := by decide +kernel
theorem dX5_fewest_147 : decode cX5_fewest 147 = .ok (.iload 6, 2) := by decide +kernel
theorem dX5_fewest_149 : decode cX5_fewest 149 = .ok (.invokevirtual 79, 3) := by decide +kernel
theorem dX5_fewest_152 : decode cX5_fewest 152 = .ok (.ifCond .eq 39, 3) := by decide +kernel
theorem dX5_fewest_155 : decode cX5_fewest 155 = .ok (.aload_n 0, 1) := by decide +kernel
theorem dX5_fewest_156 : decode cX5_fewest 156 = .ok (.iload 4, 2) := by decide +kernel
theorem dX5_fewest_158 : decode cX5_fewest 158 = .ok (.iload 5, 2) := by decide +kernel
theorem dX5_fewest_160 : decode cX5_fewest 160 = .ok (.iload 6, 2) := by decide +kernel
theorem dX5_fewest_162 : decode cX5_fewest 162 = .ok (.invokevirtual 194, 3) := by decide +kernel
theorem dX5_fewest_165 : decode cX5_fewest 165 = .ok (.aload_n 0, 1) := by decide +kernel
theorem dX5_fewest_166 : decode cX5_fewest 166 = .ok (.iload 4, 2) := by decide +kernel
theorem dX5_fewest_168 : decode cX5_fewest 168 = .ok (.iconst 1, 1) := by decide +kernel
theorem dX5_fewest_169 : decode cX5_fewest 169 = .ok (.iadd, 1) := by decide +kernel
theorem dX5_fewest_170 : decode cX5_fewest 170 = .ok (.aload_n 0, 1) := by decide +kernel
theorem dX5_fewest_171 : decode cX5_fewest 171 = .ok (.iload 4, 2) := by decide +kernel
theorem dX5_fewest_173 : decode cX5_fewest 173 = .ok (.iconst 1, 1) := by decide +kernel
theorem dX5_fewest_174 : decode cX5_fewest 174 = .ok (.invokevirtual 43, 3) := by decide +kernel
theorem dX5_fewest_177 : decode cX5_fewest 177 = .ok (.iload_n 2, 1) := by decide +kernel
theorem dX5_fewest_178 : decode cX5_fewest 178 = .ok (.invokevirtual 204, 3) := by decide +kernel
theorem dX5_fewest_181 : decode cX5_fewest 181 = .ok (.aload_n 0, 1) := by decide +kernel
theorem dX5_fewest_182 : decode cX5_fewest 182 = .ok (.iload 4, 2) := by decide +kernel
theorem dX5_fewest_184 : decode cX5_fewest 184 = .ok (.iload 6, 2) := by decide +kernel
theorem dX5_fewest_186 : decode cX5_fewest 186 = .ok (.iload 5, 2) := by decide +kernel
theorem dX5_fewest_188 : decode cX5_fewest 188 = .ok (.invokevirtual 194, 3) := by decide +kernel
theorem dX5_fewest_191 : decode cX5_fewest 191 = .ok (.iinc 6 1, 3) := by decide +kernel
theorem dX5_fewest_194 : decode cX5_fewest 194 = .ok (.goto (-73), 3) := by decide +kernel
theorem dX5_fewest_197 : decode cX5_fewest 197 = .ok (.iinc 4 1, 3) := by decide +kernel
theorem dX5_fewest_200 : decode cX5_fewest 200 = .ok (.goto (-118), 3) := by decide +kernel
theorem dX5_fewest_203 : decode cX5_fewest 203 = .ok (.aload_n 0, 1) := by decide +kernel
theorem dX5_fewest_204 : decode cX5_fewest 204 = .ok (.getfield 201, 3) := by decide +kernel
theorem dX5_fewest_207 : decode cX5_fewest 207 = .ok (.bipush (-9), 2) := by decide +kernel
theorem dX5_fewest_209 : decode cX5_fewest 209 = .ok (.if_icmp .ne 8, 3) := by decide +kernel
theorem dX5_fewest_212 : decode cX5_fewest 212 = .ok (.bipush (-9), 2) := by decide +kernel
theorem dX5_fewest_214 : decode cX5_fewest 214 = .ok (.goto 15, 3) := by decide +kernel
theorem dX5_fewest_217 : decode cX5_fewest 217 = .ok (.iload_n 1, 1) := by decide +kernel
theorem dX5_fewest_218 : decode cX5_fewest 218 = .ok (.ifCond .ne 7, 3) := by decide +kernel
theorem dX5_fewest_221 : decode cX5_fewest 221 = .ok (.iload_n 3, 1) := by decide +kernel
theorem dX5_fewest_222 : decode cX5_fewest 222 = .ok (.goto 7, 3) := by decide +kernel
theorem dX5_fewest_225 : decode cX5_fewest 225 = .ok (.aload_n 0, 1) := by decide +kernel
theorem dX5_fewest_226 : decode cX5_fewest 226 = .ok (.getfield 201, 3) := by decide +kernel
theorem dX5_fewest_229 : decode cX5_fewest 229 = .ok (.ireturn, 1) := by decide +kernel
set_option maxRecDepth 20000 in
theorem ggX5_without_X5_isServer : GoodIn wsX5_without wsX5_isServer := goodIn_r _ [5, 6, 7, 8, 4, 9, 58, 59, 60, 61, 62, 63, 64, 65, 66, 67, 68, 69, 70, 71, 72] (by decide +kernel) (by decide +kernel)
set_option maxRecDepth 20000 in
theorem gX5_without_X5_isServer : GoodIn wsX5_without (wsV RX5 39 RX5 yX5_isServer wsX5_isServer) := goodIn_app (goodIn_of _ (by decide +kernel)) ggX5_without_X5_isServer
set_option maxRecDepth 20000 in
theorem ggX5_without_X5_isOpen : GoodIn wsX5_without wsX5_isOpen := goodIn_r _ [13, 6, 1, 2, 3, 4, 5, 7, 8, 9, 58, 59, 60, 61, 62, 63, 64, 65, 66, 67, 68, 69, 70, 71, 72] (by decide +kernel) (by decide +kernel)
set_option maxRecDepth 20000 in
theorem gX5_without_X5_isOpen : GoodIn wsX5_without (wsV RX5 79 RX5 yX5_isOpen wsX5_isOpen) := goodIn_app (goodIn_of _ (by decide +kernel)) ggX5_without_X5_isOpen
set_option maxRecDepth 20000 in
theorem ggX5_without_X5_opens : GoodIn wsX5_without wsX5_opens := goodIn_r _ [17, 6, 58, 59, 60, 61, 62, 63, 64, 65, 66, 67, 68, 69, 70, 71, 72] (by decide +kernel) (by decide +kernel)
set_option maxRecDepth 20000 in
theorem gX5_without_X5_opens : GoodIn wsX5_without (wsV RX5 57 RX5 yX5_opens wsX5_opens) := goodIn_app (goodIn_of _ (by decide +kernel)) ggX5_without_X5_opens
set_option maxRecDepth 20000 in
theorem ggX5_without_X5_aside : GoodIn wsX5_without wsX5_aside := goodIn_r _ [21, 22, 6, 58, 59, 60, 61, 62, 63, 64, 65, 66, 67, 68, 69, 70, 71, 72] (by decide +kernel) (by decide +kernel)
set_option maxRecDepth 20000 in
theorem gX5_without_X5_aside : GoodIn wsX5_without (wsV RX5 73 RX5 yX5_aside wsX5_aside) := goodIn_app (goodIn_of _ (by decide +kernel)) ggX5_without_X5_aside
set_option maxRecDepth 20000 in
theorem ggX5_without_X5_empties : GoodIn wsX5_without wsX5_empties := goodIn_r _ [26, 6, 27, 28, 29, 4, 30, 31, 32, 33, 34, 35, 36, 37, 38, 10, 11, 12, 13, 1, 2, 3, 5, 7, 8, 9, 39, 40, 41, 42, 43, 44, 45, 46, 58, 59, 60, 61, 62, 63, 64, 65, 66, 67, 68, 69, 70, 71, 72] (by decide +kernel) (by decide +kernel)
set_option maxRecDepth 20000 in
theorem gX5_without_X5_empties : GoodIn wsX5_without (wsV RX5 151 RX5 yX5_empties wsX5_empties) := goodIn_app (goodIn_of _ (by decide +kernel)) ggX5_without_X5_empties
set_option maxRecDepth 20000 in
theorem ggX5_without_X5_greatest : GoodIn wsX5_without wsX5_greatest := goodIn_r _ [50, 6, 39, 40, 41, 4, 42, 31, 32, 33, 34, 51, 52, 53, 58, 59, 60, 61, 62, 63, 64, 65, 66, 67, 68, 69, 70, 71, 72] (by decide +kernel) (by decide +kernel)
set_option maxRecDepth 20000 in
theorem gX5_without_X5_greatest : GoodIn wsX5_without (wsV RX5 67 RX5 yX5_greatest wsX5_greatest) := goodIn_app (goodIn_of _ (by decide +kernel)) ggX5_without_X5_greatest
set_option maxRecDepth 20000 in
theorem ggX5_without_X5_layBack : GoodIn wsX5_without wsX5_layBack := goodIn_r _ [57, 6, 22, 58, 59, 60, 61, 62, 63, 64, 65, 66, 67, 68, 69, 70, 71, 72] (by decide +kernel) (by decide +kernel)
set_option maxRecDepth 20000 in
theorem gX5_without_X5_layBack : GoodIn wsX5_without (wsV RX5 185 RX5 yX5_layBack wsX5_layBack) := goodIn_app (goodIn_of _ (by decide +kernel)) ggX5_without_X5_layBack
theorem dX5_without_0 : decode cX5_without 0 = .ok (.aload_n 0, 1) := by decide +kernel
theorem dX5_without_1 : decode cX5_without 1 = .ok (.iload_n 1, 1) := by decide +kernel
theorem dX5_without_2 : decode cX5_without 2 = .ok (.invokevirtual 39, 3) := by decide +kernel
theorem dX5_without_5 : decode cX5_without 5 = .ok (.ifCond .ne 5, 3) := by decide +kernel
theorem dX5_without_8 : decode cX5_without 8 = .ok (.iconst (-1), 1) := by decide +kernel
theorem dX5_without_9 : decode cX5_without 9 = .ok (.ireturn, 1) := by decide +kernel
theorem dX5_without_10 : decode cX5_without 10 = .ok (.aload_n 0, 1) := by decide +kernel
theorem dX5_without_11 : decode cX5_without 11 = .ok (.iload_n 1, 1) := by decide +kernel
theorem dX5_without_12 : decode cX5_without 12 = .ok (.invokevirtual 79, 3) := by decide +kernel
theorem dX5_without_15 : decode cX5_without 15 = .ok (.ifCond .eq 11, 3) := by decide +kernel
theorem dX5_without_18 : decode cX5_without 18 = .ok (.aload_n 0, 1) := by decide +kernel
theorem dX5_without_19 : decode cX5_without 19 = .ok (.invokevirtual 57, 3) := by decide +kernel
theorem dX5_without_22 : decode cX5_without 22 = .ok (.iconst 1, 1) := by decide +kernel
theorem dX5_without_23 : decode cX5_without 23 = .ok (.if_icmp .ne 6, 3) := by decide +kernel
theorem dX5_without_26 : decode cX5_without 26 = .ok (.bipush (-2), 2) := by decide +kernel
theorem dX5_without_28 : decode cX5_without 28 = .ok (.ireturn, 1) := by decide +kernel
theorem dX5_without_29 : decode cX5_without 29 = .ok (.aload_n 0, 1) := by decide +kernel
theorem dX5_without_30 : decode cX5_without 30 = .ok (.invokevirtual 73, 3) := by decide +kernel
theorem dX5_without_33 : decode cX5_without 33 = .ok (.aload_n 0, 1) := by decide +kernel
theorem dX5_without_34 : decode cX5_without 34 = .ok (.iload_n 1, 1) := by decide +kernel
theorem dX5_without_35 : decode cX5_without 35 = .ok (.invokevirtual 151, 3) := by decide +kernel
theorem dX5_without_38 : decode cX5_without 38 = .ok (.istore_n 2, 1) := by decide +kernel
theorem dX5_without_39 : decode cX5_without 39 = .ok (.iload_n 2, 1) := by decide +kernel
theorem dX5_without_40 : decode cX5_without 40 = .ok (.ifCond .ge 7, 3) := by decide +kernel
theorem dX5_without_43 : decode cX5_without 43 = .ok (.iload_n 2, 1) := by decide +kernel
theorem dX5_without_44 : decode cX5_without 44 = .ok (.goto 7, 3) := by decide +kernel
theorem dX5_without_47 : decode cX5_without 47 = .ok (.aload_n 0, 1) := by decide +kernel
theorem dX5_without_48 : decode cX5_without 48 = .ok (.invokevirtual 67, 3) := by decide +kernel
theorem dX5_without_51 : decode cX5_without 51 = .ok (.istore_n 3, 1) := by decide +kernel
theorem dX5_without_52 : decode cX5_without 52 = .ok (.aload_n 0, 1) := by decide +kernel
theorem dX5_without_53 : decode cX5_without 53 = .ok (.invokevirtual 185, 3) := by decide +kernel
theorem dX5_without_56 : decode cX5_without 56 = .ok (.iload_n 3, 1) := by decide +kernel
theorem dX5_without_57 : decode cX5_without 57 = .ok (.ireturn, 1) := by decide +kernel
theorem dJ6_bitCount_0f7a4_0 : decode cJ6_bitCount_0f7a4 0 = .ok (.iload_n 0, 1) := by decide +kernel
theorem dJ6_bitCount_0f7a4_1 : decode cJ6_bitCount_0f7a4 1 = .ok (.iload_n 0, 1) := by decide +kernel
theorem dJ6_bitCount_0f7a4_2 : decode cJ6_bitCount_0f7a4 2 = .ok (.iconst 1, 1) := by decide +kernel
theorem dJ6_bitCount_0f7a4_3 : decode cJ6_bitCount_0f7a4 3 = .ok (.iushr, 1) := by decide +kernel
theorem dJ6_bitCount_0f7a4_4 : decode cJ6_bitCount_0f7a4 4 = .ok (.ldc_w 265, 3) := by decide +kernel
theorem dJ6_bitCount_0f7a4_7 : decode cJ6_bitCount_0f7a4 7 = .ok (.iand, 1) := by decide +kernel
theorem dJ6_bitCount_0f7a4_8 : decode cJ6_bitCount_0f7a4 8 = .ok (.isub, 1) := by decide +kernel
theorem dJ6_bitCount_0f7a4_9 : decode cJ6_bitCount_0f7a4 9 = .ok (.istore_n 0, 1) := by decide +kernel
theorem dJ6_bitCount_0f7a4_10 : decode cJ6_bitCount_0f7a4 10 = .ok (.iload_n 0, 1) := by decide +kernel
theorem dJ6_bitCount_0f7a4_11 : decode cJ6_bitCount_0f7a4 11 = .ok (.ldc_w 266, 3) := by decide +kernel
theorem dJ6_bitCount_0f7a4_14 : decode cJ6_bitCount_0f7a4 14 = .ok (.iand, 1) := by decide +kernel
theorem dJ6_bitCount_0f7a4_15 : decode cJ6_bitCount_0f7a4 15 = .ok (.iload_n 0, 1) := by decide +kernel
theorem dJ6_bitCount_0f7a4_16 : decode cJ6_bitCount_0f7a4 16 = .ok (.iconst 2, 1) := by decide +kernel
theorem dJ6_bitCount_0f7a4_17 : decode cJ6_bitCount_0f7a4 17 = .ok (.iushr, 1) := by decide +kernel
theorem dJ6_bitCount_0f7a4_18 : decode cJ6_bitCount_0f7a4 18 = .ok (.ldc_w 266, 3) := by decide +kernel
theorem dJ6_bitCount_0f7a4_21 : decode cJ6_bitCount_0f7a4 21 = .ok (.iand, 1) := by decide +kernel
theorem dJ6_bitCount_0f7a4_22 : decode cJ6_bitCount_0f7a4 22 = .ok (.iadd, 1) := by decide +kernel
theorem dJ6_bitCount_0f7a4_23 : decode cJ6_bitCount_0f7a4 23 = .ok (.istore_n 0, 1) := by decide +kernel
theorem dJ6_bitCount_0f7a4_24 : decode cJ6_bitCount_0f7a4 24 = .ok (.iload_n 0, 1) := by decide +kernel
theorem dJ6_bitCount_0f7a4_25 : decode cJ6_bitCount_0f7a4 25 = .ok (.iload_n 0, 1) := by decide +kernel
theorem dJ6_bitCount_0f7a4_26 : decode cJ6_bitCount_0f7a4 26 = .ok (.iconst 4, 1) := by decide +kernel
theorem dJ6_bitCount_0f7a4_27 : decode cJ6_bitCount_0f7a4 27 = .ok (.iushr, 1) := by decide +kernel
theorem dJ6_bitCount_0f7a4_28 : decode cJ6_bitCount_0f7a4 28 = .ok (.iadd, 1) := by decide +kernel
theorem dJ6_bitCount_0f7a4_29 : decode cJ6_bitCount_0f7a4 29 = .ok (.ldc_w 267, 3) := by decide +kernel
theorem dJ6_bitCount_0f7a4_32 : decode cJ6_bitCount_0f7a4 32 = .ok (.iand, 1) := by decide +kernel
theorem dJ6_bitCount_0f7a4_33 : decode cJ6_bitCount_0f7a4 33 = .ok (.istore_n 0, 1) := by decide +kernel
theorem dJ6_bitCount_0f7a4_34 : decode cJ6_bitCount_0f7a4 34 = .ok (.iload_n 0, 1) := by decide +kernel
theorem dJ6_bitCount_0f7a4_35 : decode cJ6_bitCount_0f7a4 35 = .ok (.iload_n 0, 1) := by decide +kernel
theorem dJ6_bitCount_0f7a4_36 : decode cJ6_bitCount_0f7a4 36 = .ok (.bipush 8, 2) := by decide +kernel
theorem dJ6_bitCount_0f7a4_38 : decode cJ6_bitCount_0f7a4 38 = .ok (.iushr, 1) := by decide +kernel
theorem dJ6_bitCount_0f7a4_39 : decode cJ6_bitCount_0f7a4 39 = .ok (.iadd, 1) := by decide +kernel
theorem dJ6_bitCount_0f7a4_40 : decode cJ6_bitCount_0f7a4 40 = .ok (.istore_n 0, 1) := by decide +kernel
theorem dJ6_bitCount_0f7a4_41 : decode cJ6_bitCount_0f7a4 41 = .ok (.iload_n 0, 1) := by decide +kernel
theorem dJ6_bitCount_0f7a4_42 : decode cJ6_bitCount_0f7a4 42 = .ok (.iload_n 0, 1) := by decide +kernel
theorem dJ6_bitCount_0f7a4_43 : decode cJ6_bitCount_0f7a4 43 = .ok (.bipush 16, 2) := by decide +kernel
theorem dJ6_bitCount_0f7a4_45 : decode cJ6_bitCount_0f7a4 45 = .ok (.iushr, 1) := by decide +kernel
theorem dJ6_bitCount_0f7a4_46 : decode cJ6_bitCount_0f7a4 46 = .ok (.iadd, 1) := by decide +kernel
theorem dJ6_bitCount_0f7a4_47 : decode cJ6_bitCount_0f7a4 47 = .ok (.istore_n 0, 1) := by decide +kernel
theorem dJ6_bitCount_0f7a4_48 : decode cJ6_bitCount_0f7a4 48 = .ok (.iload_n 0, 1) := by decide +kernel
theorem dJ6_bitCount_0f7a4_49 : decode cJ6_bitCount_0f7a4 49 = .ok (.bipush 63, 2) := by decide +kernel
theorem dJ6_bitCount_0f7a4_51 : decode cJ6_bitCount_0f7a4 51 = .ok (.iand, 1) := by decide +kernel
theorem dJ6_bitCount_0f7a4_52 : decode cJ6_bitCount_0f7a4 52 = .ok (.ireturn, 1) := by decide +kernel
theorem dJ9_max_7cf53_0 : decode cJ9_max_7cf53 0 = .ok (.iload_n 0, 1) := by decide +kernel
theorem dJ9_max_7cf53_1 : decode cJ9_max_7cf53 1 = .ok (.iload_n 1, 1) := by decide +kernel
theorem dJ9_max_7cf53_2 : decode cJ9_max_7cf53 2 = .ok (.if_icmp .lt 7, 3) := by decide +kernel
theorem dJ9_max_7cf53_5 : decode cJ9_max_7cf53 5 = .ok (.iload_n 0, 1) := by decide +kernel
theorem dJ9_max_7cf53_6 : decode cJ9_max_7cf53 6 = .ok (.goto 4, 3) := by decide +kernel
theorem dJ9_max_7cf53_9 : decode cJ9_max_7cf53 9 = .ok (.iload_n 1, 1) := by decide +kernel
theorem dJ9_max_7cf53_10 : decode cJ9_max_7cf53 10 = .ok (.ireturn, 1) := by decide +kernel
theorem dJ9_min_7cf53_0 : decode cJ9_min_7cf53 0 = .ok (.iload_n 0, 1) := by decide +kernel
theorem dJ9_min_7cf53_1 : decode cJ9_min_7cf53 1 = .ok (.iload_n 1, 1) := by decide +kernel
theorem dJ9_min_7cf53_2 : decode cJ9_min_7cf53 2 = .ok (.if_icmp .gt 7, 3) := by decide +kernel
theorem dJ9_min_7cf53_5 : decode cJ9_min_7cf53 5 = .ok (.iload_n 0, 1) := by decide +kernel
theorem dJ9_min_7cf53_6 : decode cJ9_min_7cf53 6 = .ok (.goto 4, 3) := by decide +kernel
theorem dJ9_min_7cf53_9 : decode cJ9_min_7cf53 9 = .ok (.iload_n 1, 1) := by decide +kernel
theorem dJ9_min_7cf53_10 : decode cJ9_min_7cf53 10 = .ok (.ireturn, 1) := by decide +kernel
end
section
/-! the base: what every contract says of the tables, and call rows that bundle the kit's -/
def bI (c : Prop) [Decidable c] : Int32 := if c then 1 else 0
theorem bI_t {c : Prop} [Decidable c] (h : c) : bI c = 1 := if_pos h
theorem bI_f {c : Prop} [Decidable c] (h : ¬ c) : bI c = 0 := if_neg h
theorem bI_0 {c : Prop} [Decidable c] : bI c = 0 ↔ ¬ c := by
  by_cases h : c
  · rw [bI_t h]; simp [h]
  · rw [bI_f h]; simp [h]
theorem bI_n0 {c : Prop} [Decidable c] : ¬ bI c = 0 ↔ c := by
  by_cases h : c
  · rw [bI_t h]; simp [h]
  · rw [bI_f h]; simp [h]
theorem bI_1 {c : Prop} [Decidable c] : bI c = 1 ↔ c := by
  by_cases h : c
  · rw [bI_t h]; simp [h]
  · rw [bI_f h]; simp [h]
theorem bI_nar {c : Prop} [Decidable c] : narrow .boolean (.int (bI c)) = .int (bI c) := by
  by_cases h : c
  · rw [bI_t h]; rfl
  · rw [bI_f h]; rfl
theorem sub_of_map {ws : va_W} : ∀ {is : List Nat} {wc : va_W}, is.map (fun i => ws[i]?) = wc.map some → is.filterMap (fun i => ws[i]?) = wc
  | [], [], _ => rfl
  | [], _ :: _, h => by simp at h
  | _ :: _, [], h => by simp at h
  | i :: is, x :: wc, h => by
    rw [List.map_cons, List.map_cons, List.cons.injEq] at h
    simp only [List.filterMap_cons, h.1]
    rw [sub_of_map h.2]
theorem cell_cong {f g : Nat → Int32} {n : Nat} (h : ∀ j, j < n → f j = g j) (cA : ClassId) : vp_cell cA (n, .inl f) = vp_cell cA (n, .inl g) := by
  show arrV cA n (fun j => .int (f j)) = arrV cA n (fun j => .int (g j))
  have e : (fun j : Fin n => Value.int (f j.val)) = fun j : Fin n => Value.int (g j.val) := funext fun j => by rw [h j.val j.isLt]
  unfold arrV
  simp only [e]
theorem va_P.arr {G : va_G} {cl : List vw_C} {ws : va_W} {H : Heap} (hP : va_P G cl ws H) (k : Nat) {a : Nat} {cA : ClassId} {n : Nat} {f g : Nat → Int32} (he : ws[k]? = some (a, .inl (cA, n, .inl f))) (h : ∀ j, j < n → f j = g j) : va_P G cl (ws.set k (a, .inl (cA, n, .inl g))) H := by
  intro i q hq
  by_cases e : k = i
  · subst e
    rw [List.getElem?_set] at hq
    have hlt : k < ws.length := (List.getElem?_eq_some_iff.mp he).1
    simp only [if_true, hlt] at hq
    cases hq
    have h0 := hP k _ he
    show H[a]? = some (vp_cell cA (n, .inl g))
    rw [← cell_cong h cA]
    exact h0
  · rw [List.getElem?_set_ne e] at hq
    exact hP i q hq
def nwF : List (String × Nat × String × String × String) := [("EvenLoads$Step", 76, "EvenLoads$Cluster", "sizes", "[I"), ("EvenLoads", 171, "EvenLoads$Cluster", "sizes", "[I"), ("EvenLoads$Step", 91, "EvenLoads$Cluster", "prices", "[I"), ("EvenLoads", 174, "EvenLoads$Cluster", "prices", "[I"), ("EvenLoads$Step", 37, "EvenLoads$Cluster", "places", "[I"), ("EvenLoads", 177, "EvenLoads$Cluster", "places", "[I"), ("EvenLoads", 180, "EvenLoads$Cluster", "moved", "[I"), ("EvenLoads$Step", 52, "EvenLoads$Cluster", "loads", "[I"), ("EvenLoads", 123, "EvenLoads$Cluster", "loads", "[I"), ("EvenLoads$Step", 82, "EvenLoads$Cluster", "opened", "[I"), ("EvenLoads$Step", 79, "EvenLoads$Cluster", "servers", "I"), ("EvenLoads", 105, "EvenLoads$Cluster", "servers", "I"), ("EvenLoads", 108, "EvenLoads$Cluster", "openServers", "I"), ("EvenLoads$Step", 73, "EvenLoads$Cluster", "jobs", "I"), ("EvenLoads", 111, "EvenLoads$Cluster", "jobs", "I"), ("EvenLoads", 117, "EvenLoads$Cluster", "sum", "I"), ("EvenLoads$Step", 66, "EvenLoads$Cluster", "budget", "I"), ("EvenLoads", 144, "EvenLoads$Cluster", "budget", "I"), ("EvenLoads", 147, "EvenLoads$Cluster", "factor", "I"), ("EvenLoads", 150, "EvenLoads$Cluster", "moves", "I"), ("EvenLoads", 92, "EvenLoads$History", "depth", "I"), ("EvenLoads", 190, "EvenLoads$Step", "job", "I"), ("EvenLoads", 193, "EvenLoads$Step", "goal", "I"), ("EvenLoads", 196, "EvenLoads$Step", "other", "I"), ("EvenLoads", 199, "EvenLoads$Step", "price", "I"), ("EvenLoads", 99, "EvenLoads$Program", "length", "I"), ("EvenLoads", 234, "EvenLoads$Program", "letter", "I"), ("EvenLoads", 225, "EvenLoads$Program", "letterPlace", "I"), ("EvenLoads", 218, "EvenLoads$Program", "isOrderRead", "Z"), ("EvenLoads", 231, "EvenLoads$Program", "numbers", "[I")]
def nwM : List (String × Nat × MethodName) := [("EvenLoads", 9, ⟨"EvenLoads$Cluster", "<init>", "()V"⟩), ("EvenLoads$History", 24, ⟨"EvenLoads$Cluster", "<init>", "()V"⟩), ("EvenLoads", 31, ⟨"EvenLoads$Step", "<init>", "()V"⟩), ("EvenLoads", 38, ⟨"EvenLoads$Program", "<init>", "()V"⟩), ("EvenLoads$Cluster", 52, ⟨"EvenLoads", "copyRow", "([I[I)V"⟩), ("EvenLoads$Cluster", 56, ⟨"EvenLoads", "put", "([III)V"⟩), ("EvenLoads$Cluster", 67, ⟨"EvenLoads", "at", "([II)I"⟩), ("EvenLoads$Step", 41, ⟨"EvenLoads", "at", "([II)I"⟩), ("EvenLoads$Program", 38, ⟨"EvenLoads", "put", "([III)V"⟩), ("EvenLoads$Program", 42, ⟨"EvenLoads", "at", "([II)I"⟩)]
def NW (U : State) : Prop := (∀ q ∈ nwF, va_Nw (.fieldLinkNest q.1 q.2.1 q.2.2.1 q.2.2.2.1 q.2.2.2.2 "EvenLoads") U) ∧ (∀ q ∈ nwM, va_Nw (.methodLinkNest q.1 q.2.1 q.2.2 "EvenLoads") U)
theorem NW.warm {s U : State} (hW : s.WarmedH U.vm) (h : NW s) : NW U := ⟨fun q hq => va_Nw.warmF hW (h.1 q hq), fun q hq => va_Nw.warmM hW (h.2 q hq)⟩
theorem NW.same {u U : State} (hv : u.vm = U.vm) (h : NW u) : NW U := ⟨fun q hq => va_Nw.same rfl hv (h.1 q hq), fun q hq => va_Nw.same rfl hv (h.2 q hq)⟩
theorem NW.f {s : State} {args : Array Value} (h : NW s) (k : Nat) {a : String} {i : Nat} {b n d : String} (hk : nwF[k]? = some (a, i, b, n, d)) : (Cond.fieldLinkNest a i b n d "EvenLoads").before args s = true := va_Nw.use rfl (h.1 _ (List.mem_of_getElem? hk))
theorem NW.m {s : State} (h : NW s) (k : Nat) {a : String} {i : Nat} {y : MethodName} (hk : nwM[k]? = some (a, i, y)) : va_Nw (.methodLinkNest a i y "EvenLoads") s := h.2 _ (List.mem_of_getElem? hk)
abbrev tyQ (cI cQ : ClassId) : List (ClassId × FieldType) := [(cI, .int), (cQ, .object "EvenLoads$Cluster")]
/-- what a state says of the tables -/
def SF (G : va_G) (cI cQ : ClassId) (U : State) : Prop := va_K G vwCl (tyQ cI cQ) U ∧ NW U
theorem SF.warm {G : va_G} {cI cQ : ClassId} {s U : State} (hW : s.WarmedH U.vm) (h : SF G cI cQ s) : SF G cI cQ U := ⟨va_K.moved hW.alike h.1, NW.warm hW h.2⟩
theorem SF.call {G : va_G} {cI cQ : ClassId} {U : State} (g : JFrame) (mk : MethodId) (a : Array Value) (h : SF G cI cQ U) : SF G cI cQ (U.calling g mk a) := ⟨va_K.moved (u := U) (U := U.calling g mk a) (Vm.Alike.refl U.vm) h.1, NW.same rfl h.2⟩
/-- a method that only reads: its start -/
def pPc (G : va_G) (cI cQ : ClassId) (av : List Value) (ws : va_W) : Array Value → State → Prop := va_Pc av (fun U => va_P G vwCl ws U.heap ∧ SF G cI cQ U)
theorem pPc.blind {G : va_G} {cI cQ : ClassId} {av : List Value} {ws : va_W} : FrameBlind (pPc G cI cQ av ws) := fun a U g mk q => ⟨q.1, q.2.1, SF.call g mk a q.2.2⟩
/-- a method that writes: its start -/
def mPc (G : va_G) (cI cQ : ClassId) (av : List Value) (ws : va_W) (sz : Nat) : Array Value → State → Prop := va_Pc av (fun U => U.heap.size = sz ∧ va_P G vwCl ws U.heap ∧ SF G cI cQ U ∧ va_D (fun _ => True) ws)
theorem mPc.blind {G : va_G} {cI cQ : ClassId} {av : List Value} {ws : va_W} {sz : Nat} : FrameBlind (mPc G cI cQ av ws sz) := fun a U g mk q => ⟨q.1, q.2.1, q.2.2.1, SF.call g mk a q.2.2.2.1, q.2.2.2.2⟩
/-- its world behind it -/
def mB {S : Type} (G : va_G) (A : Nat → Prop) (w1 : S → va_W) : S → State → Prop := fun u t => va_P G vwCl (w1 u) t.heap ∧ va_D A (w1 u)
section CALLS
variable {p : Program} {l : Launch} {e : Env} {R : Room} {s : State} {m : MethodId} {args : Array Value} {below : List Frame} {meth : Method} {c : Code} {H : Heap} {locs : List Loc} {cells slots : Nat} {Q : State → Prop}
variable {pc nL mc ms n index : Nat} {ls : Array Slot} {rest st0 As : List Value} {a : Array Value} {A0 A1 : Nat → Prop} {H0 : Heap} {y : MethodName} {bytes cc : ByteArray} {maxL : Nat} {ret : Option FieldType} {wy Ts : List Cond} {rm : Room} {own C host : String} {b : Addr} {G : va_G} {cI cQ : ClassId} {ws wc wr : va_W}
theorem va_callSi {post : Int32 → Prop} (hr : va_Run p l e R s m args below meth c H locs cells slots 0 0 (F0 m pc ls st0) rest (vp_Si post a) (fun _ => False))
    (kk : ∀ r : Int32, post r → W p l e R s m args below meth c H locs cells slots Q (F0 m (pc + 3) ls (.int r :: rest))) : W p l e R s m args below meth c H locs cells slots Q (F0 m pc ls st0) := by
  intro T hT X
  obtain ⟨v, st₀, t, T', L, h0, X', hL, e1, e2, ⟨r, hv, hp, hh⟩, st⟩ := hr T hT X
  cases hv
  obtain ⟨t2, a1, b1⟩ := kk r hp T' (by rw [e1, hh, h0]) (Stand.forget X' (fun q h => (hL q h).elim))
  exact ⟨t2, st t2 a1, b1⟩
/-- a call of a method of an object that only reads -/
theorem pcV {v : Int32} {ci : Nat} {fs : List Value} {qc : vw_C} (S : CallFix p m c cc nL s args Ts own) (hM : Met l y wy rm (pPc G cI cQ (.ref b :: As) wc) (vp_Si (fun r => r = v)) 0 0 (fun _ => False)) (cw : CallW R s args own C index y bytes maxL ret wy rm 0 0 n)
    (hK : SF G cI cQ s) (hP : va_P G vwCl ws H) (isC : List Nat) (hC : isC.filterMap (fun i => ws[i]?) = wc) (q0 : Nat) (he : ws[q0]? = some (b, .inr (ci, fs))) (hc : vwCl[ci]? = some qc) (hqc : qc.1 = C)
    (hn : As.length = n) (hsize : ls.size = nL) (hst : st0 = As.reverse ++ .ref b :: rest) (hW : (rest.map fun v => v.category).sum ≤ 8) (hdg : decode cc pc = .ok (.invokevirtual index, 3)) (hf : cells ≤ R.cells ∧ slots ≤ R.slots)
    (kk : W p l e R s m args below meth c H locs cells slots Q (F0 m (pc + 3) ls (.int v :: rest))) : W p l e R s m args below meth c H locs cells slots Q (F0 m pc ls st0) := by
  subst hqc
  exact va_callSi (va_runV (g := F0 m pc ls st0) S hM cw ⟨pPc.blind, va_recv hK.1 hP hc he, fun U hU hW => ⟨rfl, by rw [hU]; exact hP.sub isC hC, SF.warm hW hK⟩⟩ rfl hn hsize hst (by show 2 * 0 + _ ≤ 8; omega) hdg hf) (fun r hr => by subst hr; exact kk)
/-- the same, of a static method of the own class -/
theorem pcS {v : Int32} (S : CallFix p m c cc nL s args Ts own) (hM : Met l y wy rm (pPc G cI cQ As wc) (vp_Si (fun r => r = v)) 0 0 (fun _ => False)) (cw : CallB R s args own index y bytes maxL ret wy rm 0 0 n ∧ (Cond.static y).before args s = true)
    (hK : SF G cI cQ s) (hP : va_P G vwCl ws H) (isC : List Nat) (hC : isC.filterMap (fun i => ws[i]?) = wc)
    (hn : As.length = n) (hsize : ls.size = nL) (hst : st0 = As.reverse ++ rest) (hW : (rest.map fun v => v.category).sum ≤ 8) (hdg : decode cc pc = .ok (.invokestatic index, 3)) (hf : cells ≤ R.cells ∧ slots ≤ R.slots)
    (kk : W p l e R s m args below meth c H locs cells slots Q (F0 m (pc + 3) ls (.int v :: rest))) : W p l e R s m args below meth c H locs cells slots Q (F0 m pc ls st0) :=
  va_callSi (va_runS (g := F0 m pc ls st0) S hM cw ⟨pPc.blind, fun U hU hW => ⟨rfl, by rw [hU]; exact hP.sub isC hC, SF.warm hW hK⟩⟩ rfl hn hsize hst (by show 2 * 0 + _ ≤ 8; omega) hdg hf) (fun r hr => by subst hr; exact kk)
/-- the same, of a static method of a nest mate -/
theorem pcSN {v : Int32} (S : CallFix p m c cc nL s args Ts own) (hM : Met l y wy rm (pPc G cI cQ As wc) (vp_Si (fun r => r = v)) 0 0 (fun _ => False)) (cw : va_CN R s args own index y host bytes maxL ret wy rm 0 0 n ∧ (Cond.static y).before args s = true ∧ True)
    (hK : SF G cI cQ s) (hP : va_P G vwCl ws H) (isC : List Nat) (hC : isC.filterMap (fun i => ws[i]?) = wc)
    (hn : As.length = n) (hsize : ls.size = nL) (hst : st0 = As.reverse ++ rest) (hW : (rest.map fun v => v.category).sum ≤ 8) (hdg : decode cc pc = .ok (.invokestatic index, 3)) (hf : cells ≤ R.cells ∧ slots ≤ R.slots)
    (kk : W p l e R s m args below meth c H locs cells slots Q (F0 m (pc + 3) ls (.int v :: rest))) : W p l e R s m args below meth c H locs cells slots Q (F0 m pc ls st0) :=
  va_callSi (va_runSN (g := F0 m pc ls st0) S hM cw ⟨pPc.blind, fun U hU hW => ⟨rfl, by rw [hU]; exact hP.sub isC hC, SF.warm hW hK⟩⟩ rfl hn hsize hst (by show 2 * 0 + _ ≤ 8; omega) hdg hf) (fun r hr => by subst hr; exact kk)
/-- a call that writes, and answers a number: the callee's part of the world is wc, the rest wr; behind it (w1 u), its answer and its state told by post -/
theorem mcV {S0 : Type} {post : Int32 → S0 → Prop} {w1 : S0 → va_W} {ci : Nat} {fs : List Value} {qc : vw_C} (S : CallFix p m c cc nL s args Ts own) (hM : Met l y wy rm (mPc G cI cQ (.ref b :: As) wc H.size) (va_Qi post (mB G (va_A wc H.size) w1) (va_A wc H.size)) mc ms (va_A wc H.size)) (cw : CallW R s args own C index y bytes maxL ret wy rm mc ms n)
    (hK : SF G cI cQ s) (hP : va_P G vwCl ws H) (hD : va_D A0 ws) (hS : va_S A0 H0 H locs) (hA : ∀ q, H0.size ≤ q → A0 q) (isC isR : List Nat) (hC : isC.map (fun i => ws[i]?) = wc.map some) (hR : isR.map (fun i => ws[i]?) = wr.map some) (hnC : va_nd isC = true) (hnR : va_nd isR = true) (hdis : ∀ i ∈ isR, i ∉ isC)
    (q0 : Nat) (he : ws[q0]? = some (b, .inr (ci, fs))) (hc : vwCl[ci]? = some qc) (hqc : qc.1 = C)
    (hn : As.length = n) (hsize : ls.size = nL) (hst : st0 = As.reverse ++ .ref b :: rest) (hW : (rest.map fun v => v.category).sum ≤ 8) (hdg : decode cc pc = .ok (.invokevirtual index, 3)) (hf : cells + mc ≤ R.cells ∧ slots + ms ≤ R.slots)
    (kk : ∀ (r : Int32) (u : S0) (H1 : Heap) (locs1 : List Loc), post r u → va_P G vwCl (wr ++ w1 u) H1 → va_D A0 (wr ++ w1 u) → va_S A0 H0 H1 locs1 → W p l e R s m args below meth c H1 locs1 (cells + mc) (slots + ms) Q (F0 m (pc + 3) ls (.int r :: rest))) : W p l e R s m args below meth c H locs cells slots Q (F0 m pc ls st0) := by
  subst hqc
  have hC2 : isC.filterMap (fun i => ws[i]?) = wc := sub_of_map hC
  have hPc := hP.sub isC hC2
  have hDc := hD.sub isC hnC hC
  have hFc := va_free (wc := wc) hD hS hA isC hC
  exact va_calli (va_runV (g := F0 m pc ls st0) S hM cw ⟨mPc.blind, va_recv hK.1 hP hc he, fun U hU hW => ⟨rfl, by rw [hU], by rw [hU]; exact hPc, SF.warm hW hK, hDc.weaken (fun _ _ _ _ => trivial)⟩⟩ rfl hn hsize hst (by show 2 * 0 + _ ≤ 8; omega) hdg hf) hS (fun q _ h => hFc q h) hFc
    (fun r u t H1 locs1 ht hvm hw hB hz1 hk1 hS1 => by
      obtain ⟨hP1, hD1⟩ := hB
      rw [ht] at hP1
      obtain ⟨hP2, hD2⟩ := va_join (wr := wr) (w1 := w1 u) hP hD isC isR hC hR hnR hdis hk1 hFc hP1 hD1
      exact kk r u H1 locs1 hw hP2 hD2 hS1)
theorem mcVv {S0 : Type} {post : S0 → Prop} {w1 : S0 → va_W} {ci : Nat} {fs : List Value} {qc : vw_C} (S : CallFix p m c cc nL s args Ts own) (hM : Met l y wy rm (mPc G cI cQ (.ref b :: As) wc H.size) (va_Qv post (mB G (va_A wc H.size) w1) (va_A wc H.size)) mc ms (va_A wc H.size)) (cw : CallW R s args own C index y bytes maxL ret wy rm mc ms n)
    (hK : SF G cI cQ s) (hP : va_P G vwCl ws H) (hD : va_D A0 ws) (hS : va_S A0 H0 H locs) (hA : ∀ q, H0.size ≤ q → A0 q) (isC isR : List Nat) (hC : isC.map (fun i => ws[i]?) = wc.map some) (hR : isR.map (fun i => ws[i]?) = wr.map some) (hnC : va_nd isC = true) (hnR : va_nd isR = true) (hdis : ∀ i ∈ isR, i ∉ isC)
    (q0 : Nat) (he : ws[q0]? = some (b, .inr (ci, fs))) (hc : vwCl[ci]? = some qc) (hqc : qc.1 = C)
    (hn : As.length = n) (hsize : ls.size = nL) (hst : st0 = As.reverse ++ .ref b :: rest) (hW : (rest.map fun v => v.category).sum ≤ 8) (hdg : decode cc pc = .ok (.invokevirtual index, 3)) (hf : cells + mc ≤ R.cells ∧ slots + ms ≤ R.slots)
    (kk : ∀ (u : S0) (H1 : Heap) (locs1 : List Loc), post u → va_P G vwCl (wr ++ w1 u) H1 → va_D A0 (wr ++ w1 u) → va_S A0 H0 H1 locs1 → W p l e R s m args below meth c H1 locs1 (cells + mc) (slots + ms) Q (F0 m (pc + 3) ls rest)) : W p l e R s m args below meth c H locs cells slots Q (F0 m pc ls st0) := by
  subst hqc
  have hC2 : isC.filterMap (fun i => ws[i]?) = wc := sub_of_map hC
  have hPc := hP.sub isC hC2
  have hDc := hD.sub isC hnC hC
  have hFc := va_free (wc := wc) hD hS hA isC hC
  exact va_callv (va_runV (g := F0 m pc ls st0) S hM cw ⟨mPc.blind, va_recv hK.1 hP hc he, fun U hU hW => ⟨rfl, by rw [hU], by rw [hU]; exact hPc, SF.warm hW hK, hDc.weaken (fun _ _ _ _ => trivial)⟩⟩ rfl hn hsize hst (by show 2 * 0 + _ ≤ 8; omega) hdg hf) hS (fun q _ h => hFc q h) hFc
    (fun u t H1 locs1 ht hvm hw hB hz1 hk1 hS1 => by
      obtain ⟨hP1, hD1⟩ := hB
      rw [ht] at hP1
      obtain ⟨hP2, hD2⟩ := va_join (wr := wr) (w1 := w1 u) hP hD isC isR hC hR hnR hdis hk1 hFc hP1 hD1
      exact kk u H1 locs1 hw hP2 hD2 hS1)
/-- a static method of a nest mate that writes and answers nothing -/
theorem mcSNv {S0 : Type} {post : S0 → Prop} {w1 : S0 → va_W} (S : CallFix p m c cc nL s args Ts own) (hM : Met l y wy rm (mPc G cI cQ As wc H.size) (va_Qv post (mB G (va_A wc H.size) w1) (va_A wc H.size)) mc ms (va_A wc H.size)) (cw : va_CN R s args own index y host bytes maxL ret wy rm mc ms n ∧ (Cond.static y).before args s = true ∧ True)
    (hK : SF G cI cQ s) (hP : va_P G vwCl ws H) (hD : va_D A0 ws) (hS : va_S A0 H0 H locs) (hA : ∀ q, H0.size ≤ q → A0 q) (isC isR : List Nat) (hC : isC.map (fun i => ws[i]?) = wc.map some) (hR : isR.map (fun i => ws[i]?) = wr.map some) (hnC : va_nd isC = true) (hnR : va_nd isR = true) (hdis : ∀ i ∈ isR, i ∉ isC)
    (hn : As.length = n) (hsize : ls.size = nL) (hst : st0 = As.reverse ++ rest) (hW : (rest.map fun v => v.category).sum ≤ 8) (hdg : decode cc pc = .ok (.invokestatic index, 3)) (hf : cells + mc ≤ R.cells ∧ slots + ms ≤ R.slots)
    (kk : ∀ (u : S0) (H1 : Heap) (locs1 : List Loc), post u → va_P G vwCl (wr ++ w1 u) H1 → va_D A0 (wr ++ w1 u) → va_S A0 H0 H1 locs1 → W p l e R s m args below meth c H1 locs1 (cells + mc) (slots + ms) Q (F0 m (pc + 3) ls rest)) : W p l e R s m args below meth c H locs cells slots Q (F0 m pc ls st0) := by
  have hC2 : isC.filterMap (fun i => ws[i]?) = wc := sub_of_map hC
  have hPc := hP.sub isC hC2
  have hDc := hD.sub isC hnC hC
  have hFc := va_free (wc := wc) hD hS hA isC hC
  exact va_callv (va_runSN (g := F0 m pc ls st0) S hM cw ⟨mPc.blind, fun U hU hW => ⟨rfl, by rw [hU], by rw [hU]; exact hPc, SF.warm hW hK, hDc.weaken (fun _ _ _ _ => trivial)⟩⟩ rfl hn hsize hst (by show 2 * 0 + _ ≤ 8; omega) hdg hf) hS (fun q _ h => hFc q h) hFc
    (fun u t H1 locs1 ht hvm hw hB hz1 hk1 hS1 => by
      obtain ⟨hP1, hD1⟩ := hB
      rw [ht] at hP1
      obtain ⟨hP2, hD2⟩ := va_join (wr := wr) (w1 := w1 u) hP hD isC isR hC hR hnR hdis hk1 hFc hP1 hD1
      exact kk u H1 locs1 hw hP2 hD2 hS1)
theorem p_ret {w v : Int32} {ty : FieldType} (hx : p.tables.exec = Jvm.exec) (hb : c.code = cc) (hr : meth.sig.returnType = some ty) (hlocks : meth.locks = false) (hn : narrow ty (.int v) = .int v) (hv : v = w) (hdg : decode cc pc = .ok (.ireturn, 1)) : W p l e R s m args below meth c s.heap [] 0 0 (MQ below (vp_Si (fun r => r = w)) args s 0 0 (fun _ => False)) (F0 m pc ls [.int v]) :=
  W.zret hx hb hr hn (fun t ht _ => ⟨v, rfl, hv, ht⟩) (fun q h => by cases h) hdg hlocks
theorem m_ret {S0 : Type} {post : Int32 → S0 → Prop} {w1 : S0 → va_W} {A : Nat → Prop} {ty : FieldType} {v : Int32} (u : S0) (hx : p.tables.exec = Jvm.exec) (hb : c.code = cc) (hr : meth.sig.returnType = some ty) (hlocks : meth.locks = false) (hn : narrow ty (.int v) = .int v) (hp : post v u) (hP : va_P G vwCl (w1 u) H) (hD : va_D A (w1 u)) (hS : va_S A s.heap H locs) (hdg : decode cc pc = .ok (.ireturn, 1)) : W p l e R s m args below meth c H locs mc ms (MQ below (va_Qi post (mB G A w1) A) args s mc ms A) (F0 m pc ls [.int v]) :=
  W.zret hx hb hr hn (fun t ht _ => ⟨⟨v, u, rfl, hp, by rw [ht]; exact hP, hD⟩, hS.F ht⟩) hS.2.2 hdg hlocks
theorem m_vret {S0 : Type} {post : S0 → Prop} {w1 : S0 → va_W} {A : Nat → Prop} (u : S0) (hx : p.tables.exec = Jvm.exec) (hb : c.code = cc) (hr : meth.sig.returnType = none) (hlocks : meth.locks = false) (hp : post u) (hP : va_P G vwCl (w1 u) H) (hD : va_D A (w1 u)) (hS : va_S A s.heap H locs) (hdg : decode cc pc = .ok (.return_, 1)) : W p l e R s m args below meth c H locs mc ms (MQ below (va_Qv post (mB G A w1) A) args s mc ms A) (F0 m pc ls []) :=
  W.vret hx hb hr (fun t ht _ => ⟨⟨u, rfl, hp, by rw [ht]; exact hP, hD⟩, hS.F ht⟩) hS.2.2 hdg hlocks
end CALLS
section BODIES
variable {l : Launch} {y : MethodName} {wy ws' : List Cond} {cc : ByteArray} {maxL mc ms sz : Nat} {ret : Option FieldType} {rm : Room} {av : List Value} {wc : va_W} {lv : List (Nat × Value)} {G : va_G} {cI cQ : ClassId} {own : String}
theorem pm_of {post : Int32 → Prop} (hy : plainName y.cls = true) (hw : wy = Cond.code y cc maxL ret :: ws') (ho : y.cls = own) (hn : (lg_sl av).length ≤ maxL) (hlv : lv_args 0 av = lv)
    (body : ∀ (p : Program) (e : Env) (s : State) (m : MethodId) (below : List Frame) (meth : Method) (c : Code) (ls : Array Slot), p.tables.exec = Jvm.exec → c.code = cc → meth.sig.returnType = ret → (∀ w ∈ wy, w.before av.toArray s = true) → s.vm.findClass own = some m.cls → meth.locks = false → c.maxLocals = maxL → SF G cI cQ s → va_P G vwCl wc s.heap → lv_has ls maxL lv →
      W p l e rm s m av.toArray below meth c s.heap [] 0 0 (MQ below (vp_Si post) av.toArray s 0 0 (fun _ => False)) (F0 m 0 ls [])) : Met l y wy rm (pPc G cI cQ av wc) (vp_Si post) 0 0 (fun _ => False) := by
  refine Met.ofW (cc := cc) (maxL := maxL) (ret := ret) hy hw ?_
  intro p e s m args below meth c s₁ B hml hv
  obtain ⟨rfl, hP, hK⟩ := hv
  rw [lg_entry_eq]
  subst hlv; subst ho
  exact body p e s m below meth c _ B.exec B.bytes B.returns (atoms_spec (ws := wy) B.pre) (findClass_of_methodNamed B.named) B.notSynchronized hml hK hP (lv_entry av hn)
theorem mm_of {S0 : Type} {post : Int32 → S0 → Prop} {w1 : S0 → va_W} (hy : plainName y.cls = true) (hw : wy = Cond.code y cc maxL ret :: ws') (ho : y.cls = own) (hn : (lg_sl av).length ≤ maxL) (hlv : lv_args 0 av = lv)
    (body : ∀ (p : Program) (e : Env) (s : State) (m : MethodId) (below : List Frame) (meth : Method) (c : Code) (ls : Array Slot) (A : Nat → Prop), p.tables.exec = Jvm.exec → c.code = cc → meth.sig.returnType = ret → (∀ w ∈ wy, w.before av.toArray s = true) → s.vm.findClass own = some m.cls → meth.locks = false → c.maxLocals = maxL → (∀ q, s.heap.size ≤ q → A q) → SF G cI cQ s → va_P G vwCl wc s.heap → va_D A wc → va_S A s.heap s.heap [] → lv_has ls maxL lv →
      W p l e rm s m av.toArray below meth c s.heap [] 0 0 (MQ below (va_Qi post (mB G A w1) A) av.toArray s mc ms A) (F0 m 0 ls [])) : Met l y wy rm (mPc G cI cQ av wc sz) (va_Qi post (mB G (va_A wc sz) w1) (va_A wc sz)) mc ms (va_A wc sz) := by
  refine Met.ofW (cc := cc) (maxL := maxL) (ret := ret) hy hw ?_
  intro p e s m args below meth c s₁ B hml hv
  obtain ⟨rfl, hz, hP, hK, hD0⟩ := hv
  rw [lg_entry_eq]
  subst hlv; subst ho; subst hz
  exact body p e s m below meth c _ _ B.exec B.bytes B.returns (atoms_spec (ws := wy) B.pre) (findClass_of_methodNamed B.named) B.notSynchronized hml (fun q h => Or.inr h) hK hP (hD0.self (sz := s.heap.size)) va_S.rf (lv_entry av hn)
theorem mm_ofv {S0 : Type} {post : S0 → Prop} {w1 : S0 → va_W} (hy : plainName y.cls = true) (hw : wy = Cond.code y cc maxL ret :: ws') (ho : y.cls = own) (hn : (lg_sl av).length ≤ maxL) (hlv : lv_args 0 av = lv)
    (body : ∀ (p : Program) (e : Env) (s : State) (m : MethodId) (below : List Frame) (meth : Method) (c : Code) (ls : Array Slot) (A : Nat → Prop), p.tables.exec = Jvm.exec → c.code = cc → meth.sig.returnType = ret → (∀ w ∈ wy, w.before av.toArray s = true) → s.vm.findClass own = some m.cls → meth.locks = false → c.maxLocals = maxL → (∀ q, s.heap.size ≤ q → A q) → SF G cI cQ s → va_P G vwCl wc s.heap → va_D A wc → va_S A s.heap s.heap [] → lv_has ls maxL lv →
      W p l e rm s m av.toArray below meth c s.heap [] 0 0 (MQ below (va_Qv post (mB G A w1) A) av.toArray s mc ms A) (F0 m 0 ls [])) : Met l y wy rm (mPc G cI cQ av wc sz) (va_Qv post (mB G (va_A wc sz) w1) (va_A wc sz)) mc ms (va_A wc sz) := by
  refine Met.ofW (cc := cc) (maxL := maxL) (ret := ret) hy hw ?_
  intro p e s m args below meth c s₁ B hml hv
  obtain ⟨rfl, hz, hP, hK, hD0⟩ := hv
  rw [lg_entry_eq]
  subst hlv; subst ho; subst hz
  exact body p e s m below meth c _ _ B.exec B.bytes B.returns (atoms_spec (ws := wy) B.pre) (findClass_of_methodNamed B.named) B.notSynchronized hml (fun q h => Or.inr h) hK hP (hD0.self (sz := s.heap.size)) va_S.rf (lv_entry av hn)
end BODIES
end
section
theorem i_vc : Claimed_1_1 ∧ Claimed_1_2 := sorry
end
