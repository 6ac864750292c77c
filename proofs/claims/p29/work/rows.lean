section
-- ===== PART A: goes FIRST, ahead of the names: the tables' words, and 'selects' of the private methods out of them =====
/-- a private method of a class that the tables say can be made, by its rows of tables_1 -/
def lw_okq (q : MethodName × Nat) : Prop := (q.1.cls ≠ "java/lang/invoke/MethodHandle" ∧ q.1.cls ≠ "java/lang/invoke/VarHandle") ∧ Cond.instantiable q.1.cls q.2 ∈ tables_1 ∧ Cond.privateMethod q.1 ∈ tables_1 ∧ Cond.instanceMethod q.1 ∈ tables_1
theorem lw_p0 : lw_okq (⟨"LotFences$History", "dropOldest", "()V"⟩, 3) := ⟨⟨by decide +kernel, by decide +kernel⟩, List.mem_of_getElem? (i := 180) (by decide +kernel), List.mem_of_getElem? (i := 302) (by decide +kernel), List.mem_of_getElem? (i := 303) (by decide +kernel)⟩
theorem lw_p1 : lw_okq (⟨"LotFences$Works", "openPlans", "()V"⟩, 10) := ⟨⟨by decide +kernel, by decide +kernel⟩, List.mem_of_getElem? (i := 19) (by decide +kernel), List.mem_of_getElem? (i := 384) (by decide +kernel), List.mem_of_getElem? (i := 385) (by decide +kernel)⟩
theorem lw_p2 : lw_okq (⟨"LotFences$Works", "planWeek", "(I)V"⟩, 10) := ⟨⟨by decide +kernel, by decide +kernel⟩, List.mem_of_getElem? (i := 19) (by decide +kernel), List.mem_of_getElem? (i := 399) (by decide +kernel), List.mem_of_getElem? (i := 400) (by decide +kernel)⟩
theorem lw_p3 : lw_okq (⟨"LotFences$Works", "nextWaiting", "()LLotFences$Product;"⟩, 10) := ⟨⟨by decide +kernel, by decide +kernel⟩, List.mem_of_getElem? (i := 19) (by decide +kernel), List.mem_of_getElem? (i := 409) (by decide +kernel), List.mem_of_getElem? (i := 410) (by decide +kernel)⟩
theorem lw_p4 : lw_okq (⟨"LotFences$Works", "giveLots", "(LLotFences$Product;I)V"⟩, 10) := ⟨⟨by decide +kernel, by decide +kernel⟩, List.mem_of_getElem? (i := 19) (by decide +kernel), List.mem_of_getElem? (i := 413) (by decide +kernel), List.mem_of_getElem? (i := 414) (by decide +kernel)⟩
theorem lw_p5 : lw_okq (⟨"LotFences$Works", "isShort", "()Z"⟩, 10) := ⟨⟨by decide +kernel, by decide +kernel⟩, List.mem_of_getElem? (i := 19) (by decide +kernel), List.mem_of_getElem? (i := 521) (by decide +kernel), List.mem_of_getElem? (i := 522) (by decide +kernel)⟩
def lw_privs_1 : List (MethodName × Nat) := [(⟨"LotFences$History", "dropOldest", "()V"⟩, 3), (⟨"LotFences$Works", "openPlans", "()V"⟩, 10), (⟨"LotFences$Works", "planWeek", "(I)V"⟩, 10), (⟨"LotFences$Works", "nextWaiting", "()LLotFences$Product;"⟩, 10), (⟨"LotFences$Works", "giveLots", "(LLotFences$Product;I)V"⟩, 10), (⟨"LotFences$Works", "isShort", "()Z"⟩, 10)]
theorem lw_r1 : ∀ q ∈ lw_privs_1, lw_okq q := List.forall_mem_cons.mpr ⟨lw_p0, List.forall_mem_cons.mpr ⟨lw_p1, List.forall_mem_cons.mpr ⟨lw_p2, List.forall_mem_cons.mpr ⟨lw_p3, List.forall_mem_cons.mpr ⟨lw_p4, List.forall_mem_cons.mpr ⟨lw_p5, fun _ h => absurd h List.not_mem_nil⟩⟩⟩⟩⟩⟩
def lw_privs : List (MethodName × Nat) := lw_privs_1
def lw_tbl : List Cond := k2_sels lw_privs ++ tables_1
theorem lw_privs_ok : ∀ q ∈ lw_privs, lw_okq q := lw_r1
/-! ===== BEGIN words of one list among another's, by their places ===== -/
theorem goodIn_r {big : List Cond} (ws : List Cond) (ps : List Nat) (hp : ws = ps.filterMap (fun i => big[i]?)) (h : ws.all goodWord = true) : GoodIn big ws := by
  intro w hw
  have h1 := List.all_eq_true.mp h w hw
  rw [hp] at hw
  obtain ⟨i, -, hi⟩ := List.mem_filterMap.mp hw
  have hm : w ∈ big := by first | exact List.mem_of_getElem? hi | exact List.getElem?_mem hi
  exact ⟨hm, good_of_word h1⟩
theorem goodIn_app {big a b : List Cond} (ha : GoodIn big a) (hb : GoodIn big b) : GoodIn big (a ++ b) := fun w h => (List.mem_append.mp h).elim (ha w) (hb w)
theorem goodIn_ca {big a b : List Cond} {c : Cond} (ha : GoodIn big (c :: a)) (hb : GoodIn big b) : GoodIn big (c :: (a ++ b)) := fun w h => (List.mem_cons.mp h).elim (fun e => ha w (List.mem_cons.mpr (Or.inl e))) (fun h => (List.mem_append.mp h).elim (fun h => ha w (List.mem_cons.mpr (Or.inr h))) (hb w))
theorem goodIn_sub {big ws : List Cond} (hm : ∀ w ∈ ws, w ∈ big) (h : ws.all goodWord = true) : GoodIn big ws := fun w hw => ⟨hm w hw, good_of_word (List.all_eq_true.mp h w hw)⟩
/-! ===== END ===== -/

/-! ===== BEGIN printed: names, fields, word lists, decode rows ===== -/
def RX0 : String := "LotFences$History"
def TX0 : u_T := fun k => match k with
  | 0 => ("LotFences$History", "states", "[LLotFences$Works;", true)
  | 1 => ("LotFences$History", "size", "I", false)
  | _ => ("LotFences$History", "paused", "Z", false)
def tyX0 : Nat → FieldType := fun k => match k with
  | 0 => .array (.object "LotFences$Works")
  | 1 => .int
  | _ => .boolean
abbrev wsX00 : List Cond := u_ws RX0 TX0 3
theorem nmX0 : ∀ a, a < 3 → ∀ b, b < 3 → a ≠ b → (TX0 a).2.1 ≠ (TX0 b).2.1 := by decide +kernel
theorem tyX0_ok : ∀ k, k < 3 → parseFieldDescriptor (TX0 k).2.2.1 = some (tyX0 k) := by decide +kernel
abbrev cX0_init : ByteArray := prog_2_method_1_code
def yX0_init : MethodName := ⟨RX0, "<init>", "()V"⟩
abbrev cX0_remember : ByteArray := prog_2_method_2_code
def yX0_remember : MethodName := ⟨RX0, "remember", "(LLotFences$Works;)V"⟩
abbrev cX0_takeBack : ByteArray := prog_2_method_3_code
def yX0_takeBack : MethodName := ⟨RX0, "takeBack", "(LLotFences$Works;)V"⟩
abbrev cX0_dropOldest : ByteArray := prog_2_method_4_code
def yX0_dropOldest : MethodName := ⟨RX0, "dropOldest", "()V"⟩
def RX1 : String := "LotFences$Pad"
def TX1 : u_T := fun k => match k with
  | 0 => ("LotFences$Pad", "signs", "[C", true)
  | 1 => ("LotFences$Pad", "length", "I", false)
  | 2 => ("LotFences$Pad", "place", "I", false)
  | 3 => ("LotFences$Pad", "kind", "C", false)
  | 4 => ("LotFences$Pad", "product", "I", false)
  | 5 => ("LotFences$Pad", "week", "I", false)
  | _ => ("LotFences$Pad", "number", "I", false)
def tyX1 : Nat → FieldType := fun k => match k with
  | 0 => .array .char
  | 1 => .int
  | 2 => .int
  | 3 => .char
  | 4 => .int
  | 5 => .int
  | _ => .int
abbrev wsX10 : List Cond := u_ws RX1 TX1 7
theorem nmX1 : ∀ a, a < 7 → ∀ b, b < 7 → a ≠ b → (TX1 a).2.1 ≠ (TX1 b).2.1 := by decide +kernel
theorem tyX1_ok : ∀ k, k < 7 → parseFieldDescriptor (TX1 k).2.2.1 = some (tyX1 k) := by decide +kernel
abbrev cX1_init : ByteArray := prog_3_method_1_code
def yX1_init : MethodName := ⟨RX1, "<init>", "()V"⟩
def RX2 : String := "LotFences$Product"
def TX2 : u_T := fun k => match k with
  | 0 => ("LotFences$Product", "family", "I", false)
  | 1 => ("LotFences$Product", "lotSize", "I", false)
  | 2 => ("LotFences$Product", "lotHours", "I", false)
  | 3 => ("LotFences$Product", "setupHours", "I", false)
  | 4 => ("LotFences$Product", "began", "I", false)
  | 5 => ("LotFences$Product", "stock", "I", false)
  | 6 => ("LotFences$Product", "backlog", "I", false)
  | 7 => ("LotFences$Product", "error", "I", false)
  | 8 => ("LotFences$Product", "told", "I", false)
  | 9 => ("LotFences$Product", "made", "I", false)
  | 10 => ("LotFences$Product", "shipped", "I", false)
  | 11 => ("LotFences$Product", "came", "I", false)
  | 12 => ("LotFences$Product", "forecasts", "[I", true)
  | 13 => ("LotFences$Product", "lots", "[I", true)
  | 14 => ("LotFences$Product", "behind", "J", false)
  | 15 => ("LotFences$Product", "aim", "I", false)
  | _ => ("LotFences$Product", "waiting", "Z", false)
def tyX2 : Nat → FieldType := fun k => match k with
  | 0 => .int
  | 1 => .int
  | 2 => .int
  | 3 => .int
  | 4 => .int
  | 5 => .int
  | 6 => .int
  | 7 => .int
  | 8 => .int
  | 9 => .int
  | 10 => .int
  | 11 => .int
  | 12 => .array .int
  | 13 => .array .int
  | 14 => .long
  | 15 => .int
  | _ => .boolean
abbrev wsX20 : List Cond := u_ws RX2 TX2 17
theorem nmX2 : ∀ a, a < 17 → ∀ b, b < 17 → a ≠ b → (TX2 a).2.1 ≠ (TX2 b).2.1 := by decide +kernel
theorem tyX2_ok : ∀ k, k < 17 → parseFieldDescriptor (TX2 k).2.2.1 = some (tyX2 k) := by decide +kernel
abbrev cX2_init : ByteArray := prog_4_method_1_code
def yX2_init : MethodName := ⟨RX2, "<init>", "()V"⟩
abbrev cX2_begin : ByteArray := prog_4_method_2_code
def yX2_begin : MethodName := ⟨RX2, "begin", "(IIIII)V"⟩
abbrev cX2_copyFrom : ByteArray := prog_4_method_3_code
def yX2_copyFrom : MethodName := ⟨RX2, "copyFrom", "(LLotFences$Product;)V"⟩
abbrev cX2_cover : ByteArray := prog_4_method_4_code
def yX2_cover : MethodName := ⟨RX2, "cover", "(I)I"⟩
abbrev cX2_lotsIn : ByteArray := prog_4_method_5_code
def yX2_lotsIn : MethodName := ⟨RX2, "lotsIn", "(I)I"⟩
abbrev cX2_lotsInAll : ByteArray := prog_4_method_6_code
def yX2_lotsInAll : MethodName := ⟨RX2, "lotsInAll", "()I"⟩
abbrev cX2_projectionBehind : ByteArray := prog_4_method_7_code
def yX2_projectionBehind : MethodName := ⟨RX2, "projectionBehind", "(I)J"⟩
abbrev cX2_openPlan : ByteArray := prog_4_method_8_code
def yX2_openPlan : MethodName := ⟨RX2, "openPlan", "(I)V"⟩
abbrev cX2_enterWeek : ByteArray := prog_4_method_9_code
def yX2_enterWeek : MethodName := ⟨RX2, "enterWeek", "(II)V"⟩
abbrev cX2_lotsWanted : ByteArray := prog_4_method_10_code
def yX2_lotsWanted : MethodName := ⟨RX2, "lotsWanted", "(II)J"⟩
abbrev cX2_planLots : ByteArray := prog_4_method_11_code
def yX2_planLots : MethodName := ⟨RX2, "planLots", "(II)V"⟩
abbrev cX2_passWeek : ByteArray := prog_4_method_12_code
def yX2_passWeek : MethodName := ⟨RX2, "passWeek", "()V"⟩
def RX3 : String := "LotFences$Works"
def TX3 : u_T := fun k => match k with
  | 0 => ("LotFences$Works", "settings", "[I", true)
  | 1 => ("LotFences$Works", "familyHours", "[I", true)
  | 2 => ("LotFences$Works", "items", "[LLotFences$Product;", true)
  | 3 => ("LotFences$Works", "products", "I", false)
  | 4 => ("LotFences$Works", "weeksPassed", "I", false)
  | 5 => ("LotFences$Works", "setupsSoFar", "J", false)
  | 6 => ("LotFences$Works", "overtimeSoFar", "J", false)
  | 7 => ("LotFences$Works", "costsSoFar", "J", false)
  | 8 => ("LotFences$Works", "hoursLeft", "I", false)
  | _ => ("LotFences$Works", "familiesSetUp", "I", false)
def tyX3 : Nat → FieldType := fun k => match k with
  | 0 => .array .int
  | 1 => .array .int
  | 2 => .array (.object "LotFences$Product")
  | 3 => .int
  | 4 => .int
  | 5 => .long
  | 6 => .long
  | 7 => .long
  | 8 => .int
  | _ => .int
abbrev wsX30 : List Cond := u_ws RX3 TX3 10
theorem nmX3 : ∀ a, a < 10 → ∀ b, b < 10 → a ≠ b → (TX3 a).2.1 ≠ (TX3 b).2.1 := by decide +kernel
theorem tyX3_ok : ∀ k, k < 10 → parseFieldDescriptor (TX3 k).2.2.1 = some (tyX3 k) := by decide +kernel
abbrev cX3_init : ByteArray := prog_5_method_1_code
def yX3_init : MethodName := ⟨RX3, "<init>", "()V"⟩
abbrev cX3_copyFrom : ByteArray := prog_5_method_2_code
def yX3_copyFrom : MethodName := ⟨RX3, "copyFrom", "(LLotFences$Works;)V"⟩
abbrev cX3_productAt : ByteArray := prog_5_method_3_code
def yX3_productAt : MethodName := ⟨RX3, "productAt", "(I)LLotFences$Product;"⟩
abbrev cX3_spareProduct : ByteArray := prog_5_method_4_code
def yX3_spareProduct : MethodName := ⟨RX3, "spareProduct", "()LLotFences$Product;"⟩
abbrev cX3_setting : ByteArray := prog_5_method_5_code
def yX3_setting : MethodName := ⟨RX3, "setting", "(I)I"⟩
abbrev cX3_changeSetting : ByteArray := prog_5_method_6_code
def yX3_changeSetting : MethodName := ⟨RX3, "changeSetting", "(II)V"⟩
abbrev cX3_capacity : ByteArray := prog_5_method_7_code
def yX3_capacity : MethodName := ⟨RX3, "capacity", "()I"⟩
abbrev cX3_isFrozen : ByteArray := prog_5_method_8_code
def yX3_isFrozen : MethodName := ⟨RX3, "isFrozen", "(I)Z"⟩
abbrev cX3_hoursIn : ByteArray := prog_5_method_9_code
def yX3_hoursIn : MethodName := ⟨RX3, "hoursIn", "(I)I"⟩
abbrev cX3_hoursWith : ByteArray := prog_5_method_10_code
def yX3_hoursWith : MethodName := ⟨RX3, "hoursWith", "(ILLotFences$Product;I)I"⟩
abbrev cX3_familiesIn : ByteArray := prog_5_method_11_code
def yX3_familiesIn : MethodName := ⟨RX3, "familiesIn", "(I)I"⟩
abbrev cX3_setupsIn : ByteArray := prog_5_method_12_code
def yX3_setupsIn : MethodName := ⟨RX3, "setupsIn", "(I)I"⟩
abbrev cX3_overtimeIn : ByteArray := prog_5_method_13_code
def yX3_overtimeIn : MethodName := ⟨RX3, "overtimeIn", "(I)I"⟩
abbrev cX3_allLots : ByteArray := prog_5_method_14_code
def yX3_allLots : MethodName := ⟨RX3, "allLots", "()I"⟩
abbrev cX3_allStock : ByteArray := prog_5_method_15_code
def yX3_allStock : MethodName := ⟨RX3, "allStock", "()J"⟩
abbrev cX3_allBacklog : ByteArray := prog_5_method_16_code
def yX3_allBacklog : MethodName := ⟨RX3, "allBacklog", "()J"⟩
abbrev cX3_forgetTold : ByteArray := prog_5_method_17_code
def yX3_forgetTold : MethodName := ⟨RX3, "forgetTold", "()V"⟩
abbrev cX3_planAnew : ByteArray := prog_5_method_18_code
def yX3_planAnew : MethodName := ⟨RX3, "planAnew", "()V"⟩
abbrev cX3_plansWithoutShortage : ByteArray := prog_5_method_19_code
def yX3_plansWithoutShortage : MethodName := ⟨RX3, "plansWithoutShortage", "()Z"⟩
abbrev cX3_openPlans : ByteArray := prog_5_method_20_code
def yX3_openPlans : MethodName := ⟨RX3, "openPlans", "()V"⟩
abbrev cX3_planWeek : ByteArray := prog_5_method_21_code
def yX3_planWeek : MethodName := ⟨RX3, "planWeek", "(I)V"⟩
abbrev cX3_nextWaiting : ByteArray := prog_5_method_22_code
def yX3_nextWaiting : MethodName := ⟨RX3, "nextWaiting", "()LLotFences$Product;"⟩
abbrev cX3_giveLots : ByteArray := prog_5_method_23_code
def yX3_giveLots : MethodName := ⟨RX3, "giveLots", "(LLotFences$Product;I)V"⟩
abbrev cX3_isShort : ByteArray := prog_5_method_24_code
def yX3_isShort : MethodName := ⟨RX3, "isShort", "()Z"⟩
abbrev cX3_passWeek : ByteArray := prog_5_method_25_code
def yX3_passWeek : MethodName := ⟨RX3, "passWeek", "()V"⟩
def RX4 : String := "LotFences"
def TX4 : u_T := fun k => match k with
  | 0 => ("LotFences", "works", "LLotFences$Works;", true)
  | 1 => ("LotFences", "trial", "LLotFences$Works;", true)
  | 2 => ("LotFences", "pad", "LLotFences$Pad;", true)
  | 3 => ("LotFences", "history", "LLotFences$History;", true)
  | 4 => ("LotFences", "slots", "[LLotFences$Works;", true)
  | _ => ("LotFences", "saved", "[Z", true)
def tyX4 : Nat → FieldType := fun k => match k with
  | 0 => .object "LotFences$Works"
  | 1 => .object "LotFences$Works"
  | 2 => .object "LotFences$Pad"
  | 3 => .object "LotFences$History"
  | 4 => .array (.object "LotFences$Works")
  | _ => .array .boolean
abbrev wsX40 : List Cond := u_ws RX4 TX4 6
theorem nmX4 : ∀ a, a < 6 → ∀ b, b < 6 → a ≠ b → (TX4 a).2.1 ≠ (TX4 b).2.1 := by decide +kernel
theorem tyX4_ok : ∀ k, k < 6 → parseFieldDescriptor (TX4 k).2.2.1 = some (tyX4 k) := by decide +kernel
abbrev cX4_init : ByteArray := prog_1_method_1_code
def yX4_init : MethodName := ⟨RX4, "<init>", "()V"⟩
abbrev cX4_set : ByteArray := prog_1_method_2_code
def yX4_set : MethodName := ⟨RX4, "set", "(II)I"⟩
abbrev cX4_product : ByteArray := prog_1_method_3_code
def yX4_product : MethodName := ⟨RX4, "product", "(IIIII)I"⟩
abbrev cX4_family : ByteArray := prog_1_method_4_code
def yX4_family : MethodName := ⟨RX4, "family", "(II)I"⟩
abbrev cX4_forecast : ByteArray := prog_1_method_5_code
def yX4_forecast : MethodName := ⟨RX4, "forecast", "(III)I"⟩
abbrev cX4_actual : ByteArray := prog_1_method_6_code
def yX4_actual : MethodName := ⟨RX4, "actual", "(II)I"⟩
abbrev cX4_lots : ByteArray := prog_1_method_7_code
def yX4_lots : MethodName := ⟨RX4, "lots", "(III)I"⟩
abbrev cX4_plan : ByteArray := prog_1_method_8_code
def yX4_plan : MethodName := ⟨RX4, "plan", "()I"⟩
abbrev cX4_weeks : ByteArray := prog_1_method_9_code
def yX4_weeks : MethodName := ⟨RX4, "weeks", "(I)I"⟩
abbrev cX4_ofProduct : ByteArray := prog_1_method_10_code
def yX4_ofProduct : MethodName := ⟨RX4, "ofProduct", "(II)I"⟩
abbrev cX4_at : ByteArray := prog_1_method_11_code
def yX4_at : MethodName := ⟨RX4, "at", "(III)I"⟩
abbrev cX4_count : ByteArray := prog_1_method_14_code
def yX4_count : MethodName := ⟨RX4, "count", "(I)J"⟩
abbrev cX4_leastHours : ByteArray := prog_1_method_17_code
def yX4_leastHours : MethodName := ⟨RX4, "leastHours", "()I"⟩
abbrev cX4_costs : ByteArray := prog_1_method_18_code
def yX4_costs : MethodName := ⟨RX4, "costs", "(II)J"⟩
abbrev cX4_roomFor : ByteArray := prog_1_method_20_code
def yX4_roomFor : MethodName := ⟨RX4, "roomFor", "(II)I"⟩
abbrev cX4_undo : ByteArray := prog_1_method_25_code
def yX4_undo : MethodName := ⟨RX4, "undo", "()I"⟩
abbrev cX4_save : ByteArray := prog_1_method_26_code
def yX4_save : MethodName := ⟨RX4, "save", "(I)I"⟩
abbrev cX4_restore : ByteArray := prog_1_method_27_code
def yX4_restore : MethodName := ⟨RX4, "restore", "(I)I"⟩
abbrev cX4_isIn : ByteArray := prog_1_method_30_code
def yX4_isIn : MethodName := ⟨RX4, "isIn", "(III)Z"⟩
abbrev cX4_isWeek : ByteArray := prog_1_method_31_code
def yX4_isWeek : MethodName := ⟨RX4, "isWeek", "(I)Z"⟩
abbrev cX4_isFamily : ByteArray := prog_1_method_32_code
def yX4_isFamily : MethodName := ⟨RX4, "isFamily", "(I)Z"⟩
def RX5 : String := "LotFencesModel"
def TX5 : u_T := fun k => match k with
  | _ => ("", "", "", false)
def tyX5 : Nat → FieldType := fun k => match k with
  | _ => .int
abbrev wsX50 : List Cond := u_ws RX5 TX5 0
theorem nmX5 : ∀ a, a < 0 → ∀ b, b < 0 → a ≠ b → (TX5 a).2.1 ≠ (TX5 b).2.1 := by decide +kernel
theorem tyX5_ok : ∀ k, k < 0 → parseFieldDescriptor (TX5 k).2.2.1 = some (tyX5 k) := by decide +kernel
def RJx8e188 : String := "java/lang/Cloneable"
def TJx8e188 : u_T := fun k => match k with
  | _ => ("", "", "", false)
def tyJx8e188 : Nat → FieldType := fun k => match k with
  | _ => .int
abbrev wsJx8e1880 : List Cond := u_ws RJx8e188 TJx8e188 0
theorem nmJx8e188 : ∀ a, a < 0 → ∀ b, b < 0 → a ≠ b → (TJx8e188 a).2.1 ≠ (TJx8e188 b).2.1 := by decide +kernel
theorem tyJx8e188_ok : ∀ k, k < 0 → parseFieldDescriptor (TJx8e188 k).2.2.1 = some (tyJx8e188 k) := by decide +kernel
def RJ6 : String := "java/lang/Integer"
def TJ6 : u_T := fun k => match k with
  | _ => ("", "", "", false)
def tyJ6 : Nat → FieldType := fun k => match k with
  | _ => .int
abbrev wsJ60 : List Cond := u_ws RJ6 TJ6 0
theorem nmJ6 : ∀ a, a < 0 → ∀ b, b < 0 → a ≠ b → (TJ6 a).2.1 ≠ (TJ6 b).2.1 := by decide +kernel
theorem tyJ6_ok : ∀ k, k < 0 → parseFieldDescriptor (TJ6 k).2.2.1 = some (tyJ6 k) := by decide +kernel
abbrev cJ6_bitCount_0f7a4 : ByteArray := prog_9_method_49_code
def yJ6_bitCount_0f7a4 : MethodName := ⟨RJ6, "bitCount", "(I)I"⟩
def RJ9 : String := "java/lang/Math"
def TJ9 : u_T := fun k => match k with
  | _ => ("", "", "", false)
def tyJ9 : Nat → FieldType := fun k => match k with
  | _ => .int
abbrev wsJ90 : List Cond := u_ws RJ9 TJ9 0
theorem nmJ9 : ∀ a, a < 0 → ∀ b, b < 0 → a ≠ b → (TJ9 a).2.1 ≠ (TJ9 b).2.1 := by decide +kernel
theorem tyJ9_ok : ∀ k, k < 0 → parseFieldDescriptor (TJ9 k).2.2.1 = some (tyJ9 k) := by decide +kernel
abbrev cJ9_abs_0f7a4 : ByteArray := prog_10_method_59_code
def yJ9_abs_0f7a4 : MethodName := ⟨RJ9, "abs", "(I)I"⟩
abbrev cJ9_max_7cf53 : ByteArray := prog_10_method_65_code
def yJ9_max_7cf53 : MethodName := ⟨RJ9, "max", "(II)I"⟩
abbrev cJ9_min_7cf53 : ByteArray := prog_10_method_69_code
def yJ9_min_7cf53 : MethodName := ⟨RJ9, "min", "(II)I"⟩
abbrev cJ9_min_f86c9 : ByteArray := prog_10_method_70_code
def yJ9_min_f86c9 : MethodName := ⟨RJ9, "min", "(JJ)J"⟩
def RJ10 : String := "java/lang/System"
def TJ10 : u_T := fun k => match k with
  | _ => ("", "", "", false)
def tyJ10 : Nat → FieldType := fun k => match k with
  | _ => .int
abbrev wsJ100 : List Cond := u_ws RJ10 TJ10 0
theorem nmJ10 : ∀ a, a < 0 → ∀ b, b < 0 → a ≠ b → (TJ10 a).2.1 ≠ (TJ10 b).2.1 := by decide +kernel
theorem tyJ10_ok : ∀ k, k < 0 → parseFieldDescriptor (TJ10 k).2.2.1 = some (tyJ10 k) := by decide +kernel
def RJ7 : String := "java/util/Arrays"
def TJ7 : u_T := fun k => match k with
  | _ => ("", "", "", false)
def tyJ7 : Nat → FieldType := fun k => match k with
  | _ => .int
abbrev wsJ70 : List Cond := u_ws RJ7 TJ7 0
theorem nmJ7 : ∀ a, a < 0 → ∀ b, b < 0 → a ≠ b → (TJ7 a).2.1 ≠ (TJ7 b).2.1 := by decide +kernel
theorem tyJ7_ok : ∀ k, k < 0 → parseFieldDescriptor (TJ7 k).2.2.1 = some (tyJ7 k) := by decide +kernel
abbrev cJ7_fill_53178 : ByteArray := prog_12_method_103_code
def yJ7_fill_53178 : MethodName := ⟨RJ7, "fill", "([II)V"⟩
def RL : String := "LotFencesLaw"
abbrev cL_cell : ByteArray := method_2_code
def yL_cell : MethodName := ⟨RL, "cell", "([II)I"⟩
abbrev cL_up : ByteArray := method_3_code
def yL_up : MethodName := ⟨RL, "up", "(II)I"⟩
abbrev cL_view : ByteArray := method_4_code
def yL_view : MethodName := ⟨RL, "view", "(LLotFences;)J"⟩
abbrev cL_frozen : ByteArray := method_5_code
def yL_frozen : MethodName := ⟨RL, "frozen", "(LLotFences;)J"⟩
abbrev cL_any : ByteArray := method_6_code
def yL_any : MethodName := ⟨RL, "any", "(LLotFences;II)I"⟩
abbrev cL_sets : ByteArray := method_7_code
def yL_sets : MethodName := ⟨RL, "sets", "(LLotFences;II)I"⟩
abbrev cL_turn : ByteArray := method_8_code
def yL_turn : MethodName := ⟨RL, "turn", "(LLotFences;III)I"⟩
abbrev cL_isWeeks : ByteArray := method_9_code
def yL_isWeeks : MethodName := ⟨RL, "isWeeks", "(II)Z"⟩
abbrev cL_areRight : ByteArray := method_10_code
def yL_areRight : MethodName := ⟨RL, "areRight", "(LLotFences;)Z"⟩
abbrev cL_isUndone : ByteArray := method_11_code
def yL_isUndone : MethodName := ⟨RL, "isUndone", "(LLotFences;IIIIJ)Z"⟩
abbrev cL_isSaved : ByteArray := method_12_code
def yL_isSaved : MethodName := ⟨RL, "isSaved", "(LLotFences;II)Z"⟩
abbrev cL_asks : ByteArray := method_13_code
def yL_asks : MethodName := ⟨RL, "asks", "(LLotFences;II)Z"⟩
abbrev cL_law : ByteArray := code
def yL_law : MethodName := ⟨RL, "law", "([I)Z"⟩
def wsL_cell : List Cond := .code yL_cell cL_cell 2 (some .int) :: ([.constant RL 7 (763049417)])
def wsL_up : List Cond := .code yL_up cL_up 2 (some .int) :: ([.constant RL 8 (2147483647)])
def wsL_view_r1 : List Cond := [Cond.constantLong RL 9 (7), Cond.constantLong RL 11 (31), Cond.methodLink RL 13 yX4_count, Cond.instanceMethod yX4_count, Cond.selects RX4 yX4_count yX4_count, Cond.initialized RX4, Cond.code yX4_count cX4_count 4 (some .long), Cond.fieldLink RX4 10 "LotFences" "works" "LLotFences$Works;", Cond.fieldLink RX4 124 "LotFences$Works" "weeksPassed" "I", Cond.fieldLink RX4 78 "LotFences$Works" "products" "I", Cond.fieldLink RX4 178 "LotFences$Works" "setupsSoFar" "J", Cond.fieldLink RX4 182 "LotFences$Works" "overtimeSoFar" "J", Cond.fieldLink RX4 185 "LotFences$Works" "costsSoFar" "J", Cond.fieldLink RX4 22 "LotFences" "pad" "LLotFences$Pad;", Cond.fieldLink RX4 195 "LotFences$Pad" "length" "I", Cond.fieldLink RX4 29 "LotFences" "history" "LLotFences$History;", Cond.fieldLink RX4 198 "LotFences$History" "size" "I", Cond.fieldLink RX4 82 "LotFences$Works" "familyHours" "[I", Cond.constantLong RX4 201 (-2), Cond.methodLink RX4 118 yX3_allLots, Cond.instanceMethod yX3_allLots, Cond.selects RX3 yX3_allLots yX3_allLots, Cond.initialized RX3, Cond.code yX3_allLots cX3_allLots 4 (some .int)]
def wsL_view_r2 : List Cond := [Cond.fieldLink RX3 45 "LotFences$Works" "products" "I", Cond.methodLink RX3 49 yX3_productAt, Cond.instanceMethod yX3_productAt, Cond.selects RX3 yX3_productAt yX3_productAt, Cond.code yX3_productAt cX3_productAt 2 (some (.object "LotFences$Product")), Cond.fieldLink RX3 28 "LotFences$Works" "items" "[LLotFences$Product;", Cond.methodLink RX3 104 yX2_lotsInAll, Cond.instanceMethod yX2_lotsInAll, Cond.selects RX2 yX2_lotsInAll yX2_lotsInAll, Cond.initialized RX2, Cond.code yX2_lotsInAll cX2_lotsInAll 3 (some .int), Cond.fieldLink RX2 15 "LotFences$Product" "lots" "[I", Cond.methodLink RX4 188 yX3_allStock, Cond.instanceMethod yX3_allStock, Cond.selects RX3 yX3_allStock yX3_allStock, Cond.code yX3_allStock cX3_allStock 5 (some .long), Cond.fieldLink RX3 108 "LotFences$Product" "stock" "I", Cond.methodLink RX4 192 yX3_allBacklog, Cond.instanceMethod yX3_allBacklog, Cond.selects RX3 yX3_allBacklog yX3_allBacklog, Cond.code yX3_allBacklog cX3_allBacklog 5 (some .long), Cond.fieldLink RX3 111 "LotFences$Product" "backlog" "I", Cond.methodLink RX4 41 yX4_isIn, Cond.static yX4_isIn]
def wsL_view_r3 : List Cond := [Cond.code yX4_isIn cX4_isIn 3 (some .boolean), Cond.methodLink RX4 56 yX3_setting, Cond.instanceMethod yX3_setting, Cond.selects RX3 yX3_setting yX3_setting, Cond.code yX3_setting cX3_setting 2 (some .int), Cond.fieldLink RX3 18 "LotFences$Works" "settings" "[I", Cond.methodLink RX4 64 yX4_isFamily, Cond.static yX4_isFamily, Cond.code yX4_isFamily cX4_isFamily 1 (some .boolean), Cond.methodLink RL 19 yX4_ofProduct, Cond.instanceMethod yX4_ofProduct, Cond.selects RX4 yX4_ofProduct yX4_ofProduct, Cond.code yX4_ofProduct cX4_ofProduct 4 (some .int), Cond.fieldLink RX4 127 "LotFences$Product" "family" "I", Cond.fieldLink RX4 130 "LotFences$Product" "lotSize" "I", Cond.fieldLink RX4 133 "LotFences$Product" "lotHours" "I", Cond.fieldLink RX4 136 "LotFences$Product" "setupHours" "I", Cond.fieldLink RX4 139 "LotFences$Product" "stock" "I", Cond.fieldLink RX4 142 "LotFences$Product" "backlog" "I", Cond.fieldLink RX4 145 "LotFences$Product" "error" "I", Cond.fieldLink RX4 95 "LotFences$Product" "told" "I", Cond.fieldLink RX4 151 "LotFences$Product" "made" "I", Cond.fieldLink RX4 154 "LotFences$Product" "shipped" "I", Cond.fieldLink RX4 157 "LotFences$Product" "came" "I"]
def wsL_view_r4 : List Cond := [Cond.fieldLink RX4 160 "LotFences$Product" "began" "I", Cond.methodLink RX4 85 yX3_productAt, Cond.methodLink RX4 148 yX2_cover, Cond.instanceMethod yX2_cover, Cond.selects RX2 yX2_cover yX2_cover, Cond.code yX2_cover cX2_cover 2 (some .int), Cond.fieldLink RX2 40 "LotFences$Product" "error" "I", Cond.methodLink RL 23 yX4_at, Cond.instanceMethod yX4_at, Cond.selects RX4 yX4_at yX4_at, Cond.code yX4_at cX4_at 5 (some .int), Cond.fieldLink RX4 92 "LotFences$Product" "forecasts" "[I", Cond.fieldLink RX4 112 "LotFences$Product" "lots" "[I", Cond.methodLink RX4 89 yX4_isWeek, Cond.static yX4_isWeek, Cond.code yX4_isWeek cX4_isWeek 1 (some .boolean)]
def wsL_view : List Cond := .code yL_view cL_view 5 (some .long) :: ((wsL_view_r1 ++ (wsL_view_r2 ++ (wsL_view_r3 ++ wsL_view_r4))) ++ wsX40 ++ wsX30 ++ wsX10 ++ wsX00 ++ wsX20)
def wsL_frozen_r1 : List Cond := [Cond.constantLong RL 9 (7), Cond.constantLong RL 11 (31), Cond.methodLink RL 13 yX4_count, Cond.instanceMethod yX4_count, Cond.selects RX4 yX4_count yX4_count, Cond.initialized RX4, Cond.code yX4_count cX4_count 4 (some .long), Cond.fieldLink RX4 10 "LotFences" "works" "LLotFences$Works;", Cond.fieldLink RX4 124 "LotFences$Works" "weeksPassed" "I", Cond.fieldLink RX4 78 "LotFences$Works" "products" "I", Cond.fieldLink RX4 178 "LotFences$Works" "setupsSoFar" "J", Cond.fieldLink RX4 182 "LotFences$Works" "overtimeSoFar" "J", Cond.fieldLink RX4 185 "LotFences$Works" "costsSoFar" "J", Cond.fieldLink RX4 22 "LotFences" "pad" "LLotFences$Pad;", Cond.fieldLink RX4 195 "LotFences$Pad" "length" "I", Cond.fieldLink RX4 29 "LotFences" "history" "LLotFences$History;", Cond.fieldLink RX4 198 "LotFences$History" "size" "I", Cond.fieldLink RX4 82 "LotFences$Works" "familyHours" "[I", Cond.constantLong RX4 201 (-2), Cond.methodLink RX4 118 yX3_allLots, Cond.instanceMethod yX3_allLots, Cond.selects RX3 yX3_allLots yX3_allLots, Cond.initialized RX3, Cond.code yX3_allLots cX3_allLots 4 (some .int)]
def wsL_frozen_r2 : List Cond := [Cond.fieldLink RX3 45 "LotFences$Works" "products" "I", Cond.methodLink RX3 49 yX3_productAt, Cond.instanceMethod yX3_productAt, Cond.selects RX3 yX3_productAt yX3_productAt, Cond.code yX3_productAt cX3_productAt 2 (some (.object "LotFences$Product")), Cond.fieldLink RX3 28 "LotFences$Works" "items" "[LLotFences$Product;", Cond.methodLink RX3 104 yX2_lotsInAll, Cond.instanceMethod yX2_lotsInAll, Cond.selects RX2 yX2_lotsInAll yX2_lotsInAll, Cond.initialized RX2, Cond.code yX2_lotsInAll cX2_lotsInAll 3 (some .int), Cond.fieldLink RX2 15 "LotFences$Product" "lots" "[I", Cond.methodLink RX4 188 yX3_allStock, Cond.instanceMethod yX3_allStock, Cond.selects RX3 yX3_allStock yX3_allStock, Cond.code yX3_allStock cX3_allStock 5 (some .long), Cond.fieldLink RX3 108 "LotFences$Product" "stock" "I", Cond.methodLink RX4 192 yX3_allBacklog, Cond.instanceMethod yX3_allBacklog, Cond.selects RX3 yX3_allBacklog yX3_allBacklog, Cond.code yX3_allBacklog cX3_allBacklog 5 (some .long), Cond.fieldLink RX3 111 "LotFences$Product" "backlog" "I", Cond.methodLink RX4 41 yX4_isIn, Cond.static yX4_isIn]
def wsL_frozen_r3 : List Cond := [Cond.code yX4_isIn cX4_isIn 3 (some .boolean), Cond.methodLink RX4 56 yX3_setting, Cond.instanceMethod yX3_setting, Cond.selects RX3 yX3_setting yX3_setting, Cond.code yX3_setting cX3_setting 2 (some .int), Cond.fieldLink RX3 18 "LotFences$Works" "settings" "[I", Cond.methodLink RX4 64 yX4_isFamily, Cond.static yX4_isFamily, Cond.code yX4_isFamily cX4_isFamily 1 (some .boolean), Cond.methodLink RL 23 yX4_at, Cond.instanceMethod yX4_at, Cond.selects RX4 yX4_at yX4_at, Cond.code yX4_at cX4_at 5 (some .int), Cond.fieldLink RX4 92 "LotFences$Product" "forecasts" "[I", Cond.fieldLink RX4 112 "LotFences$Product" "lots" "[I", Cond.methodLink RX4 85 yX3_productAt, Cond.methodLink RX4 89 yX4_isWeek, Cond.static yX4_isWeek, Cond.code yX4_isWeek cX4_isWeek 1 (some .boolean)]
def wsL_frozen : List Cond := .code yL_frozen cL_frozen 5 (some .long) :: ((wsL_frozen_r1 ++ (wsL_frozen_r2 ++ wsL_frozen_r3)) ++ wsX40 ++ wsX30 ++ wsX10 ++ wsX00 ++ wsX20)
def wsL_any_r1 : List Cond := [Cond.methodLink RL 27 yX4_set, Cond.instanceMethod yX4_set, Cond.selects RX4 yX4_set yX4_set, Cond.initialized RX4, Cond.code yX4_set cX4_set 4 (some .int), Cond.fieldLink RX4 45 "LotFences" "LEAST_SETTINGS" "[I", Cond.fieldLink RX4 49 "LotFences" "MOST_SETTINGS" "[I", Cond.fieldLink RX4 29 "LotFences" "history" "LLotFences$History;", Cond.fieldLink RX4 10 "LotFences" "works" "LLotFences$Works;", Cond.methodLink RX4 41 yX4_isIn, Cond.static yX4_isIn, Cond.code yX4_isIn cX4_isIn 3 (some .boolean), Cond.methodLink RX4 52 yX0_remember, Cond.instanceMethod yX0_remember, Cond.selects RX0 yX0_remember yX0_remember, Cond.initialized RX0, Cond.code yX0_remember cX0_remember 2 none, Cond.fieldLink RX0 18 "LotFences$History" "paused" "Z", Cond.fieldLink RX0 22 "LotFences$History" "size" "I", Cond.fieldLink RX0 11 "LotFences$History" "states" "[LLotFences$Works;", Cond.methodLink RX0 26 yX0_dropOldest, Cond.instanceMethod yX0_dropOldest, Cond.selects RX0 yX0_dropOldest yX0_dropOldest, Cond.code yX0_dropOldest cX0_dropOldest 3 none]
def wsL_any_r2 : List Cond := [Cond.methodLink RX0 29 yX3_copyFrom, Cond.instanceMethod yX3_copyFrom, Cond.selects RX3 yX3_copyFrom yX3_copyFrom, Cond.initialized RX3, Cond.code yX3_copyFrom cX3_copyFrom 5 none, Cond.fieldLink RX3 18 "LotFences$Works" "settings" "[I", Cond.methodLink RX3 39 arraycopyName, Cond.native arraycopyName, Cond.static arraycopyName, Cond.initialized "java/lang/System", Cond.fieldLink RX3 23 "LotFences$Works" "familyHours" "[I", Cond.fieldLink RX3 45 "LotFences$Works" "products" "I", Cond.fieldLink RX3 57 "LotFences$Works" "weeksPassed" "I", Cond.fieldLink RX3 60 "LotFences$Works" "setupsSoFar" "J", Cond.fieldLink RX3 64 "LotFences$Works" "overtimeSoFar" "J", Cond.fieldLink RX3 67 "LotFences$Works" "costsSoFar" "J", Cond.methodLink RX3 49 yX3_productAt, Cond.instanceMethod yX3_productAt, Cond.selects RX3 yX3_productAt yX3_productAt, Cond.code yX3_productAt cX3_productAt 2 (some (.object "LotFences$Product")), Cond.fieldLink RX3 28 "LotFences$Works" "items" "[LLotFences$Product;", Cond.methodLink RX3 53 yX2_copyFrom, Cond.instanceMethod yX2_copyFrom, Cond.selects RX2 yX2_copyFrom yX2_copyFrom]
def wsL_any_r3 : List Cond := [Cond.initialized RX2, Cond.code yX2_copyFrom cX2_copyFrom 2 none, Cond.fieldLink RX2 18 "LotFences$Product" "family" "I", Cond.fieldLink RX2 22 "LotFences$Product" "lotSize" "I", Cond.fieldLink RX2 25 "LotFences$Product" "lotHours" "I", Cond.fieldLink RX2 28 "LotFences$Product" "setupHours" "I", Cond.fieldLink RX2 31 "LotFences$Product" "began" "I", Cond.fieldLink RX2 34 "LotFences$Product" "stock" "I", Cond.fieldLink RX2 37 "LotFences$Product" "backlog" "I", Cond.fieldLink RX2 40 "LotFences$Product" "error" "I", Cond.fieldLink RX2 43 "LotFences$Product" "told" "I", Cond.fieldLink RX2 46 "LotFences$Product" "made" "I", Cond.fieldLink RX2 49 "LotFences$Product" "shipped" "I", Cond.fieldLink RX2 52 "LotFences$Product" "came" "I", Cond.fieldLink RX2 9 "LotFences$Product" "forecasts" "[I", Cond.methodLink RX2 61 arraycopyName, Cond.fieldLink RX2 15 "LotFences$Product" "lots" "[I", Cond.methodLink RX4 56 yX3_setting, Cond.instanceMethod yX3_setting, Cond.selects RX3 yX3_setting yX3_setting, Cond.code yX3_setting cX3_setting 2 (some .int), Cond.methodLink RX4 60 yX3_changeSetting, Cond.instanceMethod yX3_changeSetting, Cond.selects RX3 yX3_changeSetting yX3_changeSetting]
def wsL_any_r4 : List Cond := [Cond.code yX3_changeSetting cX3_changeSetting 3 none, Cond.methodLink RL 30 yX4_product, Cond.instanceMethod yX4_product, Cond.selects RX4 yX4_product yX4_product, Cond.code yX4_product cX4_product 8 (some .int), Cond.fieldLink RX4 78 "LotFences$Works" "products" "I", Cond.methodLink RX4 64 yX4_isFamily, Cond.static yX4_isFamily, Cond.code yX4_isFamily cX4_isFamily 1 (some .boolean), Cond.methodLink RX4 68 yX3_spareProduct, Cond.instanceMethod yX3_spareProduct, Cond.selects RX3 yX3_spareProduct yX3_spareProduct, Cond.code yX3_spareProduct cX3_spareProduct 1 (some (.object "LotFences$Product")), Cond.methodLink RX4 72 yX2_begin, Cond.instanceMethod yX2_begin, Cond.selects RX2 yX2_begin yX2_begin, Cond.code yX2_begin cX2_begin 6 none, Cond.methodLink RX2 55 yJ7_fill_53178, Cond.static yJ7_fill_53178, Cond.initialized RJ7, Cond.code yJ7_fill_53178 cJ7_fill_53178 4 none, Cond.methodLink RL 34 yX4_family, Cond.instanceMethod yX4_family, Cond.selects RX4 yX4_family yX4_family]
def wsL_any_r5 : List Cond := [Cond.code yX4_family cX4_family 4 (some .int), Cond.fieldLink RX4 82 "LotFences$Works" "familyHours" "[I", Cond.methodLink RL 37 yX4_forecast, Cond.instanceMethod yX4_forecast, Cond.selects RX4 yX4_forecast yX4_forecast, Cond.code yX4_forecast cX4_forecast 6 (some .int), Cond.fieldLink RX4 92 "LotFences$Product" "forecasts" "[I", Cond.methodLink RX4 85 yX3_productAt, Cond.methodLink RX4 89 yX4_isWeek, Cond.static yX4_isWeek, Cond.code yX4_isWeek cX4_isWeek 1 (some .boolean), Cond.methodLink RL 40 yX4_actual, Cond.instanceMethod yX4_actual, Cond.selects RX4 yX4_actual yX4_actual, Cond.code yX4_actual cX4_actual 5 (some .int), Cond.fieldLink RX4 95 "LotFences$Product" "told" "I", Cond.methodLink RL 43 yX4_lots, Cond.instanceMethod yX4_lots, Cond.selects RX4 yX4_lots yX4_lots, Cond.code yX4_lots cX4_lots 7 (some .int), Cond.fieldLink RX4 112 "LotFences$Product" "lots" "[I", Cond.methodLink RX4 98 yX3_hoursWith, Cond.instanceMethod yX3_hoursWith, Cond.selects RX3 yX3_hoursWith yX3_hoursWith]
def wsL_any_r6 : List Cond := [Cond.code yX3_hoursWith cX3_hoursWith 9 (some .int), Cond.fieldLink RX3 81 "LotFences$Product" "setupHours" "I", Cond.fieldLink RX3 84 "LotFences$Product" "lotHours" "I", Cond.fieldLink RX3 87 "LotFences$Product" "family" "I", Cond.methodLink RX3 78 yX2_lotsIn, Cond.instanceMethod yX2_lotsIn, Cond.selects RX2 yX2_lotsIn yX2_lotsIn, Cond.code yX2_lotsIn cX2_lotsIn 2 (some .int), Cond.methodLink RX4 102 yX3_isFrozen, Cond.instanceMethod yX3_isFrozen, Cond.selects RX3 yX3_isFrozen yX3_isFrozen, Cond.code yX3_isFrozen cX3_isFrozen 2 (some .boolean), Cond.methodLink RX3 70 yX3_setting, Cond.methodLink RX4 105 yX3_capacity, Cond.instanceMethod yX3_capacity, Cond.selects RX3 yX3_capacity yX3_capacity, Cond.code yX3_capacity cX3_capacity 1 (some .int), Cond.methodLink RX4 109 yX3_hoursIn, Cond.instanceMethod yX3_hoursIn, Cond.selects RX3 yX3_hoursIn yX3_hoursIn, Cond.code yX3_hoursIn cX3_hoursIn 2 (some .int), Cond.methodLink RX3 74 yX3_hoursWith, Cond.methodLink RL 46 yX4_weeks, Cond.instanceMethod yX4_weeks]
def wsL_any_r7 : List Cond := [Cond.selects RX4 yX4_weeks yX4_weeks, Cond.code yX4_weeks cX4_weeks 3 (some .int), Cond.fieldLink RX4 124 "LotFences$Works" "weeksPassed" "I", Cond.methodLink RX4 121 yX3_passWeek, Cond.instanceMethod yX3_passWeek, Cond.selects RX3 yX3_passWeek yX3_passWeek, Cond.code yX3_passWeek cX3_passWeek 5 none, Cond.methodLink RX3 176 yX3_setupsIn, Cond.instanceMethod yX3_setupsIn, Cond.selects RX3 yX3_setupsIn yX3_setupsIn, Cond.code yX3_setupsIn cX3_setupsIn 5 (some .int), Cond.methodLink RX3 90 yX3_familiesIn, Cond.instanceMethod yX3_familiesIn, Cond.selects RX3 yX3_familiesIn yX3_familiesIn, Cond.code yX3_familiesIn cX3_familiesIn 5 (some .int), Cond.methodLink RX3 93 yJ6_bitCount_0f7a4, Cond.static yJ6_bitCount_0f7a4, Cond.initialized RJ6, Cond.code yJ6_bitCount_0f7a4 cJ6_bitCount_0f7a4 1 (some .int), Cond.constant RJ6 265 (1431655765), Cond.constant RJ6 266 (858993459), Cond.constant RJ6 267 (252645135), Cond.methodLink RX3 179 yX3_overtimeIn, Cond.instanceMethod yX3_overtimeIn]
def wsL_any_r8 : List Cond := [Cond.selects RX3 yX3_overtimeIn yX3_overtimeIn, Cond.code yX3_overtimeIn cX3_overtimeIn 2 (some .int), Cond.methodLink RX3 98 Lib.Math.max.name, Cond.static Lib.Math.max.name, Cond.initialized "java/lang/Math", Cond.code Lib.Math.max.name Lib.Math.max.code 2 (some .int), Cond.methodLink RX3 182 yX2_passWeek, Cond.instanceMethod yX2_passWeek, Cond.selects RX2 yX2_passWeek yX2_passWeek, Cond.code yX2_passWeek cX2_passWeek 5 none, Cond.methodLink RX2 92 Lib.Math.min.name, Cond.static Lib.Math.min.name, Cond.code Lib.Math.min.name Lib.Math.min.code 2 (some .int), Cond.methodLink RX2 95 Lib.Math.abs.name, Cond.static Lib.Math.abs.name, Cond.code Lib.Math.abs.name Lib.Math.abs.code 1 (some .int), Cond.methodLink RX3 185 yX3_allStock, Cond.instanceMethod yX3_allStock, Cond.selects RX3 yX3_allStock yX3_allStock, Cond.code yX3_allStock cX3_allStock 5 (some .long), Cond.fieldLink RX3 108 "LotFences$Product" "stock" "I", Cond.methodLink RX3 189 yX3_allBacklog, Cond.instanceMethod yX3_allBacklog, Cond.selects RX3 yX3_allBacklog yX3_allBacklog]
def wsL_any_r9 : List Cond := [Cond.code yX3_allBacklog cX3_allBacklog 5 (some .long), Cond.fieldLink RX3 111 "LotFences$Product" "backlog" "I", Cond.methodLink RX4 115 yX3_planAnew, Cond.instanceMethod yX3_planAnew, Cond.selects RX3 yX3_planAnew yX3_planAnew, Cond.code yX3_planAnew cX3_planAnew 2 none, Cond.methodLink RX3 117 yX3_openPlans, Cond.instanceMethod yX3_openPlans, Cond.selects RX3 yX3_openPlans yX3_openPlans, Cond.code yX3_openPlans cX3_openPlans 4 none, Cond.methodLink RX3 128 yX2_openPlan, Cond.instanceMethod yX2_openPlan, Cond.selects RX2 yX2_openPlan yX2_openPlan, Cond.code yX2_openPlan cX2_openPlan 3 none, Cond.fieldLink RX2 71 "LotFences$Product" "behind" "J", Cond.methodLink RX2 75 Lib.Math.max.name, Cond.methodLink RX2 67 yX2_projectionBehind, Cond.instanceMethod yX2_projectionBehind, Cond.selects RX2 yX2_projectionBehind yX2_projectionBehind, Cond.code yX2_projectionBehind cX2_projectionBehind 5 (some .long), Cond.methodLink RX3 120 yX3_planWeek, Cond.instanceMethod yX3_planWeek, Cond.selects RX3 yX3_planWeek yX3_planWeek, Cond.code yX3_planWeek cX3_planWeek 5 none]
def wsL_any_r10 : List Cond := [Cond.fieldLink RX3 138 "LotFences$Works" "hoursLeft" "I", Cond.fieldLink RX3 141 "LotFences$Works" "familiesSetUp" "I", Cond.fieldLink RX3 148 "LotFences$Product" "waiting" "Z", Cond.methodLink RX3 131 yX2_enterWeek, Cond.instanceMethod yX2_enterWeek, Cond.selects RX2 yX2_enterWeek yX2_enterWeek, Cond.code yX2_enterWeek cX2_enterWeek 3 none, Cond.fieldLink RX2 85 "LotFences$Product" "aim" "I", Cond.fieldLink RX2 88 "LotFences$Product" "waiting" "Z", Cond.methodLink RX2 81 yX2_cover, Cond.instanceMethod yX2_cover, Cond.selects RX2 yX2_cover yX2_cover, Cond.code yX2_cover cX2_cover 2 (some .int), Cond.methodLink RX3 135 yX3_capacity, Cond.methodLink RX3 144 yX3_nextWaiting, Cond.instanceMethod yX3_nextWaiting, Cond.selects RX3 yX3_nextWaiting yX3_nextWaiting, Cond.code yX3_nextWaiting cX3_nextWaiting 4 (some (.object "LotFences$Product")), Cond.fieldLink RX3 156 "LotFences$Product" "behind" "J", Cond.methodLink RX3 152 yX3_giveLots, Cond.instanceMethod yX3_giveLots, Cond.selects RX3 yX3_giveLots yX3_giveLots, Cond.code yX3_giveLots cX3_giveLots 8 none, Cond.methodLink RX3 167 Lib.Math.min.name]
def wsL_any_r11 : List Cond := [Cond.methodLink RX3 170 Lib.MathLoose.min_long.x, Cond.static Lib.MathLoose.min_long.x, Cond.code Lib.MathLoose.min_long.x Lib.MathLoose.min_long.code 4 (some .long), Cond.methodLink RX3 163 yX2_lotsWanted, Cond.instanceMethod yX2_lotsWanted, Cond.selects RX2 yX2_lotsWanted yX2_lotsWanted, Cond.code yX2_lotsWanted cX2_lotsWanted 6 (some .long), Cond.methodLink RX3 173 yX2_planLots, Cond.instanceMethod yX2_planLots, Cond.selects RX2 yX2_planLots yX2_planLots, Cond.code yX2_planLots cX2_planLots 3 none, Cond.methodLink RL 50 yX4_restore, Cond.instanceMethod yX4_restore, Cond.selects RX4 yX4_restore yX4_restore, Cond.code yX4_restore cX4_restore 2 (some .int), Cond.fieldLink RX4 37 "LotFences" "saved" "[Z", Cond.fieldLink RX4 33 "LotFences" "slots" "[LLotFences$Works;", Cond.methodLink RX4 203 yX3_copyFrom]
def wsL_any : List Cond := .code yL_any cL_any 3 (some .int) :: ((wsL_any_r1 ++ (wsL_any_r2 ++ (wsL_any_r3 ++ (wsL_any_r4 ++ (wsL_any_r5 ++ (wsL_any_r6 ++ (wsL_any_r7 ++ (wsL_any_r8 ++ (wsL_any_r9 ++ (wsL_any_r10 ++ wsL_any_r11)))))))))) ++ wsX40 ++ wsX00 ++ wsX30 ++ wsX20)
def wsL_sets_r1 : List Cond := [Cond.methodLink RL 53 yL_up, Cond.static yL_up, Cond.initialized RL, Cond.code yL_up cL_up 2 (some .int), Cond.constant RL 8 (2147483647), Cond.methodLink RL 27 yX4_set, Cond.instanceMethod yX4_set, Cond.selects RX4 yX4_set yX4_set, Cond.initialized RX4, Cond.code yX4_set cX4_set 4 (some .int), Cond.fieldLink RX4 45 "LotFences" "LEAST_SETTINGS" "[I", Cond.fieldLink RX4 49 "LotFences" "MOST_SETTINGS" "[I", Cond.fieldLink RX4 29 "LotFences" "history" "LLotFences$History;", Cond.fieldLink RX4 10 "LotFences" "works" "LLotFences$Works;", Cond.methodLink RX4 41 yX4_isIn, Cond.static yX4_isIn, Cond.code yX4_isIn cX4_isIn 3 (some .boolean), Cond.methodLink RX4 52 yX0_remember, Cond.instanceMethod yX0_remember, Cond.selects RX0 yX0_remember yX0_remember, Cond.initialized RX0, Cond.code yX0_remember cX0_remember 2 none, Cond.fieldLink RX0 18 "LotFences$History" "paused" "Z", Cond.fieldLink RX0 22 "LotFences$History" "size" "I"]
def wsL_sets_r2 : List Cond := [Cond.fieldLink RX0 11 "LotFences$History" "states" "[LLotFences$Works;", Cond.methodLink RX0 26 yX0_dropOldest, Cond.instanceMethod yX0_dropOldest, Cond.selects RX0 yX0_dropOldest yX0_dropOldest, Cond.code yX0_dropOldest cX0_dropOldest 3 none, Cond.methodLink RX0 29 yX3_copyFrom, Cond.instanceMethod yX3_copyFrom, Cond.selects RX3 yX3_copyFrom yX3_copyFrom, Cond.initialized RX3, Cond.code yX3_copyFrom cX3_copyFrom 5 none, Cond.fieldLink RX3 18 "LotFences$Works" "settings" "[I", Cond.methodLink RX3 39 arraycopyName, Cond.native arraycopyName, Cond.static arraycopyName, Cond.initialized "java/lang/System", Cond.fieldLink RX3 23 "LotFences$Works" "familyHours" "[I", Cond.fieldLink RX3 45 "LotFences$Works" "products" "I", Cond.fieldLink RX3 57 "LotFences$Works" "weeksPassed" "I", Cond.fieldLink RX3 60 "LotFences$Works" "setupsSoFar" "J", Cond.fieldLink RX3 64 "LotFences$Works" "overtimeSoFar" "J", Cond.fieldLink RX3 67 "LotFences$Works" "costsSoFar" "J", Cond.methodLink RX3 49 yX3_productAt, Cond.instanceMethod yX3_productAt, Cond.selects RX3 yX3_productAt yX3_productAt]
def wsL_sets_r3 : List Cond := [Cond.code yX3_productAt cX3_productAt 2 (some (.object "LotFences$Product")), Cond.fieldLink RX3 28 "LotFences$Works" "items" "[LLotFences$Product;", Cond.methodLink RX3 53 yX2_copyFrom, Cond.instanceMethod yX2_copyFrom, Cond.selects RX2 yX2_copyFrom yX2_copyFrom, Cond.initialized RX2, Cond.code yX2_copyFrom cX2_copyFrom 2 none, Cond.fieldLink RX2 18 "LotFences$Product" "family" "I", Cond.fieldLink RX2 22 "LotFences$Product" "lotSize" "I", Cond.fieldLink RX2 25 "LotFences$Product" "lotHours" "I", Cond.fieldLink RX2 28 "LotFences$Product" "setupHours" "I", Cond.fieldLink RX2 31 "LotFences$Product" "began" "I", Cond.fieldLink RX2 34 "LotFences$Product" "stock" "I", Cond.fieldLink RX2 37 "LotFences$Product" "backlog" "I", Cond.fieldLink RX2 40 "LotFences$Product" "error" "I", Cond.fieldLink RX2 43 "LotFences$Product" "told" "I", Cond.fieldLink RX2 46 "LotFences$Product" "made" "I", Cond.fieldLink RX2 49 "LotFences$Product" "shipped" "I", Cond.fieldLink RX2 52 "LotFences$Product" "came" "I", Cond.fieldLink RX2 9 "LotFences$Product" "forecasts" "[I", Cond.methodLink RX2 61 arraycopyName, Cond.fieldLink RX2 15 "LotFences$Product" "lots" "[I", Cond.methodLink RX4 56 yX3_setting, Cond.instanceMethod yX3_setting]
def wsL_sets_r4 : List Cond := [Cond.selects RX3 yX3_setting yX3_setting, Cond.code yX3_setting cX3_setting 2 (some .int), Cond.methodLink RX4 60 yX3_changeSetting, Cond.instanceMethod yX3_changeSetting, Cond.selects RX3 yX3_changeSetting yX3_changeSetting, Cond.code yX3_changeSetting cX3_changeSetting 3 none]
def wsL_sets : List Cond := .code yL_sets cL_sets 5 (some .int) :: ((wsL_sets_r1 ++ (wsL_sets_r2 ++ (wsL_sets_r3 ++ wsL_sets_r4))) ++ wsX40 ++ wsX00 ++ wsX30 ++ wsX20)
def wsL_turn_r1 : List Cond := [Cond.methodLink RL 53 yL_up, Cond.static yL_up, Cond.initialized RL, Cond.code yL_up cL_up 2 (some .int), Cond.constant RL 8 (2147483647), Cond.methodLink RL 30 yX4_product, Cond.instanceMethod yX4_product, Cond.selects RX4 yX4_product yX4_product, Cond.initialized RX4, Cond.code yX4_product cX4_product 8 (some .int), Cond.fieldLink RX4 10 "LotFences" "works" "LLotFences$Works;", Cond.fieldLink RX4 29 "LotFences" "history" "LLotFences$History;", Cond.fieldLink RX4 78 "LotFences$Works" "products" "I", Cond.methodLink RX4 64 yX4_isFamily, Cond.static yX4_isFamily, Cond.code yX4_isFamily cX4_isFamily 1 (some .boolean), Cond.methodLink RX4 41 yX4_isIn, Cond.static yX4_isIn, Cond.code yX4_isIn cX4_isIn 3 (some .boolean), Cond.methodLink RX4 68 yX3_spareProduct, Cond.instanceMethod yX3_spareProduct, Cond.selects RX3 yX3_spareProduct yX3_spareProduct, Cond.initialized RX3, Cond.code yX3_spareProduct cX3_spareProduct 1 (some (.object "LotFences$Product"))]
def wsL_turn_r2 : List Cond := [Cond.fieldLink RX3 45 "LotFences$Works" "products" "I", Cond.fieldLink RX3 28 "LotFences$Works" "items" "[LLotFences$Product;", Cond.methodLink RX4 52 yX0_remember, Cond.instanceMethod yX0_remember, Cond.selects RX0 yX0_remember yX0_remember, Cond.initialized RX0, Cond.code yX0_remember cX0_remember 2 none, Cond.fieldLink RX0 18 "LotFences$History" "paused" "Z", Cond.fieldLink RX0 22 "LotFences$History" "size" "I", Cond.fieldLink RX0 11 "LotFences$History" "states" "[LLotFences$Works;", Cond.methodLink RX0 26 yX0_dropOldest, Cond.instanceMethod yX0_dropOldest, Cond.selects RX0 yX0_dropOldest yX0_dropOldest, Cond.code yX0_dropOldest cX0_dropOldest 3 none, Cond.methodLink RX0 29 yX3_copyFrom, Cond.instanceMethod yX3_copyFrom, Cond.selects RX3 yX3_copyFrom yX3_copyFrom, Cond.code yX3_copyFrom cX3_copyFrom 5 none, Cond.fieldLink RX3 18 "LotFences$Works" "settings" "[I", Cond.methodLink RX3 39 arraycopyName, Cond.native arraycopyName, Cond.static arraycopyName, Cond.initialized "java/lang/System", Cond.fieldLink RX3 23 "LotFences$Works" "familyHours" "[I"]
def wsL_turn_r3 : List Cond := [Cond.fieldLink RX3 57 "LotFences$Works" "weeksPassed" "I", Cond.fieldLink RX3 60 "LotFences$Works" "setupsSoFar" "J", Cond.fieldLink RX3 64 "LotFences$Works" "overtimeSoFar" "J", Cond.fieldLink RX3 67 "LotFences$Works" "costsSoFar" "J", Cond.methodLink RX3 49 yX3_productAt, Cond.instanceMethod yX3_productAt, Cond.selects RX3 yX3_productAt yX3_productAt, Cond.code yX3_productAt cX3_productAt 2 (some (.object "LotFences$Product")), Cond.methodLink RX3 53 yX2_copyFrom, Cond.instanceMethod yX2_copyFrom, Cond.selects RX2 yX2_copyFrom yX2_copyFrom, Cond.initialized RX2, Cond.code yX2_copyFrom cX2_copyFrom 2 none, Cond.fieldLink RX2 18 "LotFences$Product" "family" "I", Cond.fieldLink RX2 22 "LotFences$Product" "lotSize" "I", Cond.fieldLink RX2 25 "LotFences$Product" "lotHours" "I", Cond.fieldLink RX2 28 "LotFences$Product" "setupHours" "I", Cond.fieldLink RX2 31 "LotFences$Product" "began" "I", Cond.fieldLink RX2 34 "LotFences$Product" "stock" "I", Cond.fieldLink RX2 37 "LotFences$Product" "backlog" "I", Cond.fieldLink RX2 40 "LotFences$Product" "error" "I", Cond.fieldLink RX2 43 "LotFences$Product" "told" "I", Cond.fieldLink RX2 46 "LotFences$Product" "made" "I", Cond.fieldLink RX2 49 "LotFences$Product" "shipped" "I"]
def wsL_turn_r4 : List Cond := [Cond.fieldLink RX2 52 "LotFences$Product" "came" "I", Cond.fieldLink RX2 9 "LotFences$Product" "forecasts" "[I", Cond.methodLink RX2 61 arraycopyName, Cond.fieldLink RX2 15 "LotFences$Product" "lots" "[I", Cond.methodLink RX4 72 yX2_begin, Cond.instanceMethod yX2_begin, Cond.selects RX2 yX2_begin yX2_begin, Cond.code yX2_begin cX2_begin 6 none, Cond.methodLink RX2 55 yJ7_fill_53178, Cond.static yJ7_fill_53178, Cond.initialized RJ7, Cond.code yJ7_fill_53178 cJ7_fill_53178 4 none, Cond.methodLink RL 58 yL_sets, Cond.static yL_sets, Cond.code yL_sets cL_sets 5 (some .int), Cond.methodLink RL 27 yX4_set, Cond.instanceMethod yX4_set, Cond.selects RX4 yX4_set yX4_set, Cond.code yX4_set cX4_set 4 (some .int), Cond.fieldLink RX4 45 "LotFences" "LEAST_SETTINGS" "[I", Cond.fieldLink RX4 49 "LotFences" "MOST_SETTINGS" "[I", Cond.methodLink RX4 56 yX3_setting, Cond.instanceMethod yX3_setting, Cond.selects RX3 yX3_setting yX3_setting]
def wsL_turn_r5 : List Cond := [Cond.code yX3_setting cX3_setting 2 (some .int), Cond.methodLink RX4 60 yX3_changeSetting, Cond.instanceMethod yX3_changeSetting, Cond.selects RX3 yX3_changeSetting yX3_changeSetting, Cond.code yX3_changeSetting cX3_changeSetting 3 none, Cond.methodLink RL 34 yX4_family, Cond.instanceMethod yX4_family, Cond.selects RX4 yX4_family yX4_family, Cond.code yX4_family cX4_family 4 (some .int), Cond.fieldLink RX4 82 "LotFences$Works" "familyHours" "[I", Cond.methodLink RL 37 yX4_forecast, Cond.instanceMethod yX4_forecast, Cond.selects RX4 yX4_forecast yX4_forecast, Cond.code yX4_forecast cX4_forecast 6 (some .int), Cond.fieldLink RX4 92 "LotFences$Product" "forecasts" "[I", Cond.methodLink RX4 85 yX3_productAt, Cond.methodLink RX4 89 yX4_isWeek, Cond.static yX4_isWeek, Cond.code yX4_isWeek cX4_isWeek 1 (some .boolean), Cond.methodLink RL 40 yX4_actual, Cond.instanceMethod yX4_actual, Cond.selects RX4 yX4_actual yX4_actual, Cond.code yX4_actual cX4_actual 5 (some .int), Cond.fieldLink RX4 95 "LotFences$Product" "told" "I"]
def wsL_turn_r6 : List Cond := [Cond.methodLink RL 43 yX4_lots, Cond.instanceMethod yX4_lots, Cond.selects RX4 yX4_lots yX4_lots, Cond.code yX4_lots cX4_lots 7 (some .int), Cond.fieldLink RX4 112 "LotFences$Product" "lots" "[I", Cond.methodLink RX4 98 yX3_hoursWith, Cond.instanceMethod yX3_hoursWith, Cond.selects RX3 yX3_hoursWith yX3_hoursWith, Cond.code yX3_hoursWith cX3_hoursWith 9 (some .int), Cond.fieldLink RX3 81 "LotFences$Product" "setupHours" "I", Cond.fieldLink RX3 84 "LotFences$Product" "lotHours" "I", Cond.fieldLink RX3 87 "LotFences$Product" "family" "I", Cond.methodLink RX3 78 yX2_lotsIn, Cond.instanceMethod yX2_lotsIn, Cond.selects RX2 yX2_lotsIn yX2_lotsIn, Cond.code yX2_lotsIn cX2_lotsIn 2 (some .int), Cond.methodLink RX4 102 yX3_isFrozen, Cond.instanceMethod yX3_isFrozen, Cond.selects RX3 yX3_isFrozen yX3_isFrozen, Cond.code yX3_isFrozen cX3_isFrozen 2 (some .boolean), Cond.methodLink RX3 70 yX3_setting, Cond.methodLink RX4 105 yX3_capacity, Cond.instanceMethod yX3_capacity, Cond.selects RX3 yX3_capacity yX3_capacity]
def wsL_turn_r7 : List Cond := [Cond.code yX3_capacity cX3_capacity 1 (some .int), Cond.methodLink RX4 109 yX3_hoursIn, Cond.instanceMethod yX3_hoursIn, Cond.selects RX3 yX3_hoursIn yX3_hoursIn, Cond.code yX3_hoursIn cX3_hoursIn 2 (some .int), Cond.methodLink RX3 74 yX3_hoursWith, Cond.methodLink RL 62 yX4_plan, Cond.instanceMethod yX4_plan, Cond.selects RX4 yX4_plan yX4_plan, Cond.code yX4_plan cX4_plan 1 (some .int), Cond.methodLink RX4 115 yX3_planAnew, Cond.instanceMethod yX3_planAnew, Cond.selects RX3 yX3_planAnew yX3_planAnew, Cond.code yX3_planAnew cX3_planAnew 2 none, Cond.methodLink RX3 117 yX3_openPlans, Cond.instanceMethod yX3_openPlans, Cond.selects RX3 yX3_openPlans yX3_openPlans, Cond.code yX3_openPlans cX3_openPlans 4 none, Cond.methodLink RX3 128 yX2_openPlan, Cond.instanceMethod yX2_openPlan, Cond.selects RX2 yX2_openPlan yX2_openPlan, Cond.code yX2_openPlan cX2_openPlan 3 none, Cond.fieldLink RX2 71 "LotFences$Product" "behind" "J", Cond.methodLink RX2 75 Lib.Math.max.name]
def wsL_turn_r8 : List Cond := [Cond.static Lib.Math.max.name, Cond.initialized "java/lang/Math", Cond.code Lib.Math.max.name Lib.Math.max.code 2 (some .int), Cond.methodLink RX2 67 yX2_projectionBehind, Cond.instanceMethod yX2_projectionBehind, Cond.selects RX2 yX2_projectionBehind yX2_projectionBehind, Cond.code yX2_projectionBehind cX2_projectionBehind 5 (some .long), Cond.methodLink RX3 120 yX3_planWeek, Cond.instanceMethod yX3_planWeek, Cond.selects RX3 yX3_planWeek yX3_planWeek, Cond.code yX3_planWeek cX3_planWeek 5 none, Cond.fieldLink RX3 138 "LotFences$Works" "hoursLeft" "I", Cond.fieldLink RX3 141 "LotFences$Works" "familiesSetUp" "I", Cond.fieldLink RX3 148 "LotFences$Product" "waiting" "Z", Cond.methodLink RX3 131 yX2_enterWeek, Cond.instanceMethod yX2_enterWeek, Cond.selects RX2 yX2_enterWeek yX2_enterWeek, Cond.code yX2_enterWeek cX2_enterWeek 3 none, Cond.fieldLink RX2 85 "LotFences$Product" "aim" "I", Cond.fieldLink RX2 88 "LotFences$Product" "waiting" "Z", Cond.methodLink RX2 81 yX2_cover, Cond.instanceMethod yX2_cover, Cond.selects RX2 yX2_cover yX2_cover, Cond.code yX2_cover cX2_cover 2 (some .int)]
def wsL_turn_r9 : List Cond := [Cond.methodLink RX3 135 yX3_capacity, Cond.methodLink RX3 144 yX3_nextWaiting, Cond.instanceMethod yX3_nextWaiting, Cond.selects RX3 yX3_nextWaiting yX3_nextWaiting, Cond.code yX3_nextWaiting cX3_nextWaiting 4 (some (.object "LotFences$Product")), Cond.fieldLink RX3 156 "LotFences$Product" "behind" "J", Cond.methodLink RX3 152 yX3_giveLots, Cond.instanceMethod yX3_giveLots, Cond.selects RX3 yX3_giveLots yX3_giveLots, Cond.code yX3_giveLots cX3_giveLots 8 none, Cond.methodLink RX3 167 Lib.Math.min.name, Cond.static Lib.Math.min.name, Cond.code Lib.Math.min.name Lib.Math.min.code 2 (some .int), Cond.methodLink RX3 170 Lib.MathLoose.min_long.x, Cond.static Lib.MathLoose.min_long.x, Cond.code Lib.MathLoose.min_long.x Lib.MathLoose.min_long.code 4 (some .long), Cond.methodLink RX3 163 yX2_lotsWanted, Cond.instanceMethod yX2_lotsWanted, Cond.selects RX2 yX2_lotsWanted yX2_lotsWanted, Cond.code yX2_lotsWanted cX2_lotsWanted 6 (some .long), Cond.methodLink RX3 173 yX2_planLots, Cond.instanceMethod yX2_planLots, Cond.selects RX2 yX2_planLots yX2_planLots, Cond.code yX2_planLots cX2_planLots 3 none]
def wsL_turn_r10 : List Cond := [Cond.methodLink RX4 118 yX3_allLots, Cond.instanceMethod yX3_allLots, Cond.selects RX3 yX3_allLots yX3_allLots, Cond.code yX3_allLots cX3_allLots 4 (some .int), Cond.methodLink RX3 104 yX2_lotsInAll, Cond.instanceMethod yX2_lotsInAll, Cond.selects RX2 yX2_lotsInAll yX2_lotsInAll, Cond.code yX2_lotsInAll cX2_lotsInAll 3 (some .int), Cond.methodLink RL 46 yX4_weeks, Cond.instanceMethod yX4_weeks, Cond.selects RX4 yX4_weeks yX4_weeks, Cond.code yX4_weeks cX4_weeks 3 (some .int), Cond.fieldLink RX4 124 "LotFences$Works" "weeksPassed" "I", Cond.methodLink RX4 121 yX3_passWeek, Cond.instanceMethod yX3_passWeek, Cond.selects RX3 yX3_passWeek yX3_passWeek, Cond.code yX3_passWeek cX3_passWeek 5 none, Cond.methodLink RX3 176 yX3_setupsIn, Cond.instanceMethod yX3_setupsIn, Cond.selects RX3 yX3_setupsIn yX3_setupsIn, Cond.code yX3_setupsIn cX3_setupsIn 5 (some .int), Cond.methodLink RX3 90 yX3_familiesIn, Cond.instanceMethod yX3_familiesIn, Cond.selects RX3 yX3_familiesIn yX3_familiesIn]
def wsL_turn_r11 : List Cond := [Cond.code yX3_familiesIn cX3_familiesIn 5 (some .int), Cond.methodLink RX3 93 yJ6_bitCount_0f7a4, Cond.static yJ6_bitCount_0f7a4, Cond.initialized RJ6, Cond.code yJ6_bitCount_0f7a4 cJ6_bitCount_0f7a4 1 (some .int), Cond.constant RJ6 265 (1431655765), Cond.constant RJ6 266 (858993459), Cond.constant RJ6 267 (252645135), Cond.methodLink RX3 179 yX3_overtimeIn, Cond.instanceMethod yX3_overtimeIn, Cond.selects RX3 yX3_overtimeIn yX3_overtimeIn, Cond.code yX3_overtimeIn cX3_overtimeIn 2 (some .int), Cond.methodLink RX3 98 Lib.Math.max.name, Cond.methodLink RX3 182 yX2_passWeek, Cond.instanceMethod yX2_passWeek, Cond.selects RX2 yX2_passWeek yX2_passWeek, Cond.code yX2_passWeek cX2_passWeek 5 none, Cond.methodLink RX2 92 Lib.Math.min.name, Cond.methodLink RX2 95 Lib.Math.abs.name, Cond.static Lib.Math.abs.name, Cond.code Lib.Math.abs.name Lib.Math.abs.code 1 (some .int), Cond.methodLink RX3 185 yX3_allStock, Cond.instanceMethod yX3_allStock, Cond.selects RX3 yX3_allStock yX3_allStock]
def wsL_turn_r12 : List Cond := [Cond.code yX3_allStock cX3_allStock 5 (some .long), Cond.fieldLink RX3 108 "LotFences$Product" "stock" "I", Cond.methodLink RX3 189 yX3_allBacklog, Cond.instanceMethod yX3_allBacklog, Cond.selects RX3 yX3_allBacklog yX3_allBacklog, Cond.code yX3_allBacklog cX3_allBacklog 5 (some .long), Cond.fieldLink RX3 111 "LotFences$Product" "backlog" "I", Cond.methodLink RL 66 yL_any, Cond.static yL_any, Cond.code yL_any cL_any 3 (some .int), Cond.methodLink RL 50 yX4_restore, Cond.instanceMethod yX4_restore, Cond.selects RX4 yX4_restore yX4_restore, Cond.code yX4_restore cX4_restore 2 (some .int), Cond.fieldLink RX4 37 "LotFences" "saved" "[Z", Cond.fieldLink RX4 33 "LotFences" "slots" "[LLotFences$Works;", Cond.methodLink RX4 203 yX3_copyFrom]
def wsL_turn : List Cond := .code yL_turn cL_turn 5 (some .int) :: ((wsL_turn_r1 ++ (wsL_turn_r2 ++ (wsL_turn_r3 ++ (wsL_turn_r4 ++ (wsL_turn_r5 ++ (wsL_turn_r6 ++ (wsL_turn_r7 ++ (wsL_turn_r8 ++ (wsL_turn_r9 ++ (wsL_turn_r10 ++ (wsL_turn_r11 ++ wsL_turn_r12))))))))))) ++ wsX40 ++ wsX30 ++ wsX00 ++ wsX20)
def wsL_isWeeks : List Cond := .code yL_isWeeks cL_isWeeks 2 (some .boolean) :: ([])
def wsL_areRight_r1 : List Cond := [Cond.constantLong RL 69 (100), Cond.methodLink RL 13 yX4_count, Cond.instanceMethod yX4_count, Cond.selects RX4 yX4_count yX4_count, Cond.initialized RX4, Cond.code yX4_count cX4_count 4 (some .long), Cond.fieldLink RX4 10 "LotFences" "works" "LLotFences$Works;", Cond.fieldLink RX4 124 "LotFences$Works" "weeksPassed" "I", Cond.fieldLink RX4 78 "LotFences$Works" "products" "I", Cond.fieldLink RX4 178 "LotFences$Works" "setupsSoFar" "J", Cond.fieldLink RX4 182 "LotFences$Works" "overtimeSoFar" "J", Cond.fieldLink RX4 185 "LotFences$Works" "costsSoFar" "J", Cond.fieldLink RX4 22 "LotFences" "pad" "LLotFences$Pad;", Cond.fieldLink RX4 195 "LotFences$Pad" "length" "I", Cond.fieldLink RX4 29 "LotFences" "history" "LLotFences$History;", Cond.fieldLink RX4 198 "LotFences$History" "size" "I", Cond.fieldLink RX4 82 "LotFences$Works" "familyHours" "[I", Cond.constantLong RX4 201 (-2), Cond.methodLink RX4 118 yX3_allLots, Cond.instanceMethod yX3_allLots, Cond.selects RX3 yX3_allLots yX3_allLots, Cond.initialized RX3, Cond.code yX3_allLots cX3_allLots 4 (some .int), Cond.fieldLink RX3 45 "LotFences$Works" "products" "I"]
def wsL_areRight_r2 : List Cond := [Cond.methodLink RX3 49 yX3_productAt, Cond.instanceMethod yX3_productAt, Cond.selects RX3 yX3_productAt yX3_productAt, Cond.code yX3_productAt cX3_productAt 2 (some (.object "LotFences$Product")), Cond.fieldLink RX3 28 "LotFences$Works" "items" "[LLotFences$Product;", Cond.methodLink RX3 104 yX2_lotsInAll, Cond.instanceMethod yX2_lotsInAll, Cond.selects RX2 yX2_lotsInAll yX2_lotsInAll, Cond.initialized RX2, Cond.code yX2_lotsInAll cX2_lotsInAll 3 (some .int), Cond.fieldLink RX2 15 "LotFences$Product" "lots" "[I", Cond.methodLink RX4 188 yX3_allStock, Cond.instanceMethod yX3_allStock, Cond.selects RX3 yX3_allStock yX3_allStock, Cond.code yX3_allStock cX3_allStock 5 (some .long), Cond.fieldLink RX3 108 "LotFences$Product" "stock" "I", Cond.methodLink RX4 192 yX3_allBacklog, Cond.instanceMethod yX3_allBacklog, Cond.selects RX3 yX3_allBacklog yX3_allBacklog, Cond.code yX3_allBacklog cX3_allBacklog 5 (some .long), Cond.fieldLink RX3 111 "LotFences$Product" "backlog" "I", Cond.methodLink RX4 41 yX4_isIn, Cond.static yX4_isIn, Cond.code yX4_isIn cX4_isIn 3 (some .boolean)]
def wsL_areRight_r3 : List Cond := [Cond.methodLink RX4 56 yX3_setting, Cond.instanceMethod yX3_setting, Cond.selects RX3 yX3_setting yX3_setting, Cond.code yX3_setting cX3_setting 2 (some .int), Cond.fieldLink RX3 18 "LotFences$Works" "settings" "[I", Cond.methodLink RX4 64 yX4_isFamily, Cond.static yX4_isFamily, Cond.code yX4_isFamily cX4_isFamily 1 (some .boolean), Cond.methodLink RL 19 yX4_ofProduct, Cond.instanceMethod yX4_ofProduct, Cond.selects RX4 yX4_ofProduct yX4_ofProduct, Cond.code yX4_ofProduct cX4_ofProduct 4 (some .int), Cond.fieldLink RX4 127 "LotFences$Product" "family" "I", Cond.fieldLink RX4 130 "LotFences$Product" "lotSize" "I", Cond.fieldLink RX4 133 "LotFences$Product" "lotHours" "I", Cond.fieldLink RX4 136 "LotFences$Product" "setupHours" "I", Cond.fieldLink RX4 139 "LotFences$Product" "stock" "I", Cond.fieldLink RX4 142 "LotFences$Product" "backlog" "I", Cond.fieldLink RX4 145 "LotFences$Product" "error" "I", Cond.fieldLink RX4 95 "LotFences$Product" "told" "I", Cond.fieldLink RX4 151 "LotFences$Product" "made" "I", Cond.fieldLink RX4 154 "LotFences$Product" "shipped" "I", Cond.fieldLink RX4 157 "LotFences$Product" "came" "I", Cond.fieldLink RX4 160 "LotFences$Product" "began" "I"]
def wsL_areRight_r4 : List Cond := [Cond.methodLink RX4 85 yX3_productAt, Cond.methodLink RX4 148 yX2_cover, Cond.instanceMethod yX2_cover, Cond.selects RX2 yX2_cover yX2_cover, Cond.code yX2_cover cX2_cover 2 (some .int), Cond.fieldLink RX2 40 "LotFences$Product" "error" "I"]
def wsL_areRight : List Cond := .code yL_areRight cL_areRight 9 (some .boolean) :: ((wsL_areRight_r1 ++ (wsL_areRight_r2 ++ (wsL_areRight_r3 ++ wsL_areRight_r4))) ++ wsX40 ++ wsX30 ++ wsX10 ++ wsX00 ++ wsX20)
def wsL_isUndone_r1 : List Cond := [Cond.methodLink RL 13 yX4_count, Cond.instanceMethod yX4_count, Cond.selects RX4 yX4_count yX4_count, Cond.initialized RX4, Cond.code yX4_count cX4_count 4 (some .long), Cond.fieldLink RX4 10 "LotFences" "works" "LLotFences$Works;", Cond.fieldLink RX4 124 "LotFences$Works" "weeksPassed" "I", Cond.fieldLink RX4 78 "LotFences$Works" "products" "I", Cond.fieldLink RX4 178 "LotFences$Works" "setupsSoFar" "J", Cond.fieldLink RX4 182 "LotFences$Works" "overtimeSoFar" "J", Cond.fieldLink RX4 185 "LotFences$Works" "costsSoFar" "J", Cond.fieldLink RX4 22 "LotFences" "pad" "LLotFences$Pad;", Cond.fieldLink RX4 195 "LotFences$Pad" "length" "I", Cond.fieldLink RX4 29 "LotFences" "history" "LLotFences$History;", Cond.fieldLink RX4 198 "LotFences$History" "size" "I", Cond.fieldLink RX4 82 "LotFences$Works" "familyHours" "[I", Cond.constantLong RX4 201 (-2), Cond.methodLink RX4 118 yX3_allLots, Cond.instanceMethod yX3_allLots, Cond.selects RX3 yX3_allLots yX3_allLots, Cond.initialized RX3, Cond.code yX3_allLots cX3_allLots 4 (some .int), Cond.fieldLink RX3 45 "LotFences$Works" "products" "I", Cond.methodLink RX3 49 yX3_productAt]
def wsL_isUndone_r2 : List Cond := [Cond.instanceMethod yX3_productAt, Cond.selects RX3 yX3_productAt yX3_productAt, Cond.code yX3_productAt cX3_productAt 2 (some (.object "LotFences$Product")), Cond.fieldLink RX3 28 "LotFences$Works" "items" "[LLotFences$Product;", Cond.methodLink RX3 104 yX2_lotsInAll, Cond.instanceMethod yX2_lotsInAll, Cond.selects RX2 yX2_lotsInAll yX2_lotsInAll, Cond.initialized RX2, Cond.code yX2_lotsInAll cX2_lotsInAll 3 (some .int), Cond.fieldLink RX2 15 "LotFences$Product" "lots" "[I", Cond.methodLink RX4 188 yX3_allStock, Cond.instanceMethod yX3_allStock, Cond.selects RX3 yX3_allStock yX3_allStock, Cond.code yX3_allStock cX3_allStock 5 (some .long), Cond.fieldLink RX3 108 "LotFences$Product" "stock" "I", Cond.methodLink RX4 192 yX3_allBacklog, Cond.instanceMethod yX3_allBacklog, Cond.selects RX3 yX3_allBacklog yX3_allBacklog, Cond.code yX3_allBacklog cX3_allBacklog 5 (some .long), Cond.fieldLink RX3 111 "LotFences$Product" "backlog" "I", Cond.methodLink RX4 41 yX4_isIn, Cond.static yX4_isIn, Cond.code yX4_isIn cX4_isIn 3 (some .boolean), Cond.methodLink RX4 56 yX3_setting]
def wsL_isUndone_r3 : List Cond := [Cond.instanceMethod yX3_setting, Cond.selects RX3 yX3_setting yX3_setting, Cond.code yX3_setting cX3_setting 2 (some .int), Cond.fieldLink RX3 18 "LotFences$Works" "settings" "[I", Cond.methodLink RX4 64 yX4_isFamily, Cond.static yX4_isFamily, Cond.code yX4_isFamily cX4_isFamily 1 (some .boolean), Cond.methodLink RL 71 yX4_undo, Cond.instanceMethod yX4_undo, Cond.selects RX4 yX4_undo yX4_undo, Cond.code yX4_undo cX4_undo 1 (some .int), Cond.methodLink RX4 260 yX0_takeBack, Cond.instanceMethod yX0_takeBack, Cond.selects RX0 yX0_takeBack yX0_takeBack, Cond.initialized RX0, Cond.code yX0_takeBack cX0_takeBack 2 none, Cond.fieldLink RX0 22 "LotFences$History" "size" "I", Cond.fieldLink RX0 11 "LotFences$History" "states" "[LLotFences$Works;", Cond.methodLink RX0 29 yX3_copyFrom, Cond.instanceMethod yX3_copyFrom, Cond.selects RX3 yX3_copyFrom yX3_copyFrom, Cond.code yX3_copyFrom cX3_copyFrom 5 none, Cond.methodLink RX3 39 arraycopyName, Cond.native arraycopyName]
def wsL_isUndone_r4 : List Cond := [Cond.static arraycopyName, Cond.initialized "java/lang/System", Cond.fieldLink RX3 23 "LotFences$Works" "familyHours" "[I", Cond.fieldLink RX3 57 "LotFences$Works" "weeksPassed" "I", Cond.fieldLink RX3 60 "LotFences$Works" "setupsSoFar" "J", Cond.fieldLink RX3 64 "LotFences$Works" "overtimeSoFar" "J", Cond.fieldLink RX3 67 "LotFences$Works" "costsSoFar" "J", Cond.methodLink RX3 53 yX2_copyFrom, Cond.instanceMethod yX2_copyFrom, Cond.selects RX2 yX2_copyFrom yX2_copyFrom, Cond.code yX2_copyFrom cX2_copyFrom 2 none, Cond.fieldLink RX2 18 "LotFences$Product" "family" "I", Cond.fieldLink RX2 22 "LotFences$Product" "lotSize" "I", Cond.fieldLink RX2 25 "LotFences$Product" "lotHours" "I", Cond.fieldLink RX2 28 "LotFences$Product" "setupHours" "I", Cond.fieldLink RX2 31 "LotFences$Product" "began" "I", Cond.fieldLink RX2 34 "LotFences$Product" "stock" "I", Cond.fieldLink RX2 37 "LotFences$Product" "backlog" "I", Cond.fieldLink RX2 40 "LotFences$Product" "error" "I", Cond.fieldLink RX2 43 "LotFences$Product" "told" "I", Cond.fieldLink RX2 46 "LotFences$Product" "made" "I", Cond.fieldLink RX2 49 "LotFences$Product" "shipped" "I", Cond.fieldLink RX2 52 "LotFences$Product" "came" "I", Cond.fieldLink RX2 9 "LotFences$Product" "forecasts" "[I"]
def wsL_isUndone_r5 : List Cond := [Cond.methodLink RX2 61 arraycopyName, Cond.methodLink RL 74 yL_view, Cond.static yL_view, Cond.initialized RL, Cond.code yL_view cL_view 5 (some .long), Cond.constantLong RL 9 (7), Cond.constantLong RL 11 (31), Cond.methodLink RL 19 yX4_ofProduct, Cond.instanceMethod yX4_ofProduct, Cond.selects RX4 yX4_ofProduct yX4_ofProduct, Cond.code yX4_ofProduct cX4_ofProduct 4 (some .int), Cond.fieldLink RX4 127 "LotFences$Product" "family" "I", Cond.fieldLink RX4 130 "LotFences$Product" "lotSize" "I", Cond.fieldLink RX4 133 "LotFences$Product" "lotHours" "I", Cond.fieldLink RX4 136 "LotFences$Product" "setupHours" "I", Cond.fieldLink RX4 139 "LotFences$Product" "stock" "I", Cond.fieldLink RX4 142 "LotFences$Product" "backlog" "I", Cond.fieldLink RX4 145 "LotFences$Product" "error" "I", Cond.fieldLink RX4 95 "LotFences$Product" "told" "I", Cond.fieldLink RX4 151 "LotFences$Product" "made" "I", Cond.fieldLink RX4 154 "LotFences$Product" "shipped" "I", Cond.fieldLink RX4 157 "LotFences$Product" "came" "I", Cond.fieldLink RX4 160 "LotFences$Product" "began" "I", Cond.methodLink RX4 85 yX3_productAt]
def wsL_isUndone_r6 : List Cond := [Cond.methodLink RX4 148 yX2_cover, Cond.instanceMethod yX2_cover, Cond.selects RX2 yX2_cover yX2_cover, Cond.code yX2_cover cX2_cover 2 (some .int), Cond.methodLink RL 23 yX4_at, Cond.instanceMethod yX4_at, Cond.selects RX4 yX4_at yX4_at, Cond.code yX4_at cX4_at 5 (some .int), Cond.fieldLink RX4 92 "LotFences$Product" "forecasts" "[I", Cond.fieldLink RX4 112 "LotFences$Product" "lots" "[I", Cond.methodLink RX4 89 yX4_isWeek, Cond.static yX4_isWeek, Cond.code yX4_isWeek cX4_isWeek 1 (some .boolean), Cond.methodLink RL 78 yL_turn, Cond.static yL_turn, Cond.code yL_turn cL_turn 5 (some .int), Cond.methodLink RL 53 yL_up, Cond.static yL_up, Cond.code yL_up cL_up 2 (some .int), Cond.constant RL 8 (2147483647), Cond.methodLink RL 30 yX4_product, Cond.instanceMethod yX4_product, Cond.selects RX4 yX4_product yX4_product, Cond.code yX4_product cX4_product 8 (some .int)]
def wsL_isUndone_r7 : List Cond := [Cond.methodLink RX4 68 yX3_spareProduct, Cond.instanceMethod yX3_spareProduct, Cond.selects RX3 yX3_spareProduct yX3_spareProduct, Cond.code yX3_spareProduct cX3_spareProduct 1 (some (.object "LotFences$Product")), Cond.methodLink RX4 52 yX0_remember, Cond.instanceMethod yX0_remember, Cond.selects RX0 yX0_remember yX0_remember, Cond.code yX0_remember cX0_remember 2 none, Cond.fieldLink RX0 18 "LotFences$History" "paused" "Z", Cond.methodLink RX0 26 yX0_dropOldest, Cond.instanceMethod yX0_dropOldest, Cond.selects RX0 yX0_dropOldest yX0_dropOldest, Cond.code yX0_dropOldest cX0_dropOldest 3 none, Cond.methodLink RX4 72 yX2_begin, Cond.instanceMethod yX2_begin, Cond.selects RX2 yX2_begin yX2_begin, Cond.code yX2_begin cX2_begin 6 none, Cond.methodLink RX2 55 yJ7_fill_53178, Cond.static yJ7_fill_53178, Cond.initialized RJ7, Cond.code yJ7_fill_53178 cJ7_fill_53178 4 none, Cond.methodLink RL 58 yL_sets, Cond.static yL_sets, Cond.code yL_sets cL_sets 5 (some .int)]
def wsL_isUndone_r8 : List Cond := [Cond.methodLink RL 27 yX4_set, Cond.instanceMethod yX4_set, Cond.selects RX4 yX4_set yX4_set, Cond.code yX4_set cX4_set 4 (some .int), Cond.fieldLink RX4 45 "LotFences" "LEAST_SETTINGS" "[I", Cond.fieldLink RX4 49 "LotFences" "MOST_SETTINGS" "[I", Cond.methodLink RX4 60 yX3_changeSetting, Cond.instanceMethod yX3_changeSetting, Cond.selects RX3 yX3_changeSetting yX3_changeSetting, Cond.code yX3_changeSetting cX3_changeSetting 3 none, Cond.methodLink RL 34 yX4_family, Cond.instanceMethod yX4_family, Cond.selects RX4 yX4_family yX4_family, Cond.code yX4_family cX4_family 4 (some .int), Cond.methodLink RL 37 yX4_forecast, Cond.instanceMethod yX4_forecast, Cond.selects RX4 yX4_forecast yX4_forecast, Cond.code yX4_forecast cX4_forecast 6 (some .int), Cond.methodLink RL 40 yX4_actual, Cond.instanceMethod yX4_actual, Cond.selects RX4 yX4_actual yX4_actual, Cond.code yX4_actual cX4_actual 5 (some .int), Cond.methodLink RL 43 yX4_lots, Cond.instanceMethod yX4_lots]
def wsL_isUndone_r9 : List Cond := [Cond.selects RX4 yX4_lots yX4_lots, Cond.code yX4_lots cX4_lots 7 (some .int), Cond.methodLink RX4 98 yX3_hoursWith, Cond.instanceMethod yX3_hoursWith, Cond.selects RX3 yX3_hoursWith yX3_hoursWith, Cond.code yX3_hoursWith cX3_hoursWith 9 (some .int), Cond.fieldLink RX3 81 "LotFences$Product" "setupHours" "I", Cond.fieldLink RX3 84 "LotFences$Product" "lotHours" "I", Cond.fieldLink RX3 87 "LotFences$Product" "family" "I", Cond.methodLink RX3 78 yX2_lotsIn, Cond.instanceMethod yX2_lotsIn, Cond.selects RX2 yX2_lotsIn yX2_lotsIn, Cond.code yX2_lotsIn cX2_lotsIn 2 (some .int), Cond.methodLink RX4 102 yX3_isFrozen, Cond.instanceMethod yX3_isFrozen, Cond.selects RX3 yX3_isFrozen yX3_isFrozen, Cond.code yX3_isFrozen cX3_isFrozen 2 (some .boolean), Cond.methodLink RX3 70 yX3_setting, Cond.methodLink RX4 105 yX3_capacity, Cond.instanceMethod yX3_capacity, Cond.selects RX3 yX3_capacity yX3_capacity, Cond.code yX3_capacity cX3_capacity 1 (some .int), Cond.methodLink RX4 109 yX3_hoursIn, Cond.instanceMethod yX3_hoursIn]
def wsL_isUndone_r10 : List Cond := [Cond.selects RX3 yX3_hoursIn yX3_hoursIn, Cond.code yX3_hoursIn cX3_hoursIn 2 (some .int), Cond.methodLink RX3 74 yX3_hoursWith, Cond.methodLink RL 62 yX4_plan, Cond.instanceMethod yX4_plan, Cond.selects RX4 yX4_plan yX4_plan, Cond.code yX4_plan cX4_plan 1 (some .int), Cond.methodLink RX4 115 yX3_planAnew, Cond.instanceMethod yX3_planAnew, Cond.selects RX3 yX3_planAnew yX3_planAnew, Cond.code yX3_planAnew cX3_planAnew 2 none, Cond.methodLink RX3 117 yX3_openPlans, Cond.instanceMethod yX3_openPlans, Cond.selects RX3 yX3_openPlans yX3_openPlans, Cond.code yX3_openPlans cX3_openPlans 4 none, Cond.methodLink RX3 128 yX2_openPlan, Cond.instanceMethod yX2_openPlan, Cond.selects RX2 yX2_openPlan yX2_openPlan, Cond.code yX2_openPlan cX2_openPlan 3 none, Cond.fieldLink RX2 71 "LotFences$Product" "behind" "J", Cond.methodLink RX2 75 Lib.Math.max.name, Cond.static Lib.Math.max.name, Cond.initialized "java/lang/Math", Cond.code Lib.Math.max.name Lib.Math.max.code 2 (some .int)]
def wsL_isUndone_r11 : List Cond := [Cond.methodLink RX2 67 yX2_projectionBehind, Cond.instanceMethod yX2_projectionBehind, Cond.selects RX2 yX2_projectionBehind yX2_projectionBehind, Cond.code yX2_projectionBehind cX2_projectionBehind 5 (some .long), Cond.methodLink RX3 120 yX3_planWeek, Cond.instanceMethod yX3_planWeek, Cond.selects RX3 yX3_planWeek yX3_planWeek, Cond.code yX3_planWeek cX3_planWeek 5 none, Cond.fieldLink RX3 138 "LotFences$Works" "hoursLeft" "I", Cond.fieldLink RX3 141 "LotFences$Works" "familiesSetUp" "I", Cond.fieldLink RX3 148 "LotFences$Product" "waiting" "Z", Cond.methodLink RX3 131 yX2_enterWeek, Cond.instanceMethod yX2_enterWeek, Cond.selects RX2 yX2_enterWeek yX2_enterWeek, Cond.code yX2_enterWeek cX2_enterWeek 3 none, Cond.fieldLink RX2 85 "LotFences$Product" "aim" "I", Cond.fieldLink RX2 88 "LotFences$Product" "waiting" "Z", Cond.methodLink RX2 81 yX2_cover, Cond.methodLink RX3 135 yX3_capacity, Cond.methodLink RX3 144 yX3_nextWaiting, Cond.instanceMethod yX3_nextWaiting, Cond.selects RX3 yX3_nextWaiting yX3_nextWaiting, Cond.code yX3_nextWaiting cX3_nextWaiting 4 (some (.object "LotFences$Product")), Cond.fieldLink RX3 156 "LotFences$Product" "behind" "J"]
def wsL_isUndone_r12 : List Cond := [Cond.methodLink RX3 152 yX3_giveLots, Cond.instanceMethod yX3_giveLots, Cond.selects RX3 yX3_giveLots yX3_giveLots, Cond.code yX3_giveLots cX3_giveLots 8 none, Cond.methodLink RX3 167 Lib.Math.min.name, Cond.static Lib.Math.min.name, Cond.code Lib.Math.min.name Lib.Math.min.code 2 (some .int), Cond.methodLink RX3 170 Lib.MathLoose.min_long.x, Cond.static Lib.MathLoose.min_long.x, Cond.code Lib.MathLoose.min_long.x Lib.MathLoose.min_long.code 4 (some .long), Cond.methodLink RX3 163 yX2_lotsWanted, Cond.instanceMethod yX2_lotsWanted, Cond.selects RX2 yX2_lotsWanted yX2_lotsWanted, Cond.code yX2_lotsWanted cX2_lotsWanted 6 (some .long), Cond.methodLink RX3 173 yX2_planLots, Cond.instanceMethod yX2_planLots, Cond.selects RX2 yX2_planLots yX2_planLots, Cond.code yX2_planLots cX2_planLots 3 none, Cond.methodLink RL 46 yX4_weeks, Cond.instanceMethod yX4_weeks, Cond.selects RX4 yX4_weeks yX4_weeks, Cond.code yX4_weeks cX4_weeks 3 (some .int), Cond.methodLink RX4 121 yX3_passWeek, Cond.instanceMethod yX3_passWeek]
def wsL_isUndone_r13 : List Cond := [Cond.selects RX3 yX3_passWeek yX3_passWeek, Cond.code yX3_passWeek cX3_passWeek 5 none, Cond.methodLink RX3 176 yX3_setupsIn, Cond.instanceMethod yX3_setupsIn, Cond.selects RX3 yX3_setupsIn yX3_setupsIn, Cond.code yX3_setupsIn cX3_setupsIn 5 (some .int), Cond.methodLink RX3 90 yX3_familiesIn, Cond.instanceMethod yX3_familiesIn, Cond.selects RX3 yX3_familiesIn yX3_familiesIn, Cond.code yX3_familiesIn cX3_familiesIn 5 (some .int), Cond.methodLink RX3 93 yJ6_bitCount_0f7a4, Cond.static yJ6_bitCount_0f7a4, Cond.initialized RJ6, Cond.code yJ6_bitCount_0f7a4 cJ6_bitCount_0f7a4 1 (some .int), Cond.constant RJ6 265 (1431655765), Cond.constant RJ6 266 (858993459), Cond.constant RJ6 267 (252645135), Cond.methodLink RX3 179 yX3_overtimeIn, Cond.instanceMethod yX3_overtimeIn, Cond.selects RX3 yX3_overtimeIn yX3_overtimeIn, Cond.code yX3_overtimeIn cX3_overtimeIn 2 (some .int), Cond.methodLink RX3 98 Lib.Math.max.name, Cond.methodLink RX3 182 yX2_passWeek, Cond.instanceMethod yX2_passWeek]
def wsL_isUndone_r14 : List Cond := [Cond.selects RX2 yX2_passWeek yX2_passWeek, Cond.code yX2_passWeek cX2_passWeek 5 none, Cond.methodLink RX2 92 Lib.Math.min.name, Cond.methodLink RX2 95 Lib.Math.abs.name, Cond.static Lib.Math.abs.name, Cond.code Lib.Math.abs.name Lib.Math.abs.code 1 (some .int), Cond.methodLink RX3 185 yX3_allStock, Cond.methodLink RX3 189 yX3_allBacklog, Cond.methodLink RL 66 yL_any, Cond.static yL_any, Cond.code yL_any cL_any 3 (some .int), Cond.methodLink RL 50 yX4_restore, Cond.instanceMethod yX4_restore, Cond.selects RX4 yX4_restore yX4_restore, Cond.code yX4_restore cX4_restore 2 (some .int), Cond.fieldLink RX4 37 "LotFences" "saved" "[Z", Cond.fieldLink RX4 33 "LotFences" "slots" "[LLotFences$Works;", Cond.methodLink RX4 203 yX3_copyFrom]
def wsL_isUndone : List Cond := .code yL_isUndone cL_isUndone 9 (some .boolean) :: ((wsL_isUndone_r1 ++ (wsL_isUndone_r2 ++ (wsL_isUndone_r3 ++ (wsL_isUndone_r4 ++ (wsL_isUndone_r5 ++ (wsL_isUndone_r6 ++ (wsL_isUndone_r7 ++ (wsL_isUndone_r8 ++ (wsL_isUndone_r9 ++ (wsL_isUndone_r10 ++ (wsL_isUndone_r11 ++ (wsL_isUndone_r12 ++ (wsL_isUndone_r13 ++ wsL_isUndone_r14))))))))))))) ++ wsX40 ++ wsX30 ++ wsX10 ++ wsX00 ++ wsX20)
def wsL_isSaved_r1 : List Cond := [Cond.methodLink RL 74 yL_view, Cond.static yL_view, Cond.initialized RL, Cond.code yL_view cL_view 5 (some .long), Cond.constantLong RL 9 (7), Cond.constantLong RL 11 (31), Cond.methodLink RL 13 yX4_count, Cond.instanceMethod yX4_count, Cond.selects RX4 yX4_count yX4_count, Cond.initialized RX4, Cond.code yX4_count cX4_count 4 (some .long), Cond.fieldLink RX4 10 "LotFences" "works" "LLotFences$Works;", Cond.fieldLink RX4 124 "LotFences$Works" "weeksPassed" "I", Cond.fieldLink RX4 78 "LotFences$Works" "products" "I", Cond.fieldLink RX4 178 "LotFences$Works" "setupsSoFar" "J", Cond.fieldLink RX4 182 "LotFences$Works" "overtimeSoFar" "J", Cond.fieldLink RX4 185 "LotFences$Works" "costsSoFar" "J", Cond.fieldLink RX4 22 "LotFences" "pad" "LLotFences$Pad;", Cond.fieldLink RX4 195 "LotFences$Pad" "length" "I", Cond.fieldLink RX4 29 "LotFences" "history" "LLotFences$History;", Cond.fieldLink RX4 198 "LotFences$History" "size" "I", Cond.fieldLink RX4 82 "LotFences$Works" "familyHours" "[I", Cond.constantLong RX4 201 (-2), Cond.methodLink RX4 118 yX3_allLots]
def wsL_isSaved_r2 : List Cond := [Cond.instanceMethod yX3_allLots, Cond.selects RX3 yX3_allLots yX3_allLots, Cond.initialized RX3, Cond.code yX3_allLots cX3_allLots 4 (some .int), Cond.fieldLink RX3 45 "LotFences$Works" "products" "I", Cond.methodLink RX3 49 yX3_productAt, Cond.instanceMethod yX3_productAt, Cond.selects RX3 yX3_productAt yX3_productAt, Cond.code yX3_productAt cX3_productAt 2 (some (.object "LotFences$Product")), Cond.fieldLink RX3 28 "LotFences$Works" "items" "[LLotFences$Product;", Cond.methodLink RX3 104 yX2_lotsInAll, Cond.instanceMethod yX2_lotsInAll, Cond.selects RX2 yX2_lotsInAll yX2_lotsInAll, Cond.initialized RX2, Cond.code yX2_lotsInAll cX2_lotsInAll 3 (some .int), Cond.fieldLink RX2 15 "LotFences$Product" "lots" "[I", Cond.methodLink RX4 188 yX3_allStock, Cond.instanceMethod yX3_allStock, Cond.selects RX3 yX3_allStock yX3_allStock, Cond.code yX3_allStock cX3_allStock 5 (some .long), Cond.fieldLink RX3 108 "LotFences$Product" "stock" "I", Cond.methodLink RX4 192 yX3_allBacklog, Cond.instanceMethod yX3_allBacklog, Cond.selects RX3 yX3_allBacklog yX3_allBacklog]
def wsL_isSaved_r3 : List Cond := [Cond.code yX3_allBacklog cX3_allBacklog 5 (some .long), Cond.fieldLink RX3 111 "LotFences$Product" "backlog" "I", Cond.methodLink RX4 41 yX4_isIn, Cond.static yX4_isIn, Cond.code yX4_isIn cX4_isIn 3 (some .boolean), Cond.methodLink RX4 56 yX3_setting, Cond.instanceMethod yX3_setting, Cond.selects RX3 yX3_setting yX3_setting, Cond.code yX3_setting cX3_setting 2 (some .int), Cond.fieldLink RX3 18 "LotFences$Works" "settings" "[I", Cond.methodLink RX4 64 yX4_isFamily, Cond.static yX4_isFamily, Cond.code yX4_isFamily cX4_isFamily 1 (some .boolean), Cond.methodLink RL 19 yX4_ofProduct, Cond.instanceMethod yX4_ofProduct, Cond.selects RX4 yX4_ofProduct yX4_ofProduct, Cond.code yX4_ofProduct cX4_ofProduct 4 (some .int), Cond.fieldLink RX4 127 "LotFences$Product" "family" "I", Cond.fieldLink RX4 130 "LotFences$Product" "lotSize" "I", Cond.fieldLink RX4 133 "LotFences$Product" "lotHours" "I", Cond.fieldLink RX4 136 "LotFences$Product" "setupHours" "I", Cond.fieldLink RX4 139 "LotFences$Product" "stock" "I", Cond.fieldLink RX4 142 "LotFences$Product" "backlog" "I", Cond.fieldLink RX4 145 "LotFences$Product" "error" "I"]
def wsL_isSaved_r4 : List Cond := [Cond.fieldLink RX4 95 "LotFences$Product" "told" "I", Cond.fieldLink RX4 151 "LotFences$Product" "made" "I", Cond.fieldLink RX4 154 "LotFences$Product" "shipped" "I", Cond.fieldLink RX4 157 "LotFences$Product" "came" "I", Cond.fieldLink RX4 160 "LotFences$Product" "began" "I", Cond.methodLink RX4 85 yX3_productAt, Cond.methodLink RX4 148 yX2_cover, Cond.instanceMethod yX2_cover, Cond.selects RX2 yX2_cover yX2_cover, Cond.code yX2_cover cX2_cover 2 (some .int), Cond.fieldLink RX2 40 "LotFences$Product" "error" "I", Cond.methodLink RL 23 yX4_at, Cond.instanceMethod yX4_at, Cond.selects RX4 yX4_at yX4_at, Cond.code yX4_at cX4_at 5 (some .int), Cond.fieldLink RX4 92 "LotFences$Product" "forecasts" "[I", Cond.fieldLink RX4 112 "LotFences$Product" "lots" "[I", Cond.methodLink RX4 89 yX4_isWeek, Cond.static yX4_isWeek, Cond.code yX4_isWeek cX4_isWeek 1 (some .boolean), Cond.methodLink RL 82 yX4_save, Cond.instanceMethod yX4_save, Cond.selects RX4 yX4_save yX4_save, Cond.code yX4_save cX4_save 3 (some .int)]
def wsL_isSaved_r5 : List Cond := [Cond.fieldLink RX4 33 "LotFences" "slots" "[LLotFences$Works;", Cond.fieldLink RX4 37 "LotFences" "saved" "[Z", Cond.methodLink RX4 203 yX3_copyFrom, Cond.instanceMethod yX3_copyFrom, Cond.selects RX3 yX3_copyFrom yX3_copyFrom, Cond.code yX3_copyFrom cX3_copyFrom 5 none, Cond.methodLink RX3 39 arraycopyName, Cond.native arraycopyName, Cond.static arraycopyName, Cond.initialized "java/lang/System", Cond.fieldLink RX3 23 "LotFences$Works" "familyHours" "[I", Cond.fieldLink RX3 57 "LotFences$Works" "weeksPassed" "I", Cond.fieldLink RX3 60 "LotFences$Works" "setupsSoFar" "J", Cond.fieldLink RX3 64 "LotFences$Works" "overtimeSoFar" "J", Cond.fieldLink RX3 67 "LotFences$Works" "costsSoFar" "J", Cond.methodLink RX3 53 yX2_copyFrom, Cond.instanceMethod yX2_copyFrom, Cond.selects RX2 yX2_copyFrom yX2_copyFrom, Cond.code yX2_copyFrom cX2_copyFrom 2 none, Cond.fieldLink RX2 18 "LotFences$Product" "family" "I", Cond.fieldLink RX2 22 "LotFences$Product" "lotSize" "I", Cond.fieldLink RX2 25 "LotFences$Product" "lotHours" "I", Cond.fieldLink RX2 28 "LotFences$Product" "setupHours" "I", Cond.fieldLink RX2 31 "LotFences$Product" "began" "I"]
def wsL_isSaved_r6 : List Cond := [Cond.fieldLink RX2 34 "LotFences$Product" "stock" "I", Cond.fieldLink RX2 37 "LotFences$Product" "backlog" "I", Cond.fieldLink RX2 43 "LotFences$Product" "told" "I", Cond.fieldLink RX2 46 "LotFences$Product" "made" "I", Cond.fieldLink RX2 49 "LotFences$Product" "shipped" "I", Cond.fieldLink RX2 52 "LotFences$Product" "came" "I", Cond.fieldLink RX2 9 "LotFences$Product" "forecasts" "[I", Cond.methodLink RX2 61 arraycopyName, Cond.methodLink RL 53 yL_up, Cond.static yL_up, Cond.code yL_up cL_up 2 (some .int), Cond.constant RL 8 (2147483647), Cond.methodLink RL 78 yL_turn, Cond.static yL_turn, Cond.code yL_turn cL_turn 5 (some .int), Cond.methodLink RL 30 yX4_product, Cond.instanceMethod yX4_product, Cond.selects RX4 yX4_product yX4_product, Cond.code yX4_product cX4_product 8 (some .int), Cond.methodLink RX4 68 yX3_spareProduct, Cond.instanceMethod yX3_spareProduct, Cond.selects RX3 yX3_spareProduct yX3_spareProduct, Cond.code yX3_spareProduct cX3_spareProduct 1 (some (.object "LotFences$Product")), Cond.methodLink RX4 52 yX0_remember]
def wsL_isSaved_r7 : List Cond := [Cond.instanceMethod yX0_remember, Cond.selects RX0 yX0_remember yX0_remember, Cond.initialized RX0, Cond.code yX0_remember cX0_remember 2 none, Cond.fieldLink RX0 18 "LotFences$History" "paused" "Z", Cond.fieldLink RX0 22 "LotFences$History" "size" "I", Cond.fieldLink RX0 11 "LotFences$History" "states" "[LLotFences$Works;", Cond.methodLink RX0 26 yX0_dropOldest, Cond.instanceMethod yX0_dropOldest, Cond.selects RX0 yX0_dropOldest yX0_dropOldest, Cond.code yX0_dropOldest cX0_dropOldest 3 none, Cond.methodLink RX0 29 yX3_copyFrom, Cond.methodLink RX4 72 yX2_begin, Cond.instanceMethod yX2_begin, Cond.selects RX2 yX2_begin yX2_begin, Cond.code yX2_begin cX2_begin 6 none, Cond.methodLink RX2 55 yJ7_fill_53178, Cond.static yJ7_fill_53178, Cond.initialized RJ7, Cond.code yJ7_fill_53178 cJ7_fill_53178 4 none, Cond.methodLink RL 58 yL_sets, Cond.static yL_sets, Cond.code yL_sets cL_sets 5 (some .int), Cond.methodLink RL 27 yX4_set]
def wsL_isSaved_r8 : List Cond := [Cond.instanceMethod yX4_set, Cond.selects RX4 yX4_set yX4_set, Cond.code yX4_set cX4_set 4 (some .int), Cond.fieldLink RX4 45 "LotFences" "LEAST_SETTINGS" "[I", Cond.fieldLink RX4 49 "LotFences" "MOST_SETTINGS" "[I", Cond.methodLink RX4 60 yX3_changeSetting, Cond.instanceMethod yX3_changeSetting, Cond.selects RX3 yX3_changeSetting yX3_changeSetting, Cond.code yX3_changeSetting cX3_changeSetting 3 none, Cond.methodLink RL 34 yX4_family, Cond.instanceMethod yX4_family, Cond.selects RX4 yX4_family yX4_family, Cond.code yX4_family cX4_family 4 (some .int), Cond.methodLink RL 37 yX4_forecast, Cond.instanceMethod yX4_forecast, Cond.selects RX4 yX4_forecast yX4_forecast, Cond.code yX4_forecast cX4_forecast 6 (some .int), Cond.methodLink RL 40 yX4_actual, Cond.instanceMethod yX4_actual, Cond.selects RX4 yX4_actual yX4_actual, Cond.code yX4_actual cX4_actual 5 (some .int), Cond.methodLink RL 43 yX4_lots, Cond.instanceMethod yX4_lots, Cond.selects RX4 yX4_lots yX4_lots]
def wsL_isSaved_r9 : List Cond := [Cond.code yX4_lots cX4_lots 7 (some .int), Cond.methodLink RX4 98 yX3_hoursWith, Cond.instanceMethod yX3_hoursWith, Cond.selects RX3 yX3_hoursWith yX3_hoursWith, Cond.code yX3_hoursWith cX3_hoursWith 9 (some .int), Cond.fieldLink RX3 81 "LotFences$Product" "setupHours" "I", Cond.fieldLink RX3 84 "LotFences$Product" "lotHours" "I", Cond.fieldLink RX3 87 "LotFences$Product" "family" "I", Cond.methodLink RX3 78 yX2_lotsIn, Cond.instanceMethod yX2_lotsIn, Cond.selects RX2 yX2_lotsIn yX2_lotsIn, Cond.code yX2_lotsIn cX2_lotsIn 2 (some .int), Cond.methodLink RX4 102 yX3_isFrozen, Cond.instanceMethod yX3_isFrozen, Cond.selects RX3 yX3_isFrozen yX3_isFrozen, Cond.code yX3_isFrozen cX3_isFrozen 2 (some .boolean), Cond.methodLink RX3 70 yX3_setting, Cond.methodLink RX4 105 yX3_capacity, Cond.instanceMethod yX3_capacity, Cond.selects RX3 yX3_capacity yX3_capacity, Cond.code yX3_capacity cX3_capacity 1 (some .int), Cond.methodLink RX4 109 yX3_hoursIn, Cond.instanceMethod yX3_hoursIn, Cond.selects RX3 yX3_hoursIn yX3_hoursIn]
def wsL_isSaved_r10 : List Cond := [Cond.code yX3_hoursIn cX3_hoursIn 2 (some .int), Cond.methodLink RX3 74 yX3_hoursWith, Cond.methodLink RL 62 yX4_plan, Cond.instanceMethod yX4_plan, Cond.selects RX4 yX4_plan yX4_plan, Cond.code yX4_plan cX4_plan 1 (some .int), Cond.methodLink RX4 115 yX3_planAnew, Cond.instanceMethod yX3_planAnew, Cond.selects RX3 yX3_planAnew yX3_planAnew, Cond.code yX3_planAnew cX3_planAnew 2 none, Cond.methodLink RX3 117 yX3_openPlans, Cond.instanceMethod yX3_openPlans, Cond.selects RX3 yX3_openPlans yX3_openPlans, Cond.code yX3_openPlans cX3_openPlans 4 none, Cond.methodLink RX3 128 yX2_openPlan, Cond.instanceMethod yX2_openPlan, Cond.selects RX2 yX2_openPlan yX2_openPlan, Cond.code yX2_openPlan cX2_openPlan 3 none, Cond.fieldLink RX2 71 "LotFences$Product" "behind" "J", Cond.methodLink RX2 75 Lib.Math.max.name, Cond.static Lib.Math.max.name, Cond.initialized "java/lang/Math", Cond.code Lib.Math.max.name Lib.Math.max.code 2 (some .int), Cond.methodLink RX2 67 yX2_projectionBehind]
def wsL_isSaved_r11 : List Cond := [Cond.instanceMethod yX2_projectionBehind, Cond.selects RX2 yX2_projectionBehind yX2_projectionBehind, Cond.code yX2_projectionBehind cX2_projectionBehind 5 (some .long), Cond.methodLink RX3 120 yX3_planWeek, Cond.instanceMethod yX3_planWeek, Cond.selects RX3 yX3_planWeek yX3_planWeek, Cond.code yX3_planWeek cX3_planWeek 5 none, Cond.fieldLink RX3 138 "LotFences$Works" "hoursLeft" "I", Cond.fieldLink RX3 141 "LotFences$Works" "familiesSetUp" "I", Cond.fieldLink RX3 148 "LotFences$Product" "waiting" "Z", Cond.methodLink RX3 131 yX2_enterWeek, Cond.instanceMethod yX2_enterWeek, Cond.selects RX2 yX2_enterWeek yX2_enterWeek, Cond.code yX2_enterWeek cX2_enterWeek 3 none, Cond.fieldLink RX2 85 "LotFences$Product" "aim" "I", Cond.fieldLink RX2 88 "LotFences$Product" "waiting" "Z", Cond.methodLink RX2 81 yX2_cover, Cond.methodLink RX3 135 yX3_capacity, Cond.methodLink RX3 144 yX3_nextWaiting, Cond.instanceMethod yX3_nextWaiting, Cond.selects RX3 yX3_nextWaiting yX3_nextWaiting, Cond.code yX3_nextWaiting cX3_nextWaiting 4 (some (.object "LotFences$Product")), Cond.fieldLink RX3 156 "LotFences$Product" "behind" "J", Cond.methodLink RX3 152 yX3_giveLots]
def wsL_isSaved_r12 : List Cond := [Cond.instanceMethod yX3_giveLots, Cond.selects RX3 yX3_giveLots yX3_giveLots, Cond.code yX3_giveLots cX3_giveLots 8 none, Cond.methodLink RX3 167 Lib.Math.min.name, Cond.static Lib.Math.min.name, Cond.code Lib.Math.min.name Lib.Math.min.code 2 (some .int), Cond.methodLink RX3 170 Lib.MathLoose.min_long.x, Cond.static Lib.MathLoose.min_long.x, Cond.code Lib.MathLoose.min_long.x Lib.MathLoose.min_long.code 4 (some .long), Cond.methodLink RX3 163 yX2_lotsWanted, Cond.instanceMethod yX2_lotsWanted, Cond.selects RX2 yX2_lotsWanted yX2_lotsWanted, Cond.code yX2_lotsWanted cX2_lotsWanted 6 (some .long), Cond.methodLink RX3 173 yX2_planLots, Cond.instanceMethod yX2_planLots, Cond.selects RX2 yX2_planLots yX2_planLots, Cond.code yX2_planLots cX2_planLots 3 none, Cond.methodLink RL 46 yX4_weeks, Cond.instanceMethod yX4_weeks, Cond.selects RX4 yX4_weeks yX4_weeks, Cond.code yX4_weeks cX4_weeks 3 (some .int), Cond.methodLink RX4 121 yX3_passWeek, Cond.instanceMethod yX3_passWeek, Cond.selects RX3 yX3_passWeek yX3_passWeek]
def wsL_isSaved_r13 : List Cond := [Cond.code yX3_passWeek cX3_passWeek 5 none, Cond.methodLink RX3 176 yX3_setupsIn, Cond.instanceMethod yX3_setupsIn, Cond.selects RX3 yX3_setupsIn yX3_setupsIn, Cond.code yX3_setupsIn cX3_setupsIn 5 (some .int), Cond.methodLink RX3 90 yX3_familiesIn, Cond.instanceMethod yX3_familiesIn, Cond.selects RX3 yX3_familiesIn yX3_familiesIn, Cond.code yX3_familiesIn cX3_familiesIn 5 (some .int), Cond.methodLink RX3 93 yJ6_bitCount_0f7a4, Cond.static yJ6_bitCount_0f7a4, Cond.initialized RJ6, Cond.code yJ6_bitCount_0f7a4 cJ6_bitCount_0f7a4 1 (some .int), Cond.constant RJ6 265 (1431655765), Cond.constant RJ6 266 (858993459), Cond.constant RJ6 267 (252645135), Cond.methodLink RX3 179 yX3_overtimeIn, Cond.instanceMethod yX3_overtimeIn, Cond.selects RX3 yX3_overtimeIn yX3_overtimeIn, Cond.code yX3_overtimeIn cX3_overtimeIn 2 (some .int), Cond.methodLink RX3 98 Lib.Math.max.name, Cond.methodLink RX3 182 yX2_passWeek, Cond.instanceMethod yX2_passWeek, Cond.selects RX2 yX2_passWeek yX2_passWeek]
def wsL_isSaved_r14 : List Cond := [Cond.code yX2_passWeek cX2_passWeek 5 none, Cond.methodLink RX2 92 Lib.Math.min.name, Cond.methodLink RX2 95 Lib.Math.abs.name, Cond.static Lib.Math.abs.name, Cond.code Lib.Math.abs.name Lib.Math.abs.code 1 (some .int), Cond.methodLink RX3 185 yX3_allStock, Cond.methodLink RX3 189 yX3_allBacklog, Cond.methodLink RL 66 yL_any, Cond.static yL_any, Cond.code yL_any cL_any 3 (some .int), Cond.methodLink RL 50 yX4_restore, Cond.instanceMethod yX4_restore, Cond.selects RX4 yX4_restore yX4_restore, Cond.code yX4_restore cX4_restore 2 (some .int)]
def wsL_isSaved : List Cond := .code yL_isSaved cL_isSaved 7 (some .boolean) :: ((wsL_isSaved_r1 ++ (wsL_isSaved_r2 ++ (wsL_isSaved_r3 ++ (wsL_isSaved_r4 ++ (wsL_isSaved_r5 ++ (wsL_isSaved_r6 ++ (wsL_isSaved_r7 ++ (wsL_isSaved_r8 ++ (wsL_isSaved_r9 ++ (wsL_isSaved_r10 ++ (wsL_isSaved_r11 ++ (wsL_isSaved_r12 ++ (wsL_isSaved_r13 ++ wsL_isSaved_r14))))))))))))) ++ wsX40 ++ wsX30 ++ wsX10 ++ wsX00 ++ wsX20)
def wsL_asks_r1 : List Cond := [Cond.methodLink RL 74 yL_view, Cond.static yL_view, Cond.initialized RL, Cond.code yL_view cL_view 5 (some .long), Cond.constantLong RL 9 (7), Cond.constantLong RL 11 (31), Cond.methodLink RL 13 yX4_count, Cond.instanceMethod yX4_count, Cond.selects RX4 yX4_count yX4_count, Cond.initialized RX4, Cond.code yX4_count cX4_count 4 (some .long), Cond.fieldLink RX4 10 "LotFences" "works" "LLotFences$Works;", Cond.fieldLink RX4 124 "LotFences$Works" "weeksPassed" "I", Cond.fieldLink RX4 78 "LotFences$Works" "products" "I", Cond.fieldLink RX4 178 "LotFences$Works" "setupsSoFar" "J", Cond.fieldLink RX4 182 "LotFences$Works" "overtimeSoFar" "J", Cond.fieldLink RX4 185 "LotFences$Works" "costsSoFar" "J", Cond.fieldLink RX4 22 "LotFences" "pad" "LLotFences$Pad;", Cond.fieldLink RX4 195 "LotFences$Pad" "length" "I", Cond.fieldLink RX4 29 "LotFences" "history" "LLotFences$History;", Cond.fieldLink RX4 198 "LotFences$History" "size" "I", Cond.fieldLink RX4 82 "LotFences$Works" "familyHours" "[I", Cond.constantLong RX4 201 (-2), Cond.methodLink RX4 118 yX3_allLots]
def wsL_asks_r2 : List Cond := [Cond.instanceMethod yX3_allLots, Cond.selects RX3 yX3_allLots yX3_allLots, Cond.initialized RX3, Cond.code yX3_allLots cX3_allLots 4 (some .int), Cond.fieldLink RX3 45 "LotFences$Works" "products" "I", Cond.methodLink RX3 49 yX3_productAt, Cond.instanceMethod yX3_productAt, Cond.selects RX3 yX3_productAt yX3_productAt, Cond.code yX3_productAt cX3_productAt 2 (some (.object "LotFences$Product")), Cond.fieldLink RX3 28 "LotFences$Works" "items" "[LLotFences$Product;", Cond.methodLink RX3 104 yX2_lotsInAll, Cond.instanceMethod yX2_lotsInAll, Cond.selects RX2 yX2_lotsInAll yX2_lotsInAll, Cond.initialized RX2, Cond.code yX2_lotsInAll cX2_lotsInAll 3 (some .int), Cond.fieldLink RX2 15 "LotFences$Product" "lots" "[I", Cond.methodLink RX4 188 yX3_allStock, Cond.instanceMethod yX3_allStock, Cond.selects RX3 yX3_allStock yX3_allStock, Cond.code yX3_allStock cX3_allStock 5 (some .long), Cond.fieldLink RX3 108 "LotFences$Product" "stock" "I", Cond.methodLink RX4 192 yX3_allBacklog, Cond.instanceMethod yX3_allBacklog, Cond.selects RX3 yX3_allBacklog yX3_allBacklog]
def wsL_asks_r3 : List Cond := [Cond.code yX3_allBacklog cX3_allBacklog 5 (some .long), Cond.fieldLink RX3 111 "LotFences$Product" "backlog" "I", Cond.methodLink RX4 41 yX4_isIn, Cond.static yX4_isIn, Cond.code yX4_isIn cX4_isIn 3 (some .boolean), Cond.methodLink RX4 56 yX3_setting, Cond.instanceMethod yX3_setting, Cond.selects RX3 yX3_setting yX3_setting, Cond.code yX3_setting cX3_setting 2 (some .int), Cond.fieldLink RX3 18 "LotFences$Works" "settings" "[I", Cond.methodLink RX4 64 yX4_isFamily, Cond.static yX4_isFamily, Cond.code yX4_isFamily cX4_isFamily 1 (some .boolean), Cond.methodLink RL 19 yX4_ofProduct, Cond.instanceMethod yX4_ofProduct, Cond.selects RX4 yX4_ofProduct yX4_ofProduct, Cond.code yX4_ofProduct cX4_ofProduct 4 (some .int), Cond.fieldLink RX4 127 "LotFences$Product" "family" "I", Cond.fieldLink RX4 130 "LotFences$Product" "lotSize" "I", Cond.fieldLink RX4 133 "LotFences$Product" "lotHours" "I", Cond.fieldLink RX4 136 "LotFences$Product" "setupHours" "I", Cond.fieldLink RX4 139 "LotFences$Product" "stock" "I", Cond.fieldLink RX4 142 "LotFences$Product" "backlog" "I", Cond.fieldLink RX4 145 "LotFences$Product" "error" "I"]
def wsL_asks_r4 : List Cond := [Cond.fieldLink RX4 95 "LotFences$Product" "told" "I", Cond.fieldLink RX4 151 "LotFences$Product" "made" "I", Cond.fieldLink RX4 154 "LotFences$Product" "shipped" "I", Cond.fieldLink RX4 157 "LotFences$Product" "came" "I", Cond.fieldLink RX4 160 "LotFences$Product" "began" "I", Cond.methodLink RX4 85 yX3_productAt, Cond.methodLink RX4 148 yX2_cover, Cond.instanceMethod yX2_cover, Cond.selects RX2 yX2_cover yX2_cover, Cond.code yX2_cover cX2_cover 2 (some .int), Cond.fieldLink RX2 40 "LotFences$Product" "error" "I", Cond.methodLink RL 23 yX4_at, Cond.instanceMethod yX4_at, Cond.selects RX4 yX4_at yX4_at, Cond.code yX4_at cX4_at 5 (some .int), Cond.fieldLink RX4 92 "LotFences$Product" "forecasts" "[I", Cond.fieldLink RX4 112 "LotFences$Product" "lots" "[I", Cond.methodLink RX4 89 yX4_isWeek, Cond.static yX4_isWeek, Cond.code yX4_isWeek cX4_isWeek 1 (some .boolean), Cond.methodLink RL 53 yL_up, Cond.static yL_up, Cond.code yL_up cL_up 2 (some .int), Cond.constant RL 8 (2147483647)]
def wsL_asks_r5 : List Cond := [Cond.methodLink RL 85 yX4_costs, Cond.instanceMethod yX4_costs, Cond.selects RX4 yX4_costs yX4_costs, Cond.code yX4_costs cX4_costs 4 (some .long), Cond.fieldLink RX4 16 "LotFences" "trial" "LLotFences$Works;", Cond.methodLink RX4 203 yX3_copyFrom, Cond.instanceMethod yX3_copyFrom, Cond.selects RX3 yX3_copyFrom yX3_copyFrom, Cond.code yX3_copyFrom cX3_copyFrom 5 none, Cond.methodLink RX3 39 arraycopyName, Cond.native arraycopyName, Cond.static arraycopyName, Cond.initialized "java/lang/System", Cond.fieldLink RX3 23 "LotFences$Works" "familyHours" "[I", Cond.fieldLink RX3 57 "LotFences$Works" "weeksPassed" "I", Cond.fieldLink RX3 60 "LotFences$Works" "setupsSoFar" "J", Cond.fieldLink RX3 64 "LotFences$Works" "overtimeSoFar" "J", Cond.fieldLink RX3 67 "LotFences$Works" "costsSoFar" "J", Cond.methodLink RX3 53 yX2_copyFrom, Cond.instanceMethod yX2_copyFrom, Cond.selects RX2 yX2_copyFrom yX2_copyFrom, Cond.code yX2_copyFrom cX2_copyFrom 2 none, Cond.fieldLink RX2 18 "LotFences$Product" "family" "I", Cond.fieldLink RX2 22 "LotFences$Product" "lotSize" "I"]
def wsL_asks_r6 : List Cond := [Cond.fieldLink RX2 25 "LotFences$Product" "lotHours" "I", Cond.fieldLink RX2 28 "LotFences$Product" "setupHours" "I", Cond.fieldLink RX2 31 "LotFences$Product" "began" "I", Cond.fieldLink RX2 34 "LotFences$Product" "stock" "I", Cond.fieldLink RX2 37 "LotFences$Product" "backlog" "I", Cond.fieldLink RX2 43 "LotFences$Product" "told" "I", Cond.fieldLink RX2 46 "LotFences$Product" "made" "I", Cond.fieldLink RX2 49 "LotFences$Product" "shipped" "I", Cond.fieldLink RX2 52 "LotFences$Product" "came" "I", Cond.fieldLink RX2 9 "LotFences$Product" "forecasts" "[I", Cond.methodLink RX2 61 arraycopyName, Cond.methodLink RX4 60 yX3_changeSetting, Cond.instanceMethod yX3_changeSetting, Cond.selects RX3 yX3_changeSetting yX3_changeSetting, Cond.code yX3_changeSetting cX3_changeSetting 3 none, Cond.methodLink RX4 210 yX3_forgetTold, Cond.instanceMethod yX3_forgetTold, Cond.selects RX3 yX3_forgetTold yX3_forgetTold, Cond.code yX3_forgetTold cX3_forgetTold 3 none, Cond.fieldLink RX3 114 "LotFences$Product" "told" "I", Cond.methodLink RX4 115 yX3_planAnew, Cond.instanceMethod yX3_planAnew, Cond.selects RX3 yX3_planAnew yX3_planAnew, Cond.code yX3_planAnew cX3_planAnew 2 none]
def wsL_asks_r7 : List Cond := [Cond.methodLink RX3 117 yX3_openPlans, Cond.instanceMethod yX3_openPlans, Cond.selects RX3 yX3_openPlans yX3_openPlans, Cond.code yX3_openPlans cX3_openPlans 4 none, Cond.methodLink RX3 70 yX3_setting, Cond.methodLink RX3 128 yX2_openPlan, Cond.instanceMethod yX2_openPlan, Cond.selects RX2 yX2_openPlan yX2_openPlan, Cond.code yX2_openPlan cX2_openPlan 3 none, Cond.fieldLink RX2 71 "LotFences$Product" "behind" "J", Cond.methodLink RX2 75 Lib.Math.max.name, Cond.static Lib.Math.max.name, Cond.initialized "java/lang/Math", Cond.code Lib.Math.max.name Lib.Math.max.code 2 (some .int), Cond.methodLink RX2 67 yX2_projectionBehind, Cond.instanceMethod yX2_projectionBehind, Cond.selects RX2 yX2_projectionBehind yX2_projectionBehind, Cond.code yX2_projectionBehind cX2_projectionBehind 5 (some .long), Cond.methodLink RX3 120 yX3_planWeek, Cond.instanceMethod yX3_planWeek, Cond.selects RX3 yX3_planWeek yX3_planWeek, Cond.code yX3_planWeek cX3_planWeek 5 none, Cond.fieldLink RX3 138 "LotFences$Works" "hoursLeft" "I", Cond.fieldLink RX3 141 "LotFences$Works" "familiesSetUp" "I"]
def wsL_asks_r8 : List Cond := [Cond.fieldLink RX3 148 "LotFences$Product" "waiting" "Z", Cond.methodLink RX3 131 yX2_enterWeek, Cond.instanceMethod yX2_enterWeek, Cond.selects RX2 yX2_enterWeek yX2_enterWeek, Cond.code yX2_enterWeek cX2_enterWeek 3 none, Cond.fieldLink RX2 85 "LotFences$Product" "aim" "I", Cond.fieldLink RX2 88 "LotFences$Product" "waiting" "Z", Cond.methodLink RX2 81 yX2_cover, Cond.methodLink RX3 135 yX3_capacity, Cond.instanceMethod yX3_capacity, Cond.selects RX3 yX3_capacity yX3_capacity, Cond.code yX3_capacity cX3_capacity 1 (some .int), Cond.methodLink RX3 144 yX3_nextWaiting, Cond.instanceMethod yX3_nextWaiting, Cond.selects RX3 yX3_nextWaiting yX3_nextWaiting, Cond.code yX3_nextWaiting cX3_nextWaiting 4 (some (.object "LotFences$Product")), Cond.fieldLink RX3 156 "LotFences$Product" "behind" "J", Cond.methodLink RX3 152 yX3_giveLots, Cond.instanceMethod yX3_giveLots, Cond.selects RX3 yX3_giveLots yX3_giveLots, Cond.code yX3_giveLots cX3_giveLots 8 none, Cond.fieldLink RX3 87 "LotFences$Product" "family" "I", Cond.fieldLink RX3 81 "LotFences$Product" "setupHours" "I", Cond.fieldLink RX3 84 "LotFences$Product" "lotHours" "I"]
def wsL_asks_r9 : List Cond := [Cond.methodLink RX3 167 Lib.Math.min.name, Cond.static Lib.Math.min.name, Cond.code Lib.Math.min.name Lib.Math.min.code 2 (some .int), Cond.methodLink RX3 170 Lib.MathLoose.min_long.x, Cond.static Lib.MathLoose.min_long.x, Cond.code Lib.MathLoose.min_long.x Lib.MathLoose.min_long.code 4 (some .long), Cond.methodLink RX3 163 yX2_lotsWanted, Cond.instanceMethod yX2_lotsWanted, Cond.selects RX2 yX2_lotsWanted yX2_lotsWanted, Cond.code yX2_lotsWanted cX2_lotsWanted 6 (some .long), Cond.methodLink RX3 173 yX2_planLots, Cond.instanceMethod yX2_planLots, Cond.selects RX2 yX2_planLots yX2_planLots, Cond.code yX2_planLots cX2_planLots 3 none, Cond.methodLink RX4 121 yX3_passWeek, Cond.instanceMethod yX3_passWeek, Cond.selects RX3 yX3_passWeek yX3_passWeek, Cond.code yX3_passWeek cX3_passWeek 5 none, Cond.methodLink RX3 176 yX3_setupsIn, Cond.instanceMethod yX3_setupsIn, Cond.selects RX3 yX3_setupsIn yX3_setupsIn, Cond.code yX3_setupsIn cX3_setupsIn 5 (some .int), Cond.methodLink RX3 90 yX3_familiesIn, Cond.instanceMethod yX3_familiesIn]
def wsL_asks_r10 : List Cond := [Cond.selects RX3 yX3_familiesIn yX3_familiesIn, Cond.code yX3_familiesIn cX3_familiesIn 5 (some .int), Cond.methodLink RX3 78 yX2_lotsIn, Cond.instanceMethod yX2_lotsIn, Cond.selects RX2 yX2_lotsIn yX2_lotsIn, Cond.code yX2_lotsIn cX2_lotsIn 2 (some .int), Cond.methodLink RX3 93 yJ6_bitCount_0f7a4, Cond.static yJ6_bitCount_0f7a4, Cond.initialized RJ6, Cond.code yJ6_bitCount_0f7a4 cJ6_bitCount_0f7a4 1 (some .int), Cond.constant RJ6 265 (1431655765), Cond.constant RJ6 266 (858993459), Cond.constant RJ6 267 (252645135), Cond.methodLink RX3 179 yX3_overtimeIn, Cond.instanceMethod yX3_overtimeIn, Cond.selects RX3 yX3_overtimeIn yX3_overtimeIn, Cond.code yX3_overtimeIn cX3_overtimeIn 2 (some .int), Cond.methodLink RX3 98 Lib.Math.max.name, Cond.methodLink RX3 74 yX3_hoursWith, Cond.instanceMethod yX3_hoursWith, Cond.selects RX3 yX3_hoursWith yX3_hoursWith, Cond.code yX3_hoursWith cX3_hoursWith 9 (some .int), Cond.methodLink RX3 182 yX2_passWeek, Cond.instanceMethod yX2_passWeek]
def wsL_asks_r11 : List Cond := [Cond.selects RX2 yX2_passWeek yX2_passWeek, Cond.code yX2_passWeek cX2_passWeek 5 none, Cond.methodLink RX2 92 Lib.Math.min.name, Cond.methodLink RX2 95 Lib.Math.abs.name, Cond.static Lib.Math.abs.name, Cond.code Lib.Math.abs.name Lib.Math.abs.code 1 (some .int), Cond.methodLink RX3 185 yX3_allStock, Cond.methodLink RX3 189 yX3_allBacklog, Cond.methodLink RL 89 yX4_leastHours, Cond.instanceMethod yX4_leastHours, Cond.selects RX4 yX4_leastHours yX4_leastHours, Cond.code yX4_leastHours cX4_leastHours 2 (some .int), Cond.methodLink RX4 206 yX3_plansWithoutShortage, Cond.instanceMethod yX3_plansWithoutShortage, Cond.selects RX3 yX3_plansWithoutShortage yX3_plansWithoutShortage, Cond.code yX3_plansWithoutShortage cX3_plansWithoutShortage 2 (some .boolean), Cond.methodLink RX3 124 yX3_isShort, Cond.instanceMethod yX3_isShort, Cond.selects RX3 yX3_isShort yX3_isShort, Cond.code yX3_isShort cX3_isShort 3 (some .boolean), Cond.methodLink RL 92 yX4_roomFor, Cond.instanceMethod yX4_roomFor, Cond.selects RX4 yX4_roomFor yX4_roomFor, Cond.code yX4_roomFor cX4_roomFor 6 (some .int)]
def wsL_asks_r12 : List Cond := [Cond.methodLink RX4 217 Lib.Math.min.name, Cond.methodLink RX4 105 yX3_capacity, Cond.methodLink RX4 98 yX3_hoursWith]
def wsL_asks : List Cond := .code yL_asks cL_asks 7 (some .boolean) :: ((wsL_asks_r1 ++ (wsL_asks_r2 ++ (wsL_asks_r3 ++ (wsL_asks_r4 ++ (wsL_asks_r5 ++ (wsL_asks_r6 ++ (wsL_asks_r7 ++ (wsL_asks_r8 ++ (wsL_asks_r9 ++ (wsL_asks_r10 ++ (wsL_asks_r11 ++ wsL_asks_r12))))))))))) ++ wsX40 ++ wsX30 ++ wsX10 ++ wsX00 ++ wsX20)
theorem inJx8e188 : ∀ w ∈ wsJx8e1880, w ∈ lw_tbl := by decide +kernel
theorem inJ6 : ∀ w ∈ wsJ60, w ∈ lw_tbl := by decide +kernel
theorem inJ9 : ∀ w ∈ wsJ90, w ∈ lw_tbl := by decide +kernel
theorem inJ10 : ∀ w ∈ wsJ100, w ∈ lw_tbl := by decide +kernel
theorem inJ7 : ∀ w ∈ wsJ70, w ∈ lw_tbl := by decide +kernel
abbrev vwCl : List vw_C := [(RX0, TX0, 3), (RX1, TX1, 7), (RX2, TX2, 17), (RX3, TX3, 10), (RX4, TX4, 6)]
end
section
theorem dX0_init_0 : decode cX0_init 0 = .ok (.aload_n 0, 1) := by decide +kernel
theorem dX0_init_1 : decode cX0_init 1 = .ok (.invokespecial 3, 3) := by decide +kernel
theorem dX0_init_4 : decode cX0_init 4 = .ok (.aload_n 0, 1) := by decide +kernel
theorem dX0_init_5 : decode cX0_init 5 = .ok (.bipush 6, 2) := by decide +kernel
theorem dX0_init_7 : decode cX0_init 7 = .ok (.anewarray 9, 3) := by decide +kernel
theorem dX0_init_10 : decode cX0_init 10 = .ok (.putfield 11, 3) := by decide +kernel
theorem dX0_init_13 : decode cX0_init 13 = .ok (.iconst 0, 1) := by decide +kernel
theorem dX0_init_14 : decode cX0_init 14 = .ok (.istore_n 1, 1) := by decide +kernel
theorem dX0_init_15 : decode cX0_init 15 = .ok (.iload_n 1, 1) := by decide +kernel
theorem dX0_init_16 : decode cX0_init 16 = .ok (.bipush 6, 2) := by decide +kernel
theorem dX0_init_18 : decode cX0_init 18 = .ok (.if_icmp .ge 22, 3) := by decide +kernel
theorem dX0_init_21 : decode cX0_init 21 = .ok (.aload_n 0, 1) := by decide +kernel
theorem dX0_init_22 : decode cX0_init 22 = .ok (.getfield 11, 3) := by decide +kernel
theorem dX0_init_25 : decode cX0_init 25 = .ok (.iload_n 1, 1) := by decide +kernel
theorem dX0_init_26 : decode cX0_init 26 = .ok (.new 9, 3) := by decide +kernel
theorem dX0_init_29 : decode cX0_init 29 = .ok (.dup, 1) := by decide +kernel
theorem dX0_init_30 : decode cX0_init 30 = .ok (.invokespecial 17, 3) := by decide +kernel
theorem dX0_init_33 : decode cX0_init 33 = .ok (.aastore, 1) := by decide +kernel
theorem dX0_init_34 : decode cX0_init 34 = .ok (.iinc 1 1, 3) := by decide +kernel
theorem dX0_init_37 : decode cX0_init 37 = .ok (.goto (-22), 3) := by decide +kernel
theorem dX0_init_40 : decode cX0_init 40 = .ok (.return_, 1) := by decide +kernel
theorem dX0_remember_0 : decode cX0_remember 0 = .ok (.aload_n 0, 1) := by decide +kernel
theorem dX0_remember_1 : decode cX0_remember 1 = .ok (.getfield 18, 3) := by decide +kernel
theorem dX0_remember_4 : decode cX0_remember 4 = .ok (.ifCond .eq 4, 3) := by decide +kernel
theorem dX0_remember_7 : decode cX0_remember 7 = .ok (.return_, 1) := by decide +kernel
theorem dX0_remember_8 : decode cX0_remember 8 = .ok (.aload_n 0, 1) := by decide +kernel
theorem dX0_remember_9 : decode cX0_remember 9 = .ok (.getfield 22, 3) := by decide +kernel
theorem dX0_remember_12 : decode cX0_remember 12 = .ok (.bipush 6, 2) := by decide +kernel
theorem dX0_remember_14 : decode cX0_remember 14 = .ok (.if_icmp .lt 7, 3) := by decide +kernel
theorem dX0_remember_17 : decode cX0_remember 17 = .ok (.aload_n 0, 1) := by decide +kernel
theorem dX0_remember_18 : decode cX0_remember 18 = .ok (.invokevirtual 26, 3) := by decide +kernel
theorem dX0_remember_21 : decode cX0_remember 21 = .ok (.aload_n 0, 1) := by decide +kernel
theorem dX0_remember_22 : decode cX0_remember 22 = .ok (.getfield 22, 3) := by decide +kernel
theorem dX0_remember_25 : decode cX0_remember 25 = .ok (.ifCond .lt 47, 3) := by decide +kernel
theorem dX0_remember_28 : decode cX0_remember 28 = .ok (.aload_n 0, 1) := by decide +kernel
theorem dX0_remember_29 : decode cX0_remember 29 = .ok (.getfield 22, 3) := by decide +kernel
theorem dX0_remember_32 : decode cX0_remember 32 = .ok (.bipush 6, 2) := by decide +kernel
theorem dX0_remember_34 : decode cX0_remember 34 = .ok (.if_icmp .ge 38, 3) := by decide +kernel
theorem dX0_remember_37 : decode cX0_remember 37 = .ok (.aload_n 0, 1) := by decide +kernel
theorem dX0_remember_38 : decode cX0_remember 38 = .ok (.getfield 11, 3) := by decide +kernel
theorem dX0_remember_41 : decode cX0_remember 41 = .ok (.aload_n 0, 1) := by decide +kernel
theorem dX0_remember_42 : decode cX0_remember 42 = .ok (.getfield 22, 3) := by decide +kernel
theorem dX0_remember_45 : decode cX0_remember 45 = .ok (.aaload, 1) := by decide +kernel
theorem dX0_remember_46 : decode cX0_remember 46 = .ok (.ifnull 26, 3) := by decide +kernel
theorem dX0_remember_49 : decode cX0_remember 49 = .ok (.aload_n 0, 1) := by decide +kernel
theorem dX0_remember_50 : decode cX0_remember 50 = .ok (.getfield 11, 3) := by decide +kernel
theorem dX0_remember_53 : decode cX0_remember 53 = .ok (.aload_n 0, 1) := by decide +kernel
theorem dX0_remember_54 : decode cX0_remember 54 = .ok (.getfield 22, 3) := by decide +kernel
theorem dX0_remember_57 : decode cX0_remember 57 = .ok (.aaload, 1) := by decide +kernel
theorem dX0_remember_58 : decode cX0_remember 58 = .ok (.aload_n 1, 1) := by decide +kernel
theorem dX0_remember_59 : decode cX0_remember 59 = .ok (.invokevirtual 29, 3) := by decide +kernel
theorem dX0_remember_62 : decode cX0_remember 62 = .ok (.aload_n 0, 1) := by decide +kernel
theorem dX0_remember_63 : decode cX0_remember 63 = .ok (.dup, 1) := by decide +kernel
theorem dX0_remember_64 : decode cX0_remember 64 = .ok (.getfield 22, 3) := by decide +kernel
theorem dX0_remember_67 : decode cX0_remember 67 = .ok (.iconst 1, 1) := by decide +kernel
theorem dX0_remember_68 : decode cX0_remember 68 = .ok (.iadd, 1) := by decide +kernel
theorem dX0_remember_69 : decode cX0_remember 69 = .ok (.putfield 22, 3) := by decide +kernel
theorem dX0_remember_72 : decode cX0_remember 72 = .ok (.return_, 1) := by decide +kernel
theorem dX0_takeBack_0 : decode cX0_takeBack 0 = .ok (.aload_n 0, 1) := by decide +kernel
theorem dX0_takeBack_1 : decode cX0_takeBack 1 = .ok (.getfield 22, 3) := by decide +kernel
theorem dX0_takeBack_4 : decode cX0_takeBack 4 = .ok (.ifCond .le 35, 3) := by decide +kernel
theorem dX0_takeBack_7 : decode cX0_takeBack 7 = .ok (.aload_n 0, 1) := by decide +kernel
theorem dX0_takeBack_8 : decode cX0_takeBack 8 = .ok (.getfield 22, 3) := by decide +kernel
theorem dX0_takeBack_11 : decode cX0_takeBack 11 = .ok (.bipush 6, 2) := by decide +kernel
theorem dX0_takeBack_13 : decode cX0_takeBack 13 = .ok (.if_icmp .gt 26, 3) := by decide +kernel
theorem dX0_takeBack_16 : decode cX0_takeBack 16 = .ok (.aload_n 0, 1) := by decide +kernel
theorem dX0_takeBack_17 : decode cX0_takeBack 17 = .ok (.dup, 1) := by decide +kernel
theorem dX0_takeBack_18 : decode cX0_takeBack 18 = .ok (.getfield 22, 3) := by decide +kernel
theorem dX0_takeBack_21 : decode cX0_takeBack 21 = .ok (.iconst 1, 1) := by decide +kernel
theorem dX0_takeBack_22 : decode cX0_takeBack 22 = .ok (.isub, 1) := by decide +kernel
theorem dX0_takeBack_23 : decode cX0_takeBack 23 = .ok (.putfield 22, 3) := by decide +kernel
theorem dX0_takeBack_26 : decode cX0_takeBack 26 = .ok (.aload_n 1, 1) := by decide +kernel
theorem dX0_takeBack_27 : decode cX0_takeBack 27 = .ok (.aload_n 0, 1) := by decide +kernel
theorem dX0_takeBack_28 : decode cX0_takeBack 28 = .ok (.getfield 11, 3) := by decide +kernel
theorem dX0_takeBack_31 : decode cX0_takeBack 31 = .ok (.aload_n 0, 1) := by decide +kernel
theorem dX0_takeBack_32 : decode cX0_takeBack 32 = .ok (.getfield 22, 3) := by decide +kernel
theorem dX0_takeBack_35 : decode cX0_takeBack 35 = .ok (.aaload, 1) := by decide +kernel
theorem dX0_takeBack_36 : decode cX0_takeBack 36 = .ok (.invokevirtual 29, 3) := by decide +kernel
theorem dX0_takeBack_39 : decode cX0_takeBack 39 = .ok (.return_, 1) := by decide +kernel
theorem dX0_dropOldest_0 : decode cX0_dropOldest 0 = .ok (.aload_n 0, 1) := by decide +kernel
theorem dX0_dropOldest_1 : decode cX0_dropOldest 1 = .ok (.getfield 11, 3) := by decide +kernel
theorem dX0_dropOldest_4 : decode cX0_dropOldest 4 = .ok (.iconst 0, 1) := by decide +kernel
theorem dX0_dropOldest_5 : decode cX0_dropOldest 5 = .ok (.aaload, 1) := by decide +kernel
theorem dX0_dropOldest_6 : decode cX0_dropOldest 6 = .ok (.astore_n 1, 1) := by decide +kernel
theorem dX0_dropOldest_7 : decode cX0_dropOldest 7 = .ok (.iconst 1, 1) := by decide +kernel
theorem dX0_dropOldest_8 : decode cX0_dropOldest 8 = .ok (.istore_n 2, 1) := by decide +kernel
theorem dX0_dropOldest_9 : decode cX0_dropOldest 9 = .ok (.iload_n 2, 1) := by decide +kernel
theorem dX0_dropOldest_10 : decode cX0_dropOldest 10 = .ok (.bipush 6, 2) := by decide +kernel
theorem dX0_dropOldest_12 : decode cX0_dropOldest 12 = .ok (.if_icmp .ge 23, 3) := by decide +kernel
theorem dX0_dropOldest_15 : decode cX0_dropOldest 15 = .ok (.aload_n 0, 1) := by decide +kernel
theorem dX0_dropOldest_16 : decode cX0_dropOldest 16 = .ok (.getfield 11, 3) := by decide +kernel
theorem dX0_dropOldest_19 : decode cX0_dropOldest 19 = .ok (.iload_n 2, 1) := by decide +kernel
theorem dX0_dropOldest_20 : decode cX0_dropOldest 20 = .ok (.iconst 1, 1) := by decide +kernel
theorem dX0_dropOldest_21 : decode cX0_dropOldest 21 = .ok (.isub, 1) := by decide +kernel
theorem dX0_dropOldest_22 : decode cX0_dropOldest 22 = .ok (.aload_n 0, 1) := by decide +kernel
theorem dX0_dropOldest_23 : decode cX0_dropOldest 23 = .ok (.getfield 11, 3) := by decide +kernel
theorem dX0_dropOldest_26 : decode cX0_dropOldest 26 = .ok (.iload_n 2, 1) := by decide +kernel
theorem dX0_dropOldest_27 : decode cX0_dropOldest 27 = .ok (.aaload, 1) := by decide +kernel
theorem dX0_dropOldest_28 : decode cX0_dropOldest 28 = .ok (.aastore, 1) := by decide +kernel
theorem dX0_dropOldest_29 : decode cX0_dropOldest 29 = .ok (.iinc 2 1, 3) := by decide +kernel
theorem dX0_dropOldest_32 : decode cX0_dropOldest 32 = .ok (.goto (-23), 3) := by decide +kernel
theorem dX0_dropOldest_35 : decode cX0_dropOldest 35 = .ok (.aload_n 0, 1) := by decide +kernel
theorem dX0_dropOldest_36 : decode cX0_dropOldest 36 = .ok (.getfield 11, 3) := by decide +kernel
theorem dX0_dropOldest_39 : decode cX0_dropOldest 39 = .ok (.iconst 5, 1) := by decide +kernel
theorem dX0_dropOldest_40 : decode cX0_dropOldest 40 = .ok (.aload_n 1, 1) := by decide +kernel
theorem dX0_dropOldest_41 : decode cX0_dropOldest 41 = .ok (.aastore, 1) := by decide +kernel
theorem dX0_dropOldest_42 : decode cX0_dropOldest 42 = .ok (.aload_n 0, 1) := by decide +kernel
theorem dX0_dropOldest_43 : decode cX0_dropOldest 43 = .ok (.iconst 5, 1) := by decide +kernel
theorem dX0_dropOldest_44 : decode cX0_dropOldest 44 = .ok (.putfield 22, 3) := by decide +kernel
theorem dX0_dropOldest_47 : decode cX0_dropOldest 47 = .ok (.return_, 1) := by decide +kernel
theorem dX1_init_0 : decode cX1_init 0 = .ok (.aload_n 0, 1) := by decide +kernel
theorem dX1_init_1 : decode cX1_init 1 = .ok (.invokespecial 3, 3) := by decide +kernel
theorem dX1_init_4 : decode cX1_init 4 = .ok (.aload_n 0, 1) := by decide +kernel
theorem dX1_init_5 : decode cX1_init 5 = .ok (.bipush 80, 2) := by decide +kernel
theorem dX1_init_7 : decode cX1_init 7 = .ok (.newarray .char, 2) := by decide +kernel
theorem dX1_init_9 : decode cX1_init 9 = .ok (.putfield 9, 3) := by decide +kernel
theorem dX1_init_12 : decode cX1_init 12 = .ok (.return_, 1) := by decide +kernel
theorem dX2_init_0 : decode cX2_init 0 = .ok (.aload_n 0, 1) := by decide +kernel
theorem dX2_init_1 : decode cX2_init 1 = .ok (.invokespecial 3, 3) := by decide +kernel
theorem dX2_init_4 : decode cX2_init 4 = .ok (.aload_n 0, 1) := by decide +kernel
theorem dX2_init_5 : decode cX2_init 5 = .ok (.bipush 12, 2) := by decide +kernel
theorem dX2_init_7 : decode cX2_init 7 = .ok (.newarray .int, 2) := by decide +kernel
theorem dX2_init_9 : decode cX2_init 9 = .ok (.putfield 9, 3) := by decide +kernel
theorem dX2_init_12 : decode cX2_init 12 = .ok (.aload_n 0, 1) := by decide +kernel
theorem dX2_init_13 : decode cX2_init 13 = .ok (.bipush 12, 2) := by decide +kernel
theorem dX2_init_15 : decode cX2_init 15 = .ok (.newarray .int, 2) := by decide +kernel
theorem dX2_init_17 : decode cX2_init 17 = .ok (.putfield 15, 3) := by decide +kernel
theorem dX2_init_20 : decode cX2_init 20 = .ok (.return_, 1) := by decide +kernel
theorem dX2_begin_0 : decode cX2_begin 0 = .ok (.aload_n 0, 1) := by decide +kernel
theorem dX2_begin_1 : decode cX2_begin 1 = .ok (.iload_n 1, 1) := by decide +kernel
theorem dX2_begin_2 : decode cX2_begin 2 = .ok (.putfield 18, 3) := by decide +kernel
theorem dX2_begin_5 : decode cX2_begin 5 = .ok (.aload_n 0, 1) := by decide +kernel
theorem dX2_begin_6 : decode cX2_begin 6 = .ok (.iload_n 2, 1) := by decide +kernel
theorem dX2_begin_7 : decode cX2_begin 7 = .ok (.putfield 22, 3) := by decide +kernel
theorem dX2_begin_10 : decode cX2_begin 10 = .ok (.aload_n 0, 1) := by decide +kernel
theorem dX2_begin_11 : decode cX2_begin 11 = .ok (.iload_n 3, 1) := by decide +kernel
theorem dX2_begin_12 : decode cX2_begin 12 = .ok (.putfield 25, 3) := by decide +kernel
theorem dX2_begin_15 : decode cX2_begin 15 = .ok (.aload_n 0, 1) := by decide +kernel
theorem dX2_begin_16 : decode cX2_begin 16 = .ok (.iload 4, 2) := by decide +kernel
theorem dX2_begin_18 : decode cX2_begin 18 = .ok (.putfield 28, 3) := by decide +kernel
theorem dX2_begin_21 : decode cX2_begin 21 = .ok (.aload_n 0, 1) := by decide +kernel
theorem dX2_begin_22 : decode cX2_begin 22 = .ok (.iload 5, 2) := by decide +kernel
theorem dX2_begin_24 : decode cX2_begin 24 = .ok (.putfield 31, 3) := by decide +kernel
theorem dX2_begin_27 : decode cX2_begin 27 = .ok (.aload_n 0, 1) := by decide +kernel
theorem dX2_begin_28 : decode cX2_begin 28 = .ok (.iload 5, 2) := by decide +kernel
theorem dX2_begin_30 : decode cX2_begin 30 = .ok (.putfield 34, 3) := by decide +kernel
theorem dX2_begin_33 : decode cX2_begin 33 = .ok (.aload_n 0, 1) := by decide +kernel
theorem dX2_begin_34 : decode cX2_begin 34 = .ok (.iconst 0, 1) := by decide +kernel
theorem dX2_begin_35 : decode cX2_begin 35 = .ok (.putfield 37, 3) := by decide +kernel
theorem dX2_begin_38 : decode cX2_begin 38 = .ok (.aload_n 0, 1) := by decide +kernel
theorem dX2_begin_39 : decode cX2_begin 39 = .ok (.iconst 0, 1) := by decide +kernel
theorem dX2_begin_40 : decode cX2_begin 40 = .ok (.putfield 40, 3) := by decide +kernel
theorem dX2_begin_43 : decode cX2_begin 43 = .ok (.aload_n 0, 1) := by decide +kernel
theorem dX2_begin_44 : decode cX2_begin 44 = .ok (.bipush (-6), 2) := by decide +kernel
theorem dX2_begin_46 : decode cX2_begin 46 = .ok (.putfield 43, 3) := by decide +kernel
theorem dX2_begin_49 : decode cX2_begin 49 = .ok (.aload_n 0, 1) := by decide +kernel
theorem dX2_begin_50 : decode cX2_begin 50 = .ok (.iconst 0, 1) := by decide +kernel
theorem dX2_begin_51 : decode cX2_begin 51 = .ok (.putfield 46, 3) := by decide +kernel
theorem dX2_begin_54 : decode cX2_begin 54 = .ok (.aload_n 0, 1) := by decide +kernel
theorem dX2_begin_55 : decode cX2_begin 55 = .ok (.iconst 0, 1) := by decide +kernel
theorem dX2_begin_56 : decode cX2_begin 56 = .ok (.putfield 49, 3) := by decide +kernel
theorem dX2_begin_59 : decode cX2_begin 59 = .ok (.aload_n 0, 1) := by decide +kernel
theorem dX2_begin_60 : decode cX2_begin 60 = .ok (.iconst 0, 1) := by decide +kernel
theorem dX2_begin_61 : decode cX2_begin 61 = .ok (.putfield 52, 3) := by decide +kernel
theorem dX2_begin_64 : decode cX2_begin 64 = .ok (.aload_n 0, 1) := by decide +kernel
theorem dX2_begin_65 : decode cX2_begin 65 = .ok (.getfield 9, 3) := by decide +kernel
theorem dX2_begin_68 : decode cX2_begin 68 = .ok (.iconst 0, 1) := by decide +kernel
theorem dX2_begin_69 : decode cX2_begin 69 = .ok (.invokestatic 55, 3) := by decide +kernel
theorem dX2_begin_72 : decode cX2_begin 72 = .ok (.aload_n 0, 1) := by decide +kernel
theorem dX2_begin_73 : decode cX2_begin 73 = .ok (.getfield 15, 3) := by decide +kernel
theorem dX2_begin_76 : decode cX2_begin 76 = .ok (.iconst 0, 1) := by decide +kernel
theorem dX2_begin_77 : decode cX2_begin 77 = .ok (.invokestatic 55, 3) := by decide +kernel
theorem dX2_begin_80 : decode cX2_begin 80 = .ok (.return_, 1) := by decide +kernel
theorem dX2_copyFrom_0 : decode cX2_copyFrom 0 = .ok (.aload_n 0, 1) := by decide +kernel
theorem dX2_copyFrom_1 : decode cX2_copyFrom 1 = .ok (.aload_n 1, 1) := by decide +kernel
theorem dX2_copyFrom_2 : decode cX2_copyFrom 2 = .ok (.getfield 18, 3) := by decide +kernel
theorem dX2_copyFrom_5 : decode cX2_copyFrom 5 = .ok (.putfield 18, 3) := by decide +kernel
theorem dX2_copyFrom_8 : decode cX2_copyFrom 8 = .ok (.aload_n 0, 1) := by decide +kernel
theorem dX2_copyFrom_9 : decode cX2_copyFrom 9 = .ok (.aload_n 1, 1) := by decide +kernel
theorem dX2_copyFrom_10 : decode cX2_copyFrom 10 = .ok (.getfield 22, 3) := by decide +kernel
theorem dX2_copyFrom_13 : decode cX2_copyFrom 13 = .ok (.putfield 22, 3) := by decide +kernel
theorem dX2_copyFrom_16 : decode cX2_copyFrom 16 = .ok (.aload_n 0, 1) := by decide +kernel
theorem dX2_copyFrom_17 : decode cX2_copyFrom 17 = .ok (.aload_n 1, 1) := by decide +kernel
theorem dX2_copyFrom_18 : decode cX2_copyFrom 18 = .ok (.getfield 25, 3) := by decide +kernel
theorem dX2_copyFrom_21 : decode cX2_copyFrom 21 = .ok (.putfield 25, 3) := by decide +kernel
theorem dX2_copyFrom_24 : decode cX2_copyFrom 24 = .ok (.aload_n 0, 1) := by decide +kernel
theorem dX2_copyFrom_25 : decode cX2_copyFrom 25 = .ok (.aload_n 1, 1) := by decide +kernel
theorem dX2_copyFrom_26 : decode cX2_copyFrom 26 = .ok (.getfield 28, 3) := by decide +kernel
theorem dX2_copyFrom_29 : decode cX2_copyFrom 29 = .ok (.putfield 28, 3) := by decide +kernel
theorem dX2_copyFrom_32 : decode cX2_copyFrom 32 = .ok (.aload_n 0, 1) := by decide +kernel
theorem dX2_copyFrom_33 : decode cX2_copyFrom 33 = .ok (.aload_n 1, 1) := by decide +kernel
theorem dX2_copyFrom_34 : decode cX2_copyFrom 34 = .ok (.getfield 31, 3) := by decide +kernel
theorem dX2_copyFrom_37 : decode cX2_copyFrom 37 = .ok (.putfield 31, 3) := by decide +kernel
theorem dX2_copyFrom_40 : decode cX2_copyFrom 40 = .ok (.aload_n 0, 1) := by decide +kernel
theorem dX2_copyFrom_41 : decode cX2_copyFrom 41 = .ok (.aload_n 1, 1) := by decide +kernel
theorem dX2_copyFrom_42 : decode cX2_copyFrom 42 = .ok (.getfield 34, 3) := by decide +kernel
theorem dX2_copyFrom_45 : decode cX2_copyFrom 45 = .ok (.putfield 34, 3) := by decide +kernel
theorem dX2_copyFrom_48 : decode cX2_copyFrom 48 = .ok (.aload_n 0, 1) := by decide +kernel
theorem dX2_copyFrom_49 : decode cX2_copyFrom 49 = .ok (.aload_n 1, 1) := by decide +kernel
theorem dX2_copyFrom_50 : decode cX2_copyFrom 50 = .ok (.getfield 37, 3) := by decide +kernel
theorem dX2_copyFrom_53 : decode cX2_copyFrom 53 = .ok (.putfield 37, 3) := by decide +kernel
theorem dX2_copyFrom_56 : decode cX2_copyFrom 56 = .ok (.aload_n 0, 1) := by decide +kernel
theorem dX2_copyFrom_57 : decode cX2_copyFrom 57 = .ok (.aload_n 1, 1) := by decide +kernel
theorem dX2_copyFrom_58 : decode cX2_copyFrom 58 = .ok (.getfield 40, 3) := by decide +kernel
theorem dX2_copyFrom_61 : decode cX2_copyFrom 61 = .ok (.putfield 40, 3) := by decide +kernel
theorem dX2_copyFrom_64 : decode cX2_copyFrom 64 = .ok (.aload_n 0, 1) := by decide +kernel
theorem dX2_copyFrom_65 : decode cX2_copyFrom 65 = .ok (.aload_n 1, 1) := by decide +kernel
theorem dX2_copyFrom_66 : decode cX2_copyFrom 66 = .ok (.getfield 43, 3) := by decide +kernel
theorem dX2_copyFrom_69 : decode cX2_copyFrom 69 = .ok (.putfield 43, 3) := by decide +kernel
theorem dX2_copyFrom_72 : decode cX2_copyFrom 72 = .ok (.aload_n 0, 1) := by decide +kernel
theorem dX2_copyFrom_73 : decode cX2_copyFrom 73 = .ok (.aload_n 1, 1) := by decide +kernel
theorem dX2_copyFrom_74 : decode cX2_copyFrom 74 = .ok (.getfield 46, 3) := by decide +kernel
theorem dX2_copyFrom_77 : decode cX2_copyFrom 77 = .ok (.putfield 46, 3) := by decide +kernel
theorem dX2_copyFrom_80 : decode cX2_copyFrom 80 = .ok (.aload_n 0, 1) := by decide +kernel
theorem dX2_copyFrom_81 : decode cX2_copyFrom 81 = .ok (.aload_n 1, 1) := by decide +kernel
theorem dX2_copyFrom_82 : decode cX2_copyFrom 82 = .ok (.getfield 49, 3) := by decide +kernel
theorem dX2_copyFrom_85 : decode cX2_copyFrom 85 = .ok (.putfield 49, 3) := by decide +kernel
theorem dX2_copyFrom_88 : decode cX2_copyFrom 88 = .ok (.aload_n 0, 1) := by decide +kernel
theorem dX2_copyFrom_89 : decode cX2_copyFrom 89 = .ok (.aload_n 1, 1) := by decide +kernel
theorem dX2_copyFrom_90 : decode cX2_copyFrom 90 = .ok (.getfield 52, 3) := by decide +kernel
theorem dX2_copyFrom_93 : decode cX2_copyFrom 93 = .ok (.putfield 52, 3) := by decide +kernel
theorem dX2_copyFrom_96 : decode cX2_copyFrom 96 = .ok (.aload_n 1, 1) := by decide +kernel
theorem dX2_copyFrom_97 : decode cX2_copyFrom 97 = .ok (.getfield 9, 3) := by decide +kernel
theorem dX2_copyFrom_100 : decode cX2_copyFrom 100 = .ok (.iconst 0, 1) := by decide +kernel
theorem dX2_copyFrom_101 : decode cX2_copyFrom 101 = .ok (.aload_n 0, 1) := by decide +kernel
theorem dX2_copyFrom_102 : decode cX2_copyFrom 102 = .ok (.getfield 9, 3) := by decide +kernel
theorem dX2_copyFrom_105 : decode cX2_copyFrom 105 = .ok (.iconst 0, 1) := by decide +kernel
theorem dX2_copyFrom_106 : decode cX2_copyFrom 106 = .ok (.bipush 12, 2) := by decide +kernel
theorem dX2_copyFrom_108 : decode cX2_copyFrom 108 = .ok (.invokestatic 61, 3) := by decide +kernel
theorem dX2_copyFrom_111 : decode cX2_copyFrom 111 = .ok (.aload_n 1, 1) := by decide +kernel
theorem dX2_copyFrom_112 : decode cX2_copyFrom 112 = .ok (.getfield 15, 3) := by decide +kernel
theorem dX2_copyFrom_115 : decode cX2_copyFrom 115 = .ok (.iconst 0, 1) := by decide +kernel
theorem dX2_copyFrom_116 : decode cX2_copyFrom 116 = .ok (.aload_n 0, 1) := by decide +kernel
theorem dX2_copyFrom_117 : decode cX2_copyFrom 117 = .ok (.getfield 15, 3) := by decide +kernel
theorem dX2_copyFrom_120 : decode cX2_copyFrom 120 = .ok (.iconst 0, 1) := by decide +kernel
theorem dX2_copyFrom_121 : decode cX2_copyFrom 121 = .ok (.bipush 12, 2) := by decide +kernel
theorem dX2_copyFrom_123 : decode cX2_copyFrom 123 = .ok (.invokestatic 61, 3) := by decide +kernel
theorem dX2_copyFrom_126 : decode cX2_copyFrom 126 = .ok (.return_, 1) := by decide +kernel
theorem dX2_cover_0 : decode cX2_cover 0 = .ok (.aload_n 0, 1) := by decide +kernel
theorem dX2_cover_1 : decode cX2_cover 1 = .ok (.getfield 40, 3) := by decide +kernel
theorem dX2_cover_4 : decode cX2_cover 4 = .ok (.iload_n 1, 1) := by decide +kernel
theorem dX2_cover_5 : decode cX2_cover 5 = .ok (.imul, 1) := by decide +kernel
theorem dX2_cover_6 : decode cX2_cover 6 = .ok (.bipush 100, 2) := by decide +kernel
theorem dX2_cover_8 : decode cX2_cover 8 = .ok (.idiv, 1) := by decide +kernel
theorem dX2_cover_9 : decode cX2_cover 9 = .ok (.ireturn, 1) := by decide +kernel
theorem dX2_lotsIn_0 : decode cX2_lotsIn 0 = .ok (.iload_n 1, 1) := by decide +kernel
theorem dX2_lotsIn_1 : decode cX2_lotsIn 1 = .ok (.ifCond .lt 18, 3) := by decide +kernel
theorem dX2_lotsIn_4 : decode cX2_lotsIn 4 = .ok (.iload_n 1, 1) := by decide +kernel
theorem dX2_lotsIn_5 : decode cX2_lotsIn 5 = .ok (.bipush 12, 2) := by decide +kernel
theorem dX2_lotsIn_7 : decode cX2_lotsIn 7 = .ok (.if_icmp .ge 12, 3) := by decide +kernel
theorem dX2_lotsIn_10 : decode cX2_lotsIn 10 = .ok (.aload_n 0, 1) := by decide +kernel
theorem dX2_lotsIn_11 : decode cX2_lotsIn 11 = .ok (.getfield 15, 3) := by decide +kernel
theorem dX2_lotsIn_14 : decode cX2_lotsIn 14 = .ok (.iload_n 1, 1) := by decide +kernel
theorem dX2_lotsIn_15 : decode cX2_lotsIn 15 = .ok (.iaload, 1) := by decide +kernel
theorem dX2_lotsIn_16 : decode cX2_lotsIn 16 = .ok (.goto 4, 3) := by decide +kernel
theorem dX2_lotsIn_19 : decode cX2_lotsIn 19 = .ok (.iconst 0, 1) := by decide +kernel
theorem dX2_lotsIn_20 : decode cX2_lotsIn 20 = .ok (.ireturn, 1) := by decide +kernel
theorem dX2_lotsInAll_0 : decode cX2_lotsInAll 0 = .ok (.iconst 0, 1) := by decide +kernel
theorem dX2_lotsInAll_1 : decode cX2_lotsInAll 1 = .ok (.istore_n 1, 1) := by decide +kernel
theorem dX2_lotsInAll_2 : decode cX2_lotsInAll 2 = .ok (.iconst 0, 1) := by decide +kernel
theorem dX2_lotsInAll_3 : decode cX2_lotsInAll 3 = .ok (.istore_n 2, 1) := by decide +kernel
theorem dX2_lotsInAll_4 : decode cX2_lotsInAll 4 = .ok (.iload_n 2, 1) := by decide +kernel
theorem dX2_lotsInAll_5 : decode cX2_lotsInAll 5 = .ok (.bipush 12, 2) := by decide +kernel
theorem dX2_lotsInAll_7 : decode cX2_lotsInAll 7 = .ok (.if_icmp .ge 18, 3) := by decide +kernel
theorem dX2_lotsInAll_10 : decode cX2_lotsInAll 10 = .ok (.iload_n 1, 1) := by decide +kernel
theorem dX2_lotsInAll_11 : decode cX2_lotsInAll 11 = .ok (.aload_n 0, 1) := by decide +kernel
theorem dX2_lotsInAll_12 : decode cX2_lotsInAll 12 = .ok (.getfield 15, 3) := by decide +kernel
theorem dX2_lotsInAll_15 : decode cX2_lotsInAll 15 = .ok (.iload_n 2, 1) := by decide +kernel
theorem dX2_lotsInAll_16 : decode cX2_lotsInAll 16 = .ok (.iaload, 1) := by decide +kernel
theorem dX2_lotsInAll_17 : decode cX2_lotsInAll 17 = .ok (.iadd, 1) := by decide +kernel
theorem dX2_lotsInAll_18 : decode cX2_lotsInAll 18 = .ok (.istore_n 1, 1) := by decide +kernel
theorem dX2_lotsInAll_19 : decode cX2_lotsInAll 19 = .ok (.iinc 2 1, 3) := by decide +kernel
theorem dX2_lotsInAll_22 : decode cX2_lotsInAll 22 = .ok (.goto (-18), 3) := by decide +kernel
theorem dX2_lotsInAll_25 : decode cX2_lotsInAll 25 = .ok (.iload_n 1, 1) := by decide +kernel
theorem dX2_lotsInAll_26 : decode cX2_lotsInAll 26 = .ok (.ireturn, 1) := by decide +kernel
theorem dX2_projectionBehind_0 : decode cX2_projectionBehind 0 = .ok (.aload_n 0, 1) := by decide +kernel
theorem dX2_projectionBehind_1 : decode cX2_projectionBehind 1 = .ok (.getfield 34, 3) := by decide +kernel
theorem dX2_projectionBehind_4 : decode cX2_projectionBehind 4 = .ok (.i2l, 1) := by decide +kernel
theorem dX2_projectionBehind_5 : decode cX2_projectionBehind 5 = .ok (.aload_n 0, 1) := by decide +kernel
theorem dX2_projectionBehind_6 : decode cX2_projectionBehind 6 = .ok (.getfield 37, 3) := by decide +kernel
theorem dX2_projectionBehind_9 : decode cX2_projectionBehind 9 = .ok (.i2l, 1) := by decide +kernel
theorem dX2_projectionBehind_10 : decode cX2_projectionBehind 10 = .ok (.lsub, 1) := by decide +kernel
theorem dX2_projectionBehind_11 : decode cX2_projectionBehind 11 = .ok (.lstore_n 2, 1) := by decide +kernel
theorem dX2_projectionBehind_12 : decode cX2_projectionBehind 12 = .ok (.iconst 0, 1) := by decide +kernel
theorem dX2_projectionBehind_13 : decode cX2_projectionBehind 13 = .ok (.istore 4, 2) := by decide +kernel
theorem dX2_projectionBehind_15 : decode cX2_projectionBehind 15 = .ok (.iload 4, 2) := by decide +kernel
theorem dX2_projectionBehind_17 : decode cX2_projectionBehind 17 = .ok (.iload_n 1, 1) := by decide +kernel
theorem dX2_projectionBehind_18 : decode cX2_projectionBehind 18 = .ok (.if_icmp .gt 42, 3) := by decide +kernel
theorem dX2_projectionBehind_21 : decode cX2_projectionBehind 21 = .ok (.iload 4, 2) := by decide +kernel
theorem dX2_projectionBehind_23 : decode cX2_projectionBehind 23 = .ok (.bipush 12, 2) := by decide +kernel
theorem dX2_projectionBehind_25 : decode cX2_projectionBehind 25 = .ok (.if_icmp .ge 35, 3) := by decide +kernel
theorem dX2_projectionBehind_28 : decode cX2_projectionBehind 28 = .ok (.lload_n 2, 1) := by decide +kernel
theorem dX2_projectionBehind_29 : decode cX2_projectionBehind 29 = .ok (.aload_n 0, 1) := by decide +kernel
theorem dX2_projectionBehind_30 : decode cX2_projectionBehind 30 = .ok (.getfield 15, 3) := by decide +kernel
theorem dX2_projectionBehind_33 : decode cX2_projectionBehind 33 = .ok (.iload 4, 2) := by decide +kernel
theorem dX2_projectionBehind_35 : decode cX2_projectionBehind 35 = .ok (.iaload, 1) := by decide +kernel
theorem dX2_projectionBehind_36 : decode cX2_projectionBehind 36 = .ok (.i2l, 1) := by decide +kernel
theorem dX2_projectionBehind_37 : decode cX2_projectionBehind 37 = .ok (.aload_n 0, 1) := by decide +kernel
theorem dX2_projectionBehind_38 : decode cX2_projectionBehind 38 = .ok (.getfield 22, 3) := by decide +kernel
theorem dX2_projectionBehind_41 : decode cX2_projectionBehind 41 = .ok (.i2l, 1) := by decide +kernel
theorem dX2_projectionBehind_42 : decode cX2_projectionBehind 42 = .ok (.lmul, 1) := by decide +kernel
theorem dX2_projectionBehind_43 : decode cX2_projectionBehind 43 = .ok (.aload_n 0, 1) := by decide +kernel
theorem dX2_projectionBehind_44 : decode cX2_projectionBehind 44 = .ok (.getfield 9, 3) := by decide +kernel
theorem dX2_projectionBehind_47 : decode cX2_projectionBehind 47 = .ok (.iload 4, 2) := by decide +kernel
theorem dX2_projectionBehind_49 : decode cX2_projectionBehind 49 = .ok (.iaload, 1) := by decide +kernel
theorem dX2_projectionBehind_50 : decode cX2_projectionBehind 50 = .ok (.i2l, 1) := by decide +kernel
theorem dX2_projectionBehind_51 : decode cX2_projectionBehind 51 = .ok (.lsub, 1) := by decide +kernel
theorem dX2_projectionBehind_52 : decode cX2_projectionBehind 52 = .ok (.ladd, 1) := by decide +kernel
theorem dX2_projectionBehind_53 : decode cX2_projectionBehind 53 = .ok (.lstore_n 2, 1) := by decide +kernel
theorem dX2_projectionBehind_54 : decode cX2_projectionBehind 54 = .ok (.iinc 4 1, 3) := by decide +kernel
theorem dX2_projectionBehind_57 : decode cX2_projectionBehind 57 = .ok (.goto (-42), 3) := by decide +kernel
theorem dX2_projectionBehind_60 : decode cX2_projectionBehind 60 = .ok (.lload_n 2, 1) := by decide +kernel
theorem dX2_projectionBehind_61 : decode cX2_projectionBehind 61 = .ok (.lreturn, 1) := by decide +kernel
theorem dX2_openPlan_0 : decode cX2_openPlan 0 = .ok (.aload_n 0, 1) := by decide +kernel
theorem dX2_openPlan_1 : decode cX2_openPlan 1 = .ok (.aload_n 0, 1) := by decide +kernel
theorem dX2_openPlan_2 : decode cX2_openPlan 2 = .ok (.iload_n 1, 1) := by decide +kernel
theorem dX2_openPlan_3 : decode cX2_openPlan 3 = .ok (.iconst 1, 1) := by decide +kernel
theorem dX2_openPlan_4 : decode cX2_openPlan 4 = .ok (.isub, 1) := by decide +kernel
theorem dX2_openPlan_5 : decode cX2_openPlan 5 = .ok (.invokevirtual 67, 3) := by decide +kernel
theorem dX2_openPlan_8 : decode cX2_openPlan 8 = .ok (.putfield 71, 3) := by decide +kernel
theorem dX2_openPlan_11 : decode cX2_openPlan 11 = .ok (.iload_n 1, 1) := by decide +kernel
theorem dX2_openPlan_12 : decode cX2_openPlan 12 = .ok (.iconst 0, 1) := by decide +kernel
theorem dX2_openPlan_13 : decode cX2_openPlan 13 = .ok (.invokestatic 75, 3) := by decide +kernel
theorem dX2_openPlan_16 : decode cX2_openPlan 16 = .ok (.istore_n 2, 1) := by decide +kernel
theorem dX2_openPlan_17 : decode cX2_openPlan 17 = .ok (.iload_n 2, 1) := by decide +kernel
theorem dX2_openPlan_18 : decode cX2_openPlan 18 = .ok (.bipush 12, 2) := by decide +kernel
theorem dX2_openPlan_20 : decode cX2_openPlan 20 = .ok (.if_icmp .ge 16, 3) := by decide +kernel
theorem dX2_openPlan_23 : decode cX2_openPlan 23 = .ok (.aload_n 0, 1) := by decide +kernel
theorem dX2_openPlan_24 : decode cX2_openPlan 24 = .ok (.getfield 15, 3) := by decide +kernel
theorem dX2_openPlan_27 : decode cX2_openPlan 27 = .ok (.iload_n 2, 1) := by decide +kernel
theorem dX2_openPlan_28 : decode cX2_openPlan 28 = .ok (.iconst 0, 1) := by decide +kernel
theorem dX2_openPlan_29 : decode cX2_openPlan 29 = .ok (.iastore, 1) := by decide +kernel
theorem dX2_openPlan_30 : decode cX2_openPlan 30 = .ok (.iinc 2 1, 3) := by decide +kernel
theorem dX2_openPlan_33 : decode cX2_openPlan 33 = .ok (.goto (-16), 3) := by decide +kernel
theorem dX2_openPlan_36 : decode cX2_openPlan 36 = .ok (.return_, 1) := by decide +kernel
theorem dX2_enterWeek_0 : decode cX2_enterWeek 0 = .ok (.iload_n 1, 1) := by decide +kernel
theorem dX2_enterWeek_1 : decode cX2_enterWeek 1 = .ok (.ifCond .lt 25, 3) := by decide +kernel
theorem dX2_enterWeek_4 : decode cX2_enterWeek 4 = .ok (.iload_n 1, 1) := by decide +kernel
theorem dX2_enterWeek_5 : decode cX2_enterWeek 5 = .ok (.bipush 12, 2) := by decide +kernel
theorem dX2_enterWeek_7 : decode cX2_enterWeek 7 = .ok (.if_icmp .ge 19, 3) := by decide +kernel
theorem dX2_enterWeek_10 : decode cX2_enterWeek 10 = .ok (.aload_n 0, 1) := by decide +kernel
theorem dX2_enterWeek_11 : decode cX2_enterWeek 11 = .ok (.dup, 1) := by decide +kernel
theorem dX2_enterWeek_12 : decode cX2_enterWeek 12 = .ok (.getfield 71, 3) := by decide +kernel
theorem dX2_enterWeek_15 : decode cX2_enterWeek 15 = .ok (.aload_n 0, 1) := by decide +kernel
theorem dX2_enterWeek_16 : decode cX2_enterWeek 16 = .ok (.getfield 9, 3) := by decide +kernel
theorem dX2_enterWeek_19 : decode cX2_enterWeek 19 = .ok (.iload_n 1, 1) := by decide +kernel
theorem dX2_enterWeek_20 : decode cX2_enterWeek 20 = .ok (.iaload, 1) := by decide +kernel
theorem dX2_enterWeek_21 : decode cX2_enterWeek 21 = .ok (.i2l, 1) := by decide +kernel
theorem dX2_enterWeek_22 : decode cX2_enterWeek 22 = .ok (.lsub, 1) := by decide +kernel
theorem dX2_enterWeek_23 : decode cX2_enterWeek 23 = .ok (.putfield 71, 3) := by decide +kernel
theorem dX2_enterWeek_26 : decode cX2_enterWeek 26 = .ok (.aload_n 0, 1) := by decide +kernel
theorem dX2_enterWeek_27 : decode cX2_enterWeek 27 = .ok (.aload_n 0, 1) := by decide +kernel
theorem dX2_enterWeek_28 : decode cX2_enterWeek 28 = .ok (.iload_n 2, 1) := by decide +kernel
theorem dX2_enterWeek_29 : decode cX2_enterWeek 29 = .ok (.invokevirtual 81, 3) := by decide +kernel
theorem dX2_enterWeek_32 : decode cX2_enterWeek 32 = .ok (.putfield 85, 3) := by decide +kernel
theorem dX2_enterWeek_35 : decode cX2_enterWeek 35 = .ok (.aload_n 0, 1) := by decide +kernel
theorem dX2_enterWeek_36 : decode cX2_enterWeek 36 = .ok (.aload_n 0, 1) := by decide +kernel
theorem dX2_enterWeek_37 : decode cX2_enterWeek 37 = .ok (.getfield 71, 3) := by decide +kernel
theorem dX2_enterWeek_40 : decode cX2_enterWeek 40 = .ok (.aload_n 0, 1) := by decide +kernel
theorem dX2_enterWeek_41 : decode cX2_enterWeek 41 = .ok (.getfield 85, 3) := by decide +kernel
theorem dX2_enterWeek_44 : decode cX2_enterWeek 44 = .ok (.i2l, 1) := by decide +kernel
theorem dX2_enterWeek_45 : decode cX2_enterWeek 45 = .ok (.lcmp, 1) := by decide +kernel
theorem dX2_enterWeek_46 : decode cX2_enterWeek 46 = .ok (.ifCond .ge 7, 3) := by decide +kernel
theorem dX2_enterWeek_49 : decode cX2_enterWeek 49 = .ok (.iconst 1, 1) := by decide +kernel
theorem dX2_enterWeek_50 : decode cX2_enterWeek 50 = .ok (.goto 4, 3) := by decide +kernel
theorem dX2_enterWeek_53 : decode cX2_enterWeek 53 = .ok (.iconst 0, 1) := by decide +kernel
theorem dX2_enterWeek_54 : decode cX2_enterWeek 54 = .ok (.putfield 88, 3) := by decide +kernel
theorem dX2_enterWeek_57 : decode cX2_enterWeek 57 = .ok (.return_, 1) := by decide +kernel
theorem dX2_lotsWanted_0 : decode cX2_lotsWanted 0 = .ok (.aload_n 0, 1) := by decide +kernel
theorem dX2_lotsWanted_1 : decode cX2_lotsWanted 1 = .ok (.getfield 22, 3) := by decide +kernel
theorem dX2_lotsWanted_4 : decode cX2_lotsWanted 4 = .ok (.iconst 1, 1) := by decide +kernel
theorem dX2_lotsWanted_5 : decode cX2_lotsWanted 5 = .ok (.if_icmp .ge 5, 3) := by decide +kernel
theorem dX2_lotsWanted_8 : decode cX2_lotsWanted 8 = .ok (.lconst 0, 1) := by decide +kernel
theorem dX2_lotsWanted_9 : decode cX2_lotsWanted 9 = .ok (.lreturn, 1) := by decide +kernel
theorem dX2_lotsWanted_10 : decode cX2_lotsWanted 10 = .ok (.aload_n 0, 1) := by decide +kernel
theorem dX2_lotsWanted_11 : decode cX2_lotsWanted 11 = .ok (.getfield 85, 3) := by decide +kernel
theorem dX2_lotsWanted_14 : decode cX2_lotsWanted 14 = .ok (.i2l, 1) := by decide +kernel
theorem dX2_lotsWanted_15 : decode cX2_lotsWanted 15 = .ok (.aload_n 0, 1) := by decide +kernel
theorem dX2_lotsWanted_16 : decode cX2_lotsWanted 16 = .ok (.getfield 71, 3) := by decide +kernel
theorem dX2_lotsWanted_19 : decode cX2_lotsWanted 19 = .ok (.lsub, 1) := by decide +kernel
theorem dX2_lotsWanted_20 : decode cX2_lotsWanted 20 = .ok (.lstore_n 3, 1) := by decide +kernel
theorem dX2_lotsWanted_21 : decode cX2_lotsWanted 21 = .ok (.iload_n 1, 1) := by decide +kernel
theorem dX2_lotsWanted_22 : decode cX2_lotsWanted 22 = .ok (.iconst 1, 1) := by decide +kernel
theorem dX2_lotsWanted_23 : decode cX2_lotsWanted 23 = .ok (.iadd, 1) := by decide +kernel
theorem dX2_lotsWanted_24 : decode cX2_lotsWanted 24 = .ok (.istore 5, 2) := by decide +kernel
theorem dX2_lotsWanted_26 : decode cX2_lotsWanted 26 = .ok (.iload 5, 2) := by decide +kernel
theorem dX2_lotsWanted_28 : decode cX2_lotsWanted 28 = .ok (.iload_n 1, 1) := by decide +kernel
theorem dX2_lotsWanted_29 : decode cX2_lotsWanted 29 = .ok (.iload_n 2, 1) := by decide +kernel
theorem dX2_lotsWanted_30 : decode cX2_lotsWanted 30 = .ok (.iadd, 1) := by decide +kernel
theorem dX2_lotsWanted_31 : decode cX2_lotsWanted 31 = .ok (.if_icmp .ge 32, 3) := by decide +kernel
theorem dX2_lotsWanted_34 : decode cX2_lotsWanted 34 = .ok (.iload 5, 2) := by decide +kernel
theorem dX2_lotsWanted_36 : decode cX2_lotsWanted 36 = .ok (.ifCond .lt 27, 3) := by decide +kernel
theorem dX2_lotsWanted_39 : decode cX2_lotsWanted 39 = .ok (.iload 5, 2) := by decide +kernel
theorem dX2_lotsWanted_41 : decode cX2_lotsWanted 41 = .ok (.bipush 12, 2) := by decide +kernel
theorem dX2_lotsWanted_43 : decode cX2_lotsWanted 43 = .ok (.if_icmp .ge 20, 3) := by decide +kernel
theorem dX2_lotsWanted_46 : decode cX2_lotsWanted 46 = .ok (.lload_n 3, 1) := by decide +kernel
theorem dX2_lotsWanted_47 : decode cX2_lotsWanted 47 = .ok (.aload_n 0, 1) := by decide +kernel
theorem dX2_lotsWanted_48 : decode cX2_lotsWanted 48 = .ok (.getfield 9, 3) := by decide +kernel
theorem dX2_lotsWanted_51 : decode cX2_lotsWanted 51 = .ok (.iload 5, 2) := by decide +kernel
theorem dX2_lotsWanted_53 : decode cX2_lotsWanted 53 = .ok (.iaload, 1) := by decide +kernel
theorem dX2_lotsWanted_54 : decode cX2_lotsWanted 54 = .ok (.i2l, 1) := by decide +kernel
theorem dX2_lotsWanted_55 : decode cX2_lotsWanted 55 = .ok (.ladd, 1) := by decide +kernel
theorem dX2_lotsWanted_56 : decode cX2_lotsWanted 56 = .ok (.lstore_n 3, 1) := by decide +kernel
theorem dX2_lotsWanted_57 : decode cX2_lotsWanted 57 = .ok (.iinc 5 1, 3) := by decide +kernel
theorem dX2_lotsWanted_60 : decode cX2_lotsWanted 60 = .ok (.goto (-34), 3) := by decide +kernel
theorem dX2_lotsWanted_63 : decode cX2_lotsWanted 63 = .ok (.lload_n 3, 1) := by decide +kernel
theorem dX2_lotsWanted_64 : decode cX2_lotsWanted 64 = .ok (.aload_n 0, 1) := by decide +kernel
theorem dX2_lotsWanted_65 : decode cX2_lotsWanted 65 = .ok (.getfield 22, 3) := by decide +kernel
theorem dX2_lotsWanted_68 : decode cX2_lotsWanted 68 = .ok (.i2l, 1) := by decide +kernel
theorem dX2_lotsWanted_69 : decode cX2_lotsWanted 69 = .ok (.ladd, 1) := by decide +kernel
theorem dX2_lotsWanted_70 : decode cX2_lotsWanted 70 = .ok (.lconst 1, 1) := by decide +kernel
theorem dX2_lotsWanted_71 : decode cX2_lotsWanted 71 = .ok (.lsub, 1) := by decide +kernel
theorem dX2_lotsWanted_72 : decode cX2_lotsWanted 72 = .ok (.aload_n 0, 1) := by decide +kernel
theorem dX2_lotsWanted_73 : decode cX2_lotsWanted 73 = .ok (.getfield 22, 3) := by decide +kernel
theorem dX2_lotsWanted_76 : decode cX2_lotsWanted 76 = .ok (.i2l, 1) := by decide +kernel
theorem dX2_lotsWanted_77 : decode cX2_lotsWanted 77 = .ok (.ldiv, 1) := by decide +kernel
theorem dX2_lotsWanted_78 : decode cX2_lotsWanted 78 = .ok (.lreturn, 1) := by decide +kernel
theorem dX2_planLots_0 : decode cX2_planLots 0 = .ok (.iload_n 1, 1) := by decide +kernel
theorem dX2_planLots_1 : decode cX2_planLots 1 = .ok (.ifCond .lt 33, 3) := by decide +kernel
theorem dX2_planLots_4 : decode cX2_planLots 4 = .ok (.iload_n 1, 1) := by decide +kernel
theorem dX2_planLots_5 : decode cX2_planLots 5 = .ok (.bipush 12, 2) := by decide +kernel
theorem dX2_planLots_7 : decode cX2_planLots 7 = .ok (.if_icmp .ge 27, 3) := by decide +kernel
theorem dX2_planLots_10 : decode cX2_planLots 10 = .ok (.aload_n 0, 1) := by decide +kernel
theorem dX2_planLots_11 : decode cX2_planLots 11 = .ok (.getfield 15, 3) := by decide +kernel
theorem dX2_planLots_14 : decode cX2_planLots 14 = .ok (.iload_n 1, 1) := by decide +kernel
theorem dX2_planLots_15 : decode cX2_planLots 15 = .ok (.iload_n 2, 1) := by decide +kernel
theorem dX2_planLots_16 : decode cX2_planLots 16 = .ok (.iastore, 1) := by decide +kernel
theorem dX2_planLots_17 : decode cX2_planLots 17 = .ok (.aload_n 0, 1) := by decide +kernel
theorem dX2_planLots_18 : decode cX2_planLots 18 = .ok (.dup, 1) := by decide +kernel
theorem dX2_planLots_19 : decode cX2_planLots 19 = .ok (.getfield 71, 3) := by decide +kernel
theorem dX2_planLots_22 : decode cX2_planLots 22 = .ok (.iload_n 2, 1) := by decide +kernel
theorem dX2_planLots_23 : decode cX2_planLots 23 = .ok (.i2l, 1) := by decide +kernel
theorem dX2_planLots_24 : decode cX2_planLots 24 = .ok (.aload_n 0, 1) := by decide +kernel
theorem dX2_planLots_25 : decode cX2_planLots 25 = .ok (.getfield 22, 3) := by decide +kernel
theorem dX2_planLots_28 : decode cX2_planLots 28 = .ok (.i2l, 1) := by decide +kernel
theorem dX2_planLots_29 : decode cX2_planLots 29 = .ok (.lmul, 1) := by decide +kernel
theorem dX2_planLots_30 : decode cX2_planLots 30 = .ok (.ladd, 1) := by decide +kernel
theorem dX2_planLots_31 : decode cX2_planLots 31 = .ok (.putfield 71, 3) := by decide +kernel
theorem dX2_planLots_34 : decode cX2_planLots 34 = .ok (.return_, 1) := by decide +kernel
theorem dX2_passWeek_0 : decode cX2_passWeek 0 = .ok (.aload_n 0, 1) := by decide +kernel
theorem dX2_passWeek_1 : decode cX2_passWeek 1 = .ok (.getfield 15, 3) := by decide +kernel
theorem dX2_passWeek_4 : decode cX2_passWeek 4 = .ok (.iconst 0, 1) := by decide +kernel
theorem dX2_passWeek_5 : decode cX2_passWeek 5 = .ok (.iaload, 1) := by decide +kernel
theorem dX2_passWeek_6 : decode cX2_passWeek 6 = .ok (.aload_n 0, 1) := by decide +kernel
theorem dX2_passWeek_7 : decode cX2_passWeek 7 = .ok (.getfield 22, 3) := by decide +kernel
theorem dX2_passWeek_10 : decode cX2_passWeek 10 = .ok (.imul, 1) := by decide +kernel
theorem dX2_passWeek_11 : decode cX2_passWeek 11 = .ok (.istore_n 1, 1) := by decide +kernel
theorem dX2_passWeek_12 : decode cX2_passWeek 12 = .ok (.aload_n 0, 1) := by decide +kernel
theorem dX2_passWeek_13 : decode cX2_passWeek 13 = .ok (.dup, 1) := by decide +kernel
theorem dX2_passWeek_14 : decode cX2_passWeek 14 = .ok (.getfield 46, 3) := by decide +kernel
theorem dX2_passWeek_17 : decode cX2_passWeek 17 = .ok (.iload_n 1, 1) := by decide +kernel
theorem dX2_passWeek_18 : decode cX2_passWeek 18 = .ok (.iadd, 1) := by decide +kernel
theorem dX2_passWeek_19 : decode cX2_passWeek 19 = .ok (.putfield 46, 3) := by decide +kernel
theorem dX2_passWeek_22 : decode cX2_passWeek 22 = .ok (.aload_n 0, 1) := by decide +kernel
theorem dX2_passWeek_23 : decode cX2_passWeek 23 = .ok (.dup, 1) := by decide +kernel
theorem dX2_passWeek_24 : decode cX2_passWeek 24 = .ok (.getfield 34, 3) := by decide +kernel
theorem dX2_passWeek_27 : decode cX2_passWeek 27 = .ok (.iload_n 1, 1) := by decide +kernel
theorem dX2_passWeek_28 : decode cX2_passWeek 28 = .ok (.iadd, 1) := by decide +kernel
theorem dX2_passWeek_29 : decode cX2_passWeek 29 = .ok (.putfield 34, 3) := by decide +kernel
theorem dX2_passWeek_32 : decode cX2_passWeek 32 = .ok (.aload_n 0, 1) := by decide +kernel
theorem dX2_passWeek_33 : decode cX2_passWeek 33 = .ok (.getfield 43, 3) := by decide +kernel
theorem dX2_passWeek_36 : decode cX2_passWeek 36 = .ok (.bipush (-6), 2) := by decide +kernel
theorem dX2_passWeek_38 : decode cX2_passWeek 38 = .ok (.if_icmp .ne 12, 3) := by decide +kernel
theorem dX2_passWeek_41 : decode cX2_passWeek 41 = .ok (.aload_n 0, 1) := by decide +kernel
theorem dX2_passWeek_42 : decode cX2_passWeek 42 = .ok (.getfield 9, 3) := by decide +kernel
theorem dX2_passWeek_45 : decode cX2_passWeek 45 = .ok (.iconst 0, 1) := by decide +kernel
theorem dX2_passWeek_46 : decode cX2_passWeek 46 = .ok (.iaload, 1) := by decide +kernel
theorem dX2_passWeek_47 : decode cX2_passWeek 47 = .ok (.goto 7, 3) := by decide +kernel
theorem dX2_passWeek_50 : decode cX2_passWeek 50 = .ok (.aload_n 0, 1) := by decide +kernel
theorem dX2_passWeek_51 : decode cX2_passWeek 51 = .ok (.getfield 43, 3) := by decide +kernel
theorem dX2_passWeek_54 : decode cX2_passWeek 54 = .ok (.istore_n 2, 1) := by decide +kernel
theorem dX2_passWeek_55 : decode cX2_passWeek 55 = .ok (.aload_n 0, 1) := by decide +kernel
theorem dX2_passWeek_56 : decode cX2_passWeek 56 = .ok (.dup, 1) := by decide +kernel
theorem dX2_passWeek_57 : decode cX2_passWeek 57 = .ok (.getfield 52, 3) := by decide +kernel
theorem dX2_passWeek_60 : decode cX2_passWeek 60 = .ok (.iload_n 2, 1) := by decide +kernel
theorem dX2_passWeek_61 : decode cX2_passWeek 61 = .ok (.iadd, 1) := by decide +kernel
theorem dX2_passWeek_62 : decode cX2_passWeek 62 = .ok (.putfield 52, 3) := by decide +kernel
theorem dX2_passWeek_65 : decode cX2_passWeek 65 = .ok (.iload_n 2, 1) := by decide +kernel
theorem dX2_passWeek_66 : decode cX2_passWeek 66 = .ok (.aload_n 0, 1) := by decide +kernel
theorem dX2_passWeek_67 : decode cX2_passWeek 67 = .ok (.getfield 37, 3) := by decide +kernel
theorem dX2_passWeek_70 : decode cX2_passWeek 70 = .ok (.iadd, 1) := by decide +kernel
theorem dX2_passWeek_71 : decode cX2_passWeek 71 = .ok (.istore_n 3, 1) := by decide +kernel
theorem dX2_passWeek_72 : decode cX2_passWeek 72 = .ok (.iload_n 3, 1) := by decide +kernel
theorem dX2_passWeek_73 : decode cX2_passWeek 73 = .ok (.aload_n 0, 1) := by decide +kernel
theorem dX2_passWeek_74 : decode cX2_passWeek 74 = .ok (.getfield 34, 3) := by decide +kernel
theorem dX2_passWeek_77 : decode cX2_passWeek 77 = .ok (.invokestatic 92, 3) := by decide +kernel
theorem dX2_passWeek_80 : decode cX2_passWeek 80 = .ok (.istore 4, 2) := by decide +kernel
theorem dX2_passWeek_82 : decode cX2_passWeek 82 = .ok (.aload_n 0, 1) := by decide +kernel
theorem dX2_passWeek_83 : decode cX2_passWeek 83 = .ok (.dup, 1) := by decide +kernel
theorem dX2_passWeek_84 : decode cX2_passWeek 84 = .ok (.getfield 49, 3) := by decide +kernel
theorem dX2_passWeek_87 : decode cX2_passWeek 87 = .ok (.iload 4, 2) := by decide +kernel
theorem dX2_passWeek_89 : decode cX2_passWeek 89 = .ok (.iadd, 1) := by decide +kernel
theorem dX2_passWeek_90 : decode cX2_passWeek 90 = .ok (.putfield 49, 3) := by decide +kernel
theorem dX2_passWeek_93 : decode cX2_passWeek 93 = .ok (.aload_n 0, 1) := by decide +kernel
theorem dX2_passWeek_94 : decode cX2_passWeek 94 = .ok (.dup, 1) := by decide +kernel
theorem dX2_passWeek_95 : decode cX2_passWeek 95 = .ok (.getfield 34, 3) := by decide +kernel
theorem dX2_passWeek_98 : decode cX2_passWeek 98 = .ok (.iload 4, 2) := by decide +kernel
theorem dX2_passWeek_100 : decode cX2_passWeek 100 = .ok (.isub, 1) := by decide +kernel
theorem dX2_passWeek_101 : decode cX2_passWeek 101 = .ok (.putfield 34, 3) := by decide +kernel
theorem dX2_passWeek_104 : decode cX2_passWeek 104 = .ok (.aload_n 0, 1) := by decide +kernel
theorem dX2_passWeek_105 : decode cX2_passWeek 105 = .ok (.iload_n 3, 1) := by decide +kernel
theorem dX2_passWeek_106 : decode cX2_passWeek 106 = .ok (.iload 4, 2) := by decide +kernel
theorem dX2_passWeek_108 : decode cX2_passWeek 108 = .ok (.isub, 1) := by decide +kernel
theorem dX2_passWeek_109 : decode cX2_passWeek 109 = .ok (.putfield 37, 3) := by decide +kernel
theorem dX2_passWeek_112 : decode cX2_passWeek 112 = .ok (.aload_n 0, 1) := by decide +kernel
theorem dX2_passWeek_113 : decode cX2_passWeek 113 = .ok (.bipush 7, 2) := by decide +kernel
theorem dX2_passWeek_115 : decode cX2_passWeek 115 = .ok (.aload_n 0, 1) := by decide +kernel
theorem dX2_passWeek_116 : decode cX2_passWeek 116 = .ok (.getfield 40, 3) := by decide +kernel
theorem dX2_passWeek_119 : decode cX2_passWeek 119 = .ok (.imul, 1) := by decide +kernel
theorem dX2_passWeek_120 : decode cX2_passWeek 120 = .ok (.iload_n 2, 1) := by decide +kernel
theorem dX2_passWeek_121 : decode cX2_passWeek 121 = .ok (.aload_n 0, 1) := by decide +kernel
theorem dX2_passWeek_122 : decode cX2_passWeek 122 = .ok (.getfield 9, 3) := by decide +kernel
theorem dX2_passWeek_125 : decode cX2_passWeek 125 = .ok (.iconst 0, 1) := by decide +kernel
theorem dX2_passWeek_126 : decode cX2_passWeek 126 = .ok (.iaload, 1) := by decide +kernel
theorem dX2_passWeek_127 : decode cX2_passWeek 127 = .ok (.isub, 1) := by decide +kernel
theorem dX2_passWeek_128 : decode cX2_passWeek 128 = .ok (.invokestatic 95, 3) := by decide +kernel
theorem dX2_passWeek_131 : decode cX2_passWeek 131 = .ok (.iadd, 1) := by decide +kernel
theorem dX2_passWeek_132 : decode cX2_passWeek 132 = .ok (.bipush 7, 2) := by decide +kernel
theorem dX2_passWeek_134 : decode cX2_passWeek 134 = .ok (.iadd, 1) := by decide +kernel
theorem dX2_passWeek_135 : decode cX2_passWeek 135 = .ok (.bipush 8, 2) := by decide +kernel
theorem dX2_passWeek_137 : decode cX2_passWeek 137 = .ok (.idiv, 1) := by decide +kernel
theorem dX2_passWeek_138 : decode cX2_passWeek 138 = .ok (.putfield 40, 3) := by decide +kernel
theorem dX2_passWeek_141 : decode cX2_passWeek 141 = .ok (.aload_n 0, 1) := by decide +kernel
theorem dX2_passWeek_142 : decode cX2_passWeek 142 = .ok (.getfield 9, 3) := by decide +kernel
theorem dX2_passWeek_145 : decode cX2_passWeek 145 = .ok (.iconst 1, 1) := by decide +kernel
theorem dX2_passWeek_146 : decode cX2_passWeek 146 = .ok (.aload_n 0, 1) := by decide +kernel
theorem dX2_passWeek_147 : decode cX2_passWeek 147 = .ok (.getfield 9, 3) := by decide +kernel
theorem dX2_passWeek_150 : decode cX2_passWeek 150 = .ok (.iconst 0, 1) := by decide +kernel
theorem dX2_passWeek_151 : decode cX2_passWeek 151 = .ok (.bipush 11, 2) := by decide +kernel
theorem dX2_passWeek_153 : decode cX2_passWeek 153 = .ok (.invokestatic 61, 3) := by decide +kernel
theorem dX2_passWeek_156 : decode cX2_passWeek 156 = .ok (.aload_n 0, 1) := by decide +kernel
theorem dX2_passWeek_157 : decode cX2_passWeek 157 = .ok (.getfield 15, 3) := by decide +kernel
theorem dX2_passWeek_160 : decode cX2_passWeek 160 = .ok (.iconst 1, 1) := by decide +kernel
theorem dX2_passWeek_161 : decode cX2_passWeek 161 = .ok (.aload_n 0, 1) := by decide +kernel
theorem dX2_passWeek_162 : decode cX2_passWeek 162 = .ok (.getfield 15, 3) := by decide +kernel
theorem dX2_passWeek_165 : decode cX2_passWeek 165 = .ok (.iconst 0, 1) := by decide +kernel
theorem dX2_passWeek_166 : decode cX2_passWeek 166 = .ok (.bipush 11, 2) := by decide +kernel
theorem dX2_passWeek_168 : decode cX2_passWeek 168 = .ok (.invokestatic 61, 3) := by decide +kernel
theorem dX2_passWeek_171 : decode cX2_passWeek 171 = .ok (.aload_n 0, 1) := by decide +kernel
theorem dX2_passWeek_172 : decode cX2_passWeek 172 = .ok (.getfield 15, 3) := by decide +kernel
theorem dX2_passWeek_175 : decode cX2_passWeek 175 = .ok (.bipush 11, 2) := by decide +kernel
theorem dX2_passWeek_177 : decode cX2_passWeek 177 = .ok (.iconst 0, 1) := by decide +kernel
theorem dX2_passWeek_178 : decode cX2_passWeek 178 = .ok (.iastore, 1) := by decide +kernel
theorem dX2_passWeek_179 : decode cX2_passWeek 179 = .ok (.aload_n 0, 1) := by decide +kernel
theorem dX2_passWeek_180 : decode cX2_passWeek 180 = .ok (.bipush (-6), 2) := by decide +kernel
theorem dX2_passWeek_182 : decode cX2_passWeek 182 = .ok (.putfield 43, 3) := by decide +kernel
theorem dX2_passWeek_185 : decode cX2_passWeek 185 = .ok (.return_, 1) := by decide +kernel
theorem dX3_init_0 : decode cX3_init 0 = .ok (.aload_n 0, 1) := by decide +kernel
theorem dX3_init_1 : decode cX3_init 1 = .ok (.invokespecial 3, 3) := by decide +kernel
theorem dX3_init_4 : decode cX3_init 4 = .ok (.aload_n 0, 1) := by decide +kernel
theorem dX3_init_5 : decode cX3_init 5 = .ok (.getstatic 9, 3) := by decide +kernel
theorem dX3_init_8 : decode cX3_init 8 = .ok (.invokevirtual 13, 3) := by decide +kernel
theorem dX3_init_11 : decode cX3_init 11 = .ok (.checkcast 14, 3) := by decide +kernel
theorem dX3_init_14 : decode cX3_init 14 = .ok (.putfield 18, 3) := by decide +kernel
theorem dX3_init_17 : decode cX3_init 17 = .ok (.aload_n 0, 1) := by decide +kernel
theorem dX3_init_18 : decode cX3_init 18 = .ok (.iconst 4, 1) := by decide +kernel
theorem dX3_init_19 : decode cX3_init 19 = .ok (.newarray .int, 2) := by decide +kernel
theorem dX3_init_21 : decode cX3_init 21 = .ok (.putfield 23, 3) := by decide +kernel
theorem dX3_init_24 : decode cX3_init 24 = .ok (.aload_n 0, 1) := by decide +kernel
theorem dX3_init_25 : decode cX3_init 25 = .ok (.bipush 10, 2) := by decide +kernel
theorem dX3_init_27 : decode cX3_init 27 = .ok (.anewarray 26, 3) := by decide +kernel
theorem dX3_init_30 : decode cX3_init 30 = .ok (.putfield 28, 3) := by decide +kernel
theorem dX3_init_33 : decode cX3_init 33 = .ok (.aload_n 0, 1) := by decide +kernel
theorem dX3_init_34 : decode cX3_init 34 = .ok (.getfield 23, 3) := by decide +kernel
theorem dX3_init_37 : decode cX3_init 37 = .ok (.iconst 5, 1) := by decide +kernel
theorem dX3_init_38 : decode cX3_init 38 = .ok (.invokestatic 32, 3) := by decide +kernel
theorem dX3_init_41 : decode cX3_init 41 = .ok (.iconst 0, 1) := by decide +kernel
theorem dX3_init_42 : decode cX3_init 42 = .ok (.istore_n 1, 1) := by decide +kernel
theorem dX3_init_43 : decode cX3_init 43 = .ok (.iload_n 1, 1) := by decide +kernel
theorem dX3_init_44 : decode cX3_init 44 = .ok (.bipush 10, 2) := by decide +kernel
theorem dX3_init_46 : decode cX3_init 46 = .ok (.if_icmp .ge 22, 3) := by decide +kernel
theorem dX3_init_49 : decode cX3_init 49 = .ok (.aload_n 0, 1) := by decide +kernel
theorem dX3_init_50 : decode cX3_init 50 = .ok (.getfield 28, 3) := by decide +kernel
theorem dX3_init_53 : decode cX3_init 53 = .ok (.iload_n 1, 1) := by decide +kernel
theorem dX3_init_54 : decode cX3_init 54 = .ok (.new 26, 3) := by decide +kernel
theorem dX3_init_57 : decode cX3_init 57 = .ok (.dup, 1) := by decide +kernel
theorem dX3_init_58 : decode cX3_init 58 = .ok (.invokespecial 38, 3) := by decide +kernel
theorem dX3_init_61 : decode cX3_init 61 = .ok (.aastore, 1) := by decide +kernel
theorem dX3_init_62 : decode cX3_init 62 = .ok (.iinc 1 1, 3) := by decide +kernel
theorem dX3_init_65 : decode cX3_init 65 = .ok (.goto (-22), 3) := by decide +kernel
theorem dX3_init_68 : decode cX3_init 68 = .ok (.return_, 1) := by decide +kernel
theorem dX3_copyFrom_0 : decode cX3_copyFrom 0 = .ok (.aload_n 1, 1) := by decide +kernel
theorem dX3_copyFrom_1 : decode cX3_copyFrom 1 = .ok (.ifnonnull 4, 3) := by decide +kernel
theorem dX3_copyFrom_4 : decode cX3_copyFrom 4 = .ok (.return_, 1) := by decide +kernel
theorem dX3_copyFrom_5 : decode cX3_copyFrom 5 = .ok (.aload_n 1, 1) := by decide +kernel
theorem dX3_copyFrom_6 : decode cX3_copyFrom 6 = .ok (.getfield 18, 3) := by decide +kernel
theorem dX3_copyFrom_9 : decode cX3_copyFrom 9 = .ok (.iconst 0, 1) := by decide +kernel
theorem dX3_copyFrom_10 : decode cX3_copyFrom 10 = .ok (.aload_n 0, 1) := by decide +kernel
theorem dX3_copyFrom_11 : decode cX3_copyFrom 11 = .ok (.getfield 18, 3) := by decide +kernel
theorem dX3_copyFrom_14 : decode cX3_copyFrom 14 = .ok (.iconst 0, 1) := by decide +kernel
theorem dX3_copyFrom_15 : decode cX3_copyFrom 15 = .ok (.bipush 9, 2) := by decide +kernel
theorem dX3_copyFrom_17 : decode cX3_copyFrom 17 = .ok (.invokestatic 39, 3) := by decide +kernel
theorem dX3_copyFrom_20 : decode cX3_copyFrom 20 = .ok (.aload_n 1, 1) := by decide +kernel
theorem dX3_copyFrom_21 : decode cX3_copyFrom 21 = .ok (.getfield 23, 3) := by decide +kernel
theorem dX3_copyFrom_24 : decode cX3_copyFrom 24 = .ok (.iconst 0, 1) := by decide +kernel
theorem dX3_copyFrom_25 : decode cX3_copyFrom 25 = .ok (.aload_n 0, 1) := by decide +kernel
theorem dX3_copyFrom_26 : decode cX3_copyFrom 26 = .ok (.getfield 23, 3) := by decide +kernel
theorem dX3_copyFrom_29 : decode cX3_copyFrom 29 = .ok (.iconst 0, 1) := by decide +kernel
theorem dX3_copyFrom_30 : decode cX3_copyFrom 30 = .ok (.iconst 4, 1) := by decide +kernel
theorem dX3_copyFrom_31 : decode cX3_copyFrom 31 = .ok (.invokestatic 39, 3) := by decide +kernel
theorem dX3_copyFrom_34 : decode cX3_copyFrom 34 = .ok (.aload_n 0, 1) := by decide +kernel
theorem dX3_copyFrom_35 : decode cX3_copyFrom 35 = .ok (.aload_n 1, 1) := by decide +kernel
theorem dX3_copyFrom_36 : decode cX3_copyFrom 36 = .ok (.getfield 45, 3) := by decide +kernel
theorem dX3_copyFrom_39 : decode cX3_copyFrom 39 = .ok (.putfield 45, 3) := by decide +kernel
theorem dX3_copyFrom_42 : decode cX3_copyFrom 42 = .ok (.iconst 0, 1) := by decide +kernel
theorem dX3_copyFrom_43 : decode cX3_copyFrom 43 = .ok (.istore_n 2, 1) := by decide +kernel
theorem dX3_copyFrom_44 : decode cX3_copyFrom 44 = .ok (.iload_n 2, 1) := by decide +kernel
theorem dX3_copyFrom_45 : decode cX3_copyFrom 45 = .ok (.aload_n 0, 1) := by decide +kernel
theorem dX3_copyFrom_46 : decode cX3_copyFrom 46 = .ok (.getfield 45, 3) := by decide +kernel
theorem dX3_copyFrom_49 : decode cX3_copyFrom 49 = .ok (.if_icmp .ge 37, 3) := by decide +kernel
theorem dX3_copyFrom_52 : decode cX3_copyFrom 52 = .ok (.aload_n 0, 1) := by decide +kernel
theorem dX3_copyFrom_53 : decode cX3_copyFrom 53 = .ok (.iload_n 2, 1) := by decide +kernel
theorem dX3_copyFrom_54 : decode cX3_copyFrom 54 = .ok (.invokevirtual 49, 3) := by decide +kernel
theorem dX3_copyFrom_57 : decode cX3_copyFrom 57 = .ok (.astore_n 3, 1) := by decide +kernel
theorem dX3_copyFrom_58 : decode cX3_copyFrom 58 = .ok (.aload_n 1, 1) := by decide +kernel
theorem dX3_copyFrom_59 : decode cX3_copyFrom 59 = .ok (.iload_n 2, 1) := by decide +kernel
theorem dX3_copyFrom_60 : decode cX3_copyFrom 60 = .ok (.invokevirtual 49, 3) := by decide +kernel
theorem dX3_copyFrom_63 : decode cX3_copyFrom 63 = .ok (.astore 4, 2) := by decide +kernel
theorem dX3_copyFrom_65 : decode cX3_copyFrom 65 = .ok (.aload_n 3, 1) := by decide +kernel
theorem dX3_copyFrom_66 : decode cX3_copyFrom 66 = .ok (.ifnull 14, 3) := by decide +kernel
theorem dX3_copyFrom_69 : decode cX3_copyFrom 69 = .ok (.aload 4, 2) := by decide +kernel
theorem dX3_copyFrom_71 : decode cX3_copyFrom 71 = .ok (.ifnull 9, 3) := by decide +kernel
theorem dX3_copyFrom_74 : decode cX3_copyFrom 74 = .ok (.aload_n 3, 1) := by decide +kernel
theorem dX3_copyFrom_75 : decode cX3_copyFrom 75 = .ok (.aload 4, 2) := by decide +kernel
theorem dX3_copyFrom_77 : decode cX3_copyFrom 77 = .ok (.invokevirtual 53, 3) := by decide +kernel
theorem dX3_copyFrom_80 : decode cX3_copyFrom 80 = .ok (.iinc 2 1, 3) := by decide +kernel
theorem dX3_copyFrom_83 : decode cX3_copyFrom 83 = .ok (.goto (-39), 3) := by decide +kernel
theorem dX3_copyFrom_86 : decode cX3_copyFrom 86 = .ok (.aload_n 0, 1) := by decide +kernel
theorem dX3_copyFrom_87 : decode cX3_copyFrom 87 = .ok (.aload_n 1, 1) := by decide +kernel
theorem dX3_copyFrom_88 : decode cX3_copyFrom 88 = .ok (.getfield 57, 3) := by decide +kernel
theorem dX3_copyFrom_91 : decode cX3_copyFrom 91 = .ok (.putfield 57, 3) := by decide +kernel
theorem dX3_copyFrom_94 : decode cX3_copyFrom 94 = .ok (.aload_n 0, 1) := by decide +kernel
theorem dX3_copyFrom_95 : decode cX3_copyFrom 95 = .ok (.aload_n 1, 1) := by decide +kernel
theorem dX3_copyFrom_96 : decode cX3_copyFrom 96 = .ok (.getfield 60, 3) := by decide +kernel
theorem dX3_copyFrom_99 : decode cX3_copyFrom 99 = .ok (.putfield 60, 3) := by decide +kernel
theorem dX3_copyFrom_102 : decode cX3_copyFrom 102 = .ok (.aload_n 0, 1) := by decide +kernel
theorem dX3_copyFrom_103 : decode cX3_copyFrom 103 = .ok (.aload_n 1, 1) := by decide +kernel
theorem dX3_copyFrom_104 : decode cX3_copyFrom 104 = .ok (.getfield 64, 3) := by decide +kernel
theorem dX3_copyFrom_107 : decode cX3_copyFrom 107 = .ok (.putfield 64, 3) := by decide +kernel
theorem dX3_copyFrom_110 : decode cX3_copyFrom 110 = .ok (.aload_n 0, 1) := by decide +kernel
theorem dX3_copyFrom_111 : decode cX3_copyFrom 111 = .ok (.aload_n 1, 1) := by decide +kernel
theorem dX3_copyFrom_112 : decode cX3_copyFrom 112 = .ok (.getfield 67, 3) := by decide +kernel
theorem dX3_copyFrom_115 : decode cX3_copyFrom 115 = .ok (.putfield 67, 3) := by decide +kernel
theorem dX3_copyFrom_118 : decode cX3_copyFrom 118 = .ok (.return_, 1) := by decide +kernel
theorem dX3_productAt_0 : decode cX3_productAt 0 = .ok (.iload_n 1, 1) := by decide +kernel
theorem dX3_productAt_1 : decode cX3_productAt 1 = .ok (.ifCond .lt 26, 3) := by decide +kernel
theorem dX3_productAt_4 : decode cX3_productAt 4 = .ok (.iload_n 1, 1) := by decide +kernel
theorem dX3_productAt_5 : decode cX3_productAt 5 = .ok (.aload_n 0, 1) := by decide +kernel
theorem dX3_productAt_6 : decode cX3_productAt 6 = .ok (.getfield 45, 3) := by decide +kernel
theorem dX3_productAt_9 : decode cX3_productAt 9 = .ok (.if_icmp .ge 18, 3) := by decide +kernel
theorem dX3_productAt_12 : decode cX3_productAt 12 = .ok (.iload_n 1, 1) := by decide +kernel
theorem dX3_productAt_13 : decode cX3_productAt 13 = .ok (.bipush 10, 2) := by decide +kernel
theorem dX3_productAt_15 : decode cX3_productAt 15 = .ok (.if_icmp .ge 12, 3) := by decide +kernel
theorem dX3_productAt_18 : decode cX3_productAt 18 = .ok (.aload_n 0, 1) := by decide +kernel
theorem dX3_productAt_19 : decode cX3_productAt 19 = .ok (.getfield 28, 3) := by decide +kernel
theorem dX3_productAt_22 : decode cX3_productAt 22 = .ok (.iload_n 1, 1) := by decide +kernel
theorem dX3_productAt_23 : decode cX3_productAt 23 = .ok (.aaload, 1) := by decide +kernel
theorem dX3_productAt_24 : decode cX3_productAt 24 = .ok (.goto 4, 3) := by decide +kernel
theorem dX3_productAt_27 : decode cX3_productAt 27 = .ok (.aconst_null, 1) := by decide +kernel
theorem dX3_productAt_28 : decode cX3_productAt 28 = .ok (.areturn, 1) := by decide +kernel
theorem dX3_spareProduct_0 : decode cX3_spareProduct 0 = .ok (.aload_n 0, 1) := by decide +kernel
theorem dX3_spareProduct_1 : decode cX3_spareProduct 1 = .ok (.getfield 45, 3) := by decide +kernel
theorem dX3_spareProduct_4 : decode cX3_spareProduct 4 = .ok (.ifCond .lt 24, 3) := by decide +kernel
theorem dX3_spareProduct_7 : decode cX3_spareProduct 7 = .ok (.aload_n 0, 1) := by decide +kernel
theorem dX3_spareProduct_8 : decode cX3_spareProduct 8 = .ok (.getfield 45, 3) := by decide +kernel
theorem dX3_spareProduct_11 : decode cX3_spareProduct 11 = .ok (.bipush 10, 2) := by decide +kernel
theorem dX3_spareProduct_13 : decode cX3_spareProduct 13 = .ok (.if_icmp .ge 15, 3) := by decide +kernel
theorem dX3_spareProduct_16 : decode cX3_spareProduct 16 = .ok (.aload_n 0, 1) := by decide +kernel
theorem dX3_spareProduct_17 : decode cX3_spareProduct 17 = .ok (.getfield 28, 3) := by decide +kernel
theorem dX3_spareProduct_20 : decode cX3_spareProduct 20 = .ok (.aload_n 0, 1) := by decide +kernel
theorem dX3_spareProduct_21 : decode cX3_spareProduct 21 = .ok (.getfield 45, 3) := by decide +kernel
theorem dX3_spareProduct_24 : decode cX3_spareProduct 24 = .ok (.aaload, 1) := by decide +kernel
theorem dX3_spareProduct_25 : decode cX3_spareProduct 25 = .ok (.goto 4, 3) := by decide +kernel
theorem dX3_spareProduct_28 : decode cX3_spareProduct 28 = .ok (.aconst_null, 1) := by decide +kernel
theorem dX3_spareProduct_29 : decode cX3_spareProduct 29 = .ok (.areturn, 1) := by decide +kernel
theorem dX3_setting_0 : decode cX3_setting 0 = .ok (.iload_n 1, 1) := by decide +kernel
theorem dX3_setting_1 : decode cX3_setting 1 = .ok (.ifCond .lt 18, 3) := by decide +kernel
theorem dX3_setting_4 : decode cX3_setting 4 = .ok (.iload_n 1, 1) := by decide +kernel
theorem dX3_setting_5 : decode cX3_setting 5 = .ok (.bipush 9, 2) := by decide +kernel
theorem dX3_setting_7 : decode cX3_setting 7 = .ok (.if_icmp .ge 12, 3) := by decide +kernel
theorem dX3_setting_10 : decode cX3_setting 10 = .ok (.aload_n 0, 1) := by decide +kernel
theorem dX3_setting_11 : decode cX3_setting 11 = .ok (.getfield 18, 3) := by decide +kernel
theorem dX3_setting_14 : decode cX3_setting 14 = .ok (.iload_n 1, 1) := by decide +kernel
theorem dX3_setting_15 : decode cX3_setting 15 = .ok (.iaload, 1) := by decide +kernel
theorem dX3_setting_16 : decode cX3_setting 16 = .ok (.goto 4, 3) := by decide +kernel
theorem dX3_setting_19 : decode cX3_setting 19 = .ok (.iconst 0, 1) := by decide +kernel
theorem dX3_setting_20 : decode cX3_setting 20 = .ok (.ireturn, 1) := by decide +kernel
theorem dX3_changeSetting_0 : decode cX3_changeSetting 0 = .ok (.iload_n 1, 1) := by decide +kernel
theorem dX3_changeSetting_1 : decode cX3_changeSetting 1 = .ok (.ifCond .lt 16, 3) := by decide +kernel
theorem dX3_changeSetting_4 : decode cX3_changeSetting 4 = .ok (.iload_n 1, 1) := by decide +kernel
theorem dX3_changeSetting_5 : decode cX3_changeSetting 5 = .ok (.bipush 9, 2) := by decide +kernel
theorem dX3_changeSetting_7 : decode cX3_changeSetting 7 = .ok (.if_icmp .ge 10, 3) := by decide +kernel
theorem dX3_changeSetting_10 : decode cX3_changeSetting 10 = .ok (.aload_n 0, 1) := by decide +kernel
theorem dX3_changeSetting_11 : decode cX3_changeSetting 11 = .ok (.getfield 18, 3) := by decide +kernel
theorem dX3_changeSetting_14 : decode cX3_changeSetting 14 = .ok (.iload_n 1, 1) := by decide +kernel
theorem dX3_changeSetting_15 : decode cX3_changeSetting 15 = .ok (.iload_n 2, 1) := by decide +kernel
theorem dX3_changeSetting_16 : decode cX3_changeSetting 16 = .ok (.iastore, 1) := by decide +kernel
theorem dX3_changeSetting_17 : decode cX3_changeSetting 17 = .ok (.return_, 1) := by decide +kernel
theorem dX3_capacity_0 : decode cX3_capacity 0 = .ok (.aload_n 0, 1) := by decide +kernel
theorem dX3_capacity_1 : decode cX3_capacity 1 = .ok (.iconst 0, 1) := by decide +kernel
theorem dX3_capacity_2 : decode cX3_capacity 2 = .ok (.invokevirtual 70, 3) := by decide +kernel
theorem dX3_capacity_5 : decode cX3_capacity 5 = .ok (.aload_n 0, 1) := by decide +kernel
theorem dX3_capacity_6 : decode cX3_capacity 6 = .ok (.iconst 1, 1) := by decide +kernel
theorem dX3_capacity_7 : decode cX3_capacity 7 = .ok (.invokevirtual 70, 3) := by decide +kernel
theorem dX3_capacity_10 : decode cX3_capacity 10 = .ok (.iadd, 1) := by decide +kernel
theorem dX3_capacity_11 : decode cX3_capacity 11 = .ok (.ireturn, 1) := by decide +kernel
theorem dX3_isFrozen_0 : decode cX3_isFrozen 0 = .ok (.iload_n 1, 1) := by decide +kernel
theorem dX3_isFrozen_1 : decode cX3_isFrozen 1 = .ok (.aload_n 0, 1) := by decide +kernel
theorem dX3_isFrozen_2 : decode cX3_isFrozen 2 = .ok (.iconst 2, 1) := by decide +kernel
theorem dX3_isFrozen_3 : decode cX3_isFrozen 3 = .ok (.invokevirtual 70, 3) := by decide +kernel
theorem dX3_isFrozen_6 : decode cX3_isFrozen 6 = .ok (.if_icmp .ge 7, 3) := by decide +kernel
theorem dX3_isFrozen_9 : decode cX3_isFrozen 9 = .ok (.iconst 1, 1) := by decide +kernel
theorem dX3_isFrozen_10 : decode cX3_isFrozen 10 = .ok (.goto 4, 3) := by decide +kernel
theorem dX3_isFrozen_13 : decode cX3_isFrozen 13 = .ok (.iconst 0, 1) := by decide +kernel
theorem dX3_isFrozen_14 : decode cX3_isFrozen 14 = .ok (.ireturn, 1) := by decide +kernel
theorem dX3_hoursIn_0 : decode cX3_hoursIn 0 = .ok (.aload_n 0, 1) := by decide +kernel
theorem dX3_hoursIn_1 : decode cX3_hoursIn 1 = .ok (.iload_n 1, 1) := by decide +kernel
theorem dX3_hoursIn_2 : decode cX3_hoursIn 2 = .ok (.aconst_null, 1) := by decide +kernel
theorem dX3_hoursIn_3 : decode cX3_hoursIn 3 = .ok (.iconst 0, 1) := by decide +kernel
theorem dX3_hoursIn_4 : decode cX3_hoursIn 4 = .ok (.invokevirtual 74, 3) := by decide +kernel
theorem dX3_hoursIn_7 : decode cX3_hoursIn 7 = .ok (.ireturn, 1) := by decide +kernel
theorem dX3_hoursWith_0 : decode cX3_hoursWith 0 = .ok (.iconst 0, 1) := by decide +kernel
theorem dX3_hoursWith_1 : decode cX3_hoursWith 1 = .ok (.istore 4, 2) := by decide +kernel
theorem dX3_hoursWith_3 : decode cX3_hoursWith 3 = .ok (.iconst 0, 1) := by decide +kernel
theorem dX3_hoursWith_4 : decode cX3_hoursWith 4 = .ok (.istore 5, 2) := by decide +kernel
theorem dX3_hoursWith_6 : decode cX3_hoursWith 6 = .ok (.iconst 0, 1) := by decide +kernel
theorem dX3_hoursWith_7 : decode cX3_hoursWith 7 = .ok (.istore 6, 2) := by decide +kernel
theorem dX3_hoursWith_9 : decode cX3_hoursWith 9 = .ok (.iload 6, 2) := by decide +kernel
theorem dX3_hoursWith_11 : decode cX3_hoursWith 11 = .ok (.aload_n 0, 1) := by decide +kernel
theorem dX3_hoursWith_12 : decode cX3_hoursWith 12 = .ok (.getfield 45, 3) := by decide +kernel
theorem dX3_hoursWith_15 : decode cX3_hoursWith 15 = .ok (.if_icmp .ge 76, 3) := by decide +kernel
theorem dX3_hoursWith_18 : decode cX3_hoursWith 18 = .ok (.aload_n 0, 1) := by decide +kernel
theorem dX3_hoursWith_19 : decode cX3_hoursWith 19 = .ok (.iload 6, 2) := by decide +kernel
theorem dX3_hoursWith_21 : decode cX3_hoursWith 21 = .ok (.invokevirtual 49, 3) := by decide +kernel
theorem dX3_hoursWith_24 : decode cX3_hoursWith 24 = .ok (.astore 7, 2) := by decide +kernel
theorem dX3_hoursWith_26 : decode cX3_hoursWith 26 = .ok (.aload 7, 2) := by decide +kernel
theorem dX3_hoursWith_28 : decode cX3_hoursWith 28 = .ok (.ifnull 57, 3) := by decide +kernel
theorem dX3_hoursWith_31 : decode cX3_hoursWith 31 = .ok (.aload 7, 2) := by decide +kernel
theorem dX3_hoursWith_33 : decode cX3_hoursWith 33 = .ok (.aload_n 2, 1) := by decide +kernel
theorem dX3_hoursWith_34 : decode cX3_hoursWith 34 = .ok (.if_acmp .ne 7, 3) := by decide +kernel
theorem dX3_hoursWith_37 : decode cX3_hoursWith 37 = .ok (.iload_n 3, 1) := by decide +kernel
theorem dX3_hoursWith_38 : decode cX3_hoursWith 38 = .ok (.goto 9, 3) := by decide +kernel
theorem dX3_hoursWith_41 : decode cX3_hoursWith 41 = .ok (.aload 7, 2) := by decide +kernel
theorem dX3_hoursWith_43 : decode cX3_hoursWith 43 = .ok (.iload_n 1, 1) := by decide +kernel
theorem dX3_hoursWith_44 : decode cX3_hoursWith 44 = .ok (.invokevirtual 78, 3) := by decide +kernel
theorem dX3_hoursWith_47 : decode cX3_hoursWith 47 = .ok (.istore 8, 2) := by decide +kernel
theorem dX3_hoursWith_49 : decode cX3_hoursWith 49 = .ok (.iload 8, 2) := by decide +kernel
theorem dX3_hoursWith_51 : decode cX3_hoursWith 51 = .ok (.ifCond .le 34, 3) := by decide +kernel
theorem dX3_hoursWith_54 : decode cX3_hoursWith 54 = .ok (.iload 4, 2) := by decide +kernel
theorem dX3_hoursWith_56 : decode cX3_hoursWith 56 = .ok (.aload 7, 2) := by decide +kernel
theorem dX3_hoursWith_58 : decode cX3_hoursWith 58 = .ok (.getfield 81, 3) := by decide +kernel
theorem dX3_hoursWith_61 : decode cX3_hoursWith 61 = .ok (.iload 8, 2) := by decide +kernel
theorem dX3_hoursWith_63 : decode cX3_hoursWith 63 = .ok (.aload 7, 2) := by decide +kernel
theorem dX3_hoursWith_65 : decode cX3_hoursWith 65 = .ok (.getfield 84, 3) := by decide +kernel
theorem dX3_hoursWith_68 : decode cX3_hoursWith 68 = .ok (.imul, 1) := by decide +kernel
theorem dX3_hoursWith_69 : decode cX3_hoursWith 69 = .ok (.iadd, 1) := by decide +kernel
theorem dX3_hoursWith_70 : decode cX3_hoursWith 70 = .ok (.iadd, 1) := by decide +kernel
theorem dX3_hoursWith_71 : decode cX3_hoursWith 71 = .ok (.istore 4, 2) := by decide +kernel
theorem dX3_hoursWith_73 : decode cX3_hoursWith 73 = .ok (.iload 5, 2) := by decide +kernel
theorem dX3_hoursWith_75 : decode cX3_hoursWith 75 = .ok (.iconst 1, 1) := by decide +kernel
theorem dX3_hoursWith_76 : decode cX3_hoursWith 76 = .ok (.aload 7, 2) := by decide +kernel
theorem dX3_hoursWith_78 : decode cX3_hoursWith 78 = .ok (.getfield 87, 3) := by decide +kernel
theorem dX3_hoursWith_81 : decode cX3_hoursWith 81 = .ok (.ishl, 1) := by decide +kernel
theorem dX3_hoursWith_82 : decode cX3_hoursWith 82 = .ok (.ior, 1) := by decide +kernel
theorem dX3_hoursWith_83 : decode cX3_hoursWith 83 = .ok (.istore 5, 2) := by decide +kernel
theorem dX3_hoursWith_85 : decode cX3_hoursWith 85 = .ok (.iinc 6 1, 3) := by decide +kernel
theorem dX3_hoursWith_88 : decode cX3_hoursWith 88 = .ok (.goto (-79), 3) := by decide +kernel
theorem dX3_hoursWith_91 : decode cX3_hoursWith 91 = .ok (.iconst 0, 1) := by decide +kernel
theorem dX3_hoursWith_92 : decode cX3_hoursWith 92 = .ok (.istore 6, 2) := by decide +kernel
theorem dX3_hoursWith_94 : decode cX3_hoursWith 94 = .ok (.iload 6, 2) := by decide +kernel
theorem dX3_hoursWith_96 : decode cX3_hoursWith 96 = .ok (.iconst 4, 1) := by decide +kernel
theorem dX3_hoursWith_97 : decode cX3_hoursWith 97 = .ok (.if_icmp .ge 31, 3) := by decide +kernel
theorem dX3_hoursWith_100 : decode cX3_hoursWith 100 = .ok (.iload 5, 2) := by decide +kernel
theorem dX3_hoursWith_102 : decode cX3_hoursWith 102 = .ok (.iload 6, 2) := by decide +kernel
theorem dX3_hoursWith_104 : decode cX3_hoursWith 104 = .ok (.ishr, 1) := by decide +kernel
theorem dX3_hoursWith_105 : decode cX3_hoursWith 105 = .ok (.iconst 1, 1) := by decide +kernel
theorem dX3_hoursWith_106 : decode cX3_hoursWith 106 = .ok (.iand, 1) := by decide +kernel
theorem dX3_hoursWith_107 : decode cX3_hoursWith 107 = .ok (.ifCond .eq 15, 3) := by decide +kernel
theorem dX3_hoursWith_110 : decode cX3_hoursWith 110 = .ok (.iload 4, 2) := by decide +kernel
theorem dX3_hoursWith_112 : decode cX3_hoursWith 112 = .ok (.aload_n 0, 1) := by decide +kernel
theorem dX3_hoursWith_113 : decode cX3_hoursWith 113 = .ok (.getfield 23, 3) := by decide +kernel
theorem dX3_hoursWith_116 : decode cX3_hoursWith 116 = .ok (.iload 6, 2) := by decide +kernel
theorem dX3_hoursWith_118 : decode cX3_hoursWith 118 = .ok (.iaload, 1) := by decide +kernel
theorem dX3_hoursWith_119 : decode cX3_hoursWith 119 = .ok (.iadd, 1) := by decide +kernel
theorem dX3_hoursWith_120 : decode cX3_hoursWith 120 = .ok (.istore 4, 2) := by decide +kernel
theorem dX3_hoursWith_122 : decode cX3_hoursWith 122 = .ok (.iinc 6 1, 3) := by decide +kernel
theorem dX3_hoursWith_125 : decode cX3_hoursWith 125 = .ok (.goto (-31), 3) := by decide +kernel
theorem dX3_hoursWith_128 : decode cX3_hoursWith 128 = .ok (.iload 4, 2) := by decide +kernel
theorem dX3_hoursWith_130 : decode cX3_hoursWith 130 = .ok (.ireturn, 1) := by decide +kernel
theorem dX3_familiesIn_0 : decode cX3_familiesIn 0 = .ok (.iconst 0, 1) := by decide +kernel
theorem dX3_familiesIn_1 : decode cX3_familiesIn 1 = .ok (.istore_n 2, 1) := by decide +kernel
theorem dX3_familiesIn_2 : decode cX3_familiesIn 2 = .ok (.iconst 0, 1) := by decide +kernel
theorem dX3_familiesIn_3 : decode cX3_familiesIn 3 = .ok (.istore_n 3, 1) := by decide +kernel
theorem dX3_familiesIn_4 : decode cX3_familiesIn 4 = .ok (.iload_n 3, 1) := by decide +kernel
theorem dX3_familiesIn_5 : decode cX3_familiesIn 5 = .ok (.aload_n 0, 1) := by decide +kernel
theorem dX3_familiesIn_6 : decode cX3_familiesIn 6 = .ok (.getfield 45, 3) := by decide +kernel
theorem dX3_familiesIn_9 : decode cX3_familiesIn 9 = .ok (.if_icmp .ge 40, 3) := by decide +kernel
theorem dX3_familiesIn_12 : decode cX3_familiesIn 12 = .ok (.aload_n 0, 1) := by decide +kernel
theorem dX3_familiesIn_13 : decode cX3_familiesIn 13 = .ok (.iload_n 3, 1) := by decide +kernel
theorem dX3_familiesIn_14 : decode cX3_familiesIn 14 = .ok (.invokevirtual 49, 3) := by decide +kernel
theorem dX3_familiesIn_17 : decode cX3_familiesIn 17 = .ok (.astore 4, 2) := by decide +kernel
theorem dX3_familiesIn_19 : decode cX3_familiesIn 19 = .ok (.aload 4, 2) := by decide +kernel
theorem dX3_familiesIn_21 : decode cX3_familiesIn 21 = .ok (.ifnull 22, 3) := by decide +kernel
theorem dX3_familiesIn_24 : decode cX3_familiesIn 24 = .ok (.aload 4, 2) := by decide +kernel
theorem dX3_familiesIn_26 : decode cX3_familiesIn 26 = .ok (.iload_n 1, 1) := by decide +kernel
theorem dX3_familiesIn_27 : decode cX3_familiesIn 27 = .ok (.invokevirtual 78, 3) := by decide +kernel
theorem dX3_familiesIn_30 : decode cX3_familiesIn 30 = .ok (.ifCond .le 13, 3) := by decide +kernel
theorem dX3_familiesIn_33 : decode cX3_familiesIn 33 = .ok (.iload_n 2, 1) := by decide +kernel
theorem dX3_familiesIn_34 : decode cX3_familiesIn 34 = .ok (.iconst 1, 1) := by decide +kernel
theorem dX3_familiesIn_35 : decode cX3_familiesIn 35 = .ok (.aload 4, 2) := by decide +kernel
theorem dX3_familiesIn_37 : decode cX3_familiesIn 37 = .ok (.getfield 87, 3) := by decide +kernel
theorem dX3_familiesIn_40 : decode cX3_familiesIn 40 = .ok (.ishl, 1) := by decide +kernel
theorem dX3_familiesIn_41 : decode cX3_familiesIn 41 = .ok (.ior, 1) := by decide +kernel
theorem dX3_familiesIn_42 : decode cX3_familiesIn 42 = .ok (.istore_n 2, 1) := by decide +kernel
theorem dX3_familiesIn_43 : decode cX3_familiesIn 43 = .ok (.iinc 3 1, 3) := by decide +kernel
theorem dX3_familiesIn_46 : decode cX3_familiesIn 46 = .ok (.goto (-42), 3) := by decide +kernel
theorem dX3_familiesIn_49 : decode cX3_familiesIn 49 = .ok (.iload_n 2, 1) := by decide +kernel
theorem dX3_familiesIn_50 : decode cX3_familiesIn 50 = .ok (.ireturn, 1) := by decide +kernel
theorem dX3_setupsIn_0 : decode cX3_setupsIn 0 = .ok (.aload_n 0, 1) := by decide +kernel
theorem dX3_setupsIn_1 : decode cX3_setupsIn 1 = .ok (.iload_n 1, 1) := by decide +kernel
theorem dX3_setupsIn_2 : decode cX3_setupsIn 2 = .ok (.invokevirtual 90, 3) := by decide +kernel
theorem dX3_setupsIn_5 : decode cX3_setupsIn 5 = .ok (.invokestatic 93, 3) := by decide +kernel
theorem dX3_setupsIn_8 : decode cX3_setupsIn 8 = .ok (.istore_n 2, 1) := by decide +kernel
theorem dX3_setupsIn_9 : decode cX3_setupsIn 9 = .ok (.iconst 0, 1) := by decide +kernel
theorem dX3_setupsIn_10 : decode cX3_setupsIn 10 = .ok (.istore_n 3, 1) := by decide +kernel
theorem dX3_setupsIn_11 : decode cX3_setupsIn 11 = .ok (.iload_n 3, 1) := by decide +kernel
theorem dX3_setupsIn_12 : decode cX3_setupsIn 12 = .ok (.aload_n 0, 1) := by decide +kernel
theorem dX3_setupsIn_13 : decode cX3_setupsIn 13 = .ok (.getfield 45, 3) := by decide +kernel
theorem dX3_setupsIn_16 : decode cX3_setupsIn 16 = .ok (.if_icmp .ge 33, 3) := by decide +kernel
theorem dX3_setupsIn_19 : decode cX3_setupsIn 19 = .ok (.aload_n 0, 1) := by decide +kernel
theorem dX3_setupsIn_20 : decode cX3_setupsIn 20 = .ok (.iload_n 3, 1) := by decide +kernel
theorem dX3_setupsIn_21 : decode cX3_setupsIn 21 = .ok (.invokevirtual 49, 3) := by decide +kernel
theorem dX3_setupsIn_24 : decode cX3_setupsIn 24 = .ok (.astore 4, 2) := by decide +kernel
theorem dX3_setupsIn_26 : decode cX3_setupsIn 26 = .ok (.aload 4, 2) := by decide +kernel
theorem dX3_setupsIn_28 : decode cX3_setupsIn 28 = .ok (.ifnull 15, 3) := by decide +kernel
theorem dX3_setupsIn_31 : decode cX3_setupsIn 31 = .ok (.aload 4, 2) := by decide +kernel
theorem dX3_setupsIn_33 : decode cX3_setupsIn 33 = .ok (.iload_n 1, 1) := by decide +kernel
theorem dX3_setupsIn_34 : decode cX3_setupsIn 34 = .ok (.invokevirtual 78, 3) := by decide +kernel
theorem dX3_setupsIn_37 : decode cX3_setupsIn 37 = .ok (.ifCond .le 6, 3) := by decide +kernel
theorem dX3_setupsIn_40 : decode cX3_setupsIn 40 = .ok (.iinc 2 1, 3) := by decide +kernel
theorem dX3_setupsIn_43 : decode cX3_setupsIn 43 = .ok (.iinc 3 1, 3) := by decide +kernel
theorem dX3_setupsIn_46 : decode cX3_setupsIn 46 = .ok (.goto (-35), 3) := by decide +kernel
theorem dX3_setupsIn_49 : decode cX3_setupsIn 49 = .ok (.iload_n 2, 1) := by decide +kernel
theorem dX3_setupsIn_50 : decode cX3_setupsIn 50 = .ok (.ireturn, 1) := by decide +kernel
theorem dX3_overtimeIn_0 : decode cX3_overtimeIn 0 = .ok (.iconst 0, 1) := by decide +kernel
theorem dX3_overtimeIn_1 : decode cX3_overtimeIn 1 = .ok (.aload_n 0, 1) := by decide +kernel
theorem dX3_overtimeIn_2 : decode cX3_overtimeIn 2 = .ok (.iload_n 1, 1) := by decide +kernel
theorem dX3_overtimeIn_3 : decode cX3_overtimeIn 3 = .ok (.aconst_null, 1) := by decide +kernel
theorem dX3_overtimeIn_4 : decode cX3_overtimeIn 4 = .ok (.iconst 0, 1) := by decide +kernel
theorem dX3_overtimeIn_5 : decode cX3_overtimeIn 5 = .ok (.invokevirtual 74, 3) := by decide +kernel
theorem dX3_overtimeIn_8 : decode cX3_overtimeIn 8 = .ok (.aload_n 0, 1) := by decide +kernel
theorem dX3_overtimeIn_9 : decode cX3_overtimeIn 9 = .ok (.iconst 0, 1) := by decide +kernel
theorem dX3_overtimeIn_10 : decode cX3_overtimeIn 10 = .ok (.invokevirtual 70, 3) := by decide +kernel
theorem dX3_overtimeIn_13 : decode cX3_overtimeIn 13 = .ok (.isub, 1) := by decide +kernel
theorem dX3_overtimeIn_14 : decode cX3_overtimeIn 14 = .ok (.invokestatic 98, 3) := by decide +kernel
theorem dX3_overtimeIn_17 : decode cX3_overtimeIn 17 = .ok (.ireturn, 1) := by decide +kernel
theorem dX3_allLots_0 : decode cX3_allLots 0 = .ok (.iconst 0, 1) := by decide +kernel
theorem dX3_allLots_1 : decode cX3_allLots 1 = .ok (.istore_n 1, 1) := by decide +kernel
theorem dX3_allLots_2 : decode cX3_allLots 2 = .ok (.iconst 0, 1) := by decide +kernel
theorem dX3_allLots_3 : decode cX3_allLots 3 = .ok (.istore_n 2, 1) := by decide +kernel
theorem dX3_allLots_4 : decode cX3_allLots 4 = .ok (.iload_n 2, 1) := by decide +kernel
theorem dX3_allLots_5 : decode cX3_allLots 5 = .ok (.aload_n 0, 1) := by decide +kernel
theorem dX3_allLots_6 : decode cX3_allLots 6 = .ok (.getfield 45, 3) := by decide +kernel
theorem dX3_allLots_9 : decode cX3_allLots 9 = .ok (.if_icmp .ge 26, 3) := by decide +kernel
theorem dX3_allLots_12 : decode cX3_allLots 12 = .ok (.aload_n 0, 1) := by decide +kernel
theorem dX3_allLots_13 : decode cX3_allLots 13 = .ok (.iload_n 2, 1) := by decide +kernel
theorem dX3_allLots_14 : decode cX3_allLots 14 = .ok (.invokevirtual 49, 3) := by decide +kernel
theorem dX3_allLots_17 : decode cX3_allLots 17 = .ok (.astore_n 3, 1) := by decide +kernel
theorem dX3_allLots_18 : decode cX3_allLots 18 = .ok (.aload_n 3, 1) := by decide +kernel
theorem dX3_allLots_19 : decode cX3_allLots 19 = .ok (.ifnull 10, 3) := by decide +kernel
theorem dX3_allLots_22 : decode cX3_allLots 22 = .ok (.iload_n 1, 1) := by decide +kernel
theorem dX3_allLots_23 : decode cX3_allLots 23 = .ok (.aload_n 3, 1) := by decide +kernel
theorem dX3_allLots_24 : decode cX3_allLots 24 = .ok (.invokevirtual 104, 3) := by decide +kernel
theorem dX3_allLots_27 : decode cX3_allLots 27 = .ok (.iadd, 1) := by decide +kernel
theorem dX3_allLots_28 : decode cX3_allLots 28 = .ok (.istore_n 1, 1) := by decide +kernel
theorem dX3_allLots_29 : decode cX3_allLots 29 = .ok (.iinc 2 1, 3) := by decide +kernel
theorem dX3_allLots_32 : decode cX3_allLots 32 = .ok (.goto (-28), 3) := by decide +kernel
theorem dX3_allLots_35 : decode cX3_allLots 35 = .ok (.iload_n 1, 1) := by decide +kernel
theorem dX3_allLots_36 : decode cX3_allLots 36 = .ok (.ireturn, 1) := by decide +kernel
theorem dX3_allStock_0 : decode cX3_allStock 0 = .ok (.lconst 0, 1) := by decide +kernel
theorem dX3_allStock_1 : decode cX3_allStock 1 = .ok (.lstore_n 1, 1) := by decide +kernel
theorem dX3_allStock_2 : decode cX3_allStock 2 = .ok (.iconst 0, 1) := by decide +kernel
theorem dX3_allStock_3 : decode cX3_allStock 3 = .ok (.istore_n 3, 1) := by decide +kernel
theorem dX3_allStock_4 : decode cX3_allStock 4 = .ok (.iload_n 3, 1) := by decide +kernel
theorem dX3_allStock_5 : decode cX3_allStock 5 = .ok (.aload_n 0, 1) := by decide +kernel
theorem dX3_allStock_6 : decode cX3_allStock 6 = .ok (.getfield 45, 3) := by decide +kernel
theorem dX3_allStock_9 : decode cX3_allStock 9 = .ok (.if_icmp .ge 30, 3) := by decide +kernel
theorem dX3_allStock_12 : decode cX3_allStock 12 = .ok (.aload_n 0, 1) := by decide +kernel
theorem dX3_allStock_13 : decode cX3_allStock 13 = .ok (.iload_n 3, 1) := by decide +kernel
theorem dX3_allStock_14 : decode cX3_allStock 14 = .ok (.invokevirtual 49, 3) := by decide +kernel
theorem dX3_allStock_17 : decode cX3_allStock 17 = .ok (.astore 4, 2) := by decide +kernel
theorem dX3_allStock_19 : decode cX3_allStock 19 = .ok (.aload 4, 2) := by decide +kernel
theorem dX3_allStock_21 : decode cX3_allStock 21 = .ok (.ifnull 12, 3) := by decide +kernel
theorem dX3_allStock_24 : decode cX3_allStock 24 = .ok (.lload_n 1, 1) := by decide +kernel
theorem dX3_allStock_25 : decode cX3_allStock 25 = .ok (.aload 4, 2) := by decide +kernel
theorem dX3_allStock_27 : decode cX3_allStock 27 = .ok (.getfield 108, 3) := by decide +kernel
theorem dX3_allStock_30 : decode cX3_allStock 30 = .ok (.i2l, 1) := by decide +kernel
theorem dX3_allStock_31 : decode cX3_allStock 31 = .ok (.ladd, 1) := by decide +kernel
theorem dX3_allStock_32 : decode cX3_allStock 32 = .ok (.lstore_n 1, 1) := by decide +kernel
theorem dX3_allStock_33 : decode cX3_allStock 33 = .ok (.iinc 3 1, 3) := by decide +kernel
theorem dX3_allStock_36 : decode cX3_allStock 36 = .ok (.goto (-32), 3) := by decide +kernel
theorem dX3_allStock_39 : decode cX3_allStock 39 = .ok (.lload_n 1, 1) := by decide +kernel
theorem dX3_allStock_40 : decode cX3_allStock 40 = .ok (.lreturn, 1) := by decide +kernel
theorem dX3_allBacklog_0 : decode cX3_allBacklog 0 = .ok (.lconst 0, 1) := by decide +kernel
theorem dX3_allBacklog_1 : decode cX3_allBacklog 1 = .ok (.lstore_n 1, 1) := by decide +kernel
theorem dX3_allBacklog_2 : decode cX3_allBacklog 2 = .ok (.iconst 0, 1) := by decide +kernel
theorem dX3_allBacklog_3 : decode cX3_allBacklog 3 = .ok (.istore_n 3, 1) := by decide +kernel
theorem dX3_allBacklog_4 : decode cX3_allBacklog 4 = .ok (.iload_n 3, 1) := by decide +kernel
theorem dX3_allBacklog_5 : decode cX3_allBacklog 5 = .ok (.aload_n 0, 1) := by decide +kernel
theorem dX3_allBacklog_6 : decode cX3_allBacklog 6 = .ok (.getfield 45, 3) := by decide +kernel
theorem dX3_allBacklog_9 : decode cX3_allBacklog 9 = .ok (.if_icmp .ge 30, 3) := by decide +kernel
theorem dX3_allBacklog_12 : decode cX3_allBacklog 12 = .ok (.aload_n 0, 1) := by decide +kernel
theorem dX3_allBacklog_13 : decode cX3_allBacklog 13 = .ok (.iload_n 3, 1) := by decide +kernel
theorem dX3_allBacklog_14 : decode cX3_allBacklog 14 = .ok (.invokevirtual 49, 3) := by decide +kernel
theorem dX3_allBacklog_17 : decode cX3_allBacklog 17 = .ok (.astore 4, 2) := by decide +kernel
theorem dX3_allBacklog_19 : decode cX3_allBacklog 19 = .ok (.aload 4, 2) := by decide +kernel
theorem dX3_allBacklog_21 : decode cX3_allBacklog 21 = .ok (.ifnull 12, 3) := by decide +kernel
theorem dX3_allBacklog_24 : decode cX3_allBacklog 24 = .ok (.lload_n 1, 1) := by decide +kernel
theorem dX3_allBacklog_25 : decode cX3_allBacklog 25 = .ok (.aload 4, 2) := by decide +kernel
theorem dX3_allBacklog_27 : decode cX3_allBacklog 27 = .ok (.getfield 111, 3) := by decide +kernel
theorem dX3_allBacklog_30 : decode cX3_allBacklog 30 = .ok (.i2l, 1) := by decide +kernel
theorem dX3_allBacklog_31 : decode cX3_allBacklog 31 = .ok (.ladd, 1) := by decide +kernel
theorem dX3_allBacklog_32 : decode cX3_allBacklog 32 = .ok (.lstore_n 1, 1) := by decide +kernel
theorem dX3_allBacklog_33 : decode cX3_allBacklog 33 = .ok (.iinc 3 1, 3) := by decide +kernel
theorem dX3_allBacklog_36 : decode cX3_allBacklog 36 = .ok (.goto (-32), 3) := by decide +kernel
theorem dX3_allBacklog_39 : decode cX3_allBacklog 39 = .ok (.lload_n 1, 1) := by decide +kernel
theorem dX3_allBacklog_40 : decode cX3_allBacklog 40 = .ok (.lreturn, 1) := by decide +kernel
theorem dX3_forgetTold_0 : decode cX3_forgetTold 0 = .ok (.iconst 0, 1) := by decide +kernel
theorem dX3_forgetTold_1 : decode cX3_forgetTold 1 = .ok (.istore_n 1, 1) := by decide +kernel
theorem dX3_forgetTold_2 : decode cX3_forgetTold 2 = .ok (.iload_n 1, 1) := by decide +kernel
theorem dX3_forgetTold_3 : decode cX3_forgetTold 3 = .ok (.aload_n 0, 1) := by decide +kernel
theorem dX3_forgetTold_4 : decode cX3_forgetTold 4 = .ok (.getfield 45, 3) := by decide +kernel
theorem dX3_forgetTold_7 : decode cX3_forgetTold 7 = .ok (.if_icmp .ge 25, 3) := by decide +kernel
theorem dX3_forgetTold_10 : decode cX3_forgetTold 10 = .ok (.aload_n 0, 1) := by decide +kernel
theorem dX3_forgetTold_11 : decode cX3_forgetTold 11 = .ok (.iload_n 1, 1) := by decide +kernel
theorem dX3_forgetTold_12 : decode cX3_forgetTold 12 = .ok (.invokevirtual 49, 3) := by decide +kernel
theorem dX3_forgetTold_15 : decode cX3_forgetTold 15 = .ok (.astore_n 2, 1) := by decide +kernel
theorem dX3_forgetTold_16 : decode cX3_forgetTold 16 = .ok (.aload_n 2, 1) := by decide +kernel
theorem dX3_forgetTold_17 : decode cX3_forgetTold 17 = .ok (.ifnull 9, 3) := by decide +kernel
theorem dX3_forgetTold_20 : decode cX3_forgetTold 20 = .ok (.aload_n 2, 1) := by decide +kernel
theorem dX3_forgetTold_21 : decode cX3_forgetTold 21 = .ok (.bipush (-6), 2) := by decide +kernel
theorem dX3_forgetTold_23 : decode cX3_forgetTold 23 = .ok (.putfield 114, 3) := by decide +kernel
theorem dX3_forgetTold_26 : decode cX3_forgetTold 26 = .ok (.iinc 1 1, 3) := by decide +kernel
theorem dX3_forgetTold_29 : decode cX3_forgetTold 29 = .ok (.goto (-27), 3) := by decide +kernel
theorem dX3_forgetTold_32 : decode cX3_forgetTold 32 = .ok (.return_, 1) := by decide +kernel
theorem dX3_planAnew_0 : decode cX3_planAnew 0 = .ok (.aload_n 0, 1) := by decide +kernel
theorem dX3_planAnew_1 : decode cX3_planAnew 1 = .ok (.invokevirtual 117, 3) := by decide +kernel
theorem dX3_planAnew_4 : decode cX3_planAnew 4 = .ok (.aload_n 0, 1) := by decide +kernel
theorem dX3_planAnew_5 : decode cX3_planAnew 5 = .ok (.iconst 2, 1) := by decide +kernel
theorem dX3_planAnew_6 : decode cX3_planAnew 6 = .ok (.invokevirtual 70, 3) := by decide +kernel
theorem dX3_planAnew_9 : decode cX3_planAnew 9 = .ok (.istore_n 1, 1) := by decide +kernel
theorem dX3_planAnew_10 : decode cX3_planAnew 10 = .ok (.iload_n 1, 1) := by decide +kernel
theorem dX3_planAnew_11 : decode cX3_planAnew 11 = .ok (.bipush 12, 2) := by decide +kernel
theorem dX3_planAnew_13 : decode cX3_planAnew 13 = .ok (.if_icmp .ge 14, 3) := by decide +kernel
theorem dX3_planAnew_16 : decode cX3_planAnew 16 = .ok (.aload_n 0, 1) := by decide +kernel
theorem dX3_planAnew_17 : decode cX3_planAnew 17 = .ok (.iload_n 1, 1) := by decide +kernel
theorem dX3_planAnew_18 : decode cX3_planAnew 18 = .ok (.invokevirtual 120, 3) := by decide +kernel
theorem dX3_planAnew_21 : decode cX3_planAnew 21 = .ok (.iinc 1 1, 3) := by decide +kernel
theorem dX3_planAnew_24 : decode cX3_planAnew 24 = .ok (.goto (-14), 3) := by decide +kernel
theorem dX3_planAnew_27 : decode cX3_planAnew 27 = .ok (.return_, 1) := by decide +kernel
theorem dX3_plansWithoutShortage_0 : decode cX3_plansWithoutShortage 0 = .ok (.aload_n 0, 1) := by decide +kernel
theorem dX3_plansWithoutShortage_1 : decode cX3_plansWithoutShortage 1 = .ok (.invokevirtual 117, 3) := by decide +kernel
theorem dX3_plansWithoutShortage_4 : decode cX3_plansWithoutShortage 4 = .ok (.aload_n 0, 1) := by decide +kernel
theorem dX3_plansWithoutShortage_5 : decode cX3_plansWithoutShortage 5 = .ok (.iconst 2, 1) := by decide +kernel
theorem dX3_plansWithoutShortage_6 : decode cX3_plansWithoutShortage 6 = .ok (.invokevirtual 70, 3) := by decide +kernel
theorem dX3_plansWithoutShortage_9 : decode cX3_plansWithoutShortage 9 = .ok (.istore_n 1, 1) := by decide +kernel
theorem dX3_plansWithoutShortage_10 : decode cX3_plansWithoutShortage 10 = .ok (.iload_n 1, 1) := by decide +kernel
theorem dX3_plansWithoutShortage_11 : decode cX3_plansWithoutShortage 11 = .ok (.bipush 12, 2) := by decide +kernel
theorem dX3_plansWithoutShortage_13 : decode cX3_plansWithoutShortage 13 = .ok (.if_icmp .ge 23, 3) := by decide +kernel
theorem dX3_plansWithoutShortage_16 : decode cX3_plansWithoutShortage 16 = .ok (.aload_n 0, 1) := by decide +kernel
theorem dX3_plansWithoutShortage_17 : decode cX3_plansWithoutShortage 17 = .ok (.iload_n 1, 1) := by decide +kernel
theorem dX3_plansWithoutShortage_18 : decode cX3_plansWithoutShortage 18 = .ok (.invokevirtual 120, 3) := by decide +kernel
theorem dX3_plansWithoutShortage_21 : decode cX3_plansWithoutShortage 21 = .ok (.aload_n 0, 1) := by decide +kernel
theorem dX3_plansWithoutShortage_22 : decode cX3_plansWithoutShortage 22 = .ok (.invokevirtual 124, 3) := by decide +kernel
theorem dX3_plansWithoutShortage_25 : decode cX3_plansWithoutShortage 25 = .ok (.ifCond .eq 5, 3) := by decide +kernel
theorem dX3_plansWithoutShortage_28 : decode cX3_plansWithoutShortage 28 = .ok (.iconst 0, 1) := by decide +kernel
theorem dX3_plansWithoutShortage_29 : decode cX3_plansWithoutShortage 29 = .ok (.ireturn, 1) := by decide +kernel
theorem dX3_plansWithoutShortage_30 : decode cX3_plansWithoutShortage 30 = .ok (.iinc 1 1, 3) := by decide +kernel
theorem dX3_plansWithoutShortage_33 : decode cX3_plansWithoutShortage 33 = .ok (.goto (-23), 3) := by decide +kernel
theorem dX3_plansWithoutShortage_36 : decode cX3_plansWithoutShortage 36 = .ok (.iconst 1, 1) := by decide +kernel
theorem dX3_plansWithoutShortage_37 : decode cX3_plansWithoutShortage 37 = .ok (.ireturn, 1) := by decide +kernel
theorem dX3_openPlans_0 : decode cX3_openPlans 0 = .ok (.aload_n 0, 1) := by decide +kernel
theorem dX3_openPlans_1 : decode cX3_openPlans 1 = .ok (.iconst 2, 1) := by decide +kernel
theorem dX3_openPlans_2 : decode cX3_openPlans 2 = .ok (.invokevirtual 70, 3) := by decide +kernel
theorem dX3_openPlans_5 : decode cX3_openPlans 5 = .ok (.istore_n 1, 1) := by decide +kernel
theorem dX3_openPlans_6 : decode cX3_openPlans 6 = .ok (.iconst 0, 1) := by decide +kernel
theorem dX3_openPlans_7 : decode cX3_openPlans 7 = .ok (.istore_n 2, 1) := by decide +kernel
theorem dX3_openPlans_8 : decode cX3_openPlans 8 = .ok (.iload_n 2, 1) := by decide +kernel
theorem dX3_openPlans_9 : decode cX3_openPlans 9 = .ok (.aload_n 0, 1) := by decide +kernel
theorem dX3_openPlans_10 : decode cX3_openPlans 10 = .ok (.getfield 45, 3) := by decide +kernel
theorem dX3_openPlans_13 : decode cX3_openPlans 13 = .ok (.if_icmp .ge 24, 3) := by decide +kernel
theorem dX3_openPlans_16 : decode cX3_openPlans 16 = .ok (.aload_n 0, 1) := by decide +kernel
theorem dX3_openPlans_17 : decode cX3_openPlans 17 = .ok (.iload_n 2, 1) := by decide +kernel
theorem dX3_openPlans_18 : decode cX3_openPlans 18 = .ok (.invokevirtual 49, 3) := by decide +kernel
theorem dX3_openPlans_21 : decode cX3_openPlans 21 = .ok (.astore_n 3, 1) := by decide +kernel
theorem dX3_openPlans_22 : decode cX3_openPlans 22 = .ok (.aload_n 3, 1) := by decide +kernel
theorem dX3_openPlans_23 : decode cX3_openPlans 23 = .ok (.ifnull 8, 3) := by decide +kernel
theorem dX3_openPlans_26 : decode cX3_openPlans 26 = .ok (.aload_n 3, 1) := by decide +kernel
theorem dX3_openPlans_27 : decode cX3_openPlans 27 = .ok (.iload_n 1, 1) := by decide +kernel
theorem dX3_openPlans_28 : decode cX3_openPlans 28 = .ok (.invokevirtual 128, 3) := by decide +kernel
theorem dX3_openPlans_31 : decode cX3_openPlans 31 = .ok (.iinc 2 1, 3) := by decide +kernel
theorem dX3_openPlans_34 : decode cX3_openPlans 34 = .ok (.goto (-26), 3) := by decide +kernel
theorem dX3_openPlans_37 : decode cX3_openPlans 37 = .ok (.return_, 1) := by decide +kernel
theorem dX3_planWeek_0 : decode cX3_planWeek 0 = .ok (.aload_n 0, 1) := by decide +kernel
theorem dX3_planWeek_1 : decode cX3_planWeek 1 = .ok (.iconst 4, 1) := by decide +kernel
theorem dX3_planWeek_2 : decode cX3_planWeek 2 = .ok (.invokevirtual 70, 3) := by decide +kernel
theorem dX3_planWeek_5 : decode cX3_planWeek 5 = .ok (.istore_n 2, 1) := by decide +kernel
theorem dX3_planWeek_6 : decode cX3_planWeek 6 = .ok (.iconst 0, 1) := by decide +kernel
theorem dX3_planWeek_7 : decode cX3_planWeek 7 = .ok (.istore_n 3, 1) := by decide +kernel
theorem dX3_planWeek_8 : decode cX3_planWeek 8 = .ok (.iload_n 3, 1) := by decide +kernel
theorem dX3_planWeek_9 : decode cX3_planWeek 9 = .ok (.aload_n 0, 1) := by decide +kernel
theorem dX3_planWeek_10 : decode cX3_planWeek 10 = .ok (.getfield 45, 3) := by decide +kernel
theorem dX3_planWeek_13 : decode cX3_planWeek 13 = .ok (.if_icmp .ge 28, 3) := by decide +kernel
theorem dX3_planWeek_16 : decode cX3_planWeek 16 = .ok (.aload_n 0, 1) := by decide +kernel
theorem dX3_planWeek_17 : decode cX3_planWeek 17 = .ok (.iload_n 3, 1) := by decide +kernel
theorem dX3_planWeek_18 : decode cX3_planWeek 18 = .ok (.invokevirtual 49, 3) := by decide +kernel
theorem dX3_planWeek_21 : decode cX3_planWeek 21 = .ok (.astore 4, 2) := by decide +kernel
theorem dX3_planWeek_23 : decode cX3_planWeek 23 = .ok (.aload 4, 2) := by decide +kernel
theorem dX3_planWeek_25 : decode cX3_planWeek 25 = .ok (.ifnull 10, 3) := by decide +kernel
theorem dX3_planWeek_28 : decode cX3_planWeek 28 = .ok (.aload 4, 2) := by decide +kernel
theorem dX3_planWeek_30 : decode cX3_planWeek 30 = .ok (.iload_n 1, 1) := by decide +kernel
theorem dX3_planWeek_31 : decode cX3_planWeek 31 = .ok (.iload_n 2, 1) := by decide +kernel
theorem dX3_planWeek_32 : decode cX3_planWeek 32 = .ok (.invokevirtual 131, 3) := by decide +kernel
theorem dX3_planWeek_35 : decode cX3_planWeek 35 = .ok (.iinc 3 1, 3) := by decide +kernel
theorem dX3_planWeek_38 : decode cX3_planWeek 38 = .ok (.goto (-30), 3) := by decide +kernel
theorem dX3_planWeek_41 : decode cX3_planWeek 41 = .ok (.aload_n 0, 1) := by decide +kernel
theorem dX3_planWeek_42 : decode cX3_planWeek 42 = .ok (.aload_n 0, 1) := by decide +kernel
theorem dX3_planWeek_43 : decode cX3_planWeek 43 = .ok (.invokevirtual 135, 3) := by decide +kernel
theorem dX3_planWeek_46 : decode cX3_planWeek 46 = .ok (.putfield 138, 3) := by decide +kernel
theorem dX3_planWeek_49 : decode cX3_planWeek 49 = .ok (.aload_n 0, 1) := by decide +kernel
theorem dX3_planWeek_50 : decode cX3_planWeek 50 = .ok (.iconst 0, 1) := by decide +kernel
theorem dX3_planWeek_51 : decode cX3_planWeek 51 = .ok (.putfield 141, 3) := by decide +kernel
theorem dX3_planWeek_54 : decode cX3_planWeek 54 = .ok (.iconst 0, 1) := by decide +kernel
theorem dX3_planWeek_55 : decode cX3_planWeek 55 = .ok (.istore_n 3, 1) := by decide +kernel
theorem dX3_planWeek_56 : decode cX3_planWeek 56 = .ok (.iload_n 3, 1) := by decide +kernel
theorem dX3_planWeek_57 : decode cX3_planWeek 57 = .ok (.bipush 10, 2) := by decide +kernel
theorem dX3_planWeek_59 : decode cX3_planWeek 59 = .ok (.if_icmp .ge 34, 3) := by decide +kernel
theorem dX3_planWeek_62 : decode cX3_planWeek 62 = .ok (.aload_n 0, 1) := by decide +kernel
theorem dX3_planWeek_63 : decode cX3_planWeek 63 = .ok (.invokevirtual 144, 3) := by decide +kernel
theorem dX3_planWeek_66 : decode cX3_planWeek 66 = .ok (.astore 4, 2) := by decide +kernel
theorem dX3_planWeek_68 : decode cX3_planWeek 68 = .ok (.aload 4, 2) := by decide +kernel
theorem dX3_planWeek_70 : decode cX3_planWeek 70 = .ok (.ifnonnull 4, 3) := by decide +kernel
theorem dX3_planWeek_73 : decode cX3_planWeek 73 = .ok (.return_, 1) := by decide +kernel
theorem dX3_planWeek_74 : decode cX3_planWeek 74 = .ok (.aload 4, 2) := by decide +kernel
theorem dX3_planWeek_76 : decode cX3_planWeek 76 = .ok (.iconst 0, 1) := by decide +kernel
theorem dX3_planWeek_77 : decode cX3_planWeek 77 = .ok (.putfield 148, 3) := by decide +kernel
theorem dX3_planWeek_80 : decode cX3_planWeek 80 = .ok (.aload_n 0, 1) := by decide +kernel
theorem dX3_planWeek_81 : decode cX3_planWeek 81 = .ok (.aload 4, 2) := by decide +kernel
theorem dX3_planWeek_83 : decode cX3_planWeek 83 = .ok (.iload_n 1, 1) := by decide +kernel
theorem dX3_planWeek_84 : decode cX3_planWeek 84 = .ok (.invokevirtual 152, 3) := by decide +kernel
theorem dX3_planWeek_87 : decode cX3_planWeek 87 = .ok (.iinc 3 1, 3) := by decide +kernel
theorem dX3_planWeek_90 : decode cX3_planWeek 90 = .ok (.goto (-34), 3) := by decide +kernel
theorem dX3_planWeek_93 : decode cX3_planWeek 93 = .ok (.return_, 1) := by decide +kernel
theorem dX3_nextWaiting_0 : decode cX3_nextWaiting 0 = .ok (.aconst_null, 1) := by decide +kernel
theorem dX3_nextWaiting_1 : decode cX3_nextWaiting 1 = .ok (.astore_n 1, 1) := by decide +kernel
theorem dX3_nextWaiting_2 : decode cX3_nextWaiting 2 = .ok (.iconst 0, 1) := by decide +kernel
theorem dX3_nextWaiting_3 : decode cX3_nextWaiting 3 = .ok (.istore_n 2, 1) := by decide +kernel
theorem dX3_nextWaiting_4 : decode cX3_nextWaiting 4 = .ok (.iload_n 2, 1) := by decide +kernel
theorem dX3_nextWaiting_5 : decode cX3_nextWaiting 5 = .ok (.aload_n 0, 1) := by decide +kernel
theorem dX3_nextWaiting_6 : decode cX3_nextWaiting 6 = .ok (.getfield 45, 3) := by decide +kernel
theorem dX3_nextWaiting_9 : decode cX3_nextWaiting 9 = .ok (.if_icmp .ge 44, 3) := by decide +kernel
theorem dX3_nextWaiting_12 : decode cX3_nextWaiting 12 = .ok (.aload_n 0, 1) := by decide +kernel
theorem dX3_nextWaiting_13 : decode cX3_nextWaiting 13 = .ok (.iload_n 2, 1) := by decide +kernel
theorem dX3_nextWaiting_14 : decode cX3_nextWaiting 14 = .ok (.invokevirtual 49, 3) := by decide +kernel
theorem dX3_nextWaiting_17 : decode cX3_nextWaiting 17 = .ok (.astore_n 3, 1) := by decide +kernel
theorem dX3_nextWaiting_18 : decode cX3_nextWaiting 18 = .ok (.aload_n 3, 1) := by decide +kernel
theorem dX3_nextWaiting_19 : decode cX3_nextWaiting 19 = .ok (.ifnull 28, 3) := by decide +kernel
theorem dX3_nextWaiting_22 : decode cX3_nextWaiting 22 = .ok (.aload_n 3, 1) := by decide +kernel
theorem dX3_nextWaiting_23 : decode cX3_nextWaiting 23 = .ok (.getfield 148, 3) := by decide +kernel
theorem dX3_nextWaiting_26 : decode cX3_nextWaiting 26 = .ok (.ifCond .eq 21, 3) := by decide +kernel
theorem dX3_nextWaiting_29 : decode cX3_nextWaiting 29 = .ok (.aload_n 1, 1) := by decide +kernel
theorem dX3_nextWaiting_30 : decode cX3_nextWaiting 30 = .ok (.ifnull 15, 3) := by decide +kernel
theorem dX3_nextWaiting_33 : decode cX3_nextWaiting 33 = .ok (.aload_n 3, 1) := by decide +kernel
theorem dX3_nextWaiting_34 : decode cX3_nextWaiting 34 = .ok (.getfield 156, 3) := by decide +kernel
theorem dX3_nextWaiting_37 : decode cX3_nextWaiting 37 = .ok (.aload_n 1, 1) := by decide +kernel
theorem dX3_nextWaiting_38 : decode cX3_nextWaiting 38 = .ok (.getfield 156, 3) := by decide +kernel
theorem dX3_nextWaiting_41 : decode cX3_nextWaiting 41 = .ok (.lcmp, 1) := by decide +kernel
theorem dX3_nextWaiting_42 : decode cX3_nextWaiting 42 = .ok (.ifCond .ge 5, 3) := by decide +kernel
theorem dX3_nextWaiting_45 : decode cX3_nextWaiting 45 = .ok (.aload_n 3, 1) := by decide +kernel
theorem dX3_nextWaiting_46 : decode cX3_nextWaiting 46 = .ok (.astore_n 1, 1) := by decide +kernel
theorem dX3_nextWaiting_47 : decode cX3_nextWaiting 47 = .ok (.iinc 2 1, 3) := by decide +kernel
theorem dX3_nextWaiting_50 : decode cX3_nextWaiting 50 = .ok (.goto (-46), 3) := by decide +kernel
theorem dX3_nextWaiting_53 : decode cX3_nextWaiting 53 = .ok (.aload_n 1, 1) := by decide +kernel
theorem dX3_nextWaiting_54 : decode cX3_nextWaiting 54 = .ok (.areturn, 1) := by decide +kernel
theorem dX3_giveLots_0 : decode cX3_giveLots 0 = .ok (.iconst 1, 1) := by decide +kernel
theorem dX3_giveLots_1 : decode cX3_giveLots 1 = .ok (.aload_n 1, 1) := by decide +kernel
theorem dX3_giveLots_2 : decode cX3_giveLots 2 = .ok (.getfield 87, 3) := by decide +kernel
theorem dX3_giveLots_5 : decode cX3_giveLots 5 = .ok (.ishl, 1) := by decide +kernel
theorem dX3_giveLots_6 : decode cX3_giveLots 6 = .ok (.istore_n 3, 1) := by decide +kernel
theorem dX3_giveLots_7 : decode cX3_giveLots 7 = .ok (.aload_n 0, 1) := by decide +kernel
theorem dX3_giveLots_8 : decode cX3_giveLots 8 = .ok (.getfield 138, 3) := by decide +kernel
theorem dX3_giveLots_11 : decode cX3_giveLots 11 = .ok (.aload_n 1, 1) := by decide +kernel
theorem dX3_giveLots_12 : decode cX3_giveLots 12 = .ok (.getfield 81, 3) := by decide +kernel
theorem dX3_giveLots_15 : decode cX3_giveLots 15 = .ok (.isub, 1) := by decide +kernel
theorem dX3_giveLots_16 : decode cX3_giveLots 16 = .ok (.istore 4, 2) := by decide +kernel
theorem dX3_giveLots_18 : decode cX3_giveLots 18 = .ok (.aload_n 0, 1) := by decide +kernel
theorem dX3_giveLots_19 : decode cX3_giveLots 19 = .ok (.getfield 141, 3) := by decide +kernel
theorem dX3_giveLots_22 : decode cX3_giveLots 22 = .ok (.iload_n 3, 1) := by decide +kernel
theorem dX3_giveLots_23 : decode cX3_giveLots 23 = .ok (.iand, 1) := by decide +kernel
theorem dX3_giveLots_24 : decode cX3_giveLots 24 = .ok (.ifCond .ne 27, 3) := by decide +kernel
theorem dX3_giveLots_27 : decode cX3_giveLots 27 = .ok (.aload_n 1, 1) := by decide +kernel
theorem dX3_giveLots_28 : decode cX3_giveLots 28 = .ok (.getfield 87, 3) := by decide +kernel
theorem dX3_giveLots_31 : decode cX3_giveLots 31 = .ok (.invokestatic 159, 3) := by decide +kernel
theorem dX3_giveLots_34 : decode cX3_giveLots 34 = .ok (.ifCond .eq 17, 3) := by decide +kernel
theorem dX3_giveLots_37 : decode cX3_giveLots 37 = .ok (.iload 4, 2) := by decide +kernel
theorem dX3_giveLots_39 : decode cX3_giveLots 39 = .ok (.aload_n 0, 1) := by decide +kernel
theorem dX3_giveLots_40 : decode cX3_giveLots 40 = .ok (.getfield 23, 3) := by decide +kernel
theorem dX3_giveLots_43 : decode cX3_giveLots 43 = .ok (.aload_n 1, 1) := by decide +kernel
theorem dX3_giveLots_44 : decode cX3_giveLots 44 = .ok (.getfield 87, 3) := by decide +kernel
theorem dX3_giveLots_47 : decode cX3_giveLots 47 = .ok (.iaload, 1) := by decide +kernel
theorem dX3_giveLots_48 : decode cX3_giveLots 48 = .ok (.isub, 1) := by decide +kernel
theorem dX3_giveLots_49 : decode cX3_giveLots 49 = .ok (.istore 4, 2) := by decide +kernel
theorem dX3_giveLots_51 : decode cX3_giveLots 51 = .ok (.aload_n 1, 1) := by decide +kernel
theorem dX3_giveLots_52 : decode cX3_giveLots 52 = .ok (.getfield 84, 3) := by decide +kernel
theorem dX3_giveLots_55 : decode cX3_giveLots 55 = .ok (.iconst 1, 1) := by decide +kernel
theorem dX3_giveLots_56 : decode cX3_giveLots 56 = .ok (.if_icmp .lt 12, 3) := by decide +kernel
theorem dX3_giveLots_59 : decode cX3_giveLots 59 = .ok (.iload 4, 2) := by decide +kernel
theorem dX3_giveLots_61 : decode cX3_giveLots 61 = .ok (.aload_n 1, 1) := by decide +kernel
theorem dX3_giveLots_62 : decode cX3_giveLots 62 = .ok (.getfield 84, 3) := by decide +kernel
theorem dX3_giveLots_65 : decode cX3_giveLots 65 = .ok (.if_icmp .ge 4, 3) := by decide +kernel
theorem dX3_giveLots_68 : decode cX3_giveLots 68 = .ok (.return_, 1) := by decide +kernel
theorem dX3_giveLots_69 : decode cX3_giveLots 69 = .ok (.aload_n 1, 1) := by decide +kernel
theorem dX3_giveLots_70 : decode cX3_giveLots 70 = .ok (.iload_n 2, 1) := by decide +kernel
theorem dX3_giveLots_71 : decode cX3_giveLots 71 = .ok (.aload_n 0, 1) := by decide +kernel
theorem dX3_giveLots_72 : decode cX3_giveLots 72 = .ok (.iconst 3, 1) := by decide +kernel
theorem dX3_giveLots_73 : decode cX3_giveLots 73 = .ok (.invokevirtual 70, 3) := by decide +kernel
theorem dX3_giveLots_76 : decode cX3_giveLots 76 = .ok (.invokevirtual 163, 3) := by decide +kernel
theorem dX3_giveLots_79 : decode cX3_giveLots 79 = .ok (.lstore 5, 2) := by decide +kernel
theorem dX3_giveLots_81 : decode cX3_giveLots 81 = .ok (.lload 5, 2) := by decide +kernel
theorem dX3_giveLots_83 : decode cX3_giveLots 83 = .ok (.iload 4, 2) := by decide +kernel
theorem dX3_giveLots_85 : decode cX3_giveLots 85 = .ok (.aload_n 1, 1) := by decide +kernel
theorem dX3_giveLots_86 : decode cX3_giveLots 86 = .ok (.getfield 84, 3) := by decide +kernel
theorem dX3_giveLots_89 : decode cX3_giveLots 89 = .ok (.idiv, 1) := by decide +kernel
theorem dX3_giveLots_90 : decode cX3_giveLots 90 = .ok (.sipush 1000, 3) := by decide +kernel
theorem dX3_giveLots_93 : decode cX3_giveLots 93 = .ok (.invokestatic 167, 3) := by decide +kernel
theorem dX3_giveLots_96 : decode cX3_giveLots 96 = .ok (.i2l, 1) := by decide +kernel
theorem dX3_giveLots_97 : decode cX3_giveLots 97 = .ok (.invokestatic 170, 3) := by decide +kernel
theorem dX3_giveLots_100 : decode cX3_giveLots 100 = .ok (.l2i, 1) := by decide +kernel
theorem dX3_giveLots_101 : decode cX3_giveLots 101 = .ok (.istore 7, 2) := by decide +kernel
theorem dX3_giveLots_103 : decode cX3_giveLots 103 = .ok (.aload_n 1, 1) := by decide +kernel
theorem dX3_giveLots_104 : decode cX3_giveLots 104 = .ok (.iload_n 2, 1) := by decide +kernel
theorem dX3_giveLots_105 : decode cX3_giveLots 105 = .ok (.iload 7, 2) := by decide +kernel
theorem dX3_giveLots_107 : decode cX3_giveLots 107 = .ok (.invokevirtual 173, 3) := by decide +kernel
theorem dX3_giveLots_110 : decode cX3_giveLots 110 = .ok (.aload_n 0, 1) := by decide +kernel
theorem dX3_giveLots_111 : decode cX3_giveLots 111 = .ok (.iload 4, 2) := by decide +kernel
theorem dX3_giveLots_113 : decode cX3_giveLots 113 = .ok (.iload 7, 2) := by decide +kernel
theorem dX3_giveLots_115 : decode cX3_giveLots 115 = .ok (.aload_n 1, 1) := by decide +kernel
theorem dX3_giveLots_116 : decode cX3_giveLots 116 = .ok (.getfield 84, 3) := by decide +kernel
theorem dX3_giveLots_119 : decode cX3_giveLots 119 = .ok (.imul, 1) := by decide +kernel
theorem dX3_giveLots_120 : decode cX3_giveLots 120 = .ok (.isub, 1) := by decide +kernel
theorem dX3_giveLots_121 : decode cX3_giveLots 121 = .ok (.putfield 138, 3) := by decide +kernel
theorem dX3_giveLots_124 : decode cX3_giveLots 124 = .ok (.aload_n 0, 1) := by decide +kernel
theorem dX3_giveLots_125 : decode cX3_giveLots 125 = .ok (.dup, 1) := by decide +kernel
theorem dX3_giveLots_126 : decode cX3_giveLots 126 = .ok (.getfield 141, 3) := by decide +kernel
theorem dX3_giveLots_129 : decode cX3_giveLots 129 = .ok (.iload_n 3, 1) := by decide +kernel
theorem dX3_giveLots_130 : decode cX3_giveLots 130 = .ok (.ior, 1) := by decide +kernel
theorem dX3_giveLots_131 : decode cX3_giveLots 131 = .ok (.putfield 141, 3) := by decide +kernel
theorem dX3_giveLots_134 : decode cX3_giveLots 134 = .ok (.return_, 1) := by decide +kernel
theorem dX3_isShort_0 : decode cX3_isShort 0 = .ok (.iconst 0, 1) := by decide +kernel
theorem dX3_isShort_1 : decode cX3_isShort 1 = .ok (.istore_n 1, 1) := by decide +kernel
theorem dX3_isShort_2 : decode cX3_isShort 2 = .ok (.iload_n 1, 1) := by decide +kernel
theorem dX3_isShort_3 : decode cX3_isShort 3 = .ok (.aload_n 0, 1) := by decide +kernel
theorem dX3_isShort_4 : decode cX3_isShort 4 = .ok (.getfield 45, 3) := by decide +kernel
theorem dX3_isShort_7 : decode cX3_isShort 7 = .ok (.if_icmp .ge 30, 3) := by decide +kernel
theorem dX3_isShort_10 : decode cX3_isShort 10 = .ok (.aload_n 0, 1) := by decide +kernel
theorem dX3_isShort_11 : decode cX3_isShort 11 = .ok (.iload_n 1, 1) := by decide +kernel
theorem dX3_isShort_12 : decode cX3_isShort 12 = .ok (.invokevirtual 49, 3) := by decide +kernel
theorem dX3_isShort_15 : decode cX3_isShort 15 = .ok (.astore_n 2, 1) := by decide +kernel
theorem dX3_isShort_16 : decode cX3_isShort 16 = .ok (.aload_n 2, 1) := by decide +kernel
theorem dX3_isShort_17 : decode cX3_isShort 17 = .ok (.ifnull 14, 3) := by decide +kernel
theorem dX3_isShort_20 : decode cX3_isShort 20 = .ok (.aload_n 2, 1) := by decide +kernel
theorem dX3_isShort_21 : decode cX3_isShort 21 = .ok (.getfield 156, 3) := by decide +kernel
theorem dX3_isShort_24 : decode cX3_isShort 24 = .ok (.lconst 0, 1) := by decide +kernel
theorem dX3_isShort_25 : decode cX3_isShort 25 = .ok (.lcmp, 1) := by decide +kernel
theorem dX3_isShort_26 : decode cX3_isShort 26 = .ok (.ifCond .ge 5, 3) := by decide +kernel
theorem dX3_isShort_29 : decode cX3_isShort 29 = .ok (.iconst 1, 1) := by decide +kernel
theorem dX3_isShort_30 : decode cX3_isShort 30 = .ok (.ireturn, 1) := by decide +kernel
theorem dX3_isShort_31 : decode cX3_isShort 31 = .ok (.iinc 1 1, 3) := by decide +kernel
theorem dX3_isShort_34 : decode cX3_isShort 34 = .ok (.goto (-32), 3) := by decide +kernel
theorem dX3_isShort_37 : decode cX3_isShort 37 = .ok (.iconst 0, 1) := by decide +kernel
theorem dX3_isShort_38 : decode cX3_isShort 38 = .ok (.ireturn, 1) := by decide +kernel
theorem dX3_passWeek_0 : decode cX3_passWeek 0 = .ok (.aload_n 0, 1) := by decide +kernel
theorem dX3_passWeek_1 : decode cX3_passWeek 1 = .ok (.iconst 0, 1) := by decide +kernel
theorem dX3_passWeek_2 : decode cX3_passWeek 2 = .ok (.invokevirtual 176, 3) := by decide +kernel
theorem dX3_passWeek_5 : decode cX3_passWeek 5 = .ok (.istore_n 1, 1) := by decide +kernel
theorem dX3_passWeek_6 : decode cX3_passWeek 6 = .ok (.aload_n 0, 1) := by decide +kernel
theorem dX3_passWeek_7 : decode cX3_passWeek 7 = .ok (.iconst 0, 1) := by decide +kernel
theorem dX3_passWeek_8 : decode cX3_passWeek 8 = .ok (.invokevirtual 179, 3) := by decide +kernel
theorem dX3_passWeek_11 : decode cX3_passWeek 11 = .ok (.istore_n 2, 1) := by decide +kernel
theorem dX3_passWeek_12 : decode cX3_passWeek 12 = .ok (.iconst 0, 1) := by decide +kernel
theorem dX3_passWeek_13 : decode cX3_passWeek 13 = .ok (.istore_n 3, 1) := by decide +kernel
theorem dX3_passWeek_14 : decode cX3_passWeek 14 = .ok (.iload_n 3, 1) := by decide +kernel
theorem dX3_passWeek_15 : decode cX3_passWeek 15 = .ok (.aload_n 0, 1) := by decide +kernel
theorem dX3_passWeek_16 : decode cX3_passWeek 16 = .ok (.getfield 45, 3) := by decide +kernel
theorem dX3_passWeek_19 : decode cX3_passWeek 19 = .ok (.if_icmp .ge 26, 3) := by decide +kernel
theorem dX3_passWeek_22 : decode cX3_passWeek 22 = .ok (.aload_n 0, 1) := by decide +kernel
theorem dX3_passWeek_23 : decode cX3_passWeek 23 = .ok (.iload_n 3, 1) := by decide +kernel
theorem dX3_passWeek_24 : decode cX3_passWeek 24 = .ok (.invokevirtual 49, 3) := by decide +kernel
theorem dX3_passWeek_27 : decode cX3_passWeek 27 = .ok (.astore 4, 2) := by decide +kernel
theorem dX3_passWeek_29 : decode cX3_passWeek 29 = .ok (.aload 4, 2) := by decide +kernel
theorem dX3_passWeek_31 : decode cX3_passWeek 31 = .ok (.ifnull 8, 3) := by decide +kernel
theorem dX3_passWeek_34 : decode cX3_passWeek 34 = .ok (.aload 4, 2) := by decide +kernel
theorem dX3_passWeek_36 : decode cX3_passWeek 36 = .ok (.invokevirtual 182, 3) := by decide +kernel
theorem dX3_passWeek_39 : decode cX3_passWeek 39 = .ok (.iinc 3 1, 3) := by decide +kernel
theorem dX3_passWeek_42 : decode cX3_passWeek 42 = .ok (.goto (-28), 3) := by decide +kernel
theorem dX3_passWeek_45 : decode cX3_passWeek 45 = .ok (.aload_n 0, 1) := by decide +kernel
theorem dX3_passWeek_46 : decode cX3_passWeek 46 = .ok (.dup, 1) := by decide +kernel
theorem dX3_passWeek_47 : decode cX3_passWeek 47 = .ok (.getfield 60, 3) := by decide +kernel
theorem dX3_passWeek_50 : decode cX3_passWeek 50 = .ok (.iload_n 1, 1) := by decide +kernel
theorem dX3_passWeek_51 : decode cX3_passWeek 51 = .ok (.i2l, 1) := by decide +kernel
theorem dX3_passWeek_52 : decode cX3_passWeek 52 = .ok (.ladd, 1) := by decide +kernel
theorem dX3_passWeek_53 : decode cX3_passWeek 53 = .ok (.putfield 60, 3) := by decide +kernel
theorem dX3_passWeek_56 : decode cX3_passWeek 56 = .ok (.aload_n 0, 1) := by decide +kernel
theorem dX3_passWeek_57 : decode cX3_passWeek 57 = .ok (.dup, 1) := by decide +kernel
theorem dX3_passWeek_58 : decode cX3_passWeek 58 = .ok (.getfield 64, 3) := by decide +kernel
theorem dX3_passWeek_61 : decode cX3_passWeek 61 = .ok (.iload_n 2, 1) := by decide +kernel
theorem dX3_passWeek_62 : decode cX3_passWeek 62 = .ok (.i2l, 1) := by decide +kernel
theorem dX3_passWeek_63 : decode cX3_passWeek 63 = .ok (.ladd, 1) := by decide +kernel
theorem dX3_passWeek_64 : decode cX3_passWeek 64 = .ok (.putfield 64, 3) := by decide +kernel
theorem dX3_passWeek_67 : decode cX3_passWeek 67 = .ok (.aload_n 0, 1) := by decide +kernel
theorem dX3_passWeek_68 : decode cX3_passWeek 68 = .ok (.dup, 1) := by decide +kernel
theorem dX3_passWeek_69 : decode cX3_passWeek 69 = .ok (.getfield 67, 3) := by decide +kernel
theorem dX3_passWeek_72 : decode cX3_passWeek 72 = .ok (.iload_n 1, 1) := by decide +kernel
theorem dX3_passWeek_73 : decode cX3_passWeek 73 = .ok (.i2l, 1) := by decide +kernel
theorem dX3_passWeek_74 : decode cX3_passWeek 74 = .ok (.aload_n 0, 1) := by decide +kernel
theorem dX3_passWeek_75 : decode cX3_passWeek 75 = .ok (.iconst 5, 1) := by decide +kernel
theorem dX3_passWeek_76 : decode cX3_passWeek 76 = .ok (.invokevirtual 70, 3) := by decide +kernel
theorem dX3_passWeek_79 : decode cX3_passWeek 79 = .ok (.i2l, 1) := by decide +kernel
theorem dX3_passWeek_80 : decode cX3_passWeek 80 = .ok (.lmul, 1) := by decide +kernel
theorem dX3_passWeek_81 : decode cX3_passWeek 81 = .ok (.iload_n 2, 1) := by decide +kernel
theorem dX3_passWeek_82 : decode cX3_passWeek 82 = .ok (.i2l, 1) := by decide +kernel
theorem dX3_passWeek_83 : decode cX3_passWeek 83 = .ok (.aload_n 0, 1) := by decide +kernel
theorem dX3_passWeek_84 : decode cX3_passWeek 84 = .ok (.bipush 8, 2) := by decide +kernel
theorem dX3_passWeek_86 : decode cX3_passWeek 86 = .ok (.invokevirtual 70, 3) := by decide +kernel
theorem dX3_passWeek_89 : decode cX3_passWeek 89 = .ok (.i2l, 1) := by decide +kernel
theorem dX3_passWeek_90 : decode cX3_passWeek 90 = .ok (.lmul, 1) := by decide +kernel
theorem dX3_passWeek_91 : decode cX3_passWeek 91 = .ok (.ladd, 1) := by decide +kernel
theorem dX3_passWeek_92 : decode cX3_passWeek 92 = .ok (.aload_n 0, 1) := by decide +kernel
theorem dX3_passWeek_93 : decode cX3_passWeek 93 = .ok (.invokevirtual 185, 3) := by decide +kernel
theorem dX3_passWeek_96 : decode cX3_passWeek 96 = .ok (.aload_n 0, 1) := by decide +kernel
theorem dX3_passWeek_97 : decode cX3_passWeek 97 = .ok (.bipush 6, 2) := by decide +kernel
theorem dX3_passWeek_99 : decode cX3_passWeek 99 = .ok (.invokevirtual 70, 3) := by decide +kernel
theorem dX3_passWeek_102 : decode cX3_passWeek 102 = .ok (.i2l, 1) := by decide +kernel
theorem dX3_passWeek_103 : decode cX3_passWeek 103 = .ok (.lmul, 1) := by decide +kernel
theorem dX3_passWeek_104 : decode cX3_passWeek 104 = .ok (.ladd, 1) := by decide +kernel
theorem dX3_passWeek_105 : decode cX3_passWeek 105 = .ok (.aload_n 0, 1) := by decide +kernel
theorem dX3_passWeek_106 : decode cX3_passWeek 106 = .ok (.invokevirtual 189, 3) := by decide +kernel
theorem dX3_passWeek_109 : decode cX3_passWeek 109 = .ok (.aload_n 0, 1) := by decide +kernel
theorem dX3_passWeek_110 : decode cX3_passWeek 110 = .ok (.bipush 7, 2) := by decide +kernel
theorem dX3_passWeek_112 : decode cX3_passWeek 112 = .ok (.invokevirtual 70, 3) := by decide +kernel
theorem dX3_passWeek_115 : decode cX3_passWeek 115 = .ok (.i2l, 1) := by decide +kernel
theorem dX3_passWeek_116 : decode cX3_passWeek 116 = .ok (.lmul, 1) := by decide +kernel
theorem dX3_passWeek_117 : decode cX3_passWeek 117 = .ok (.ladd, 1) := by decide +kernel
theorem dX3_passWeek_118 : decode cX3_passWeek 118 = .ok (.ladd, 1) := by decide +kernel
theorem dX3_passWeek_119 : decode cX3_passWeek 119 = .ok (.putfield 67, 3) := by decide +kernel
theorem dX3_passWeek_122 : decode cX3_passWeek 122 = .ok (.aload_n 0, 1) := by decide +kernel
theorem dX3_passWeek_123 : decode cX3_passWeek 123 = .ok (.dup, 1) := by decide +kernel
theorem dX3_passWeek_124 : decode cX3_passWeek 124 = .ok (.getfield 57, 3) := by decide +kernel
theorem dX3_passWeek_127 : decode cX3_passWeek 127 = .ok (.iconst 1, 1) := by decide +kernel
theorem dX3_passWeek_128 : decode cX3_passWeek 128 = .ok (.iadd, 1) := by decide +kernel
theorem dX3_passWeek_129 : decode cX3_passWeek 129 = .ok (.putfield 57, 3) := by decide +kernel
theorem dX3_passWeek_132 : decode cX3_passWeek 132 = .ok (.return_, 1) := by decide +kernel
theorem dX4_init_0 : decode cX4_init 0 = .ok (.aload_n 0, 1) := by decide +kernel
theorem dX4_init_1 : decode cX4_init 1 = .ok (.invokespecial 1, 3) := by decide +kernel
theorem dX4_init_4 : decode cX4_init 4 = .ok (.aload_n 0, 1) := by decide +kernel
theorem dX4_init_5 : decode cX4_init 5 = .ok (.new 7, 3) := by decide +kernel
theorem dX4_init_8 : decode cX4_init 8 = .ok (.dup, 1) := by decide +kernel
theorem dX4_init_9 : decode cX4_init 9 = .ok (.invokespecial 9, 3) := by decide +kernel
theorem dX4_init_12 : decode cX4_init 12 = .ok (.putfield 10, 3) := by decide +kernel
theorem dX4_init_15 : decode cX4_init 15 = .ok (.aload_n 0, 1) := by decide +kernel
theorem dX4_init_16 : decode cX4_init 16 = .ok (.new 7, 3) := by decide +kernel
theorem dX4_init_19 : decode cX4_init 19 = .ok (.dup, 1) := by decide +kernel
theorem dX4_init_20 : decode cX4_init 20 = .ok (.invokespecial 9, 3) := by decide +kernel
theorem dX4_init_23 : decode cX4_init 23 = .ok (.putfield 16, 3) := by decide +kernel
theorem dX4_init_26 : decode cX4_init 26 = .ok (.aload_n 0, 1) := by decide +kernel
theorem dX4_init_27 : decode cX4_init 27 = .ok (.new 19, 3) := by decide +kernel
theorem dX4_init_30 : decode cX4_init 30 = .ok (.dup, 1) := by decide +kernel
theorem dX4_init_31 : decode cX4_init 31 = .ok (.invokespecial 21, 3) := by decide +kernel
theorem dX4_init_34 : decode cX4_init 34 = .ok (.putfield 22, 3) := by decide +kernel
theorem dX4_init_37 : decode cX4_init 37 = .ok (.aload_n 0, 1) := by decide +kernel
theorem dX4_init_38 : decode cX4_init 38 = .ok (.new 26, 3) := by decide +kernel
theorem dX4_init_41 : decode cX4_init 41 = .ok (.dup, 1) := by decide +kernel
theorem dX4_init_42 : decode cX4_init 42 = .ok (.invokespecial 28, 3) := by decide +kernel
theorem dX4_init_45 : decode cX4_init 45 = .ok (.putfield 29, 3) := by decide +kernel
theorem dX4_init_48 : decode cX4_init 48 = .ok (.aload_n 0, 1) := by decide +kernel
theorem dX4_init_49 : decode cX4_init 49 = .ok (.iconst 2, 1) := by decide +kernel
theorem dX4_init_50 : decode cX4_init 50 = .ok (.anewarray 7, 3) := by decide +kernel
theorem dX4_init_53 : decode cX4_init 53 = .ok (.putfield 33, 3) := by decide +kernel
theorem dX4_init_56 : decode cX4_init 56 = .ok (.aload_n 0, 1) := by decide +kernel
theorem dX4_init_57 : decode cX4_init 57 = .ok (.iconst 2, 1) := by decide +kernel
theorem dX4_init_58 : decode cX4_init 58 = .ok (.newarray .boolean, 2) := by decide +kernel
theorem dX4_init_60 : decode cX4_init 60 = .ok (.putfield 37, 3) := by decide +kernel
theorem dX4_init_63 : decode cX4_init 63 = .ok (.iconst 0, 1) := by decide +kernel
theorem dX4_init_64 : decode cX4_init 64 = .ok (.istore_n 1, 1) := by decide +kernel
theorem dX4_init_65 : decode cX4_init 65 = .ok (.iload_n 1, 1) := by decide +kernel
theorem dX4_init_66 : decode cX4_init 66 = .ok (.iconst 2, 1) := by decide +kernel
theorem dX4_init_67 : decode cX4_init 67 = .ok (.if_icmp .ge 22, 3) := by decide +kernel
theorem dX4_init_70 : decode cX4_init 70 = .ok (.aload_n 0, 1) := by decide +kernel
theorem dX4_init_71 : decode cX4_init 71 = .ok (.getfield 33, 3) := by decide +kernel
theorem dX4_init_74 : decode cX4_init 74 = .ok (.iload_n 1, 1) := by decide +kernel
theorem dX4_init_75 : decode cX4_init 75 = .ok (.new 7, 3) := by decide +kernel
theorem dX4_init_78 : decode cX4_init 78 = .ok (.dup, 1) := by decide +kernel
theorem dX4_init_79 : decode cX4_init 79 = .ok (.invokespecial 9, 3) := by decide +kernel
theorem dX4_init_82 : decode cX4_init 82 = .ok (.aastore, 1) := by decide +kernel
theorem dX4_init_83 : decode cX4_init 83 = .ok (.iinc 1 1, 3) := by decide +kernel
theorem dX4_init_86 : decode cX4_init 86 = .ok (.goto (-21), 3) := by decide +kernel
theorem dX4_init_89 : decode cX4_init 89 = .ok (.return_, 1) := by decide +kernel
theorem dX4_set_0 : decode cX4_set 0 = .ok (.iload_n 1, 1) := by decide +kernel
theorem dX4_set_1 : decode cX4_set 1 = .ok (.iconst 0, 1) := by decide +kernel
theorem dX4_set_2 : decode cX4_set 2 = .ok (.bipush 8, 2) := by decide +kernel
theorem dX4_set_4 : decode cX4_set 4 = .ok (.invokestatic 41, 3) := by decide +kernel
theorem dX4_set_7 : decode cX4_set 7 = .ok (.ifCond .ne 6, 3) := by decide +kernel
theorem dX4_set_10 : decode cX4_set 10 = .ok (.bipush (-2), 2) := by decide +kernel
theorem dX4_set_12 : decode cX4_set 12 = .ok (.ireturn, 1) := by decide +kernel
theorem dX4_set_13 : decode cX4_set 13 = .ok (.iload_n 2, 1) := by decide +kernel
theorem dX4_set_14 : decode cX4_set 14 = .ok (.getstatic 45, 3) := by decide +kernel
theorem dX4_set_17 : decode cX4_set 17 = .ok (.iload_n 1, 1) := by decide +kernel
theorem dX4_set_18 : decode cX4_set 18 = .ok (.iaload, 1) := by decide +kernel
theorem dX4_set_19 : decode cX4_set 19 = .ok (.getstatic 49, 3) := by decide +kernel
theorem dX4_set_22 : decode cX4_set 22 = .ok (.iload_n 1, 1) := by decide +kernel
theorem dX4_set_23 : decode cX4_set 23 = .ok (.iaload, 1) := by decide +kernel
theorem dX4_set_24 : decode cX4_set 24 = .ok (.invokestatic 41, 3) := by decide +kernel
theorem dX4_set_27 : decode cX4_set 27 = .ok (.ifCond .ne 6, 3) := by decide +kernel
theorem dX4_set_30 : decode cX4_set 30 = .ok (.bipush (-2), 2) := by decide +kernel
theorem dX4_set_32 : decode cX4_set 32 = .ok (.ireturn, 1) := by decide +kernel
theorem dX4_set_33 : decode cX4_set 33 = .ok (.aload_n 0, 1) := by decide +kernel
theorem dX4_set_34 : decode cX4_set 34 = .ok (.getfield 29, 3) := by decide +kernel
theorem dX4_set_37 : decode cX4_set 37 = .ok (.aload_n 0, 1) := by decide +kernel
theorem dX4_set_38 : decode cX4_set 38 = .ok (.getfield 10, 3) := by decide +kernel
theorem dX4_set_41 : decode cX4_set 41 = .ok (.invokevirtual 52, 3) := by decide +kernel
theorem dX4_set_44 : decode cX4_set 44 = .ok (.aload_n 0, 1) := by decide +kernel
theorem dX4_set_45 : decode cX4_set 45 = .ok (.getfield 10, 3) := by decide +kernel
theorem dX4_set_48 : decode cX4_set 48 = .ok (.iload_n 1, 1) := by decide +kernel
theorem dX4_set_49 : decode cX4_set 49 = .ok (.invokevirtual 56, 3) := by decide +kernel
theorem dX4_set_52 : decode cX4_set 52 = .ok (.istore_n 3, 1) := by decide +kernel
theorem dX4_set_53 : decode cX4_set 53 = .ok (.aload_n 0, 1) := by decide +kernel
theorem dX4_set_54 : decode cX4_set 54 = .ok (.getfield 10, 3) := by decide +kernel
theorem dX4_set_57 : decode cX4_set 57 = .ok (.iload_n 1, 1) := by decide +kernel
theorem dX4_set_58 : decode cX4_set 58 = .ok (.iload_n 2, 1) := by decide +kernel
theorem dX4_set_59 : decode cX4_set 59 = .ok (.invokevirtual 60, 3) := by decide +kernel
theorem dX4_set_62 : decode cX4_set 62 = .ok (.iload_n 3, 1) := by decide +kernel
theorem dX4_set_63 : decode cX4_set 63 = .ok (.ireturn, 1) := by decide +kernel
theorem dX4_product_0 : decode cX4_product 0 = .ok (.iload_n 1, 1) := by decide +kernel
theorem dX4_product_1 : decode cX4_product 1 = .ok (.invokestatic 64, 3) := by decide +kernel
theorem dX4_product_4 : decode cX4_product 4 = .ok (.ifCond .eq 46, 3) := by decide +kernel
theorem dX4_product_7 : decode cX4_product 7 = .ok (.iload_n 2, 1) := by decide +kernel
theorem dX4_product_8 : decode cX4_product 8 = .ok (.iconst 1, 1) := by decide +kernel
theorem dX4_product_9 : decode cX4_product 9 = .ok (.bipush 100, 2) := by decide +kernel
theorem dX4_product_11 : decode cX4_product 11 = .ok (.invokestatic 41, 3) := by decide +kernel
theorem dX4_product_14 : decode cX4_product 14 = .ok (.ifCond .eq 36, 3) := by decide +kernel
theorem dX4_product_17 : decode cX4_product 17 = .ok (.iload_n 3, 1) := by decide +kernel
theorem dX4_product_18 : decode cX4_product 18 = .ok (.iconst 1, 1) := by decide +kernel
theorem dX4_product_19 : decode cX4_product 19 = .ok (.bipush 50, 2) := by decide +kernel
theorem dX4_product_21 : decode cX4_product 21 = .ok (.invokestatic 41, 3) := by decide +kernel
theorem dX4_product_24 : decode cX4_product 24 = .ok (.ifCond .eq 26, 3) := by decide +kernel
theorem dX4_product_27 : decode cX4_product 27 = .ok (.iload 4, 2) := by decide +kernel
theorem dX4_product_29 : decode cX4_product 29 = .ok (.iconst 0, 1) := by decide +kernel
theorem dX4_product_30 : decode cX4_product 30 = .ok (.bipush 20, 2) := by decide +kernel
theorem dX4_product_32 : decode cX4_product 32 = .ok (.invokestatic 41, 3) := by decide +kernel
theorem dX4_product_35 : decode cX4_product 35 = .ok (.ifCond .eq 15, 3) := by decide +kernel
theorem dX4_product_38 : decode cX4_product 38 = .ok (.iload 5, 2) := by decide +kernel
theorem dX4_product_40 : decode cX4_product 40 = .ok (.iconst 0, 1) := by decide +kernel
theorem dX4_product_41 : decode cX4_product 41 = .ok (.sipush 10000, 3) := by decide +kernel
theorem dX4_product_44 : decode cX4_product 44 = .ok (.invokestatic 41, 3) := by decide +kernel
theorem dX4_product_47 : decode cX4_product 47 = .ok (.ifCond .ne 6, 3) := by decide +kernel
theorem dX4_product_50 : decode cX4_product 50 = .ok (.bipush (-2), 2) := by decide +kernel
theorem dX4_product_52 : decode cX4_product 52 = .ok (.ireturn, 1) := by decide +kernel
theorem dX4_product_53 : decode cX4_product 53 = .ok (.aload_n 0, 1) := by decide +kernel
theorem dX4_product_54 : decode cX4_product 54 = .ok (.getfield 10, 3) := by decide +kernel
theorem dX4_product_57 : decode cX4_product 57 = .ok (.invokevirtual 68, 3) := by decide +kernel
theorem dX4_product_60 : decode cX4_product 60 = .ok (.astore 6, 2) := by decide +kernel
theorem dX4_product_62 : decode cX4_product 62 = .ok (.aload 6, 2) := by decide +kernel
theorem dX4_product_64 : decode cX4_product 64 = .ok (.ifnonnull 6, 3) := by decide +kernel
theorem dX4_product_67 : decode cX4_product 67 = .ok (.bipush (-4), 2) := by decide +kernel
theorem dX4_product_69 : decode cX4_product 69 = .ok (.ireturn, 1) := by decide +kernel
theorem dX4_product_70 : decode cX4_product 70 = .ok (.aload_n 0, 1) := by decide +kernel
theorem dX4_product_71 : decode cX4_product 71 = .ok (.getfield 29, 3) := by decide +kernel
theorem dX4_product_74 : decode cX4_product 74 = .ok (.aload_n 0, 1) := by decide +kernel
theorem dX4_product_75 : decode cX4_product 75 = .ok (.getfield 10, 3) := by decide +kernel
theorem dX4_product_78 : decode cX4_product 78 = .ok (.invokevirtual 52, 3) := by decide +kernel
theorem dX4_product_81 : decode cX4_product 81 = .ok (.aload 6, 2) := by decide +kernel
theorem dX4_product_83 : decode cX4_product 83 = .ok (.iload_n 1, 1) := by decide +kernel
theorem dX4_product_84 : decode cX4_product 84 = .ok (.iload_n 2, 1) := by decide +kernel
theorem dX4_product_85 : decode cX4_product 85 = .ok (.iload_n 3, 1) := by decide +kernel
theorem dX4_product_86 : decode cX4_product 86 = .ok (.iload 4, 2) := by decide +kernel
theorem dX4_product_88 : decode cX4_product 88 = .ok (.iload 5, 2) := by decide +kernel
theorem dX4_product_90 : decode cX4_product 90 = .ok (.invokevirtual 72, 3) := by decide +kernel
theorem dX4_product_93 : decode cX4_product 93 = .ok (.aload_n 0, 1) := by decide +kernel
theorem dX4_product_94 : decode cX4_product 94 = .ok (.getfield 10, 3) := by decide +kernel
theorem dX4_product_97 : decode cX4_product 97 = .ok (.getfield 78, 3) := by decide +kernel
theorem dX4_product_100 : decode cX4_product 100 = .ok (.istore 7, 2) := by decide +kernel
theorem dX4_product_102 : decode cX4_product 102 = .ok (.aload_n 0, 1) := by decide +kernel
theorem dX4_product_103 : decode cX4_product 103 = .ok (.getfield 10, 3) := by decide +kernel
theorem dX4_product_106 : decode cX4_product 106 = .ok (.iload 7, 2) := by decide +kernel
theorem dX4_product_108 : decode cX4_product 108 = .ok (.iconst 1, 1) := by decide +kernel
theorem dX4_product_109 : decode cX4_product 109 = .ok (.iadd, 1) := by decide +kernel
theorem dX4_product_110 : decode cX4_product 110 = .ok (.putfield 78, 3) := by decide +kernel
theorem dX4_product_113 : decode cX4_product 113 = .ok (.iload 7, 2) := by decide +kernel
theorem dX4_product_115 : decode cX4_product 115 = .ok (.ireturn, 1) := by decide +kernel
theorem dX4_family_0 : decode cX4_family 0 = .ok (.iload_n 1, 1) := by decide +kernel
theorem dX4_family_1 : decode cX4_family 1 = .ok (.invokestatic 64, 3) := by decide +kernel
theorem dX4_family_4 : decode cX4_family 4 = .ok (.ifCond .ne 5, 3) := by decide +kernel
theorem dX4_family_7 : decode cX4_family 7 = .ok (.iconst (-1), 1) := by decide +kernel
theorem dX4_family_8 : decode cX4_family 8 = .ok (.ireturn, 1) := by decide +kernel
theorem dX4_family_9 : decode cX4_family 9 = .ok (.iload_n 2, 1) := by decide +kernel
theorem dX4_family_10 : decode cX4_family 10 = .ok (.iconst 0, 1) := by decide +kernel
theorem dX4_family_11 : decode cX4_family 11 = .ok (.bipush 50, 2) := by decide +kernel
theorem dX4_family_13 : decode cX4_family 13 = .ok (.invokestatic 41, 3) := by decide +kernel
theorem dX4_family_16 : decode cX4_family 16 = .ok (.ifCond .ne 6, 3) := by decide +kernel
theorem dX4_family_19 : decode cX4_family 19 = .ok (.bipush (-2), 2) := by decide +kernel
theorem dX4_family_21 : decode cX4_family 21 = .ok (.ireturn, 1) := by decide +kernel
theorem dX4_family_22 : decode cX4_family 22 = .ok (.aload_n 0, 1) := by decide +kernel
theorem dX4_family_23 : decode cX4_family 23 = .ok (.getfield 29, 3) := by decide +kernel
theorem dX4_family_26 : decode cX4_family 26 = .ok (.aload_n 0, 1) := by decide +kernel
theorem dX4_family_27 : decode cX4_family 27 = .ok (.getfield 10, 3) := by decide +kernel
theorem dX4_family_30 : decode cX4_family 30 = .ok (.invokevirtual 52, 3) := by decide +kernel
theorem dX4_family_33 : decode cX4_family 33 = .ok (.aload_n 0, 1) := by decide +kernel
theorem dX4_family_34 : decode cX4_family 34 = .ok (.getfield 10, 3) := by decide +kernel
theorem dX4_family_37 : decode cX4_family 37 = .ok (.getfield 82, 3) := by decide +kernel
theorem dX4_family_40 : decode cX4_family 40 = .ok (.iload_n 1, 1) := by decide +kernel
theorem dX4_family_41 : decode cX4_family 41 = .ok (.iaload, 1) := by decide +kernel
theorem dX4_family_42 : decode cX4_family 42 = .ok (.istore_n 3, 1) := by decide +kernel
theorem dX4_family_43 : decode cX4_family 43 = .ok (.aload_n 0, 1) := by decide +kernel
theorem dX4_family_44 : decode cX4_family 44 = .ok (.getfield 10, 3) := by decide +kernel
theorem dX4_family_47 : decode cX4_family 47 = .ok (.getfield 82, 3) := by decide +kernel
theorem dX4_family_50 : decode cX4_family 50 = .ok (.iload_n 1, 1) := by decide +kernel
theorem dX4_family_51 : decode cX4_family 51 = .ok (.iload_n 2, 1) := by decide +kernel
theorem dX4_family_52 : decode cX4_family 52 = .ok (.iastore, 1) := by decide +kernel
theorem dX4_family_53 : decode cX4_family 53 = .ok (.iload_n 3, 1) := by decide +kernel
theorem dX4_family_54 : decode cX4_family 54 = .ok (.ireturn, 1) := by decide +kernel
theorem dX4_forecast_0 : decode cX4_forecast 0 = .ok (.aload_n 0, 1) := by decide +kernel
theorem dX4_forecast_1 : decode cX4_forecast 1 = .ok (.getfield 10, 3) := by decide +kernel
theorem dX4_forecast_4 : decode cX4_forecast 4 = .ok (.iload_n 1, 1) := by decide +kernel
theorem dX4_forecast_5 : decode cX4_forecast 5 = .ok (.invokevirtual 85, 3) := by decide +kernel
theorem dX4_forecast_8 : decode cX4_forecast 8 = .ok (.astore 4, 2) := by decide +kernel
theorem dX4_forecast_10 : decode cX4_forecast 10 = .ok (.aload 4, 2) := by decide +kernel
theorem dX4_forecast_12 : decode cX4_forecast 12 = .ok (.ifnull 10, 3) := by decide +kernel
theorem dX4_forecast_15 : decode cX4_forecast 15 = .ok (.iload_n 2, 1) := by decide +kernel
theorem dX4_forecast_16 : decode cX4_forecast 16 = .ok (.invokestatic 89, 3) := by decide +kernel
theorem dX4_forecast_19 : decode cX4_forecast 19 = .ok (.ifCond .ne 5, 3) := by decide +kernel
theorem dX4_forecast_22 : decode cX4_forecast 22 = .ok (.iconst (-1), 1) := by decide +kernel
theorem dX4_forecast_23 : decode cX4_forecast 23 = .ok (.ireturn, 1) := by decide +kernel
theorem dX4_forecast_24 : decode cX4_forecast 24 = .ok (.iload_n 3, 1) := by decide +kernel
theorem dX4_forecast_25 : decode cX4_forecast 25 = .ok (.iconst 0, 1) := by decide +kernel
theorem dX4_forecast_26 : decode cX4_forecast 26 = .ok (.sipush 1000, 3) := by decide +kernel
theorem dX4_forecast_29 : decode cX4_forecast 29 = .ok (.invokestatic 41, 3) := by decide +kernel
theorem dX4_forecast_32 : decode cX4_forecast 32 = .ok (.ifCond .ne 6, 3) := by decide +kernel
theorem dX4_forecast_35 : decode cX4_forecast 35 = .ok (.bipush (-2), 2) := by decide +kernel
theorem dX4_forecast_37 : decode cX4_forecast 37 = .ok (.ireturn, 1) := by decide +kernel
theorem dX4_forecast_38 : decode cX4_forecast 38 = .ok (.aload_n 0, 1) := by decide +kernel
theorem dX4_forecast_39 : decode cX4_forecast 39 = .ok (.getfield 29, 3) := by decide +kernel
theorem dX4_forecast_42 : decode cX4_forecast 42 = .ok (.aload_n 0, 1) := by decide +kernel
theorem dX4_forecast_43 : decode cX4_forecast 43 = .ok (.getfield 10, 3) := by decide +kernel
theorem dX4_forecast_46 : decode cX4_forecast 46 = .ok (.invokevirtual 52, 3) := by decide +kernel
theorem dX4_forecast_49 : decode cX4_forecast 49 = .ok (.aload 4, 2) := by decide +kernel
theorem dX4_forecast_51 : decode cX4_forecast 51 = .ok (.getfield 92, 3) := by decide +kernel
theorem dX4_forecast_54 : decode cX4_forecast 54 = .ok (.iload_n 2, 1) := by decide +kernel
theorem dX4_forecast_55 : decode cX4_forecast 55 = .ok (.iaload, 1) := by decide +kernel
theorem dX4_forecast_56 : decode cX4_forecast 56 = .ok (.istore 5, 2) := by decide +kernel
theorem dX4_forecast_58 : decode cX4_forecast 58 = .ok (.aload 4, 2) := by decide +kernel
theorem dX4_forecast_60 : decode cX4_forecast 60 = .ok (.getfield 92, 3) := by decide +kernel
theorem dX4_forecast_63 : decode cX4_forecast 63 = .ok (.iload_n 2, 1) := by decide +kernel
theorem dX4_forecast_64 : decode cX4_forecast 64 = .ok (.iload_n 3, 1) := by decide +kernel
theorem dX4_forecast_65 : decode cX4_forecast 65 = .ok (.iastore, 1) := by decide +kernel
theorem dX4_forecast_66 : decode cX4_forecast 66 = .ok (.iload 5, 2) := by decide +kernel
theorem dX4_forecast_68 : decode cX4_forecast 68 = .ok (.ireturn, 1) := by decide +kernel
theorem dX4_actual_0 : decode cX4_actual 0 = .ok (.aload_n 0, 1) := by decide +kernel
theorem dX4_actual_1 : decode cX4_actual 1 = .ok (.getfield 10, 3) := by decide +kernel
theorem dX4_actual_4 : decode cX4_actual 4 = .ok (.iload_n 1, 1) := by decide +kernel
theorem dX4_actual_5 : decode cX4_actual 5 = .ok (.invokevirtual 85, 3) := by decide +kernel
theorem dX4_actual_8 : decode cX4_actual 8 = .ok (.astore_n 3, 1) := by decide +kernel
theorem dX4_actual_9 : decode cX4_actual 9 = .ok (.aload_n 3, 1) := by decide +kernel
theorem dX4_actual_10 : decode cX4_actual 10 = .ok (.ifnonnull 5, 3) := by decide +kernel
theorem dX4_actual_13 : decode cX4_actual 13 = .ok (.iconst (-1), 1) := by decide +kernel
theorem dX4_actual_14 : decode cX4_actual 14 = .ok (.ireturn, 1) := by decide +kernel
theorem dX4_actual_15 : decode cX4_actual 15 = .ok (.iload_n 2, 1) := by decide +kernel
theorem dX4_actual_16 : decode cX4_actual 16 = .ok (.bipush (-6), 2) := by decide +kernel
theorem dX4_actual_18 : decode cX4_actual 18 = .ok (.if_icmp .eq 17, 3) := by decide +kernel
theorem dX4_actual_21 : decode cX4_actual 21 = .ok (.iload_n 2, 1) := by decide +kernel
theorem dX4_actual_22 : decode cX4_actual 22 = .ok (.iconst 0, 1) := by decide +kernel
theorem dX4_actual_23 : decode cX4_actual 23 = .ok (.sipush 2000, 3) := by decide +kernel
theorem dX4_actual_26 : decode cX4_actual 26 = .ok (.invokestatic 41, 3) := by decide +kernel
theorem dX4_actual_29 : decode cX4_actual 29 = .ok (.ifCond .ne 6, 3) := by decide +kernel
theorem dX4_actual_32 : decode cX4_actual 32 = .ok (.bipush (-2), 2) := by decide +kernel
theorem dX4_actual_34 : decode cX4_actual 34 = .ok (.ireturn, 1) := by decide +kernel
theorem dX4_actual_35 : decode cX4_actual 35 = .ok (.aload_n 0, 1) := by decide +kernel
theorem dX4_actual_36 : decode cX4_actual 36 = .ok (.getfield 29, 3) := by decide +kernel
theorem dX4_actual_39 : decode cX4_actual 39 = .ok (.aload_n 0, 1) := by decide +kernel
theorem dX4_actual_40 : decode cX4_actual 40 = .ok (.getfield 10, 3) := by decide +kernel
theorem dX4_actual_43 : decode cX4_actual 43 = .ok (.invokevirtual 52, 3) := by decide +kernel
theorem dX4_actual_46 : decode cX4_actual 46 = .ok (.aload_n 3, 1) := by decide +kernel
theorem dX4_actual_47 : decode cX4_actual 47 = .ok (.getfield 95, 3) := by decide +kernel
theorem dX4_actual_50 : decode cX4_actual 50 = .ok (.istore 4, 2) := by decide +kernel
theorem dX4_actual_52 : decode cX4_actual 52 = .ok (.aload_n 3, 1) := by decide +kernel
theorem dX4_actual_53 : decode cX4_actual 53 = .ok (.iload_n 2, 1) := by decide +kernel
theorem dX4_actual_54 : decode cX4_actual 54 = .ok (.putfield 95, 3) := by decide +kernel
theorem dX4_actual_57 : decode cX4_actual 57 = .ok (.iload 4, 2) := by decide +kernel
theorem dX4_actual_59 : decode cX4_actual 59 = .ok (.ireturn, 1) := by decide +kernel
theorem dX4_lots_0 : decode cX4_lots 0 = .ok (.aload_n 0, 1) := by decide +kernel
theorem dX4_lots_1 : decode cX4_lots 1 = .ok (.getfield 10, 3) := by decide +kernel
theorem dX4_lots_4 : decode cX4_lots 4 = .ok (.iload_n 1, 1) := by decide +kernel
theorem dX4_lots_5 : decode cX4_lots 5 = .ok (.invokevirtual 85, 3) := by decide +kernel
theorem dX4_lots_8 : decode cX4_lots 8 = .ok (.astore 4, 2) := by decide +kernel
theorem dX4_lots_10 : decode cX4_lots 10 = .ok (.aload 4, 2) := by decide +kernel
theorem dX4_lots_12 : decode cX4_lots 12 = .ok (.ifnull 10, 3) := by decide +kernel
theorem dX4_lots_15 : decode cX4_lots 15 = .ok (.iload_n 2, 1) := by decide +kernel
theorem dX4_lots_16 : decode cX4_lots 16 = .ok (.invokestatic 89, 3) := by decide +kernel
theorem dX4_lots_19 : decode cX4_lots 19 = .ok (.ifCond .ne 5, 3) := by decide +kernel
theorem dX4_lots_22 : decode cX4_lots 22 = .ok (.iconst (-1), 1) := by decide +kernel
theorem dX4_lots_23 : decode cX4_lots 23 = .ok (.ireturn, 1) := by decide +kernel
theorem dX4_lots_24 : decode cX4_lots 24 = .ok (.iload_n 3, 1) := by decide +kernel
theorem dX4_lots_25 : decode cX4_lots 25 = .ok (.iconst 0, 1) := by decide +kernel
theorem dX4_lots_26 : decode cX4_lots 26 = .ok (.sipush 1000, 3) := by decide +kernel
theorem dX4_lots_29 : decode cX4_lots 29 = .ok (.invokestatic 41, 3) := by decide +kernel
theorem dX4_lots_32 : decode cX4_lots 32 = .ok (.ifCond .ne 6, 3) := by decide +kernel
theorem dX4_lots_35 : decode cX4_lots 35 = .ok (.bipush (-2), 2) := by decide +kernel
theorem dX4_lots_37 : decode cX4_lots 37 = .ok (.ireturn, 1) := by decide +kernel
theorem dX4_lots_38 : decode cX4_lots 38 = .ok (.aload_n 0, 1) := by decide +kernel
theorem dX4_lots_39 : decode cX4_lots 39 = .ok (.getfield 10, 3) := by decide +kernel
theorem dX4_lots_42 : decode cX4_lots 42 = .ok (.iload_n 2, 1) := by decide +kernel
theorem dX4_lots_43 : decode cX4_lots 43 = .ok (.aload 4, 2) := by decide +kernel
theorem dX4_lots_45 : decode cX4_lots 45 = .ok (.iload_n 3, 1) := by decide +kernel
theorem dX4_lots_46 : decode cX4_lots 46 = .ok (.invokevirtual 98, 3) := by decide +kernel
theorem dX4_lots_49 : decode cX4_lots 49 = .ok (.istore 5, 2) := by decide +kernel
theorem dX4_lots_51 : decode cX4_lots 51 = .ok (.aload_n 0, 1) := by decide +kernel
theorem dX4_lots_52 : decode cX4_lots 52 = .ok (.getfield 10, 3) := by decide +kernel
theorem dX4_lots_55 : decode cX4_lots 55 = .ok (.iload_n 2, 1) := by decide +kernel
theorem dX4_lots_56 : decode cX4_lots 56 = .ok (.invokevirtual 102, 3) := by decide +kernel
theorem dX4_lots_59 : decode cX4_lots 59 = .ok (.ifCond .ne 28, 3) := by decide +kernel
theorem dX4_lots_62 : decode cX4_lots 62 = .ok (.iload 5, 2) := by decide +kernel
theorem dX4_lots_64 : decode cX4_lots 64 = .ok (.aload_n 0, 1) := by decide +kernel
theorem dX4_lots_65 : decode cX4_lots 65 = .ok (.getfield 10, 3) := by decide +kernel
theorem dX4_lots_68 : decode cX4_lots 68 = .ok (.invokevirtual 105, 3) := by decide +kernel
theorem dX4_lots_71 : decode cX4_lots 71 = .ok (.if_icmp .le 19, 3) := by decide +kernel
theorem dX4_lots_74 : decode cX4_lots 74 = .ok (.iload 5, 2) := by decide +kernel
theorem dX4_lots_76 : decode cX4_lots 76 = .ok (.aload_n 0, 1) := by decide +kernel
theorem dX4_lots_77 : decode cX4_lots 77 = .ok (.getfield 10, 3) := by decide +kernel
theorem dX4_lots_80 : decode cX4_lots 80 = .ok (.iload_n 2, 1) := by decide +kernel
theorem dX4_lots_81 : decode cX4_lots 81 = .ok (.invokevirtual 109, 3) := by decide +kernel
theorem dX4_lots_84 : decode cX4_lots 84 = .ok (.if_icmp .le 6, 3) := by decide +kernel
theorem dX4_lots_87 : decode cX4_lots 87 = .ok (.bipush (-5), 2) := by decide +kernel
theorem dX4_lots_89 : decode cX4_lots 89 = .ok (.ireturn, 1) := by decide +kernel
theorem dX4_lots_90 : decode cX4_lots 90 = .ok (.aload_n 0, 1) := by decide +kernel
theorem dX4_lots_91 : decode cX4_lots 91 = .ok (.getfield 29, 3) := by decide +kernel
theorem dX4_lots_94 : decode cX4_lots 94 = .ok (.aload_n 0, 1) := by decide +kernel
theorem dX4_lots_95 : decode cX4_lots 95 = .ok (.getfield 10, 3) := by decide +kernel
theorem dX4_lots_98 : decode cX4_lots 98 = .ok (.invokevirtual 52, 3) := by decide +kernel
theorem dX4_lots_101 : decode cX4_lots 101 = .ok (.aload 4, 2) := by decide +kernel
theorem dX4_lots_103 : decode cX4_lots 103 = .ok (.getfield 112, 3) := by decide +kernel
theorem dX4_lots_106 : decode cX4_lots 106 = .ok (.iload_n 2, 1) := by decide +kernel
theorem dX4_lots_107 : decode cX4_lots 107 = .ok (.iaload, 1) := by decide +kernel
theorem dX4_lots_108 : decode cX4_lots 108 = .ok (.istore 6, 2) := by decide +kernel
theorem dX4_lots_110 : decode cX4_lots 110 = .ok (.aload 4, 2) := by decide +kernel
theorem dX4_lots_112 : decode cX4_lots 112 = .ok (.getfield 112, 3) := by decide +kernel
theorem dX4_lots_115 : decode cX4_lots 115 = .ok (.iload_n 2, 1) := by decide +kernel
theorem dX4_lots_116 : decode cX4_lots 116 = .ok (.iload_n 3, 1) := by decide +kernel
theorem dX4_lots_117 : decode cX4_lots 117 = .ok (.iastore, 1) := by decide +kernel
theorem dX4_lots_118 : decode cX4_lots 118 = .ok (.iload 6, 2) := by decide +kernel
theorem dX4_lots_120 : decode cX4_lots 120 = .ok (.ireturn, 1) := by decide +kernel
theorem dX4_plan_0 : decode cX4_plan 0 = .ok (.aload_n 0, 1) := by decide +kernel
theorem dX4_plan_1 : decode cX4_plan 1 = .ok (.getfield 29, 3) := by decide +kernel
theorem dX4_plan_4 : decode cX4_plan 4 = .ok (.aload_n 0, 1) := by decide +kernel
theorem dX4_plan_5 : decode cX4_plan 5 = .ok (.getfield 10, 3) := by decide +kernel
theorem dX4_plan_8 : decode cX4_plan 8 = .ok (.invokevirtual 52, 3) := by decide +kernel
theorem dX4_plan_11 : decode cX4_plan 11 = .ok (.aload_n 0, 1) := by decide +kernel
theorem dX4_plan_12 : decode cX4_plan 12 = .ok (.getfield 10, 3) := by decide +kernel
theorem dX4_plan_15 : decode cX4_plan 15 = .ok (.invokevirtual 115, 3) := by decide +kernel
theorem dX4_plan_18 : decode cX4_plan 18 = .ok (.aload_n 0, 1) := by decide +kernel
theorem dX4_plan_19 : decode cX4_plan 19 = .ok (.getfield 10, 3) := by decide +kernel
theorem dX4_plan_22 : decode cX4_plan 22 = .ok (.invokevirtual 118, 3) := by decide +kernel
theorem dX4_plan_25 : decode cX4_plan 25 = .ok (.ireturn, 1) := by decide +kernel
theorem dX4_weeks_0 : decode cX4_weeks 0 = .ok (.iload_n 1, 1) := by decide +kernel
theorem dX4_weeks_1 : decode cX4_weeks 1 = .ok (.iconst 1, 1) := by decide +kernel
theorem dX4_weeks_2 : decode cX4_weeks 2 = .ok (.bipush 30, 2) := by decide +kernel
theorem dX4_weeks_4 : decode cX4_weeks 4 = .ok (.invokestatic 41, 3) := by decide +kernel
theorem dX4_weeks_7 : decode cX4_weeks 7 = .ok (.ifCond .ne 6, 3) := by decide +kernel
theorem dX4_weeks_10 : decode cX4_weeks 10 = .ok (.bipush (-2), 2) := by decide +kernel
theorem dX4_weeks_12 : decode cX4_weeks 12 = .ok (.ireturn, 1) := by decide +kernel
theorem dX4_weeks_13 : decode cX4_weeks 13 = .ok (.aload_n 0, 1) := by decide +kernel
theorem dX4_weeks_14 : decode cX4_weeks 14 = .ok (.getfield 29, 3) := by decide +kernel
theorem dX4_weeks_17 : decode cX4_weeks 17 = .ok (.aload_n 0, 1) := by decide +kernel
theorem dX4_weeks_18 : decode cX4_weeks 18 = .ok (.getfield 10, 3) := by decide +kernel
theorem dX4_weeks_21 : decode cX4_weeks 21 = .ok (.invokevirtual 52, 3) := by decide +kernel
theorem dX4_weeks_24 : decode cX4_weeks 24 = .ok (.iconst 0, 1) := by decide +kernel
theorem dX4_weeks_25 : decode cX4_weeks 25 = .ok (.istore_n 2, 1) := by decide +kernel
theorem dX4_weeks_26 : decode cX4_weeks 26 = .ok (.iload_n 2, 1) := by decide +kernel
theorem dX4_weeks_27 : decode cX4_weeks 27 = .ok (.iload_n 1, 1) := by decide +kernel
theorem dX4_weeks_28 : decode cX4_weeks 28 = .ok (.if_icmp .ge 23, 3) := by decide +kernel
theorem dX4_weeks_31 : decode cX4_weeks 31 = .ok (.aload_n 0, 1) := by decide +kernel
theorem dX4_weeks_32 : decode cX4_weeks 32 = .ok (.getfield 10, 3) := by decide +kernel
theorem dX4_weeks_35 : decode cX4_weeks 35 = .ok (.invokevirtual 121, 3) := by decide +kernel
theorem dX4_weeks_38 : decode cX4_weeks 38 = .ok (.aload_n 0, 1) := by decide +kernel
theorem dX4_weeks_39 : decode cX4_weeks 39 = .ok (.getfield 10, 3) := by decide +kernel
theorem dX4_weeks_42 : decode cX4_weeks 42 = .ok (.invokevirtual 115, 3) := by decide +kernel
theorem dX4_weeks_45 : decode cX4_weeks 45 = .ok (.iinc 2 1, 3) := by decide +kernel
theorem dX4_weeks_48 : decode cX4_weeks 48 = .ok (.goto (-22), 3) := by decide +kernel
theorem dX4_weeks_51 : decode cX4_weeks 51 = .ok (.aload_n 0, 1) := by decide +kernel
theorem dX4_weeks_52 : decode cX4_weeks 52 = .ok (.getfield 10, 3) := by decide +kernel
theorem dX4_weeks_55 : decode cX4_weeks 55 = .ok (.getfield 124, 3) := by decide +kernel
theorem dX4_weeks_58 : decode cX4_weeks 58 = .ok (.ireturn, 1) := by decide +kernel
theorem dX4_ofProduct_0 : decode cX4_ofProduct 0 = .ok (.aload_n 0, 1) := by decide +kernel
theorem dX4_ofProduct_1 : decode cX4_ofProduct 1 = .ok (.getfield 10, 3) := by decide +kernel
theorem dX4_ofProduct_4 : decode cX4_ofProduct 4 = .ok (.iload_n 1, 1) := by decide +kernel
theorem dX4_ofProduct_5 : decode cX4_ofProduct 5 = .ok (.invokevirtual 85, 3) := by decide +kernel
theorem dX4_ofProduct_8 : decode cX4_ofProduct 8 = .ok (.astore_n 3, 1) := by decide +kernel
theorem dX4_ofProduct_9 : decode cX4_ofProduct 9 = .ok (.aload_n 3, 1) := by decide +kernel
theorem dX4_ofProduct_10 : decode cX4_ofProduct 10 = .ok (.ifnonnull 5, 3) := by decide +kernel
theorem dX4_ofProduct_13 : decode cX4_ofProduct 13 = .ok (.iconst (-1), 1) := by decide +kernel
theorem dX4_ofProduct_14 : decode cX4_ofProduct 14 = .ok (.ireturn, 1) := by decide +kernel
theorem dX4_ofProduct_15 : decode cX4_ofProduct 15 = .ok (.iload_n 2, 1) := by decide +kernel
theorem dX4_ofProduct_16 : decode cX4_ofProduct 16 = .ok (.tableswitch 141 0 12 #[68, 73, 78, 83, 88, 93, 98, 103, 116, 121, 126, 131, 136], 68) := by decide +kernel
theorem dX4_ofProduct_84 : decode cX4_ofProduct 84 = .ok (.aload_n 3, 1) := by decide +kernel
theorem dX4_ofProduct_85 : decode cX4_ofProduct 85 = .ok (.getfield 127, 3) := by decide +kernel
theorem dX4_ofProduct_88 : decode cX4_ofProduct 88 = .ok (.ireturn, 1) := by decide +kernel
theorem dX4_ofProduct_89 : decode cX4_ofProduct 89 = .ok (.aload_n 3, 1) := by decide +kernel
theorem dX4_ofProduct_90 : decode cX4_ofProduct 90 = .ok (.getfield 130, 3) := by decide +kernel
theorem dX4_ofProduct_93 : decode cX4_ofProduct 93 = .ok (.ireturn, 1) := by decide +kernel
theorem dX4_ofProduct_94 : decode cX4_ofProduct 94 = .ok (.aload_n 3, 1) := by decide +kernel
theorem dX4_ofProduct_95 : decode cX4_ofProduct 95 = .ok (.getfield 133, 3) := by decide +kernel
theorem dX4_ofProduct_98 : decode cX4_ofProduct 98 = .ok (.ireturn, 1) := by decide +kernel
theorem dX4_ofProduct_99 : decode cX4_ofProduct 99 = .ok (.aload_n 3, 1) := by decide +kernel
theorem dX4_ofProduct_100 : decode cX4_ofProduct 100 = .ok (.getfield 136, 3) := by decide +kernel
theorem dX4_ofProduct_103 : decode cX4_ofProduct 103 = .ok (.ireturn, 1) := by decide +kernel
theorem dX4_ofProduct_104 : decode cX4_ofProduct 104 = .ok (.aload_n 3, 1) := by decide +kernel
theorem dX4_ofProduct_105 : decode cX4_ofProduct 105 = .ok (.getfield 139, 3) := by decide +kernel
theorem dX4_ofProduct_108 : decode cX4_ofProduct 108 = .ok (.ireturn, 1) := by decide +kernel
theorem dX4_ofProduct_109 : decode cX4_ofProduct 109 = .ok (.aload_n 3, 1) := by decide +kernel
theorem dX4_ofProduct_110 : decode cX4_ofProduct 110 = .ok (.getfield 142, 3) := by decide +kernel
theorem dX4_ofProduct_113 : decode cX4_ofProduct 113 = .ok (.ireturn, 1) := by decide +kernel
theorem dX4_ofProduct_114 : decode cX4_ofProduct 114 = .ok (.aload_n 3, 1) := by decide +kernel
theorem dX4_ofProduct_115 : decode cX4_ofProduct 115 = .ok (.getfield 145, 3) := by decide +kernel
theorem dX4_ofProduct_118 : decode cX4_ofProduct 118 = .ok (.ireturn, 1) := by decide +kernel
theorem dX4_ofProduct_119 : decode cX4_ofProduct 119 = .ok (.aload_n 3, 1) := by decide +kernel
theorem dX4_ofProduct_120 : decode cX4_ofProduct 120 = .ok (.aload_n 0, 1) := by decide +kernel
theorem dX4_ofProduct_121 : decode cX4_ofProduct 121 = .ok (.getfield 10, 3) := by decide +kernel
theorem dX4_ofProduct_124 : decode cX4_ofProduct 124 = .ok (.iconst 4, 1) := by decide +kernel
theorem dX4_ofProduct_125 : decode cX4_ofProduct 125 = .ok (.invokevirtual 56, 3) := by decide +kernel
theorem dX4_ofProduct_128 : decode cX4_ofProduct 128 = .ok (.invokevirtual 148, 3) := by decide +kernel
theorem dX4_ofProduct_131 : decode cX4_ofProduct 131 = .ok (.ireturn, 1) := by decide +kernel
theorem dX4_ofProduct_132 : decode cX4_ofProduct 132 = .ok (.aload_n 3, 1) := by decide +kernel
theorem dX4_ofProduct_133 : decode cX4_ofProduct 133 = .ok (.getfield 95, 3) := by decide +kernel
theorem dX4_ofProduct_136 : decode cX4_ofProduct 136 = .ok (.ireturn, 1) := by decide +kernel
theorem dX4_ofProduct_137 : decode cX4_ofProduct 137 = .ok (.aload_n 3, 1) := by decide +kernel
theorem dX4_ofProduct_138 : decode cX4_ofProduct 138 = .ok (.getfield 151, 3) := by decide +kernel
theorem dX4_ofProduct_141 : decode cX4_ofProduct 141 = .ok (.ireturn, 1) := by decide +kernel
theorem dX4_ofProduct_142 : decode cX4_ofProduct 142 = .ok (.aload_n 3, 1) := by decide +kernel
theorem dX4_ofProduct_143 : decode cX4_ofProduct 143 = .ok (.getfield 154, 3) := by decide +kernel
theorem dX4_ofProduct_146 : decode cX4_ofProduct 146 = .ok (.ireturn, 1) := by decide +kernel
theorem dX4_ofProduct_147 : decode cX4_ofProduct 147 = .ok (.aload_n 3, 1) := by decide +kernel
theorem dX4_ofProduct_148 : decode cX4_ofProduct 148 = .ok (.getfield 157, 3) := by decide +kernel
theorem dX4_ofProduct_151 : decode cX4_ofProduct 151 = .ok (.ireturn, 1) := by decide +kernel
theorem dX4_ofProduct_152 : decode cX4_ofProduct 152 = .ok (.aload_n 3, 1) := by decide +kernel
theorem dX4_ofProduct_153 : decode cX4_ofProduct 153 = .ok (.getfield 160, 3) := by decide +kernel
theorem dX4_ofProduct_156 : decode cX4_ofProduct 156 = .ok (.ireturn, 1) := by decide +kernel
theorem dX4_ofProduct_157 : decode cX4_ofProduct 157 = .ok (.bipush (-2), 2) := by decide +kernel
theorem dX4_ofProduct_159 : decode cX4_ofProduct 159 = .ok (.ireturn, 1) := by decide +kernel
theorem dX4_at_0 : decode cX4_at 0 = .ok (.aload_n 0, 1) := by decide +kernel
theorem dX4_at_1 : decode cX4_at 1 = .ok (.getfield 10, 3) := by decide +kernel
theorem dX4_at_4 : decode cX4_at 4 = .ok (.iload_n 1, 1) := by decide +kernel
theorem dX4_at_5 : decode cX4_at 5 = .ok (.invokevirtual 85, 3) := by decide +kernel
theorem dX4_at_8 : decode cX4_at 8 = .ok (.astore 4, 2) := by decide +kernel
theorem dX4_at_10 : decode cX4_at 10 = .ok (.aload 4, 2) := by decide +kernel
theorem dX4_at_12 : decode cX4_at 12 = .ok (.ifnull 10, 3) := by decide +kernel
theorem dX4_at_15 : decode cX4_at 15 = .ok (.iload_n 2, 1) := by decide +kernel
theorem dX4_at_16 : decode cX4_at 16 = .ok (.invokestatic 89, 3) := by decide +kernel
theorem dX4_at_19 : decode cX4_at 19 = .ok (.ifCond .ne 5, 3) := by decide +kernel
theorem dX4_at_22 : decode cX4_at 22 = .ok (.iconst (-1), 1) := by decide +kernel
theorem dX4_at_23 : decode cX4_at 23 = .ok (.ireturn, 1) := by decide +kernel
theorem dX4_at_24 : decode cX4_at 24 = .ok (.iload_n 3, 1) := by decide +kernel
theorem dX4_at_25 : decode cX4_at 25 = .ok (.ifCond .ne 11, 3) := by decide +kernel
theorem dX4_at_28 : decode cX4_at 28 = .ok (.aload 4, 2) := by decide +kernel
theorem dX4_at_30 : decode cX4_at 30 = .ok (.getfield 92, 3) := by decide +kernel
theorem dX4_at_33 : decode cX4_at 33 = .ok (.iload_n 2, 1) := by decide +kernel
theorem dX4_at_34 : decode cX4_at 34 = .ok (.iaload, 1) := by decide +kernel
theorem dX4_at_35 : decode cX4_at 35 = .ok (.ireturn, 1) := by decide +kernel
theorem dX4_at_36 : decode cX4_at 36 = .ok (.iload_n 3, 1) := by decide +kernel
theorem dX4_at_37 : decode cX4_at 37 = .ok (.iconst 1, 1) := by decide +kernel
theorem dX4_at_38 : decode cX4_at 38 = .ok (.if_icmp .ne 13, 3) := by decide +kernel
theorem dX4_at_41 : decode cX4_at 41 = .ok (.aload 4, 2) := by decide +kernel
theorem dX4_at_43 : decode cX4_at 43 = .ok (.getfield 112, 3) := by decide +kernel
theorem dX4_at_46 : decode cX4_at 46 = .ok (.iload_n 2, 1) := by decide +kernel
theorem dX4_at_47 : decode cX4_at 47 = .ok (.iaload, 1) := by decide +kernel
theorem dX4_at_48 : decode cX4_at 48 = .ok (.goto 5, 3) := by decide +kernel
theorem dX4_at_51 : decode cX4_at 51 = .ok (.bipush (-2), 2) := by decide +kernel
theorem dX4_at_53 : decode cX4_at 53 = .ok (.ireturn, 1) := by decide +kernel
theorem dX4_count_0 : decode cX4_count 0 = .ok (.iload_n 1, 1) := by decide +kernel
theorem dX4_count_1 : decode cX4_count 1 = .ok (.tableswitch 140 0 9 #[55, 64, 73, 81, 89, 97, 106, 114, 122, 131], 55) := by decide +kernel
theorem dX4_count_56 : decode cX4_count 56 = .ok (.aload_n 0, 1) := by decide +kernel
theorem dX4_count_57 : decode cX4_count 57 = .ok (.getfield 10, 3) := by decide +kernel
theorem dX4_count_60 : decode cX4_count 60 = .ok (.getfield 124, 3) := by decide +kernel
theorem dX4_count_63 : decode cX4_count 63 = .ok (.i2l, 1) := by decide +kernel
theorem dX4_count_64 : decode cX4_count 64 = .ok (.lreturn, 1) := by decide +kernel
theorem dX4_count_65 : decode cX4_count 65 = .ok (.aload_n 0, 1) := by decide +kernel
theorem dX4_count_66 : decode cX4_count 66 = .ok (.getfield 10, 3) := by decide +kernel
theorem dX4_count_69 : decode cX4_count 69 = .ok (.getfield 78, 3) := by decide +kernel
theorem dX4_count_72 : decode cX4_count 72 = .ok (.i2l, 1) := by decide +kernel
theorem dX4_count_73 : decode cX4_count 73 = .ok (.lreturn, 1) := by decide +kernel
theorem dX4_count_74 : decode cX4_count 74 = .ok (.aload_n 0, 1) := by decide +kernel
theorem dX4_count_75 : decode cX4_count 75 = .ok (.getfield 10, 3) := by decide +kernel
theorem dX4_count_78 : decode cX4_count 78 = .ok (.getfield 178, 3) := by decide +kernel
theorem dX4_count_81 : decode cX4_count 81 = .ok (.lreturn, 1) := by decide +kernel
theorem dX4_count_82 : decode cX4_count 82 = .ok (.aload_n 0, 1) := by decide +kernel
theorem dX4_count_83 : decode cX4_count 83 = .ok (.getfield 10, 3) := by decide +kernel
theorem dX4_count_86 : decode cX4_count 86 = .ok (.getfield 182, 3) := by decide +kernel
theorem dX4_count_89 : decode cX4_count 89 = .ok (.lreturn, 1) := by decide +kernel
theorem dX4_count_90 : decode cX4_count 90 = .ok (.aload_n 0, 1) := by decide +kernel
theorem dX4_count_91 : decode cX4_count 91 = .ok (.getfield 10, 3) := by decide +kernel
theorem dX4_count_94 : decode cX4_count 94 = .ok (.getfield 185, 3) := by decide +kernel
theorem dX4_count_97 : decode cX4_count 97 = .ok (.lreturn, 1) := by decide +kernel
theorem dX4_count_98 : decode cX4_count 98 = .ok (.aload_n 0, 1) := by decide +kernel
theorem dX4_count_99 : decode cX4_count 99 = .ok (.getfield 10, 3) := by decide +kernel
theorem dX4_count_102 : decode cX4_count 102 = .ok (.invokevirtual 118, 3) := by decide +kernel
theorem dX4_count_105 : decode cX4_count 105 = .ok (.i2l, 1) := by decide +kernel
theorem dX4_count_106 : decode cX4_count 106 = .ok (.lreturn, 1) := by decide +kernel
theorem dX4_count_107 : decode cX4_count 107 = .ok (.aload_n 0, 1) := by decide +kernel
theorem dX4_count_108 : decode cX4_count 108 = .ok (.getfield 10, 3) := by decide +kernel
theorem dX4_count_111 : decode cX4_count 111 = .ok (.invokevirtual 188, 3) := by decide +kernel
theorem dX4_count_114 : decode cX4_count 114 = .ok (.lreturn, 1) := by decide +kernel
theorem dX4_count_115 : decode cX4_count 115 = .ok (.aload_n 0, 1) := by decide +kernel
theorem dX4_count_116 : decode cX4_count 116 = .ok (.getfield 10, 3) := by decide +kernel
theorem dX4_count_119 : decode cX4_count 119 = .ok (.invokevirtual 192, 3) := by decide +kernel
theorem dX4_count_122 : decode cX4_count 122 = .ok (.lreturn, 1) := by decide +kernel
theorem dX4_count_123 : decode cX4_count 123 = .ok (.aload_n 0, 1) := by decide +kernel
theorem dX4_count_124 : decode cX4_count 124 = .ok (.getfield 22, 3) := by decide +kernel
theorem dX4_count_127 : decode cX4_count 127 = .ok (.getfield 195, 3) := by decide +kernel
theorem dX4_count_130 : decode cX4_count 130 = .ok (.i2l, 1) := by decide +kernel
theorem dX4_count_131 : decode cX4_count 131 = .ok (.lreturn, 1) := by decide +kernel
theorem dX4_count_132 : decode cX4_count 132 = .ok (.aload_n 0, 1) := by decide +kernel
theorem dX4_count_133 : decode cX4_count 133 = .ok (.getfield 29, 3) := by decide +kernel
theorem dX4_count_136 : decode cX4_count 136 = .ok (.getfield 198, 3) := by decide +kernel
theorem dX4_count_139 : decode cX4_count 139 = .ok (.i2l, 1) := by decide +kernel
theorem dX4_count_140 : decode cX4_count 140 = .ok (.lreturn, 1) := by decide +kernel
theorem dX4_count_141 : decode cX4_count 141 = .ok (.iload_n 1, 1) := by decide +kernel
theorem dX4_count_142 : decode cX4_count 142 = .ok (.bipush 10, 2) := by decide +kernel
theorem dX4_count_144 : decode cX4_count 144 = .ok (.isub, 1) := by decide +kernel
theorem dX4_count_145 : decode cX4_count 145 = .ok (.istore_n 2, 1) := by decide +kernel
theorem dX4_count_146 : decode cX4_count 146 = .ok (.iload_n 2, 1) := by decide +kernel
theorem dX4_count_147 : decode cX4_count 147 = .ok (.iconst 0, 1) := by decide +kernel
theorem dX4_count_148 : decode cX4_count 148 = .ok (.bipush 8, 2) := by decide +kernel
theorem dX4_count_150 : decode cX4_count 150 = .ok (.invokestatic 41, 3) := by decide +kernel
theorem dX4_count_153 : decode cX4_count 153 = .ok (.ifCond .eq 13, 3) := by decide +kernel
theorem dX4_count_156 : decode cX4_count 156 = .ok (.aload_n 0, 1) := by decide +kernel
theorem dX4_count_157 : decode cX4_count 157 = .ok (.getfield 10, 3) := by decide +kernel
theorem dX4_count_160 : decode cX4_count 160 = .ok (.iload_n 2, 1) := by decide +kernel
theorem dX4_count_161 : decode cX4_count 161 = .ok (.invokevirtual 56, 3) := by decide +kernel
theorem dX4_count_164 : decode cX4_count 164 = .ok (.i2l, 1) := by decide +kernel
theorem dX4_count_165 : decode cX4_count 165 = .ok (.lreturn, 1) := by decide +kernel
theorem dX4_count_166 : decode cX4_count 166 = .ok (.iload_n 2, 1) := by decide +kernel
theorem dX4_count_167 : decode cX4_count 167 = .ok (.bipush 9, 2) := by decide +kernel
theorem dX4_count_169 : decode cX4_count 169 = .ok (.isub, 1) := by decide +kernel
theorem dX4_count_170 : decode cX4_count 170 = .ok (.istore_n 3, 1) := by decide +kernel
theorem dX4_count_171 : decode cX4_count 171 = .ok (.iload_n 3, 1) := by decide +kernel
theorem dX4_count_172 : decode cX4_count 172 = .ok (.invokestatic 64, 3) := by decide +kernel
theorem dX4_count_175 : decode cX4_count 175 = .ok (.ifCond .eq 16, 3) := by decide +kernel
theorem dX4_count_178 : decode cX4_count 178 = .ok (.aload_n 0, 1) := by decide +kernel
theorem dX4_count_179 : decode cX4_count 179 = .ok (.getfield 10, 3) := by decide +kernel
theorem dX4_count_182 : decode cX4_count 182 = .ok (.getfield 82, 3) := by decide +kernel
theorem dX4_count_185 : decode cX4_count 185 = .ok (.iload_n 3, 1) := by decide +kernel
theorem dX4_count_186 : decode cX4_count 186 = .ok (.iaload, 1) := by decide +kernel
theorem dX4_count_187 : decode cX4_count 187 = .ok (.i2l, 1) := by decide +kernel
theorem dX4_count_188 : decode cX4_count 188 = .ok (.goto 6, 3) := by decide +kernel
theorem dX4_count_191 : decode cX4_count 191 = .ok (.ldc2_w 201, 3) := by decide +kernel
theorem dX4_count_194 : decode cX4_count 194 = .ok (.lreturn, 1) := by decide +kernel
theorem dX4_leastHours_0 : decode cX4_leastHours 0 = .ok (.aload_n 0, 1) := by decide +kernel
theorem dX4_leastHours_1 : decode cX4_leastHours 1 = .ok (.getfield 16, 3) := by decide +kernel
theorem dX4_leastHours_4 : decode cX4_leastHours 4 = .ok (.aload_n 0, 1) := by decide +kernel
theorem dX4_leastHours_5 : decode cX4_leastHours 5 = .ok (.getfield 10, 3) := by decide +kernel
theorem dX4_leastHours_8 : decode cX4_leastHours 8 = .ok (.invokevirtual 203, 3) := by decide +kernel
theorem dX4_leastHours_11 : decode cX4_leastHours 11 = .ok (.iconst 0, 1) := by decide +kernel
theorem dX4_leastHours_12 : decode cX4_leastHours 12 = .ok (.istore_n 1, 1) := by decide +kernel
theorem dX4_leastHours_13 : decode cX4_leastHours 13 = .ok (.iload_n 1, 1) := by decide +kernel
theorem dX4_leastHours_14 : decode cX4_leastHours 14 = .ok (.sipush 1000, 3) := by decide +kernel
theorem dX4_leastHours_17 : decode cX4_leastHours 17 = .ok (.if_icmp .gt 30, 3) := by decide +kernel
theorem dX4_leastHours_20 : decode cX4_leastHours 20 = .ok (.aload_n 0, 1) := by decide +kernel
theorem dX4_leastHours_21 : decode cX4_leastHours 21 = .ok (.getfield 16, 3) := by decide +kernel
theorem dX4_leastHours_24 : decode cX4_leastHours 24 = .ok (.iconst 0, 1) := by decide +kernel
theorem dX4_leastHours_25 : decode cX4_leastHours 25 = .ok (.iload_n 1, 1) := by decide +kernel
theorem dX4_leastHours_26 : decode cX4_leastHours 26 = .ok (.invokevirtual 60, 3) := by decide +kernel
theorem dX4_leastHours_29 : decode cX4_leastHours 29 = .ok (.aload_n 0, 1) := by decide +kernel
theorem dX4_leastHours_30 : decode cX4_leastHours 30 = .ok (.getfield 16, 3) := by decide +kernel
theorem dX4_leastHours_33 : decode cX4_leastHours 33 = .ok (.invokevirtual 206, 3) := by decide +kernel
theorem dX4_leastHours_36 : decode cX4_leastHours 36 = .ok (.ifCond .eq 5, 3) := by decide +kernel
theorem dX4_leastHours_39 : decode cX4_leastHours 39 = .ok (.iload_n 1, 1) := by decide +kernel
theorem dX4_leastHours_40 : decode cX4_leastHours 40 = .ok (.ireturn, 1) := by decide +kernel
theorem dX4_leastHours_41 : decode cX4_leastHours 41 = .ok (.iinc 1 10, 3) := by decide +kernel
theorem dX4_leastHours_44 : decode cX4_leastHours 44 = .ok (.goto (-31), 3) := by decide +kernel
theorem dX4_leastHours_47 : decode cX4_leastHours 47 = .ok (.bipush (-6), 2) := by decide +kernel
theorem dX4_leastHours_49 : decode cX4_leastHours 49 = .ok (.ireturn, 1) := by decide +kernel
theorem dX4_costs_0 : decode cX4_costs 0 = .ok (.iload_n 1, 1) := by decide +kernel
theorem dX4_costs_1 : decode cX4_costs 1 = .ok (.iconst 0, 1) := by decide +kernel
theorem dX4_costs_2 : decode cX4_costs 2 = .ok (.bipush 8, 2) := by decide +kernel
theorem dX4_costs_4 : decode cX4_costs 4 = .ok (.invokestatic 41, 3) := by decide +kernel
theorem dX4_costs_7 : decode cX4_costs 7 = .ok (.ifCond .eq 13, 3) := by decide +kernel
theorem dX4_costs_10 : decode cX4_costs 10 = .ok (.iload_n 2, 1) := by decide +kernel
theorem dX4_costs_11 : decode cX4_costs 11 = .ok (.iconst 1, 1) := by decide +kernel
theorem dX4_costs_12 : decode cX4_costs 12 = .ok (.bipush 12, 2) := by decide +kernel
theorem dX4_costs_14 : decode cX4_costs 14 = .ok (.invokestatic 41, 3) := by decide +kernel
theorem dX4_costs_17 : decode cX4_costs 17 = .ok (.ifCond .ne 7, 3) := by decide +kernel
theorem dX4_costs_20 : decode cX4_costs 20 = .ok (.ldc2_w 201, 3) := by decide +kernel
theorem dX4_costs_23 : decode cX4_costs 23 = .ok (.lreturn, 1) := by decide +kernel
theorem dX4_costs_24 : decode cX4_costs 24 = .ok (.aload_n 0, 1) := by decide +kernel
theorem dX4_costs_25 : decode cX4_costs 25 = .ok (.getfield 16, 3) := by decide +kernel
theorem dX4_costs_28 : decode cX4_costs 28 = .ok (.aload_n 0, 1) := by decide +kernel
theorem dX4_costs_29 : decode cX4_costs 29 = .ok (.getfield 10, 3) := by decide +kernel
theorem dX4_costs_32 : decode cX4_costs 32 = .ok (.invokevirtual 203, 3) := by decide +kernel
theorem dX4_costs_35 : decode cX4_costs 35 = .ok (.aload_n 0, 1) := by decide +kernel
theorem dX4_costs_36 : decode cX4_costs 36 = .ok (.getfield 16, 3) := by decide +kernel
theorem dX4_costs_39 : decode cX4_costs 39 = .ok (.iconst 2, 1) := by decide +kernel
theorem dX4_costs_40 : decode cX4_costs 40 = .ok (.iload_n 1, 1) := by decide +kernel
theorem dX4_costs_41 : decode cX4_costs 41 = .ok (.invokevirtual 60, 3) := by decide +kernel
theorem dX4_costs_44 : decode cX4_costs 44 = .ok (.aload_n 0, 1) := by decide +kernel
theorem dX4_costs_45 : decode cX4_costs 45 = .ok (.getfield 16, 3) := by decide +kernel
theorem dX4_costs_48 : decode cX4_costs 48 = .ok (.invokevirtual 210, 3) := by decide +kernel
theorem dX4_costs_51 : decode cX4_costs 51 = .ok (.aload_n 0, 1) := by decide +kernel
theorem dX4_costs_52 : decode cX4_costs 52 = .ok (.getfield 16, 3) := by decide +kernel
theorem dX4_costs_55 : decode cX4_costs 55 = .ok (.invokevirtual 115, 3) := by decide +kernel
theorem dX4_costs_58 : decode cX4_costs 58 = .ok (.iconst 0, 1) := by decide +kernel
theorem dX4_costs_59 : decode cX4_costs 59 = .ok (.istore_n 3, 1) := by decide +kernel
theorem dX4_costs_60 : decode cX4_costs 60 = .ok (.iload_n 3, 1) := by decide +kernel
theorem dX4_costs_61 : decode cX4_costs 61 = .ok (.iload_n 2, 1) := by decide +kernel
theorem dX4_costs_62 : decode cX4_costs 62 = .ok (.if_icmp .ge 23, 3) := by decide +kernel
theorem dX4_costs_65 : decode cX4_costs 65 = .ok (.aload_n 0, 1) := by decide +kernel
theorem dX4_costs_66 : decode cX4_costs 66 = .ok (.getfield 16, 3) := by decide +kernel
theorem dX4_costs_69 : decode cX4_costs 69 = .ok (.invokevirtual 121, 3) := by decide +kernel
theorem dX4_costs_72 : decode cX4_costs 72 = .ok (.aload_n 0, 1) := by decide +kernel
theorem dX4_costs_73 : decode cX4_costs 73 = .ok (.getfield 16, 3) := by decide +kernel
theorem dX4_costs_76 : decode cX4_costs 76 = .ok (.invokevirtual 115, 3) := by decide +kernel
theorem dX4_costs_79 : decode cX4_costs 79 = .ok (.iinc 3 1, 3) := by decide +kernel
theorem dX4_costs_82 : decode cX4_costs 82 = .ok (.goto (-22), 3) := by decide +kernel
theorem dX4_costs_85 : decode cX4_costs 85 = .ok (.aload_n 0, 1) := by decide +kernel
theorem dX4_costs_86 : decode cX4_costs 86 = .ok (.getfield 16, 3) := by decide +kernel
theorem dX4_costs_89 : decode cX4_costs 89 = .ok (.getfield 185, 3) := by decide +kernel
theorem dX4_costs_92 : decode cX4_costs 92 = .ok (.aload_n 0, 1) := by decide +kernel
theorem dX4_costs_93 : decode cX4_costs 93 = .ok (.getfield 10, 3) := by decide +kernel
theorem dX4_costs_96 : decode cX4_costs 96 = .ok (.getfield 185, 3) := by decide +kernel
theorem dX4_costs_99 : decode cX4_costs 99 = .ok (.lsub, 1) := by decide +kernel
theorem dX4_costs_100 : decode cX4_costs 100 = .ok (.lreturn, 1) := by decide +kernel
theorem dX4_roomFor_0 : decode cX4_roomFor 0 = .ok (.aload_n 0, 1) := by decide +kernel
theorem dX4_roomFor_1 : decode cX4_roomFor 1 = .ok (.getfield 10, 3) := by decide +kernel
theorem dX4_roomFor_4 : decode cX4_roomFor 4 = .ok (.iload_n 1, 1) := by decide +kernel
theorem dX4_roomFor_5 : decode cX4_roomFor 5 = .ok (.invokevirtual 85, 3) := by decide +kernel
theorem dX4_roomFor_8 : decode cX4_roomFor 8 = .ok (.astore_n 3, 1) := by decide +kernel
theorem dX4_roomFor_9 : decode cX4_roomFor 9 = .ok (.aload_n 3, 1) := by decide +kernel
theorem dX4_roomFor_10 : decode cX4_roomFor 10 = .ok (.ifnull 10, 3) := by decide +kernel
theorem dX4_roomFor_13 : decode cX4_roomFor 13 = .ok (.iload_n 2, 1) := by decide +kernel
theorem dX4_roomFor_14 : decode cX4_roomFor 14 = .ok (.invokestatic 89, 3) := by decide +kernel
theorem dX4_roomFor_17 : decode cX4_roomFor 17 = .ok (.ifCond .ne 5, 3) := by decide +kernel
theorem dX4_roomFor_20 : decode cX4_roomFor 20 = .ok (.iconst (-1), 1) := by decide +kernel
theorem dX4_roomFor_21 : decode cX4_roomFor 21 = .ok (.ireturn, 1) := by decide +kernel
theorem dX4_roomFor_22 : decode cX4_roomFor 22 = .ok (.aload_n 3, 1) := by decide +kernel
theorem dX4_roomFor_23 : decode cX4_roomFor 23 = .ok (.getfield 112, 3) := by decide +kernel
theorem dX4_roomFor_26 : decode cX4_roomFor 26 = .ok (.iload_n 2, 1) := by decide +kernel
theorem dX4_roomFor_27 : decode cX4_roomFor 27 = .ok (.iaload, 1) := by decide +kernel
theorem dX4_roomFor_28 : decode cX4_roomFor 28 = .ok (.istore 4, 2) := by decide +kernel
theorem dX4_roomFor_30 : decode cX4_roomFor 30 = .ok (.aload_n 0, 1) := by decide +kernel
theorem dX4_roomFor_31 : decode cX4_roomFor 31 = .ok (.getfield 10, 3) := by decide +kernel
theorem dX4_roomFor_34 : decode cX4_roomFor 34 = .ok (.invokevirtual 105, 3) := by decide +kernel
theorem dX4_roomFor_37 : decode cX4_roomFor 37 = .ok (.aload_n 0, 1) := by decide +kernel
theorem dX4_roomFor_38 : decode cX4_roomFor 38 = .ok (.getfield 10, 3) := by decide +kernel
theorem dX4_roomFor_41 : decode cX4_roomFor 41 = .ok (.iload_n 2, 1) := by decide +kernel
theorem dX4_roomFor_42 : decode cX4_roomFor 42 = .ok (.aload_n 3, 1) := by decide +kernel
theorem dX4_roomFor_43 : decode cX4_roomFor 43 = .ok (.iload 4, 2) := by decide +kernel
theorem dX4_roomFor_45 : decode cX4_roomFor 45 = .ok (.iconst 1, 1) := by decide +kernel
theorem dX4_roomFor_46 : decode cX4_roomFor 46 = .ok (.iadd, 1) := by decide +kernel
theorem dX4_roomFor_47 : decode cX4_roomFor 47 = .ok (.invokevirtual 98, 3) := by decide +kernel
theorem dX4_roomFor_50 : decode cX4_roomFor 50 = .ok (.isub, 1) := by decide +kernel
theorem dX4_roomFor_51 : decode cX4_roomFor 51 = .ok (.istore 5, 2) := by decide +kernel
theorem dX4_roomFor_53 : decode cX4_roomFor 53 = .ok (.iload 5, 2) := by decide +kernel
theorem dX4_roomFor_55 : decode cX4_roomFor 55 = .ok (.ifCond .lt 11, 3) := by decide +kernel
theorem dX4_roomFor_58 : decode cX4_roomFor 58 = .ok (.aload_n 3, 1) := by decide +kernel
theorem dX4_roomFor_59 : decode cX4_roomFor 59 = .ok (.getfield 133, 3) := by decide +kernel
theorem dX4_roomFor_62 : decode cX4_roomFor 62 = .ok (.iconst 1, 1) := by decide +kernel
theorem dX4_roomFor_63 : decode cX4_roomFor 63 = .ok (.if_icmp .ge 5, 3) := by decide +kernel
theorem dX4_roomFor_66 : decode cX4_roomFor 66 = .ok (.iconst 0, 1) := by decide +kernel
theorem dX4_roomFor_67 : decode cX4_roomFor 67 = .ok (.ireturn, 1) := by decide +kernel
theorem dX4_roomFor_68 : decode cX4_roomFor 68 = .ok (.iconst 1, 1) := by decide +kernel
theorem dX4_roomFor_69 : decode cX4_roomFor 69 = .ok (.iload 5, 2) := by decide +kernel
theorem dX4_roomFor_71 : decode cX4_roomFor 71 = .ok (.aload_n 3, 1) := by decide +kernel
theorem dX4_roomFor_72 : decode cX4_roomFor 72 = .ok (.getfield 133, 3) := by decide +kernel
theorem dX4_roomFor_75 : decode cX4_roomFor 75 = .ok (.idiv, 1) := by decide +kernel
theorem dX4_roomFor_76 : decode cX4_roomFor 76 = .ok (.iadd, 1) := by decide +kernel
theorem dX4_roomFor_77 : decode cX4_roomFor 77 = .ok (.sipush 1000, 3) := by decide +kernel
theorem dX4_roomFor_80 : decode cX4_roomFor 80 = .ok (.iload 4, 2) := by decide +kernel
theorem dX4_roomFor_82 : decode cX4_roomFor 82 = .ok (.isub, 1) := by decide +kernel
theorem dX4_roomFor_83 : decode cX4_roomFor 83 = .ok (.invokestatic 217, 3) := by decide +kernel
theorem dX4_roomFor_86 : decode cX4_roomFor 86 = .ok (.ireturn, 1) := by decide +kernel
theorem dX4_undo_0 : decode cX4_undo 0 = .ok (.aload_n 0, 1) := by decide +kernel
theorem dX4_undo_1 : decode cX4_undo 1 = .ok (.getfield 29, 3) := by decide +kernel
theorem dX4_undo_4 : decode cX4_undo 4 = .ok (.getfield 198, 3) := by decide +kernel
theorem dX4_undo_7 : decode cX4_undo 7 = .ok (.ifCond .ne 6, 3) := by decide +kernel
theorem dX4_undo_10 : decode cX4_undo 10 = .ok (.bipush (-5), 2) := by decide +kernel
theorem dX4_undo_12 : decode cX4_undo 12 = .ok (.ireturn, 1) := by decide +kernel
theorem dX4_undo_13 : decode cX4_undo 13 = .ok (.aload_n 0, 1) := by decide +kernel
theorem dX4_undo_14 : decode cX4_undo 14 = .ok (.getfield 29, 3) := by decide +kernel
theorem dX4_undo_17 : decode cX4_undo 17 = .ok (.aload_n 0, 1) := by decide +kernel
theorem dX4_undo_18 : decode cX4_undo 18 = .ok (.getfield 10, 3) := by decide +kernel
theorem dX4_undo_21 : decode cX4_undo 21 = .ok (.invokevirtual 260, 3) := by decide +kernel
theorem dX4_undo_24 : decode cX4_undo 24 = .ok (.aload_n 0, 1) := by decide +kernel
theorem dX4_undo_25 : decode cX4_undo 25 = .ok (.getfield 29, 3) := by decide +kernel
theorem dX4_undo_28 : decode cX4_undo 28 = .ok (.getfield 198, 3) := by decide +kernel
theorem dX4_undo_31 : decode cX4_undo 31 = .ok (.ireturn, 1) := by decide +kernel
theorem dX4_save_0 : decode cX4_save 0 = .ok (.iload_n 1, 1) := by decide +kernel
theorem dX4_save_1 : decode cX4_save 1 = .ok (.iconst 0, 1) := by decide +kernel
theorem dX4_save_2 : decode cX4_save 2 = .ok (.iconst 1, 1) := by decide +kernel
theorem dX4_save_3 : decode cX4_save 3 = .ok (.invokestatic 41, 3) := by decide +kernel
theorem dX4_save_6 : decode cX4_save 6 = .ok (.ifCond .ne 6, 3) := by decide +kernel
theorem dX4_save_9 : decode cX4_save 9 = .ok (.bipush (-2), 2) := by decide +kernel
theorem dX4_save_11 : decode cX4_save 11 = .ok (.ireturn, 1) := by decide +kernel
theorem dX4_save_12 : decode cX4_save 12 = .ok (.aload_n 0, 1) := by decide +kernel
theorem dX4_save_13 : decode cX4_save 13 = .ok (.getfield 33, 3) := by decide +kernel
theorem dX4_save_16 : decode cX4_save 16 = .ok (.iload_n 1, 1) := by decide +kernel
theorem dX4_save_17 : decode cX4_save 17 = .ok (.aaload, 1) := by decide +kernel
theorem dX4_save_18 : decode cX4_save 18 = .ok (.astore_n 2, 1) := by decide +kernel
theorem dX4_save_19 : decode cX4_save 19 = .ok (.aload_n 2, 1) := by decide +kernel
theorem dX4_save_20 : decode cX4_save 20 = .ok (.ifnull 18, 3) := by decide +kernel
theorem dX4_save_23 : decode cX4_save 23 = .ok (.aload_n 2, 1) := by decide +kernel
theorem dX4_save_24 : decode cX4_save 24 = .ok (.aload_n 0, 1) := by decide +kernel
theorem dX4_save_25 : decode cX4_save 25 = .ok (.getfield 10, 3) := by decide +kernel
theorem dX4_save_28 : decode cX4_save 28 = .ok (.invokevirtual 203, 3) := by decide +kernel
theorem dX4_save_31 : decode cX4_save 31 = .ok (.aload_n 0, 1) := by decide +kernel
theorem dX4_save_32 : decode cX4_save 32 = .ok (.getfield 37, 3) := by decide +kernel
theorem dX4_save_35 : decode cX4_save 35 = .ok (.iload_n 1, 1) := by decide +kernel
theorem dX4_save_36 : decode cX4_save 36 = .ok (.iconst 1, 1) := by decide +kernel
theorem dX4_save_37 : decode cX4_save 37 = .ok (.bastore, 1) := by decide +kernel
theorem dX4_save_38 : decode cX4_save 38 = .ok (.aload_n 0, 1) := by decide +kernel
theorem dX4_save_39 : decode cX4_save 39 = .ok (.getfield 10, 3) := by decide +kernel
theorem dX4_save_42 : decode cX4_save 42 = .ok (.getfield 124, 3) := by decide +kernel
theorem dX4_save_45 : decode cX4_save 45 = .ok (.ireturn, 1) := by decide +kernel
theorem dX4_restore_0 : decode cX4_restore 0 = .ok (.iload_n 1, 1) := by decide +kernel
theorem dX4_restore_1 : decode cX4_restore 1 = .ok (.iconst 0, 1) := by decide +kernel
theorem dX4_restore_2 : decode cX4_restore 2 = .ok (.iconst 1, 1) := by decide +kernel
theorem dX4_restore_3 : decode cX4_restore 3 = .ok (.invokestatic 41, 3) := by decide +kernel
theorem dX4_restore_6 : decode cX4_restore 6 = .ok (.ifCond .ne 6, 3) := by decide +kernel
theorem dX4_restore_9 : decode cX4_restore 9 = .ok (.bipush (-2), 2) := by decide +kernel
theorem dX4_restore_11 : decode cX4_restore 11 = .ok (.ireturn, 1) := by decide +kernel
theorem dX4_restore_12 : decode cX4_restore 12 = .ok (.aload_n 0, 1) := by decide +kernel
theorem dX4_restore_13 : decode cX4_restore 13 = .ok (.getfield 37, 3) := by decide +kernel
theorem dX4_restore_16 : decode cX4_restore 16 = .ok (.iload_n 1, 1) := by decide +kernel
theorem dX4_restore_17 : decode cX4_restore 17 = .ok (.baload, 1) := by decide +kernel
theorem dX4_restore_18 : decode cX4_restore 18 = .ok (.ifCond .ne 6, 3) := by decide +kernel
theorem dX4_restore_21 : decode cX4_restore 21 = .ok (.bipush (-5), 2) := by decide +kernel
theorem dX4_restore_23 : decode cX4_restore 23 = .ok (.ireturn, 1) := by decide +kernel
theorem dX4_restore_24 : decode cX4_restore 24 = .ok (.aload_n 0, 1) := by decide +kernel
theorem dX4_restore_25 : decode cX4_restore 25 = .ok (.getfield 29, 3) := by decide +kernel
theorem dX4_restore_28 : decode cX4_restore 28 = .ok (.aload_n 0, 1) := by decide +kernel
theorem dX4_restore_29 : decode cX4_restore 29 = .ok (.getfield 10, 3) := by decide +kernel
theorem dX4_restore_32 : decode cX4_restore 32 = .ok (.invokevirtual 52, 3) := by decide +kernel
theorem dX4_restore_35 : decode cX4_restore 35 = .ok (.aload_n 0, 1) := by decide +kernel
theorem dX4_restore_36 : decode cX4_restore 36 = .ok (.getfield 10, 3) := by decide +kernel
theorem dX4_restore_39 : decode cX4_restore 39 = .ok (.aload_n 0, 1) := by decide +kernel
theorem dX4_restore_40 : decode cX4_restore 40 = .ok (.getfield 33, 3) := by decide +kernel
theorem dX4_restore_43 : decode cX4_restore 43 = .ok (.iload_n 1, 1) := by decide +kernel
theorem dX4_restore_44 : decode cX4_restore 44 = .ok (.aaload, 1) := by decide +kernel
theorem dX4_restore_45 : decode cX4_restore 45 = .ok (.invokevirtual 203, 3) := by decide +kernel
theorem dX4_restore_48 : decode cX4_restore 48 = .ok (.aload_n 0, 1) := by decide +kernel
theorem dX4_restore_49 : decode cX4_restore 49 = .ok (.getfield 10, 3) := by decide +kernel
theorem dX4_restore_52 : decode cX4_restore 52 = .ok (.getfield 124, 3) := by decide +kernel
theorem dX4_restore_55 : decode cX4_restore 55 = .ok (.ireturn, 1) := by decide +kernel
theorem dX4_isIn_0 : decode cX4_isIn 0 = .ok (.iload_n 0, 1) := by decide +kernel
theorem dX4_isIn_1 : decode cX4_isIn 1 = .ok (.iload_n 1, 1) := by decide +kernel
theorem dX4_isIn_2 : decode cX4_isIn 2 = .ok (.if_icmp .lt 12, 3) := by decide +kernel
theorem dX4_isIn_5 : decode cX4_isIn 5 = .ok (.iload_n 0, 1) := by decide +kernel
theorem dX4_isIn_6 : decode cX4_isIn 6 = .ok (.iload_n 2, 1) := by decide +kernel
theorem dX4_isIn_7 : decode cX4_isIn 7 = .ok (.if_icmp .gt 7, 3) := by decide +kernel
theorem dX4_isIn_10 : decode cX4_isIn 10 = .ok (.iconst 1, 1) := by decide +kernel
theorem dX4_isIn_11 : decode cX4_isIn 11 = .ok (.goto 4, 3) := by decide +kernel
theorem dX4_isIn_14 : decode cX4_isIn 14 = .ok (.iconst 0, 1) := by decide +kernel
theorem dX4_isIn_15 : decode cX4_isIn 15 = .ok (.ireturn, 1) := by decide +kernel
theorem dX4_isWeek_0 : decode cX4_isWeek 0 = .ok (.iload_n 0, 1) := by decide +kernel
theorem dX4_isWeek_1 : decode cX4_isWeek 1 = .ok (.ifCond .lt 13, 3) := by decide +kernel
theorem dX4_isWeek_4 : decode cX4_isWeek 4 = .ok (.iload_n 0, 1) := by decide +kernel
theorem dX4_isWeek_5 : decode cX4_isWeek 5 = .ok (.bipush 12, 2) := by decide +kernel
theorem dX4_isWeek_7 : decode cX4_isWeek 7 = .ok (.if_icmp .ge 7, 3) := by decide +kernel
theorem dX4_isWeek_10 : decode cX4_isWeek 10 = .ok (.iconst 1, 1) := by decide +kernel
theorem dX4_isWeek_11 : decode cX4_isWeek 11 = .ok (.goto 4, 3) := by decide +kernel
theorem dX4_isWeek_14 : decode cX4_isWeek 14 = .ok (.iconst 0, 1) := by decide +kernel
theorem dX4_isWeek_15 : decode cX4_isWeek 15 = .ok (.ireturn, 1) := by decide +kernel
theorem dX4_isFamily_0 : decode cX4_isFamily 0 = .ok (.iload_n 0, 1) := by decide +kernel
theorem dX4_isFamily_1 : decode cX4_isFamily 1 = .ok (.ifCond .lt 12, 3) := by decide +kernel
theorem dX4_isFamily_4 : decode cX4_isFamily 4 = .ok (.iload_n 0, 1) := by decide +kernel
theorem dX4_isFamily_5 : decode cX4_isFamily 5 = .ok (.iconst 4, 1) := by decide +kernel
theorem dX4_isFamily_6 : decode cX4_isFamily 6 = .ok (.if_icmp .ge 7, 3) := by decide +kernel
theorem dX4_isFamily_9 : decode cX4_isFamily 9 = .ok (.iconst 1, 1) := by decide +kernel
theorem dX4_isFamily_10 : decode cX4_isFamily 10 = .ok (.goto 4, 3) := by decide +kernel
theorem dX4_isFamily_13 : decode cX4_isFamily 13 = .ok (.iconst 0, 1) := by decide +kernel
theorem dX4_isFamily_14 : decode cX4_isFamily 14 = .ok (.ireturn, 1) := by decide +kernel
theorem dJ6_bitCount_0f7a4_0 : decode cJ6_bitCount_0f7a4 0 = .ok (.iload_n 0, 1) := by decide +kernel
theorem dJ6_bitCount_0f7a4_1 : decode cJ6_bitCount_0f7a4 1 = .ok (.iload_n 0, 1) := by decide +kernel
theorem dJ6_bitCount_0f7a4_2 : decode cJ6_bitCount_0f7a4 2 = .ok (.iconst 1, 1) := by decide +kernel
theorem dJ6_bitCount_0f7a4_3 : decode cJ6_bitCount_0f7a4 3 = .ok (.iushr, 1) := by decide +kernel
theorem dJ6_bitCount_0f7a4_4 : decode cJ6_bitCount_0f7a4 4 = .ok (.ldc_w 265, 3) := by decide +kernel
theorem dJ6_bitCount_0f7a4_7 : decode cJ6_bitCount_0f7a4 7 = .ok (.iand, 1) := by decide +kernel
theorem dJ6_bitCount_0f7a4_8 : decode cJ6_bitCount_0f7a4 8 = .ok (.isub, 1) := by decide +kernel
theorem dJ6_bitCount_0f7a4_9 : decode cJ6_bitCount_0f7a4 9 = .ok (.istore_n 0, 1) := by decide +kernel
theorem dJ6_bitCount_0f7a4_10 : decode cJ6_bitCount_0f7a4 10 = .ok (.iload_n 0, 1) := by decide +kernel
theorem dJ6_bitCount_0f7a4_11 : decode cJ6_bitCount_0f7a4 11 = .ok (.ldc_w 266, 3) := by decide +kernel
theorem dJ6_bitCount_0f7a4_14 : decode cJ6_bitCount_0f7a4 14 = .ok (.iand, 1) := by decide +kernel
theorem dJ6_bitCount_0f7a4_15 : decode cJ6_bitCount_0f7a4 15 = .ok (.iload_n 0, 1) := by decide +kernel
theorem dJ6_bitCount_0f7a4_16 : decode cJ6_bitCount_0f7a4 16 = .ok (.iconst 2, 1) := by decide +kernel
theorem dJ6_bitCount_0f7a4_17 : decode cJ6_bitCount_0f7a4 17 = .ok (.iushr, 1) := by decide +kernel
theorem dJ6_bitCount_0f7a4_18 : decode cJ6_bitCount_0f7a4 18 = .ok (.ldc_w 266, 3) := by decide +kernel
theorem dJ6_bitCount_0f7a4_21 : decode cJ6_bitCount_0f7a4 21 = .ok (.iand, 1) := by decide +kernel
theorem dJ6_bitCount_0f7a4_22 : decode cJ6_bitCount_0f7a4 22 = .ok (.iadd, 1) := by decide +kernel
theorem dJ6_bitCount_0f7a4_23 : decode cJ6_bitCount_0f7a4 23 = .ok (.istore_n 0, 1) := by decide +kernel
theorem dJ6_bitCount_0f7a4_24 : decode cJ6_bitCount_0f7a4 24 = .ok (.iload_n 0, 1) := by decide +kernel
theorem dJ6_bitCount_0f7a4_25 : decode cJ6_bitCount_0f7a4 25 = .ok (.iload_n 0, 1) := by decide +kernel
theorem dJ6_bitCount_0f7a4_26 : decode cJ6_bitCount_0f7a4 26 = .ok (.iconst 4, 1) := by decide +kernel
theorem dJ6_bitCount_0f7a4_27 : decode cJ6_bitCount_0f7a4 27 = .ok (.iushr, 1) := by decide +kernel
theorem dJ6_bitCount_0f7a4_28 : decode cJ6_bitCount_0f7a4 28 = .ok (.iadd, 1) := by decide +kernel
theorem dJ6_bitCount_0f7a4_29 : decode cJ6_bitCount_0f7a4 29 = .ok (.ldc_w 267, 3) := by decide +kernel
theorem dJ6_bitCount_0f7a4_32 : decode cJ6_bitCount_0f7a4 32 = .ok (.iand, 1) := by decide +kernel
theorem dJ6_bitCount_0f7a4_33 : decode cJ6_bitCount_0f7a4 33 = .ok (.istore_n 0, 1) := by decide +kernel
theorem dJ6_bitCount_0f7a4_34 : decode cJ6_bitCount_0f7a4 34 = .ok (.iload_n 0, 1) := by decide +kernel
theorem dJ6_bitCount_0f7a4_35 : decode cJ6_bitCount_0f7a4 35 = .ok (.iload_n 0, 1) := by decide +kernel
theorem dJ6_bitCount_0f7a4_36 : decode cJ6_bitCount_0f7a4 36 = .ok (.bipush 8, 2) := by decide +kernel
theorem dJ6_bitCount_0f7a4_38 : decode cJ6_bitCount_0f7a4 38 = .ok (.iushr, 1) := by decide +kernel
theorem dJ6_bitCount_0f7a4_39 : decode cJ6_bitCount_0f7a4 39 = .ok (.iadd, 1) := by decide +kernel
theorem dJ6_bitCount_0f7a4_40 : decode cJ6_bitCount_0f7a4 40 = .ok (.istore_n 0, 1) := by decide +kernel
theorem dJ6_bitCount_0f7a4_41 : decode cJ6_bitCount_0f7a4 41 = .ok (.iload_n 0, 1) := by decide +kernel
theorem dJ6_bitCount_0f7a4_42 : decode cJ6_bitCount_0f7a4 42 = .ok (.iload_n 0, 1) := by decide +kernel
theorem dJ6_bitCount_0f7a4_43 : decode cJ6_bitCount_0f7a4 43 = .ok (.bipush 16, 2) := by decide +kernel
theorem dJ6_bitCount_0f7a4_45 : decode cJ6_bitCount_0f7a4 45 = .ok (.iushr, 1) := by decide +kernel
theorem dJ6_bitCount_0f7a4_46 : decode cJ6_bitCount_0f7a4 46 = .ok (.iadd, 1) := by decide +kernel
theorem dJ6_bitCount_0f7a4_47 : decode cJ6_bitCount_0f7a4 47 = .ok (.istore_n 0, 1) := by decide +kernel
theorem dJ6_bitCount_0f7a4_48 : decode cJ6_bitCount_0f7a4 48 = .ok (.iload_n 0, 1) := by decide +kernel
theorem dJ6_bitCount_0f7a4_49 : decode cJ6_bitCount_0f7a4 49 = .ok (.bipush 63, 2) := by decide +kernel
theorem dJ6_bitCount_0f7a4_51 : decode cJ6_bitCount_0f7a4 51 = .ok (.iand, 1) := by decide +kernel
theorem dJ6_bitCount_0f7a4_52 : decode cJ6_bitCount_0f7a4 52 = .ok (.ireturn, 1) := by decide +kernel
theorem dJ9_abs_0f7a4_0 : decode cJ9_abs_0f7a4 0 = .ok (.iload_n 0, 1) := by decide +kernel
theorem dJ9_abs_0f7a4_1 : decode cJ9_abs_0f7a4 1 = .ok (.ifCond .ge 8, 3) := by decide +kernel
theorem dJ9_abs_0f7a4_4 : decode cJ9_abs_0f7a4 4 = .ok (.iload_n 0, 1) := by decide +kernel
theorem dJ9_abs_0f7a4_5 : decode cJ9_abs_0f7a4 5 = .ok (.ineg, 1) := by decide +kernel
theorem dJ9_abs_0f7a4_6 : decode cJ9_abs_0f7a4 6 = .ok (.goto 4, 3) := by decide +kernel
theorem dJ9_abs_0f7a4_9 : decode cJ9_abs_0f7a4 9 = .ok (.iload_n 0, 1) := by decide +kernel
theorem dJ9_abs_0f7a4_10 : decode cJ9_abs_0f7a4 10 = .ok (.ireturn, 1) := by decide +kernel
theorem dJ9_max_7cf53_0 : decode cJ9_max_7cf53 0 = .ok (.iload_n 0, 1) := by decide +kernel
theorem dJ9_max_7cf53_1 : decode cJ9_max_7cf53 1 = .ok (.iload_n 1, 1) := by decide +kernel
theorem dJ9_max_7cf53_2 : decode cJ9_max_7cf53 2 = .ok (.if_icmp .lt 7, 3) := by decide +kernel
theorem dJ9_max_7cf53_5 : decode cJ9_max_7cf53 5 = .ok (.iload_n 0, 1) := by decide +kernel
theorem dJ9_max_7cf53_6 : decode cJ9_max_7cf53 6 = .ok (.goto 4, 3) := by decide +kernel
theorem dJ9_max_7cf53_9 : decode cJ9_max_7cf53 9 = .ok (.iload_n 1, 1) := by decide +kernel
theorem dJ9_max_7cf53_10 : decode cJ9_max_7cf53 10 = .ok (.ireturn, 1) := by decide +kernel
theorem dJ9_min_7cf53_0 : decode cJ9_min_7cf53 0 = .ok (.iload_n 0, 1) := by decide +kernel
theorem dJ9_min_7cf53_1 : decode cJ9_min_7cf53 1 = .ok (.iload_n 1, 1) := by decide +kernel
theorem dJ9_min_7cf53_2 : decode cJ9_min_7cf53 2 = .ok (.if_icmp .gt 7, 3) := by decide +kernel
theorem dJ9_min_7cf53_5 : decode cJ9_min_7cf53 5 = .ok (.iload_n 0, 1) := by decide +kernel
theorem dJ9_min_7cf53_6 : decode cJ9_min_7cf53 6 = .ok (.goto 4, 3) := by decide +kernel
theorem dJ9_min_7cf53_9 : decode cJ9_min_7cf53 9 = .ok (.iload_n 1, 1) := by decide +kernel
theorem dJ9_min_7cf53_10 : decode cJ9_min_7cf53 10 = .ok (.ireturn, 1) := by decide +kernel
theorem dJ9_min_f86c9_0 : decode cJ9_min_f86c9 0 = .ok (.lload_n 0, 1) := by decide +kernel
theorem dJ9_min_f86c9_1 : decode cJ9_min_f86c9 1 = .ok (.lload_n 2, 1) := by decide +kernel
theorem dJ9_min_f86c9_2 : decode cJ9_min_f86c9 2 = .ok (.lcmp, 1) := by decide +kernel
theorem dJ9_min_f86c9_3 : decode cJ9_min_f86c9 3 = .ok (.ifCond .gt 7, 3) := by decide +kernel
theorem dJ9_min_f86c9_6 : decode cJ9_min_f86c9 6 = .ok (.lload_n 0, 1) := by decide +kernel
theorem dJ9_min_f86c9_7 : decode cJ9_min_f86c9 7 = .ok (.goto 4, 3) := by decide +kernel
theorem dJ9_min_f86c9_10 : decode cJ9_min_f86c9 10 = .ok (.lload_n 2, 1) := by decide +kernel
theorem dJ9_min_f86c9_11 : decode cJ9_min_f86c9 11 = .ok (.lreturn, 1) := by decide +kernel
theorem dJ7_fill_53178_0 : decode cJ7_fill_53178 0 = .ok (.iconst 0, 1) := by decide +kernel
theorem dJ7_fill_53178_1 : decode cJ7_fill_53178 1 = .ok (.istore_n 2, 1) := by decide +kernel
theorem dJ7_fill_53178_2 : decode cJ7_fill_53178 2 = .ok (.aload_n 0, 1) := by decide +kernel
theorem dJ7_fill_53178_3 : decode cJ7_fill_53178 3 = .ok (.arraylength, 1) := by decide +kernel
theorem dJ7_fill_53178_4 : decode cJ7_fill_53178 4 = .ok (.istore_n 3, 1) := by decide +kernel
theorem dJ7_fill_53178_5 : decode cJ7_fill_53178 5 = .ok (.iload_n 2, 1) := by decide +kernel
theorem dJ7_fill_53178_6 : decode cJ7_fill_53178 6 = .ok (.iload_n 3, 1) := by decide +kernel
theorem dJ7_fill_53178_7 : decode cJ7_fill_53178 7 = .ok (.if_icmp .ge 13, 3) := by decide +kernel
theorem dJ7_fill_53178_10 : decode cJ7_fill_53178 10 = .ok (.aload_n 0, 1) := by decide +kernel
theorem dJ7_fill_53178_11 : decode cJ7_fill_53178 11 = .ok (.iload_n 2, 1) := by decide +kernel
theorem dJ7_fill_53178_12 : decode cJ7_fill_53178 12 = .ok (.iload_n 1, 1) := by decide +kernel
theorem dJ7_fill_53178_13 : decode cJ7_fill_53178 13 = .ok (.iastore, 1) := by decide +kernel
theorem dJ7_fill_53178_14 : decode cJ7_fill_53178 14 = .ok (.iinc 2 1, 3) := by decide +kernel
theorem dJ7_fill_53178_17 : decode cJ7_fill_53178 17 = .ok (.goto (-12), 3) := by decide +kernel
theorem dJ7_fill_53178_20 : decode cJ7_fill_53178 20 = .ok (.return_, 1) := by decide +kernel
theorem dL_cell_0 : decode cL_cell 0 = .ok (.iload_n 1, 1) := by decide +kernel
theorem dL_cell_1 : decode cL_cell 1 = .ok (.aload_n 0, 1) := by decide +kernel
theorem dL_cell_2 : decode cL_cell 2 = .ok (.arraylength, 1) := by decide +kernel
theorem dL_cell_3 : decode cL_cell 3 = .ok (.if_icmp .ge 9, 3) := by decide +kernel
theorem dL_cell_6 : decode cL_cell 6 = .ok (.aload_n 0, 1) := by decide +kernel
theorem dL_cell_7 : decode cL_cell 7 = .ok (.iload_n 1, 1) := by decide +kernel
theorem dL_cell_8 : decode cL_cell 8 = .ok (.iaload, 1) := by decide +kernel
theorem dL_cell_9 : decode cL_cell 9 = .ok (.goto 9, 3) := by decide +kernel
theorem dL_cell_12 : decode cL_cell 12 = .ok (.ldc 7, 2) := by decide +kernel
theorem dL_cell_14 : decode cL_cell 14 = .ok (.iload_n 1, 1) := by decide +kernel
theorem dL_cell_15 : decode cL_cell 15 = .ok (.iconst 3, 1) := by decide +kernel
theorem dL_cell_16 : decode cL_cell 16 = .ok (.iadd, 1) := by decide +kernel
theorem dL_cell_17 : decode cL_cell 17 = .ok (.imul, 1) := by decide +kernel
theorem dL_cell_18 : decode cL_cell 18 = .ok (.ireturn, 1) := by decide +kernel
theorem dL_up_0 : decode cL_up 0 = .ok (.iload_n 0, 1) := by decide +kernel
theorem dL_up_1 : decode cL_up 1 = .ok (.ldc 8, 2) := by decide +kernel
theorem dL_up_3 : decode cL_up 3 = .ok (.iand, 1) := by decide +kernel
theorem dL_up_4 : decode cL_up 4 = .ok (.iload_n 1, 1) := by decide +kernel
theorem dL_up_5 : decode cL_up 5 = .ok (.irem, 1) := by decide +kernel
theorem dL_up_6 : decode cL_up 6 = .ok (.ireturn, 1) := by decide +kernel
theorem dL_view_0 : decode cL_view 0 = .ok (.ldc2_w 9, 3) := by decide +kernel
theorem dL_view_3 : decode cL_view 3 = .ok (.lstore_n 1, 1) := by decide +kernel
theorem dL_view_4 : decode cL_view 4 = .ok (.iconst 0, 1) := by decide +kernel
theorem dL_view_5 : decode cL_view 5 = .ok (.istore_n 3, 1) := by decide +kernel
theorem dL_view_6 : decode cL_view 6 = .ok (.iload_n 3, 1) := by decide +kernel
theorem dL_view_7 : decode cL_view 7 = .ok (.bipush 23, 2) := by decide +kernel
theorem dL_view_9 : decode cL_view 9 = .ok (.if_icmp .ge 37, 3) := by decide +kernel
theorem dL_view_12 : decode cL_view 12 = .ok (.iload_n 3, 1) := by decide +kernel
theorem dL_view_13 : decode cL_view 13 = .ok (.bipush 8, 2) := by decide +kernel
theorem dL_view_15 : decode cL_view 15 = .ok (.if_icmp .eq 9, 3) := by decide +kernel
theorem dL_view_18 : decode cL_view 18 = .ok (.iload_n 3, 1) := by decide +kernel
theorem dL_view_19 : decode cL_view 19 = .ok (.bipush 9, 2) := by decide +kernel
theorem dL_view_21 : decode cL_view 21 = .ok (.if_icmp .ne 7, 3) := by decide +kernel
theorem dL_view_24 : decode cL_view 24 = .ok (.lload_n 1, 1) := by decide +kernel
theorem dL_view_25 : decode cL_view 25 = .ok (.goto 14, 3) := by decide +kernel
theorem dL_view_28 : decode cL_view 28 = .ok (.ldc2_w 11, 3) := by decide +kernel
theorem dL_view_31 : decode cL_view 31 = .ok (.lload_n 1, 1) := by decide +kernel
theorem dL_view_32 : decode cL_view 32 = .ok (.lmul, 1) := by decide +kernel
theorem dL_view_33 : decode cL_view 33 = .ok (.aload_n 0, 1) := by decide +kernel
theorem dL_view_34 : decode cL_view 34 = .ok (.iload_n 3, 1) := by decide +kernel
theorem dL_view_35 : decode cL_view 35 = .ok (.invokevirtual 13, 3) := by decide +kernel
theorem dL_view_38 : decode cL_view 38 = .ok (.ladd, 1) := by decide +kernel
theorem dL_view_39 : decode cL_view 39 = .ok (.lstore_n 1, 1) := by decide +kernel
theorem dL_view_40 : decode cL_view 40 = .ok (.iinc 3 1, 3) := by decide +kernel
theorem dL_view_43 : decode cL_view 43 = .ok (.goto (-37), 3) := by decide +kernel
theorem dL_view_46 : decode cL_view 46 = .ok (.iconst 0, 1) := by decide +kernel
theorem dL_view_47 : decode cL_view 47 = .ok (.istore_n 3, 1) := by decide +kernel
theorem dL_view_48 : decode cL_view 48 = .ok (.iload_n 3, 1) := by decide +kernel
theorem dL_view_49 : decode cL_view 49 = .ok (.i2l, 1) := by decide +kernel
theorem dL_view_50 : decode cL_view 50 = .ok (.aload_n 0, 1) := by decide +kernel
theorem dL_view_51 : decode cL_view 51 = .ok (.iconst 1, 1) := by decide +kernel
theorem dL_view_52 : decode cL_view 52 = .ok (.invokevirtual 13, 3) := by decide +kernel
theorem dL_view_55 : decode cL_view 55 = .ok (.lcmp, 1) := by decide +kernel
theorem dL_view_56 : decode cL_view 56 = .ok (.ifCond .ge 86, 3) := by decide +kernel
theorem dL_view_59 : decode cL_view 59 = .ok (.iconst 0, 1) := by decide +kernel
theorem dL_view_60 : decode cL_view 60 = .ok (.istore 4, 2) := by decide +kernel
theorem dL_view_62 : decode cL_view 62 = .ok (.iload 4, 2) := by decide +kernel
theorem dL_view_64 : decode cL_view 64 = .ok (.bipush 13, 2) := by decide +kernel
theorem dL_view_66 : decode cL_view 66 = .ok (.if_icmp .ge 24, 3) := by decide +kernel
theorem dL_view_69 : decode cL_view 69 = .ok (.ldc2_w 11, 3) := by decide +kernel
theorem dL_view_72 : decode cL_view 72 = .ok (.lload_n 1, 1) := by decide +kernel
theorem dL_view_73 : decode cL_view 73 = .ok (.lmul, 1) := by decide +kernel
theorem dL_view_74 : decode cL_view 74 = .ok (.aload_n 0, 1) := by decide +kernel
theorem dL_view_75 : decode cL_view 75 = .ok (.iload_n 3, 1) := by decide +kernel
theorem dL_view_76 : decode cL_view 76 = .ok (.iload 4, 2) := by decide +kernel
theorem dL_view_78 : decode cL_view 78 = .ok (.invokevirtual 19, 3) := by decide +kernel
theorem dL_view_81 : decode cL_view 81 = .ok (.i2l, 1) := by decide +kernel
theorem dL_view_82 : decode cL_view 82 = .ok (.ladd, 1) := by decide +kernel
theorem dL_view_83 : decode cL_view 83 = .ok (.lstore_n 1, 1) := by decide +kernel
theorem dL_view_84 : decode cL_view 84 = .ok (.iinc 4 1, 3) := by decide +kernel
theorem dL_view_87 : decode cL_view 87 = .ok (.goto (-25), 3) := by decide +kernel
theorem dL_view_90 : decode cL_view 90 = .ok (.iconst 0, 1) := by decide +kernel
theorem dL_view_91 : decode cL_view 91 = .ok (.istore 4, 2) := by decide +kernel
theorem dL_view_93 : decode cL_view 93 = .ok (.iload 4, 2) := by decide +kernel
theorem dL_view_95 : decode cL_view 95 = .ok (.bipush 12, 2) := by decide +kernel
theorem dL_view_97 : decode cL_view 97 = .ok (.if_icmp .ge 39, 3) := by decide +kernel
theorem dL_view_100 : decode cL_view 100 = .ok (.ldc2_w 11, 3) := by decide +kernel
theorem dL_view_103 : decode cL_view 103 = .ok (.ldc2_w 11, 3) := by decide +kernel
theorem dL_view_106 : decode cL_view 106 = .ok (.lload_n 1, 1) := by decide +kernel
theorem dL_view_107 : decode cL_view 107 = .ok (.lmul, 1) := by decide +kernel
theorem dL_view_108 : decode cL_view 108 = .ok (.aload_n 0, 1) := by decide +kernel
theorem dL_view_109 : decode cL_view 109 = .ok (.iload_n 3, 1) := by decide +kernel
theorem dL_view_110 : decode cL_view 110 = .ok (.iload 4, 2) := by decide +kernel
theorem dL_view_112 : decode cL_view 112 = .ok (.iconst 0, 1) := by decide +kernel
theorem dL_view_113 : decode cL_view 113 = .ok (.invokevirtual 23, 3) := by decide +kernel
theorem dL_view_116 : decode cL_view 116 = .ok (.i2l, 1) := by decide +kernel
theorem dL_view_117 : decode cL_view 117 = .ok (.ladd, 1) := by decide +kernel
theorem dL_view_118 : decode cL_view 118 = .ok (.lmul, 1) := by decide +kernel
theorem dL_view_119 : decode cL_view 119 = .ok (.aload_n 0, 1) := by decide +kernel
theorem dL_view_120 : decode cL_view 120 = .ok (.iload_n 3, 1) := by decide +kernel
theorem dL_view_121 : decode cL_view 121 = .ok (.iload 4, 2) := by decide +kernel
theorem dL_view_123 : decode cL_view 123 = .ok (.iconst 1, 1) := by decide +kernel
theorem dL_view_124 : decode cL_view 124 = .ok (.invokevirtual 23, 3) := by decide +kernel
theorem dL_view_127 : decode cL_view 127 = .ok (.i2l, 1) := by decide +kernel
theorem dL_view_128 : decode cL_view 128 = .ok (.ladd, 1) := by decide +kernel
theorem dL_view_129 : decode cL_view 129 = .ok (.lstore_n 1, 1) := by decide +kernel
theorem dL_view_130 : decode cL_view 130 = .ok (.iinc 4 1, 3) := by decide +kernel
theorem dL_view_133 : decode cL_view 133 = .ok (.goto (-40), 3) := by decide +kernel
theorem dL_view_136 : decode cL_view 136 = .ok (.iinc 3 1, 3) := by decide +kernel
theorem dL_view_139 : decode cL_view 139 = .ok (.goto (-91), 3) := by decide +kernel
theorem dL_view_142 : decode cL_view 142 = .ok (.lload_n 1, 1) := by decide +kernel
theorem dL_view_143 : decode cL_view 143 = .ok (.lreturn, 1) := by decide +kernel
theorem dL_frozen_0 : decode cL_frozen 0 = .ok (.ldc2_w 9, 3) := by decide +kernel
theorem dL_frozen_3 : decode cL_frozen 3 = .ok (.lstore_n 1, 1) := by decide +kernel
theorem dL_frozen_4 : decode cL_frozen 4 = .ok (.iconst 0, 1) := by decide +kernel
theorem dL_frozen_5 : decode cL_frozen 5 = .ok (.istore_n 3, 1) := by decide +kernel
theorem dL_frozen_6 : decode cL_frozen 6 = .ok (.iload_n 3, 1) := by decide +kernel
theorem dL_frozen_7 : decode cL_frozen 7 = .ok (.i2l, 1) := by decide +kernel
theorem dL_frozen_8 : decode cL_frozen 8 = .ok (.aload_n 0, 1) := by decide +kernel
theorem dL_frozen_9 : decode cL_frozen 9 = .ok (.iconst 1, 1) := by decide +kernel
theorem dL_frozen_10 : decode cL_frozen 10 = .ok (.invokevirtual 13, 3) := by decide +kernel
theorem dL_frozen_13 : decode cL_frozen 13 = .ok (.lcmp, 1) := by decide +kernel
theorem dL_frozen_14 : decode cL_frozen 14 = .ok (.ifCond .ge 47, 3) := by decide +kernel
theorem dL_frozen_17 : decode cL_frozen 17 = .ok (.iconst 0, 1) := by decide +kernel
theorem dL_frozen_18 : decode cL_frozen 18 = .ok (.istore 4, 2) := by decide +kernel
theorem dL_frozen_20 : decode cL_frozen 20 = .ok (.iload 4, 2) := by decide +kernel
theorem dL_frozen_22 : decode cL_frozen 22 = .ok (.i2l, 1) := by decide +kernel
theorem dL_frozen_23 : decode cL_frozen 23 = .ok (.aload_n 0, 1) := by decide +kernel
theorem dL_frozen_24 : decode cL_frozen 24 = .ok (.bipush 12, 2) := by decide +kernel
theorem dL_frozen_26 : decode cL_frozen 26 = .ok (.invokevirtual 13, 3) := by decide +kernel
theorem dL_frozen_29 : decode cL_frozen 29 = .ok (.lcmp, 1) := by decide +kernel
theorem dL_frozen_30 : decode cL_frozen 30 = .ok (.ifCond .ge 25, 3) := by decide +kernel
theorem dL_frozen_33 : decode cL_frozen 33 = .ok (.ldc2_w 11, 3) := by decide +kernel
theorem dL_frozen_36 : decode cL_frozen 36 = .ok (.lload_n 1, 1) := by decide +kernel
theorem dL_frozen_37 : decode cL_frozen 37 = .ok (.lmul, 1) := by decide +kernel
theorem dL_frozen_38 : decode cL_frozen 38 = .ok (.aload_n 0, 1) := by decide +kernel
theorem dL_frozen_39 : decode cL_frozen 39 = .ok (.iload_n 3, 1) := by decide +kernel
theorem dL_frozen_40 : decode cL_frozen 40 = .ok (.iload 4, 2) := by decide +kernel
theorem dL_frozen_42 : decode cL_frozen 42 = .ok (.iconst 1, 1) := by decide +kernel
theorem dL_frozen_43 : decode cL_frozen 43 = .ok (.invokevirtual 23, 3) := by decide +kernel
theorem dL_frozen_46 : decode cL_frozen 46 = .ok (.i2l, 1) := by decide +kernel
theorem dL_frozen_47 : decode cL_frozen 47 = .ok (.ladd, 1) := by decide +kernel
theorem dL_frozen_48 : decode cL_frozen 48 = .ok (.lstore_n 1, 1) := by decide +kernel
theorem dL_frozen_49 : decode cL_frozen 49 = .ok (.iinc 4 1, 3) := by decide +kernel
theorem dL_frozen_52 : decode cL_frozen 52 = .ok (.goto (-32), 3) := by decide +kernel
theorem dL_frozen_55 : decode cL_frozen 55 = .ok (.iinc 3 1, 3) := by decide +kernel
theorem dL_frozen_58 : decode cL_frozen 58 = .ok (.goto (-52), 3) := by decide +kernel
theorem dL_frozen_61 : decode cL_frozen 61 = .ok (.lload_n 1, 1) := by decide +kernel
theorem dL_frozen_62 : decode cL_frozen 62 = .ok (.lreturn, 1) := by decide +kernel
theorem dL_any_0 : decode cL_any 0 = .ok (.iload_n 2, 1) := by decide +kernel
theorem dL_any_1 : decode cL_any 1 = .ok (.bipush 7, 2) := by decide +kernel
theorem dL_any_3 : decode cL_any 3 = .ok (.iand, 1) := by decide +kernel
theorem dL_any_4 : decode cL_any 4 = .ok (.tableswitch 97 0 6 #[44, 51, 61, 68, 76, 83, 91], 44) := by decide +kernel
theorem dL_any_48 : decode cL_any 48 = .ok (.aload_n 0, 1) := by decide +kernel
theorem dL_any_49 : decode cL_any 49 = .ok (.iload_n 1, 1) := by decide +kernel
theorem dL_any_50 : decode cL_any 50 = .ok (.iload_n 2, 1) := by decide +kernel
theorem dL_any_51 : decode cL_any 51 = .ok (.invokevirtual 27, 3) := by decide +kernel
theorem dL_any_54 : decode cL_any 54 = .ok (.ireturn, 1) := by decide +kernel
theorem dL_any_55 : decode cL_any 55 = .ok (.aload_n 0, 1) := by decide +kernel
theorem dL_any_56 : decode cL_any 56 = .ok (.iload_n 1, 1) := by decide +kernel
theorem dL_any_57 : decode cL_any 57 = .ok (.iload_n 2, 1) := by decide +kernel
theorem dL_any_58 : decode cL_any 58 = .ok (.iload_n 1, 1) := by decide +kernel
theorem dL_any_59 : decode cL_any 59 = .ok (.iload_n 2, 1) := by decide +kernel
theorem dL_any_60 : decode cL_any 60 = .ok (.iload_n 1, 1) := by decide +kernel
theorem dL_any_61 : decode cL_any 61 = .ok (.invokevirtual 30, 3) := by decide +kernel
theorem dL_any_64 : decode cL_any 64 = .ok (.ireturn, 1) := by decide +kernel
theorem dL_any_65 : decode cL_any 65 = .ok (.aload_n 0, 1) := by decide +kernel
theorem dL_any_66 : decode cL_any 66 = .ok (.iload_n 1, 1) := by decide +kernel
theorem dL_any_67 : decode cL_any 67 = .ok (.iload_n 2, 1) := by decide +kernel
theorem dL_any_68 : decode cL_any 68 = .ok (.invokevirtual 34, 3) := by decide +kernel
theorem dL_any_71 : decode cL_any 71 = .ok (.ireturn, 1) := by decide +kernel
theorem dL_any_72 : decode cL_any 72 = .ok (.aload_n 0, 1) := by decide +kernel
theorem dL_any_73 : decode cL_any 73 = .ok (.iload_n 1, 1) := by decide +kernel
theorem dL_any_74 : decode cL_any 74 = .ok (.iload_n 2, 1) := by decide +kernel
theorem dL_any_75 : decode cL_any 75 = .ok (.iload_n 1, 1) := by decide +kernel
theorem dL_any_76 : decode cL_any 76 = .ok (.invokevirtual 37, 3) := by decide +kernel
theorem dL_any_79 : decode cL_any 79 = .ok (.ireturn, 1) := by decide +kernel
theorem dL_any_80 : decode cL_any 80 = .ok (.aload_n 0, 1) := by decide +kernel
theorem dL_any_81 : decode cL_any 81 = .ok (.iload_n 1, 1) := by decide +kernel
theorem dL_any_82 : decode cL_any 82 = .ok (.iload_n 2, 1) := by decide +kernel
theorem dL_any_83 : decode cL_any 83 = .ok (.invokevirtual 40, 3) := by decide +kernel
theorem dL_any_86 : decode cL_any 86 = .ok (.ireturn, 1) := by decide +kernel
theorem dL_any_87 : decode cL_any 87 = .ok (.aload_n 0, 1) := by decide +kernel
theorem dL_any_88 : decode cL_any 88 = .ok (.iload_n 1, 1) := by decide +kernel
theorem dL_any_89 : decode cL_any 89 = .ok (.iload_n 2, 1) := by decide +kernel
theorem dL_any_90 : decode cL_any 90 = .ok (.iload_n 1, 1) := by decide +kernel
theorem dL_any_91 : decode cL_any 91 = .ok (.invokevirtual 43, 3) := by decide +kernel
theorem dL_any_94 : decode cL_any 94 = .ok (.ireturn, 1) := by decide +kernel
theorem dL_any_95 : decode cL_any 95 = .ok (.aload_n 0, 1) := by decide +kernel
theorem dL_any_96 : decode cL_any 96 = .ok (.iload_n 1, 1) := by decide +kernel
theorem dL_any_97 : decode cL_any 97 = .ok (.invokevirtual 46, 3) := by decide +kernel
theorem dL_any_100 : decode cL_any 100 = .ok (.ireturn, 1) := by decide +kernel
theorem dL_any_101 : decode cL_any 101 = .ok (.aload_n 0, 1) := by decide +kernel
theorem dL_any_102 : decode cL_any 102 = .ok (.iload_n 1, 1) := by decide +kernel
theorem dL_any_103 : decode cL_any 103 = .ok (.invokevirtual 50, 3) := by decide +kernel
theorem dL_any_106 : decode cL_any 106 = .ok (.ireturn, 1) := by decide +kernel
theorem dL_sets_0 : decode cL_sets 0 = .ok (.iload_n 1, 1) := by decide +kernel
theorem dL_sets_1 : decode cL_sets 1 = .ok (.bipush 9, 2) := by decide +kernel
theorem dL_sets_3 : decode cL_sets 3 = .ok (.invokestatic 53, 3) := by decide +kernel
theorem dL_sets_6 : decode cL_sets 6 = .ok (.istore_n 3, 1) := by decide +kernel
theorem dL_sets_7 : decode cL_sets 7 = .ok (.iload_n 3, 1) := by decide +kernel
theorem dL_sets_8 : decode cL_sets 8 = .ok (.ifCond .eq 8, 3) := by decide +kernel
theorem dL_sets_11 : decode cL_sets 11 = .ok (.iload_n 3, 1) := by decide +kernel
theorem dL_sets_12 : decode cL_sets 12 = .ok (.iconst 5, 1) := by decide +kernel
theorem dL_sets_13 : decode cL_sets 13 = .ok (.if_icmp .ne 9, 3) := by decide +kernel
theorem dL_sets_16 : decode cL_sets 16 = .ok (.sipush 300, 3) := by decide +kernel
theorem dL_sets_19 : decode cL_sets 19 = .ok (.goto 36, 3) := by decide +kernel
theorem dL_sets_22 : decode cL_sets 22 = .ok (.iload_n 3, 1) := by decide +kernel
theorem dL_sets_23 : decode cL_sets 23 = .ok (.iconst 2, 1) := by decide +kernel
theorem dL_sets_24 : decode cL_sets 24 = .ok (.if_icmp .ne 8, 3) := by decide +kernel
theorem dL_sets_27 : decode cL_sets 27 = .ok (.bipush 9, 2) := by decide +kernel
theorem dL_sets_29 : decode cL_sets 29 = .ok (.goto 26, 3) := by decide +kernel
theorem dL_sets_32 : decode cL_sets 32 = .ok (.iload_n 3, 1) := by decide +kernel
theorem dL_sets_33 : decode cL_sets 33 = .ok (.iconst 3, 1) := by decide +kernel
theorem dL_sets_34 : decode cL_sets 34 = .ok (.if_icmp .ne 8, 3) := by decide +kernel
theorem dL_sets_37 : decode cL_sets 37 = .ok (.bipush 7, 2) := by decide +kernel
theorem dL_sets_39 : decode cL_sets 39 = .ok (.goto 16, 3) := by decide +kernel
theorem dL_sets_42 : decode cL_sets 42 = .ok (.iload_n 3, 1) := by decide +kernel
theorem dL_sets_43 : decode cL_sets 43 = .ok (.iconst 4, 1) := by decide +kernel
theorem dL_sets_44 : decode cL_sets 44 = .ok (.if_icmp .ne 9, 3) := by decide +kernel
theorem dL_sets_47 : decode cL_sets 47 = .ok (.sipush 401, 3) := by decide +kernel
theorem dL_sets_50 : decode cL_sets 50 = .ok (.goto 5, 3) := by decide +kernel
theorem dL_sets_53 : decode cL_sets 53 = .ok (.bipush 101, 2) := by decide +kernel
theorem dL_sets_55 : decode cL_sets 55 = .ok (.istore 4, 2) := by decide +kernel
theorem dL_sets_57 : decode cL_sets 57 = .ok (.aload_n 0, 1) := by decide +kernel
theorem dL_sets_58 : decode cL_sets 58 = .ok (.iload_n 3, 1) := by decide +kernel
theorem dL_sets_59 : decode cL_sets 59 = .ok (.iload_n 2, 1) := by decide +kernel
theorem dL_sets_60 : decode cL_sets 60 = .ok (.iload 4, 2) := by decide +kernel
theorem dL_sets_62 : decode cL_sets 62 = .ok (.invokestatic 53, 3) := by decide +kernel
theorem dL_sets_65 : decode cL_sets 65 = .ok (.invokevirtual 27, 3) := by decide +kernel
theorem dL_sets_68 : decode cL_sets 68 = .ok (.ireturn, 1) := by decide +kernel
theorem dL_turn_0 : decode cL_turn 0 = .ok (.iload_n 2, 1) := by decide +kernel
theorem dL_turn_1 : decode cL_turn 1 = .ok (.iconst 5, 1) := by decide +kernel
theorem dL_turn_2 : decode cL_turn 2 = .ok (.invokestatic 53, 3) := by decide +kernel
theorem dL_turn_5 : decode cL_turn 5 = .ok (.istore 4, 2) := by decide +kernel
theorem dL_turn_7 : decode cL_turn 7 = .ok (.iload_n 1, 1) := by decide +kernel
theorem dL_turn_8 : decode cL_turn 8 = .ok (.tableswitch 250 0 13 #[72, 72, 118, 125, 141, 141, 141, 163, 189, 189, 221, 221, 226, 226], 72) := by decide +kernel
theorem dL_turn_80 : decode cL_turn 80 = .ok (.aload_n 0, 1) := by decide +kernel
theorem dL_turn_81 : decode cL_turn 81 = .ok (.iload_n 2, 1) := by decide +kernel
theorem dL_turn_82 : decode cL_turn 82 = .ok (.iconst 4, 1) := by decide +kernel
theorem dL_turn_83 : decode cL_turn 83 = .ok (.invokestatic 53, 3) := by decide +kernel
theorem dL_turn_86 : decode cL_turn 86 = .ok (.iconst 1, 1) := by decide +kernel
theorem dL_turn_87 : decode cL_turn 87 = .ok (.iload_n 2, 1) := by decide +kernel
theorem dL_turn_88 : decode cL_turn 88 = .ok (.iconst 2, 1) := by decide +kernel
theorem dL_turn_89 : decode cL_turn 89 = .ok (.ishr, 1) := by decide +kernel
theorem dL_turn_90 : decode cL_turn 90 = .ok (.bipush 40, 2) := by decide +kernel
theorem dL_turn_92 : decode cL_turn 92 = .ok (.invokestatic 53, 3) := by decide +kernel
theorem dL_turn_95 : decode cL_turn 95 = .ok (.iadd, 1) := by decide +kernel
theorem dL_turn_96 : decode cL_turn 96 = .ok (.iconst 1, 1) := by decide +kernel
theorem dL_turn_97 : decode cL_turn 97 = .ok (.iload_n 3, 1) := by decide +kernel
theorem dL_turn_98 : decode cL_turn 98 = .ok (.bipush 12, 2) := by decide +kernel
theorem dL_turn_100 : decode cL_turn 100 = .ok (.invokestatic 53, 3) := by decide +kernel
theorem dL_turn_103 : decode cL_turn 103 = .ok (.iadd, 1) := by decide +kernel
theorem dL_turn_104 : decode cL_turn 104 = .ok (.iload_n 3, 1) := by decide +kernel
theorem dL_turn_105 : decode cL_turn 105 = .ok (.iconst 4, 1) := by decide +kernel
theorem dL_turn_106 : decode cL_turn 106 = .ok (.ishr, 1) := by decide +kernel
theorem dL_turn_107 : decode cL_turn 107 = .ok (.bipush 21, 2) := by decide +kernel
theorem dL_turn_109 : decode cL_turn 109 = .ok (.invokestatic 53, 3) := by decide +kernel
theorem dL_turn_112 : decode cL_turn 112 = .ok (.iload_n 3, 1) := by decide +kernel
theorem dL_turn_113 : decode cL_turn 113 = .ok (.bipush 8, 2) := by decide +kernel
theorem dL_turn_115 : decode cL_turn 115 = .ok (.ishr, 1) := by decide +kernel
theorem dL_turn_116 : decode cL_turn 116 = .ok (.sipush 300, 3) := by decide +kernel
theorem dL_turn_119 : decode cL_turn 119 = .ok (.invokestatic 53, 3) := by decide +kernel
theorem dL_turn_122 : decode cL_turn 122 = .ok (.invokevirtual 30, 3) := by decide +kernel
theorem dL_turn_125 : decode cL_turn 125 = .ok (.ireturn, 1) := by decide +kernel
theorem dL_turn_126 : decode cL_turn 126 = .ok (.aload_n 0, 1) := by decide +kernel
theorem dL_turn_127 : decode cL_turn 127 = .ok (.iload_n 2, 1) := by decide +kernel
theorem dL_turn_128 : decode cL_turn 128 = .ok (.iload_n 3, 1) := by decide +kernel
theorem dL_turn_129 : decode cL_turn 129 = .ok (.invokestatic 58, 3) := by decide +kernel
theorem dL_turn_132 : decode cL_turn 132 = .ok (.ireturn, 1) := by decide +kernel
theorem dL_turn_133 : decode cL_turn 133 = .ok (.aload_n 0, 1) := by decide +kernel
theorem dL_turn_134 : decode cL_turn 134 = .ok (.iload_n 2, 1) := by decide +kernel
theorem dL_turn_135 : decode cL_turn 135 = .ok (.iconst 4, 1) := by decide +kernel
theorem dL_turn_136 : decode cL_turn 136 = .ok (.invokestatic 53, 3) := by decide +kernel
theorem dL_turn_139 : decode cL_turn 139 = .ok (.iload_n 3, 1) := by decide +kernel
theorem dL_turn_140 : decode cL_turn 140 = .ok (.bipush 51, 2) := by decide +kernel
theorem dL_turn_142 : decode cL_turn 142 = .ok (.invokestatic 53, 3) := by decide +kernel
theorem dL_turn_145 : decode cL_turn 145 = .ok (.invokevirtual 34, 3) := by decide +kernel
theorem dL_turn_148 : decode cL_turn 148 = .ok (.ireturn, 1) := by decide +kernel
theorem dL_turn_149 : decode cL_turn 149 = .ok (.aload_n 0, 1) := by decide +kernel
theorem dL_turn_150 : decode cL_turn 150 = .ok (.iload 4, 2) := by decide +kernel
theorem dL_turn_152 : decode cL_turn 152 = .ok (.iload_n 2, 1) := by decide +kernel
theorem dL_turn_153 : decode cL_turn 153 = .ok (.iconst 4, 1) := by decide +kernel
theorem dL_turn_154 : decode cL_turn 154 = .ok (.ishr, 1) := by decide +kernel
theorem dL_turn_155 : decode cL_turn 155 = .ok (.bipush 12, 2) := by decide +kernel
theorem dL_turn_157 : decode cL_turn 157 = .ok (.invokestatic 53, 3) := by decide +kernel
theorem dL_turn_160 : decode cL_turn 160 = .ok (.iload_n 3, 1) := by decide +kernel
theorem dL_turn_161 : decode cL_turn 161 = .ok (.sipush 200, 3) := by decide +kernel
theorem dL_turn_164 : decode cL_turn 164 = .ok (.invokestatic 53, 3) := by decide +kernel
theorem dL_turn_167 : decode cL_turn 167 = .ok (.invokevirtual 37, 3) := by decide +kernel
theorem dL_turn_170 : decode cL_turn 170 = .ok (.ireturn, 1) := by decide +kernel
theorem dL_turn_171 : decode cL_turn 171 = .ok (.aload_n 0, 1) := by decide +kernel
theorem dL_turn_172 : decode cL_turn 172 = .ok (.iload 4, 2) := by decide +kernel
theorem dL_turn_174 : decode cL_turn 174 = .ok (.iload_n 2, 1) := by decide +kernel
theorem dL_turn_175 : decode cL_turn 175 = .ok (.bipush 64, 2) := by decide +kernel
theorem dL_turn_177 : decode cL_turn 177 = .ok (.iand, 1) := by decide +kernel
theorem dL_turn_178 : decode cL_turn 178 = .ok (.ifCond .ne 13, 3) := by decide +kernel
theorem dL_turn_181 : decode cL_turn 181 = .ok (.iload_n 3, 1) := by decide +kernel
theorem dL_turn_182 : decode cL_turn 182 = .ok (.sipush 400, 3) := by decide +kernel
theorem dL_turn_185 : decode cL_turn 185 = .ok (.invokestatic 53, 3) := by decide +kernel
theorem dL_turn_188 : decode cL_turn 188 = .ok (.goto 5, 3) := by decide +kernel
theorem dL_turn_191 : decode cL_turn 191 = .ok (.bipush (-6), 2) := by decide +kernel
theorem dL_turn_193 : decode cL_turn 193 = .ok (.invokevirtual 40, 3) := by decide +kernel
theorem dL_turn_196 : decode cL_turn 196 = .ok (.ireturn, 1) := by decide +kernel
theorem dL_turn_197 : decode cL_turn 197 = .ok (.aload_n 0, 1) := by decide +kernel
theorem dL_turn_198 : decode cL_turn 198 = .ok (.iload 4, 2) := by decide +kernel
theorem dL_turn_200 : decode cL_turn 200 = .ok (.iload_n 2, 1) := by decide +kernel
theorem dL_turn_201 : decode cL_turn 201 = .ok (.iconst 4, 1) := by decide +kernel
theorem dL_turn_202 : decode cL_turn 202 = .ok (.ishr, 1) := by decide +kernel
theorem dL_turn_203 : decode cL_turn 203 = .ok (.bipush 12, 2) := by decide +kernel
theorem dL_turn_205 : decode cL_turn 205 = .ok (.invokestatic 53, 3) := by decide +kernel
theorem dL_turn_208 : decode cL_turn 208 = .ok (.iload_n 3, 1) := by decide +kernel
theorem dL_turn_209 : decode cL_turn 209 = .ok (.iload_n 2, 1) := by decide +kernel
theorem dL_turn_210 : decode cL_turn 210 = .ok (.bipush 64, 2) := by decide +kernel
theorem dL_turn_212 : decode cL_turn 212 = .ok (.iand, 1) := by decide +kernel
theorem dL_turn_213 : decode cL_turn 213 = .ok (.ifCond .ne 7, 3) := by decide +kernel
theorem dL_turn_216 : decode cL_turn 216 = .ok (.iconst 5, 1) := by decide +kernel
theorem dL_turn_217 : decode cL_turn 217 = .ok (.goto 5, 3) := by decide +kernel
theorem dL_turn_220 : decode cL_turn 220 = .ok (.bipush 60, 2) := by decide +kernel
theorem dL_turn_222 : decode cL_turn 222 = .ok (.invokestatic 53, 3) := by decide +kernel
theorem dL_turn_225 : decode cL_turn 225 = .ok (.invokevirtual 43, 3) := by decide +kernel
theorem dL_turn_228 : decode cL_turn 228 = .ok (.ireturn, 1) := by decide +kernel
theorem dL_turn_229 : decode cL_turn 229 = .ok (.aload_n 0, 1) := by decide +kernel
theorem dL_turn_230 : decode cL_turn 230 = .ok (.invokevirtual 62, 3) := by decide +kernel
theorem dL_turn_233 : decode cL_turn 233 = .ok (.ireturn, 1) := by decide +kernel
theorem dL_turn_234 : decode cL_turn 234 = .ok (.aload_n 0, 1) := by decide +kernel
theorem dL_turn_235 : decode cL_turn 235 = .ok (.iconst 1, 1) := by decide +kernel
theorem dL_turn_236 : decode cL_turn 236 = .ok (.iload_n 3, 1) := by decide +kernel
theorem dL_turn_237 : decode cL_turn 237 = .ok (.iload_n 2, 1) := by decide +kernel
theorem dL_turn_238 : decode cL_turn 238 = .ok (.bipush 7, 2) := by decide +kernel
theorem dL_turn_240 : decode cL_turn 240 = .ok (.iand, 1) := by decide +kernel
theorem dL_turn_241 : decode cL_turn 241 = .ok (.ifCond .ne 8, 3) := by decide +kernel
theorem dL_turn_244 : decode cL_turn 244 = .ok (.bipush 12, 2) := by decide +kernel
theorem dL_turn_246 : decode cL_turn 246 = .ok (.goto 4, 3) := by decide +kernel
theorem dL_turn_249 : decode cL_turn 249 = .ok (.iconst 2, 1) := by decide +kernel
theorem dL_turn_250 : decode cL_turn 250 = .ok (.invokestatic 53, 3) := by decide +kernel
theorem dL_turn_253 : decode cL_turn 253 = .ok (.iadd, 1) := by decide +kernel
theorem dL_turn_254 : decode cL_turn 254 = .ok (.invokevirtual 46, 3) := by decide +kernel
theorem dL_turn_257 : decode cL_turn 257 = .ok (.ireturn, 1) := by decide +kernel
theorem dL_turn_258 : decode cL_turn 258 = .ok (.aload_n 0, 1) := by decide +kernel
theorem dL_turn_259 : decode cL_turn 259 = .ok (.iload_n 2, 1) := by decide +kernel
theorem dL_turn_260 : decode cL_turn 260 = .ok (.iload_n 3, 1) := by decide +kernel
theorem dL_turn_261 : decode cL_turn 261 = .ok (.invokestatic 66, 3) := by decide +kernel
theorem dL_turn_264 : decode cL_turn 264 = .ok (.ireturn, 1) := by decide +kernel
theorem dL_isWeeks_0 : decode cL_isWeeks 0 = .ok (.iload_n 0, 1) := by decide +kernel
theorem dL_isWeeks_1 : decode cL_isWeeks 1 = .ok (.bipush 12, 2) := by decide +kernel
theorem dL_isWeeks_3 : decode cL_isWeeks 3 = .ok (.if_icmp .eq 23, 3) := by decide +kernel
theorem dL_isWeeks_6 : decode cL_isWeeks 6 = .ok (.iload_n 0, 1) := by decide +kernel
theorem dL_isWeeks_7 : decode cL_isWeeks 7 = .ok (.bipush 13, 2) := by decide +kernel
theorem dL_isWeeks_9 : decode cL_isWeeks 9 = .ok (.if_icmp .eq 17, 3) := by decide +kernel
theorem dL_isWeeks_12 : decode cL_isWeeks 12 = .ok (.iload_n 0, 1) := by decide +kernel
theorem dL_isWeeks_13 : decode cL_isWeeks 13 = .ok (.bipush 13, 2) := by decide +kernel
theorem dL_isWeeks_15 : decode cL_isWeeks 15 = .ok (.if_icmp .le 15, 3) := by decide +kernel
theorem dL_isWeeks_18 : decode cL_isWeeks 18 = .ok (.iload_n 1, 1) := by decide +kernel
theorem dL_isWeeks_19 : decode cL_isWeeks 19 = .ok (.bipush 7, 2) := by decide +kernel
theorem dL_isWeeks_21 : decode cL_isWeeks 21 = .ok (.iand, 1) := by decide +kernel
theorem dL_isWeeks_22 : decode cL_isWeeks 22 = .ok (.iconst 5, 1) := by decide +kernel
theorem dL_isWeeks_23 : decode cL_isWeeks 23 = .ok (.if_icmp .le 7, 3) := by decide +kernel
theorem dL_isWeeks_26 : decode cL_isWeeks 26 = .ok (.iconst 1, 1) := by decide +kernel
theorem dL_isWeeks_27 : decode cL_isWeeks 27 = .ok (.goto 4, 3) := by decide +kernel
theorem dL_isWeeks_30 : decode cL_isWeeks 30 = .ok (.iconst 0, 1) := by decide +kernel
theorem dL_isWeeks_31 : decode cL_isWeeks 31 = .ok (.ireturn, 1) := by decide +kernel
theorem dL_areRight_0 : decode cL_areRight 0 = .ok (.iconst 1, 1) := by decide +kernel
theorem dL_areRight_1 : decode cL_areRight 1 = .ok (.istore_n 1, 1) := by decide +kernel
theorem dL_areRight_2 : decode cL_areRight 2 = .ok (.lconst 0, 1) := by decide +kernel
theorem dL_areRight_3 : decode cL_areRight 3 = .ok (.lstore_n 2, 1) := by decide +kernel
theorem dL_areRight_4 : decode cL_areRight 4 = .ok (.lconst 0, 1) := by decide +kernel
theorem dL_areRight_5 : decode cL_areRight 5 = .ok (.lstore 4, 2) := by decide +kernel
theorem dL_areRight_7 : decode cL_areRight 7 = .ok (.iconst 0, 1) := by decide +kernel
theorem dL_areRight_8 : decode cL_areRight 8 = .ok (.istore 6, 2) := by decide +kernel
theorem dL_areRight_10 : decode cL_areRight 10 = .ok (.iload 6, 2) := by decide +kernel
theorem dL_areRight_12 : decode cL_areRight 12 = .ok (.i2l, 1) := by decide +kernel
theorem dL_areRight_13 : decode cL_areRight 13 = .ok (.aload_n 0, 1) := by decide +kernel
theorem dL_areRight_14 : decode cL_areRight 14 = .ok (.iconst 1, 1) := by decide +kernel
theorem dL_areRight_15 : decode cL_areRight 15 = .ok (.invokevirtual 13, 3) := by decide +kernel
theorem dL_areRight_18 : decode cL_areRight 18 = .ok (.lcmp, 1) := by decide +kernel
theorem dL_areRight_19 : decode cL_areRight 19 = .ok (.ifCond .ge 176, 3) := by decide +kernel
theorem dL_areRight_22 : decode cL_areRight 22 = .ok (.iload_n 1, 1) := by decide +kernel
theorem dL_areRight_23 : decode cL_areRight 23 = .ok (.ifCond .eq 172, 3) := by decide +kernel
theorem dL_areRight_26 : decode cL_areRight 26 = .ok (.aload_n 0, 1) := by decide +kernel
theorem dL_areRight_27 : decode cL_areRight 27 = .ok (.iload 6, 2) := by decide +kernel
theorem dL_areRight_29 : decode cL_areRight 29 = .ok (.iconst 4, 1) := by decide +kernel
theorem dL_areRight_30 : decode cL_areRight 30 = .ok (.invokevirtual 19, 3) := by decide +kernel
theorem dL_areRight_33 : decode cL_areRight 33 = .ok (.istore 7, 2) := by decide +kernel
theorem dL_areRight_35 : decode cL_areRight 35 = .ok (.aload_n 0, 1) := by decide +kernel
theorem dL_areRight_36 : decode cL_areRight 36 = .ok (.iload 6, 2) := by decide +kernel
theorem dL_areRight_38 : decode cL_areRight 38 = .ok (.iconst 5, 1) := by decide +kernel
theorem dL_areRight_39 : decode cL_areRight 39 = .ok (.invokevirtual 19, 3) := by decide +kernel
theorem dL_areRight_42 : decode cL_areRight 42 = .ok (.istore 8, 2) := by decide +kernel
theorem dL_areRight_44 : decode cL_areRight 44 = .ok (.iload 7, 2) := by decide +kernel
theorem dL_areRight_46 : decode cL_areRight 46 = .ok (.ifCond .lt 22, 3) := by decide +kernel
theorem dL_areRight_49 : decode cL_areRight 49 = .ok (.iload 8, 2) := by decide +kernel
theorem dL_areRight_51 : decode cL_areRight 51 = .ok (.ifCond .lt 17, 3) := by decide +kernel
theorem dL_areRight_54 : decode cL_areRight 54 = .ok (.iload 7, 2) := by decide +kernel
theorem dL_areRight_56 : decode cL_areRight 56 = .ok (.ifCond .eq 8, 3) := by decide +kernel
theorem dL_areRight_59 : decode cL_areRight 59 = .ok (.iload 8, 2) := by decide +kernel
theorem dL_areRight_61 : decode cL_areRight 61 = .ok (.ifCond .ne 7, 3) := by decide +kernel
theorem dL_areRight_64 : decode cL_areRight 64 = .ok (.iconst 1, 1) := by decide +kernel
theorem dL_areRight_65 : decode cL_areRight 65 = .ok (.goto 4, 3) := by decide +kernel
theorem dL_areRight_68 : decode cL_areRight 68 = .ok (.iconst 0, 1) := by decide +kernel
theorem dL_areRight_69 : decode cL_areRight 69 = .ok (.istore_n 1, 1) := by decide +kernel
theorem dL_areRight_70 : decode cL_areRight 70 = .ok (.iload_n 1, 1) := by decide +kernel
theorem dL_areRight_71 : decode cL_areRight 71 = .ok (.ifCond .eq 60, 3) := by decide +kernel
theorem dL_areRight_74 : decode cL_areRight 74 = .ok (.iload 7, 2) := by decide +kernel
theorem dL_areRight_76 : decode cL_areRight 76 = .ok (.aload_n 0, 1) := by decide +kernel
theorem dL_areRight_77 : decode cL_areRight 77 = .ok (.iload 6, 2) := by decide +kernel
theorem dL_areRight_79 : decode cL_areRight 79 = .ok (.bipush 12, 2) := by decide +kernel
theorem dL_areRight_81 : decode cL_areRight 81 = .ok (.invokevirtual 19, 3) := by decide +kernel
theorem dL_areRight_84 : decode cL_areRight 84 = .ok (.aload_n 0, 1) := by decide +kernel
theorem dL_areRight_85 : decode cL_areRight 85 = .ok (.iload 6, 2) := by decide +kernel
theorem dL_areRight_87 : decode cL_areRight 87 = .ok (.bipush 9, 2) := by decide +kernel
theorem dL_areRight_89 : decode cL_areRight 89 = .ok (.invokevirtual 19, 3) := by decide +kernel
theorem dL_areRight_92 : decode cL_areRight 92 = .ok (.iadd, 1) := by decide +kernel
theorem dL_areRight_93 : decode cL_areRight 93 = .ok (.aload_n 0, 1) := by decide +kernel
theorem dL_areRight_94 : decode cL_areRight 94 = .ok (.iload 6, 2) := by decide +kernel
theorem dL_areRight_96 : decode cL_areRight 96 = .ok (.bipush 10, 2) := by decide +kernel
theorem dL_areRight_98 : decode cL_areRight 98 = .ok (.invokevirtual 19, 3) := by decide +kernel
theorem dL_areRight_101 : decode cL_areRight 101 = .ok (.isub, 1) := by decide +kernel
theorem dL_areRight_102 : decode cL_areRight 102 = .ok (.if_icmp .ne 29, 3) := by decide +kernel
theorem dL_areRight_105 : decode cL_areRight 105 = .ok (.iload 8, 2) := by decide +kernel
theorem dL_areRight_107 : decode cL_areRight 107 = .ok (.aload_n 0, 1) := by decide +kernel
theorem dL_areRight_108 : decode cL_areRight 108 = .ok (.iload 6, 2) := by decide +kernel
theorem dL_areRight_110 : decode cL_areRight 110 = .ok (.bipush 11, 2) := by decide +kernel
theorem dL_areRight_112 : decode cL_areRight 112 = .ok (.invokevirtual 19, 3) := by decide +kernel
theorem dL_areRight_115 : decode cL_areRight 115 = .ok (.aload_n 0, 1) := by decide +kernel
theorem dL_areRight_116 : decode cL_areRight 116 = .ok (.iload 6, 2) := by decide +kernel
theorem dL_areRight_118 : decode cL_areRight 118 = .ok (.bipush 10, 2) := by decide +kernel
theorem dL_areRight_120 : decode cL_areRight 120 = .ok (.invokevirtual 19, 3) := by decide +kernel
theorem dL_areRight_123 : decode cL_areRight 123 = .ok (.isub, 1) := by decide +kernel
theorem dL_areRight_124 : decode cL_areRight 124 = .ok (.if_icmp .ne 7, 3) := by decide +kernel
theorem dL_areRight_127 : decode cL_areRight 127 = .ok (.iconst 1, 1) := by decide +kernel
theorem dL_areRight_128 : decode cL_areRight 128 = .ok (.goto 4, 3) := by decide +kernel
theorem dL_areRight_131 : decode cL_areRight 131 = .ok (.iconst 0, 1) := by decide +kernel
theorem dL_areRight_132 : decode cL_areRight 132 = .ok (.istore_n 1, 1) := by decide +kernel
theorem dL_areRight_133 : decode cL_areRight 133 = .ok (.iload_n 1, 1) := by decide +kernel
theorem dL_areRight_134 : decode cL_areRight 134 = .ok (.ifCond .eq 39, 3) := by decide +kernel
theorem dL_areRight_137 : decode cL_areRight 137 = .ok (.aload_n 0, 1) := by decide +kernel
theorem dL_areRight_138 : decode cL_areRight 138 = .ok (.iload 6, 2) := by decide +kernel
theorem dL_areRight_140 : decode cL_areRight 140 = .ok (.bipush 7, 2) := by decide +kernel
theorem dL_areRight_142 : decode cL_areRight 142 = .ok (.invokevirtual 19, 3) := by decide +kernel
theorem dL_areRight_145 : decode cL_areRight 145 = .ok (.aload_n 0, 1) := by decide +kernel
theorem dL_areRight_146 : decode cL_areRight 146 = .ok (.iload 6, 2) := by decide +kernel
theorem dL_areRight_148 : decode cL_areRight 148 = .ok (.bipush 6, 2) := by decide +kernel
theorem dL_areRight_150 : decode cL_areRight 150 = .ok (.invokevirtual 19, 3) := by decide +kernel
theorem dL_areRight_153 : decode cL_areRight 153 = .ok (.i2l, 1) := by decide +kernel
theorem dL_areRight_154 : decode cL_areRight 154 = .ok (.aload_n 0, 1) := by decide +kernel
theorem dL_areRight_155 : decode cL_areRight 155 = .ok (.bipush 14, 2) := by decide +kernel
theorem dL_areRight_157 : decode cL_areRight 157 = .ok (.invokevirtual 13, 3) := by decide +kernel
theorem dL_areRight_160 : decode cL_areRight 160 = .ok (.lmul, 1) := by decide +kernel
theorem dL_areRight_161 : decode cL_areRight 161 = .ok (.ldc2_w 69, 3) := by decide +kernel
theorem dL_areRight_164 : decode cL_areRight 164 = .ok (.ldiv, 1) := by decide +kernel
theorem dL_areRight_165 : decode cL_areRight 165 = .ok (.l2i, 1) := by decide +kernel
theorem dL_areRight_166 : decode cL_areRight 166 = .ok (.if_icmp .ne 7, 3) := by decide +kernel
theorem dL_areRight_169 : decode cL_areRight 169 = .ok (.iconst 1, 1) := by decide +kernel
theorem dL_areRight_170 : decode cL_areRight 170 = .ok (.goto 4, 3) := by decide +kernel
theorem dL_areRight_173 : decode cL_areRight 173 = .ok (.iconst 0, 1) := by decide +kernel
theorem dL_areRight_174 : decode cL_areRight 174 = .ok (.istore_n 1, 1) := by decide +kernel
theorem dL_areRight_175 : decode cL_areRight 175 = .ok (.lload_n 2, 1) := by decide +kernel
theorem dL_areRight_176 : decode cL_areRight 176 = .ok (.iload 7, 2) := by decide +kernel
theorem dL_areRight_178 : decode cL_areRight 178 = .ok (.i2l, 1) := by decide +kernel
theorem dL_areRight_179 : decode cL_areRight 179 = .ok (.ladd, 1) := by decide +kernel
theorem dL_areRight_180 : decode cL_areRight 180 = .ok (.lstore_n 2, 1) := by decide +kernel
theorem dL_areRight_181 : decode cL_areRight 181 = .ok (.lload 4, 2) := by decide +kernel
theorem dL_areRight_183 : decode cL_areRight 183 = .ok (.iload 8, 2) := by decide +kernel
theorem dL_areRight_185 : decode cL_areRight 185 = .ok (.i2l, 1) := by decide +kernel
theorem dL_areRight_186 : decode cL_areRight 186 = .ok (.ladd, 1) := by decide +kernel
theorem dL_areRight_187 : decode cL_areRight 187 = .ok (.lstore 4, 2) := by decide +kernel
theorem dL_areRight_189 : decode cL_areRight 189 = .ok (.iinc 6 1, 3) := by decide +kernel
theorem dL_areRight_192 : decode cL_areRight 192 = .ok (.goto (-182), 3) := by decide +kernel
theorem dL_areRight_195 : decode cL_areRight 195 = .ok (.iload_n 1, 1) := by decide +kernel
theorem dL_areRight_196 : decode cL_areRight 196 = .ok (.ifCond .eq 30, 3) := by decide +kernel
theorem dL_areRight_199 : decode cL_areRight 199 = .ok (.lload_n 2, 1) := by decide +kernel
theorem dL_areRight_200 : decode cL_areRight 200 = .ok (.aload_n 0, 1) := by decide +kernel
theorem dL_areRight_201 : decode cL_areRight 201 = .ok (.bipush 6, 2) := by decide +kernel
theorem dL_areRight_203 : decode cL_areRight 203 = .ok (.invokevirtual 13, 3) := by decide +kernel
theorem dL_areRight_206 : decode cL_areRight 206 = .ok (.lcmp, 1) := by decide +kernel
theorem dL_areRight_207 : decode cL_areRight 207 = .ok (.ifCond .ne 19, 3) := by decide +kernel
theorem dL_areRight_210 : decode cL_areRight 210 = .ok (.lload 4, 2) := by decide +kernel
theorem dL_areRight_212 : decode cL_areRight 212 = .ok (.aload_n 0, 1) := by decide +kernel
theorem dL_areRight_213 : decode cL_areRight 213 = .ok (.bipush 7, 2) := by decide +kernel
theorem dL_areRight_215 : decode cL_areRight 215 = .ok (.invokevirtual 13, 3) := by decide +kernel
theorem dL_areRight_218 : decode cL_areRight 218 = .ok (.lcmp, 1) := by decide +kernel
theorem dL_areRight_219 : decode cL_areRight 219 = .ok (.ifCond .ne 7, 3) := by decide +kernel
theorem dL_areRight_222 : decode cL_areRight 222 = .ok (.iconst 1, 1) := by decide +kernel
theorem dL_areRight_223 : decode cL_areRight 223 = .ok (.goto 4, 3) := by decide +kernel
theorem dL_areRight_226 : decode cL_areRight 226 = .ok (.iconst 0, 1) := by decide +kernel
theorem dL_areRight_227 : decode cL_areRight 227 = .ok (.ireturn, 1) := by decide +kernel
theorem dL_isUndone_0 : decode cL_isUndone 0 = .ok (.aload_n 0, 1) := by decide +kernel
theorem dL_isUndone_1 : decode cL_isUndone 1 = .ok (.bipush 9, 2) := by decide +kernel
theorem dL_isUndone_3 : decode cL_isUndone 3 = .ok (.invokevirtual 13, 3) := by decide +kernel
theorem dL_isUndone_6 : decode cL_isUndone 6 = .ok (.lstore 7, 2) := by decide +kernel
theorem dL_isUndone_8 : decode cL_isUndone 8 = .ok (.aload_n 0, 1) := by decide +kernel
theorem dL_isUndone_9 : decode cL_isUndone 9 = .ok (.invokevirtual 71, 3) := by decide +kernel
theorem dL_isUndone_12 : decode cL_isUndone 12 = .ok (.i2l, 1) := by decide +kernel
theorem dL_isUndone_13 : decode cL_isUndone 13 = .ok (.lload 7, 2) := by decide +kernel
theorem dL_isUndone_15 : decode cL_isUndone 15 = .ok (.lconst 1, 1) := by decide +kernel
theorem dL_isUndone_16 : decode cL_isUndone 16 = .ok (.lsub, 1) := by decide +kernel
theorem dL_isUndone_17 : decode cL_isUndone 17 = .ok (.lcmp, 1) := by decide +kernel
theorem dL_isUndone_18 : decode cL_isUndone 18 = .ok (.ifCond .ne 55, 3) := by decide +kernel
theorem dL_isUndone_21 : decode cL_isUndone 21 = .ok (.aload_n 0, 1) := by decide +kernel
theorem dL_isUndone_22 : decode cL_isUndone 22 = .ok (.bipush 9, 2) := by decide +kernel
theorem dL_isUndone_24 : decode cL_isUndone 24 = .ok (.invokevirtual 13, 3) := by decide +kernel
theorem dL_isUndone_27 : decode cL_isUndone 27 = .ok (.lload 7, 2) := by decide +kernel
theorem dL_isUndone_29 : decode cL_isUndone 29 = .ok (.lconst 1, 1) := by decide +kernel
theorem dL_isUndone_30 : decode cL_isUndone 30 = .ok (.lsub, 1) := by decide +kernel
theorem dL_isUndone_31 : decode cL_isUndone 31 = .ok (.lcmp, 1) := by decide +kernel
theorem dL_isUndone_32 : decode cL_isUndone 32 = .ok (.ifCond .ne 41, 3) := by decide +kernel
theorem dL_isUndone_35 : decode cL_isUndone 35 = .ok (.aload_n 0, 1) := by decide +kernel
theorem dL_isUndone_36 : decode cL_isUndone 36 = .ok (.invokestatic 74, 3) := by decide +kernel
theorem dL_isUndone_39 : decode cL_isUndone 39 = .ok (.lload 5, 2) := by decide +kernel
theorem dL_isUndone_41 : decode cL_isUndone 41 = .ok (.lcmp, 1) := by decide +kernel
theorem dL_isUndone_42 : decode cL_isUndone 42 = .ok (.ifCond .ne 31, 3) := by decide +kernel
theorem dL_isUndone_45 : decode cL_isUndone 45 = .ok (.aload_n 0, 1) := by decide +kernel
theorem dL_isUndone_46 : decode cL_isUndone 46 = .ok (.iload_n 1, 1) := by decide +kernel
theorem dL_isUndone_47 : decode cL_isUndone 47 = .ok (.iload_n 2, 1) := by decide +kernel
theorem dL_isUndone_48 : decode cL_isUndone 48 = .ok (.iload_n 3, 1) := by decide +kernel
theorem dL_isUndone_49 : decode cL_isUndone 49 = .ok (.invokestatic 78, 3) := by decide +kernel
theorem dL_isUndone_52 : decode cL_isUndone 52 = .ok (.iload 4, 2) := by decide +kernel
theorem dL_isUndone_54 : decode cL_isUndone 54 = .ok (.if_icmp .ne 19, 3) := by decide +kernel
theorem dL_isUndone_57 : decode cL_isUndone 57 = .ok (.aload_n 0, 1) := by decide +kernel
theorem dL_isUndone_58 : decode cL_isUndone 58 = .ok (.bipush 9, 2) := by decide +kernel
theorem dL_isUndone_60 : decode cL_isUndone 60 = .ok (.invokevirtual 13, 3) := by decide +kernel
theorem dL_isUndone_63 : decode cL_isUndone 63 = .ok (.lload 7, 2) := by decide +kernel
theorem dL_isUndone_65 : decode cL_isUndone 65 = .ok (.lcmp, 1) := by decide +kernel
theorem dL_isUndone_66 : decode cL_isUndone 66 = .ok (.ifCond .ne 7, 3) := by decide +kernel
theorem dL_isUndone_69 : decode cL_isUndone 69 = .ok (.iconst 1, 1) := by decide +kernel
theorem dL_isUndone_70 : decode cL_isUndone 70 = .ok (.goto 4, 3) := by decide +kernel
theorem dL_isUndone_73 : decode cL_isUndone 73 = .ok (.iconst 0, 1) := by decide +kernel
theorem dL_isUndone_74 : decode cL_isUndone 74 = .ok (.ireturn, 1) := by decide +kernel
theorem dL_isSaved_0 : decode cL_isSaved 0 = .ok (.aload_n 0, 1) := by decide +kernel
theorem dL_isSaved_1 : decode cL_isSaved 1 = .ok (.invokestatic 74, 3) := by decide +kernel
theorem dL_isSaved_4 : decode cL_isSaved 4 = .ok (.lstore_n 3, 1) := by decide +kernel
theorem dL_isSaved_5 : decode cL_isSaved 5 = .ok (.aload_n 0, 1) := by decide +kernel
theorem dL_isSaved_6 : decode cL_isSaved 6 = .ok (.bipush 9, 2) := by decide +kernel
theorem dL_isSaved_8 : decode cL_isSaved 8 = .ok (.invokevirtual 13, 3) := by decide +kernel
theorem dL_isSaved_11 : decode cL_isSaved 11 = .ok (.lstore 5, 2) := by decide +kernel
theorem dL_isSaved_13 : decode cL_isSaved 13 = .ok (.aload_n 0, 1) := by decide +kernel
theorem dL_isSaved_14 : decode cL_isSaved 14 = .ok (.iload_n 1, 1) := by decide +kernel
theorem dL_isSaved_15 : decode cL_isSaved 15 = .ok (.iconst 1, 1) := by decide +kernel
theorem dL_isSaved_16 : decode cL_isSaved 16 = .ok (.iand, 1) := by decide +kernel
theorem dL_isSaved_17 : decode cL_isSaved 17 = .ok (.invokevirtual 82, 3) := by decide +kernel
theorem dL_isSaved_20 : decode cL_isSaved 20 = .ok (.i2l, 1) := by decide +kernel
theorem dL_isSaved_21 : decode cL_isSaved 21 = .ok (.aload_n 0, 1) := by decide +kernel
theorem dL_isSaved_22 : decode cL_isSaved 22 = .ok (.iconst 0, 1) := by decide +kernel
theorem dL_isSaved_23 : decode cL_isSaved 23 = .ok (.invokevirtual 13, 3) := by decide +kernel
theorem dL_isSaved_26 : decode cL_isSaved 26 = .ok (.lcmp, 1) := by decide +kernel
theorem dL_isSaved_27 : decode cL_isSaved 27 = .ok (.ifCond .ne 15, 3) := by decide +kernel
theorem dL_isSaved_30 : decode cL_isSaved 30 = .ok (.aload_n 0, 1) := by decide +kernel
theorem dL_isSaved_31 : decode cL_isSaved 31 = .ok (.bipush 9, 2) := by decide +kernel
theorem dL_isSaved_33 : decode cL_isSaved 33 = .ok (.invokevirtual 13, 3) := by decide +kernel
theorem dL_isSaved_36 : decode cL_isSaved 36 = .ok (.lload 5, 2) := by decide +kernel
theorem dL_isSaved_38 : decode cL_isSaved 38 = .ok (.lcmp, 1) := by decide +kernel
theorem dL_isSaved_39 : decode cL_isSaved 39 = .ok (.ifCond .eq 5, 3) := by decide +kernel
theorem dL_isSaved_42 : decode cL_isSaved 42 = .ok (.iconst 0, 1) := by decide +kernel
theorem dL_isSaved_43 : decode cL_isSaved 43 = .ok (.ireturn, 1) := by decide +kernel
theorem dL_isSaved_44 : decode cL_isSaved 44 = .ok (.aload_n 0, 1) := by decide +kernel
theorem dL_isSaved_45 : decode cL_isSaved 45 = .ok (.iload_n 2, 1) := by decide +kernel
theorem dL_isSaved_46 : decode cL_isSaved 46 = .ok (.bipush 14, 2) := by decide +kernel
theorem dL_isSaved_48 : decode cL_isSaved 48 = .ok (.invokestatic 53, 3) := by decide +kernel
theorem dL_isSaved_51 : decode cL_isSaved 51 = .ok (.iload_n 2, 1) := by decide +kernel
theorem dL_isSaved_52 : decode cL_isSaved 52 = .ok (.iload_n 1, 1) := by decide +kernel
theorem dL_isSaved_53 : decode cL_isSaved 53 = .ok (.invokestatic 78, 3) := by decide +kernel
theorem dL_isSaved_56 : decode cL_isSaved 56 = .ok (.pop, 1) := by decide +kernel
theorem dL_isSaved_57 : decode cL_isSaved 57 = .ok (.aload_n 0, 1) := by decide +kernel
theorem dL_isSaved_58 : decode cL_isSaved 58 = .ok (.iload_n 1, 1) := by decide +kernel
theorem dL_isSaved_59 : decode cL_isSaved 59 = .ok (.iconst 1, 1) := by decide +kernel
theorem dL_isSaved_60 : decode cL_isSaved 60 = .ok (.iand, 1) := by decide +kernel
theorem dL_isSaved_61 : decode cL_isSaved 61 = .ok (.invokevirtual 50, 3) := by decide +kernel
theorem dL_isSaved_64 : decode cL_isSaved 64 = .ok (.i2l, 1) := by decide +kernel
theorem dL_isSaved_65 : decode cL_isSaved 65 = .ok (.aload_n 0, 1) := by decide +kernel
theorem dL_isSaved_66 : decode cL_isSaved 66 = .ok (.iconst 0, 1) := by decide +kernel
theorem dL_isSaved_67 : decode cL_isSaved 67 = .ok (.invokevirtual 13, 3) := by decide +kernel
theorem dL_isSaved_70 : decode cL_isSaved 70 = .ok (.lcmp, 1) := by decide +kernel
theorem dL_isSaved_71 : decode cL_isSaved 71 = .ok (.ifCond .ne 16, 3) := by decide +kernel
theorem dL_isSaved_74 : decode cL_isSaved 74 = .ok (.aload_n 0, 1) := by decide +kernel
theorem dL_isSaved_75 : decode cL_isSaved 75 = .ok (.invokestatic 74, 3) := by decide +kernel
theorem dL_isSaved_78 : decode cL_isSaved 78 = .ok (.lload_n 3, 1) := by decide +kernel
theorem dL_isSaved_79 : decode cL_isSaved 79 = .ok (.lcmp, 1) := by decide +kernel
theorem dL_isSaved_80 : decode cL_isSaved 80 = .ok (.ifCond .ne 7, 3) := by decide +kernel
theorem dL_isSaved_83 : decode cL_isSaved 83 = .ok (.iconst 1, 1) := by decide +kernel
theorem dL_isSaved_84 : decode cL_isSaved 84 = .ok (.goto 4, 3) := by decide +kernel
theorem dL_isSaved_87 : decode cL_isSaved 87 = .ok (.iconst 0, 1) := by decide +kernel
theorem dL_isSaved_88 : decode cL_isSaved 88 = .ok (.ireturn, 1) := by decide +kernel
theorem dL_asks_0 : decode cL_asks 0 = .ok (.aload_n 0, 1) := by decide +kernel
theorem dL_asks_1 : decode cL_asks 1 = .ok (.invokestatic 74, 3) := by decide +kernel
theorem dL_asks_4 : decode cL_asks 4 = .ok (.lstore_n 3, 1) := by decide +kernel
theorem dL_asks_5 : decode cL_asks 5 = .ok (.aload_n 0, 1) := by decide +kernel
theorem dL_asks_6 : decode cL_asks 6 = .ok (.bipush 9, 2) := by decide +kernel
theorem dL_asks_8 : decode cL_asks 8 = .ok (.invokevirtual 13, 3) := by decide +kernel
theorem dL_asks_11 : decode cL_asks 11 = .ok (.lstore 5, 2) := by decide +kernel
theorem dL_asks_13 : decode cL_asks 13 = .ok (.aload_n 0, 1) := by decide +kernel
theorem dL_asks_14 : decode cL_asks 14 = .ok (.iload_n 1, 1) := by decide +kernel
theorem dL_asks_15 : decode cL_asks 15 = .ok (.bipush 9, 2) := by decide +kernel
theorem dL_asks_17 : decode cL_asks 17 = .ok (.invokestatic 53, 3) := by decide +kernel
theorem dL_asks_20 : decode cL_asks 20 = .ok (.iconst 1, 1) := by decide +kernel
theorem dL_asks_21 : decode cL_asks 21 = .ok (.iload_n 2, 1) := by decide +kernel
theorem dL_asks_22 : decode cL_asks 22 = .ok (.iconst 5, 1) := by decide +kernel
theorem dL_asks_23 : decode cL_asks 23 = .ok (.invokestatic 53, 3) := by decide +kernel
theorem dL_asks_26 : decode cL_asks 26 = .ok (.iadd, 1) := by decide +kernel
theorem dL_asks_27 : decode cL_asks 27 = .ok (.invokevirtual 85, 3) := by decide +kernel
theorem dL_asks_30 : decode cL_asks 30 = .ok (.pop2, 1) := by decide +kernel
theorem dL_asks_31 : decode cL_asks 31 = .ok (.aload_n 0, 1) := by decide +kernel
theorem dL_asks_32 : decode cL_asks 32 = .ok (.invokevirtual 89, 3) := by decide +kernel
theorem dL_asks_35 : decode cL_asks 35 = .ok (.pop, 1) := by decide +kernel
theorem dL_asks_36 : decode cL_asks 36 = .ok (.aload_n 0, 1) := by decide +kernel
theorem dL_asks_37 : decode cL_asks 37 = .ok (.iload_n 1, 1) := by decide +kernel
theorem dL_asks_38 : decode cL_asks 38 = .ok (.iconst 5, 1) := by decide +kernel
theorem dL_asks_39 : decode cL_asks 39 = .ok (.invokestatic 53, 3) := by decide +kernel
theorem dL_asks_42 : decode cL_asks 42 = .ok (.iload_n 2, 1) := by decide +kernel
theorem dL_asks_43 : decode cL_asks 43 = .ok (.bipush 12, 2) := by decide +kernel
theorem dL_asks_45 : decode cL_asks 45 = .ok (.invokestatic 53, 3) := by decide +kernel
theorem dL_asks_48 : decode cL_asks 48 = .ok (.invokevirtual 92, 3) := by decide +kernel
theorem dL_asks_51 : decode cL_asks 51 = .ok (.pop, 1) := by decide +kernel
theorem dL_asks_52 : decode cL_asks 52 = .ok (.aload_n 0, 1) := by decide +kernel
theorem dL_asks_53 : decode cL_asks 53 = .ok (.invokestatic 74, 3) := by decide +kernel
theorem dL_asks_56 : decode cL_asks 56 = .ok (.lload_n 3, 1) := by decide +kernel
theorem dL_asks_57 : decode cL_asks 57 = .ok (.lcmp, 1) := by decide +kernel
theorem dL_asks_58 : decode cL_asks 58 = .ok (.ifCond .ne 19, 3) := by decide +kernel
theorem dL_asks_61 : decode cL_asks 61 = .ok (.aload_n 0, 1) := by decide +kernel
theorem dL_asks_62 : decode cL_asks 62 = .ok (.bipush 9, 2) := by decide +kernel
theorem dL_asks_64 : decode cL_asks 64 = .ok (.invokevirtual 13, 3) := by decide +kernel
theorem dL_asks_67 : decode cL_asks 67 = .ok (.lload 5, 2) := by decide +kernel
theorem dL_asks_69 : decode cL_asks 69 = .ok (.lcmp, 1) := by decide +kernel
theorem dL_asks_70 : decode cL_asks 70 = .ok (.ifCond .ne 7, 3) := by decide +kernel
theorem dL_asks_73 : decode cL_asks 73 = .ok (.iconst 1, 1) := by decide +kernel
theorem dL_asks_74 : decode cL_asks 74 = .ok (.goto 4, 3) := by decide +kernel
theorem dL_asks_77 : decode cL_asks 77 = .ok (.iconst 0, 1) := by decide +kernel
theorem dL_asks_78 : decode cL_asks 78 = .ok (.ireturn, 1) := by decide +kernel
theorem dL_law_0 : decode cL_law 0 = .ok (.new 14, 3) := by decide +kernel
theorem dL_law_3 : decode cL_law 3 = .ok (.dup, 1) := by decide +kernel
theorem dL_law_4 : decode cL_law 4 = .ok (.invokespecial 95, 3) := by decide +kernel
theorem dL_law_7 : decode cL_law 7 = .ok (.astore_n 1, 1) := by decide +kernel
theorem dL_law_8 : decode cL_law 8 = .ok (.aload_n 0, 1) := by decide +kernel
theorem dL_law_9 : decode cL_law 9 = .ok (.arraylength, 1) := by decide +kernel
theorem dL_law_10 : decode cL_law 10 = .ok (.iconst 3, 1) := by decide +kernel
theorem dL_law_11 : decode cL_law 11 = .ok (.idiv, 1) := by decide +kernel
theorem dL_law_12 : decode cL_law 12 = .ok (.bipush 36, 2) := by decide +kernel
theorem dL_law_14 : decode cL_law 14 = .ok (.if_icmp .ge 10, 3) := by decide +kernel
theorem dL_law_17 : decode cL_law 17 = .ok (.aload_n 0, 1) := by decide +kernel
theorem dL_law_18 : decode cL_law 18 = .ok (.arraylength, 1) := by decide +kernel
theorem dL_law_19 : decode cL_law 19 = .ok (.iconst 3, 1) := by decide +kernel
theorem dL_law_20 : decode cL_law 20 = .ok (.idiv, 1) := by decide +kernel
theorem dL_law_21 : decode cL_law 21 = .ok (.goto 5, 3) := by decide +kernel
theorem dL_law_24 : decode cL_law 24 = .ok (.bipush 36, 2) := by decide +kernel
theorem dL_law_26 : decode cL_law 26 = .ok (.istore_n 2, 1) := by decide +kernel
theorem dL_law_27 : decode cL_law 27 = .ok (.iconst 0, 1) := by decide +kernel
theorem dL_law_28 : decode cL_law 28 = .ok (.istore_n 3, 1) := by decide +kernel
theorem dL_law_29 : decode cL_law 29 = .ok (.iload_n 3, 1) := by decide +kernel
theorem dL_law_30 : decode cL_law 30 = .ok (.iload_n 2, 1) := by decide +kernel
theorem dL_law_31 : decode cL_law 31 = .ok (.if_icmp .ge 302, 3) := by decide +kernel
theorem dL_law_34 : decode cL_law 34 = .ok (.aload_n 0, 1) := by decide +kernel
theorem dL_law_35 : decode cL_law 35 = .ok (.iconst 3, 1) := by decide +kernel
theorem dL_law_36 : decode cL_law 36 = .ok (.iload_n 3, 1) := by decide +kernel
theorem dL_law_37 : decode cL_law 37 = .ok (.imul, 1) := by decide +kernel
theorem dL_law_38 : decode cL_law 38 = .ok (.invokestatic 96, 3) := by decide +kernel
theorem dL_law_41 : decode cL_law 41 = .ok (.istore 4, 2) := by decide +kernel
theorem dL_law_43 : decode cL_law 43 = .ok (.aload_n 0, 1) := by decide +kernel
theorem dL_law_44 : decode cL_law 44 = .ok (.iconst 3, 1) := by decide +kernel
theorem dL_law_45 : decode cL_law 45 = .ok (.iload_n 3, 1) := by decide +kernel
theorem dL_law_46 : decode cL_law 46 = .ok (.imul, 1) := by decide +kernel
theorem dL_law_47 : decode cL_law 47 = .ok (.iconst 1, 1) := by decide +kernel
theorem dL_law_48 : decode cL_law 48 = .ok (.iadd, 1) := by decide +kernel
theorem dL_law_49 : decode cL_law 49 = .ok (.invokestatic 96, 3) := by decide +kernel
theorem dL_law_52 : decode cL_law 52 = .ok (.istore 5, 2) := by decide +kernel
theorem dL_law_54 : decode cL_law 54 = .ok (.aload_n 0, 1) := by decide +kernel
theorem dL_law_55 : decode cL_law 55 = .ok (.iconst 3, 1) := by decide +kernel
theorem dL_law_56 : decode cL_law 56 = .ok (.iload_n 3, 1) := by decide +kernel
theorem dL_law_57 : decode cL_law 57 = .ok (.imul, 1) := by decide +kernel
theorem dL_law_58 : decode cL_law 58 = .ok (.iconst 2, 1) := by decide +kernel
theorem dL_law_59 : decode cL_law 59 = .ok (.iadd, 1) := by decide +kernel
theorem dL_law_60 : decode cL_law 60 = .ok (.invokestatic 96, 3) := by decide +kernel
theorem dL_law_63 : decode cL_law 63 = .ok (.istore 6, 2) := by decide +kernel
theorem dL_law_65 : decode cL_law 65 = .ok (.iload_n 3, 1) := by decide +kernel
theorem dL_law_66 : decode cL_law 66 = .ok (.iconst 2, 1) := by decide +kernel
theorem dL_law_67 : decode cL_law 67 = .ok (.if_icmp .ge 7, 3) := by decide +kernel
theorem dL_law_70 : decode cL_law 70 = .ok (.iconst 0, 1) := by decide +kernel
theorem dL_law_71 : decode cL_law 71 = .ok (.goto 8, 3) := by decide +kernel
theorem dL_law_74 : decode cL_law 74 = .ok (.iload 4, 2) := by decide +kernel
theorem dL_law_76 : decode cL_law 76 = .ok (.bipush 15, 2) := by decide +kernel
theorem dL_law_78 : decode cL_law 78 = .ok (.iand, 1) := by decide +kernel
theorem dL_law_79 : decode cL_law 79 = .ok (.istore 7, 2) := by decide +kernel
theorem dL_law_81 : decode cL_law 81 = .ok (.aload_n 1, 1) := by decide +kernel
theorem dL_law_82 : decode cL_law 82 = .ok (.invokestatic 74, 3) := by decide +kernel
theorem dL_law_85 : decode cL_law 85 = .ok (.lstore 8, 2) := by decide +kernel
theorem dL_law_87 : decode cL_law 87 = .ok (.aload_n 1, 1) := by decide +kernel
theorem dL_law_88 : decode cL_law 88 = .ok (.invokestatic 100, 3) := by decide +kernel
theorem dL_law_91 : decode cL_law 91 = .ok (.lstore 10, 2) := by decide +kernel
theorem dL_law_93 : decode cL_law 93 = .ok (.aload_n 1, 1) := by decide +kernel
theorem dL_law_94 : decode cL_law 94 = .ok (.bipush 12, 2) := by decide +kernel
theorem dL_law_96 : decode cL_law 96 = .ok (.invokevirtual 13, 3) := by decide +kernel
theorem dL_law_99 : decode cL_law 99 = .ok (.lstore 12, 2) := by decide +kernel
theorem dL_law_101 : decode cL_law 101 = .ok (.aload_n 1, 1) := by decide +kernel
theorem dL_law_102 : decode cL_law 102 = .ok (.iconst 1, 1) := by decide +kernel
theorem dL_law_103 : decode cL_law 103 = .ok (.invokevirtual 13, 3) := by decide +kernel
theorem dL_law_106 : decode cL_law 106 = .ok (.lstore 14, 2) := by decide +kernel
theorem dL_law_108 : decode cL_law 108 = .ok (.aload_n 1, 1) := by decide +kernel
theorem dL_law_109 : decode cL_law 109 = .ok (.bipush 9, 2) := by decide +kernel
theorem dL_law_111 : decode cL_law 111 = .ok (.invokevirtual 13, 3) := by decide +kernel
theorem dL_law_114 : decode cL_law 114 = .ok (.lstore 16, 2) := by decide +kernel
theorem dL_law_116 : decode cL_law 116 = .ok (.aload_n 1, 1) := by decide +kernel
theorem dL_law_117 : decode cL_law 117 = .ok (.iload 7, 2) := by decide +kernel
theorem dL_law_119 : decode cL_law 119 = .ok (.iload 5, 2) := by decide +kernel
theorem dL_law_121 : decode cL_law 121 = .ok (.iload 6, 2) := by decide +kernel
theorem dL_law_123 : decode cL_law 123 = .ok (.invokestatic 78, 3) := by decide +kernel
theorem dL_law_126 : decode cL_law 126 = .ok (.istore 18, 2) := by decide +kernel
theorem dL_law_128 : decode cL_law 128 = .ok (.iload 18, 2) := by decide +kernel
theorem dL_law_130 : decode cL_law 130 = .ok (.bipush (-6), 2) := by decide +kernel
theorem dL_law_132 : decode cL_law 132 = .ok (.if_icmp .ne 7, 3) := by decide +kernel
theorem dL_law_135 : decode cL_law 135 = .ok (.iconst 1, 1) := by decide +kernel
theorem dL_law_136 : decode cL_law 136 = .ok (.goto 4, 3) := by decide +kernel
theorem dL_law_139 : decode cL_law 139 = .ok (.iconst 0, 1) := by decide +kernel
theorem dL_law_140 : decode cL_law 140 = .ok (.istore 19, 2) := by decide +kernel
theorem dL_law_142 : decode cL_law 142 = .ok (.iload 18, 2) := by decide +kernel
theorem dL_law_144 : decode cL_law 144 = .ok (.ifCond .ge 32, 3) := by decide +kernel
theorem dL_law_147 : decode cL_law 147 = .ok (.iload 19, 2) := by decide +kernel
theorem dL_law_149 : decode cL_law 149 = .ok (.ifCond .ne 27, 3) := by decide +kernel
theorem dL_law_152 : decode cL_law 152 = .ok (.aload_n 1, 1) := by decide +kernel
theorem dL_law_153 : decode cL_law 153 = .ok (.invokestatic 74, 3) := by decide +kernel
theorem dL_law_156 : decode cL_law 156 = .ok (.lload 8, 2) := by decide +kernel
theorem dL_law_158 : decode cL_law 158 = .ok (.lcmp, 1) := by decide +kernel
theorem dL_law_159 : decode cL_law 159 = .ok (.ifCond .ne 15, 3) := by decide +kernel
theorem dL_law_162 : decode cL_law 162 = .ok (.aload_n 1, 1) := by decide +kernel
theorem dL_law_163 : decode cL_law 163 = .ok (.bipush 9, 2) := by decide +kernel
theorem dL_law_165 : decode cL_law 165 = .ok (.invokevirtual 13, 3) := by decide +kernel
theorem dL_law_168 : decode cL_law 168 = .ok (.lload 16, 2) := by decide +kernel
theorem dL_law_170 : decode cL_law 170 = .ok (.lcmp, 1) := by decide +kernel
theorem dL_law_171 : decode cL_law 171 = .ok (.ifCond .eq 61, 3) := by decide +kernel
theorem dL_law_174 : decode cL_law 174 = .ok (.iconst 0, 1) := by decide +kernel
theorem dL_law_175 : decode cL_law 175 = .ok (.ireturn, 1) := by decide +kernel
theorem dL_law_176 : decode cL_law 176 = .ok (.aload_n 1, 1) := by decide +kernel
theorem dL_law_177 : decode cL_law 177 = .ok (.bipush 9, 2) := by decide +kernel
theorem dL_law_179 : decode cL_law 179 = .ok (.invokevirtual 13, 3) := by decide +kernel
theorem dL_law_182 : decode cL_law 182 = .ok (.lload 16, 2) := by decide +kernel
theorem dL_law_184 : decode cL_law 184 = .ok (.ldc2_w 103, 3) := by decide +kernel
theorem dL_law_187 : decode cL_law 187 = .ok (.lcmp, 1) := by decide +kernel
theorem dL_law_188 : decode cL_law 188 = .ok (.ifCond .ge 10, 3) := by decide +kernel
theorem dL_law_191 : decode cL_law 191 = .ok (.lload 16, 2) := by decide +kernel
theorem dL_law_193 : decode cL_law 193 = .ok (.lconst 1, 1) := by decide +kernel
theorem dL_law_194 : decode cL_law 194 = .ok (.ladd, 1) := by decide +kernel
theorem dL_law_195 : decode cL_law 195 = .ok (.goto 6, 3) := by decide +kernel
theorem dL_law_198 : decode cL_law 198 = .ok (.ldc2_w 103, 3) := by decide +kernel
theorem dL_law_201 : decode cL_law 201 = .ok (.lcmp, 1) := by decide +kernel
theorem dL_law_202 : decode cL_law 202 = .ok (.ifCond .ne 28, 3) := by decide +kernel
theorem dL_law_205 : decode cL_law 205 = .ok (.iload 4, 2) := by decide +kernel
theorem dL_law_207 : decode cL_law 207 = .ok (.bipush 16, 2) := by decide +kernel
theorem dL_law_209 : decode cL_law 209 = .ok (.iand, 1) := by decide +kernel
theorem dL_law_210 : decode cL_law 210 = .ok (.ifCond .ne 22, 3) := by decide +kernel
theorem dL_law_213 : decode cL_law 213 = .ok (.aload_n 1, 1) := by decide +kernel
theorem dL_law_214 : decode cL_law 214 = .ok (.iload 7, 2) := by decide +kernel
theorem dL_law_216 : decode cL_law 216 = .ok (.iload 5, 2) := by decide +kernel
theorem dL_law_218 : decode cL_law 218 = .ok (.iload 6, 2) := by decide +kernel
theorem dL_law_220 : decode cL_law 220 = .ok (.iload 18, 2) := by decide +kernel
theorem dL_law_222 : decode cL_law 222 = .ok (.lload 8, 2) := by decide +kernel
theorem dL_law_224 : decode cL_law 224 = .ok (.invokestatic 105, 3) := by decide +kernel
theorem dL_law_227 : decode cL_law 227 = .ok (.ifCond .ne 5, 3) := by decide +kernel
theorem dL_law_230 : decode cL_law 230 = .ok (.iconst 0, 1) := by decide +kernel
theorem dL_law_231 : decode cL_law 231 = .ok (.ireturn, 1) := by decide +kernel
theorem dL_law_232 : decode cL_law 232 = .ok (.iload 7, 2) := by decide +kernel
theorem dL_law_234 : decode cL_law 234 = .ok (.iload 6, 2) := by decide +kernel
theorem dL_law_236 : decode cL_law 236 = .ok (.invokestatic 109, 3) := by decide +kernel
theorem dL_law_239 : decode cL_law 239 = .ok (.ifCond .ne 38, 3) := by decide +kernel
theorem dL_law_242 : decode cL_law 242 = .ok (.lload 12, 2) := by decide +kernel
theorem dL_law_244 : decode cL_law 244 = .ok (.aload_n 1, 1) := by decide +kernel
theorem dL_law_245 : decode cL_law 245 = .ok (.bipush 12, 2) := by decide +kernel
theorem dL_law_247 : decode cL_law 247 = .ok (.invokevirtual 13, 3) := by decide +kernel
theorem dL_law_250 : decode cL_law 250 = .ok (.lcmp, 1) := by decide +kernel
theorem dL_law_251 : decode cL_law 251 = .ok (.ifCond .ne 26, 3) := by decide +kernel
theorem dL_law_254 : decode cL_law 254 = .ok (.lload 14, 2) := by decide +kernel
theorem dL_law_256 : decode cL_law 256 = .ok (.aload_n 1, 1) := by decide +kernel
theorem dL_law_257 : decode cL_law 257 = .ok (.iconst 1, 1) := by decide +kernel
theorem dL_law_258 : decode cL_law 258 = .ok (.invokevirtual 13, 3) := by decide +kernel
theorem dL_law_261 : decode cL_law 261 = .ok (.lcmp, 1) := by decide +kernel
theorem dL_law_262 : decode cL_law 262 = .ok (.ifCond .ne 15, 3) := by decide +kernel
theorem dL_law_265 : decode cL_law 265 = .ok (.aload_n 1, 1) := by decide +kernel
theorem dL_law_266 : decode cL_law 266 = .ok (.invokestatic 100, 3) := by decide +kernel
theorem dL_law_269 : decode cL_law 269 = .ok (.lload 10, 2) := by decide +kernel
theorem dL_law_271 : decode cL_law 271 = .ok (.lcmp, 1) := by decide +kernel
theorem dL_law_272 : decode cL_law 272 = .ok (.ifCond .eq 5, 3) := by decide +kernel
theorem dL_law_275 : decode cL_law 275 = .ok (.iconst 0, 1) := by decide +kernel
theorem dL_law_276 : decode cL_law 276 = .ok (.ireturn, 1) := by decide +kernel
theorem dL_law_277 : decode cL_law 277 = .ok (.iload 4, 2) := by decide +kernel
theorem dL_law_279 : decode cL_law 279 = .ok (.bipush 96, 2) := by decide +kernel
theorem dL_law_281 : decode cL_law 281 = .ok (.iand, 1) := by decide +kernel
theorem dL_law_282 : decode cL_law 282 = .ok (.ifCond .ne 14, 3) := by decide +kernel
theorem dL_law_285 : decode cL_law 285 = .ok (.aload_n 1, 1) := by decide +kernel
theorem dL_law_286 : decode cL_law 286 = .ok (.iload 5, 2) := by decide +kernel
theorem dL_law_288 : decode cL_law 288 = .ok (.iload 6, 2) := by decide +kernel
theorem dL_law_290 : decode cL_law 290 = .ok (.invokestatic 113, 3) := by decide +kernel
theorem dL_law_293 : decode cL_law 293 = .ok (.ifCond .eq 32, 3) := by decide +kernel
theorem dL_law_296 : decode cL_law 296 = .ok (.iload 4, 2) := by decide +kernel
theorem dL_law_298 : decode cL_law 298 = .ok (.sipush 224, 3) := by decide +kernel
theorem dL_law_301 : decode cL_law 301 = .ok (.iand, 1) := by decide +kernel
theorem dL_law_302 : decode cL_law 302 = .ok (.bipush 32, 2) := by decide +kernel
theorem dL_law_304 : decode cL_law 304 = .ok (.if_icmp .ne 14, 3) := by decide +kernel
theorem dL_law_307 : decode cL_law 307 = .ok (.aload_n 1, 1) := by decide +kernel
theorem dL_law_308 : decode cL_law 308 = .ok (.iload 5, 2) := by decide +kernel
theorem dL_law_310 : decode cL_law 310 = .ok (.iload 6, 2) := by decide +kernel
theorem dL_law_312 : decode cL_law 312 = .ok (.invokestatic 117, 3) := by decide +kernel
theorem dL_law_315 : decode cL_law 315 = .ok (.ifCond .eq 10, 3) := by decide +kernel
theorem dL_law_318 : decode cL_law 318 = .ok (.aload_n 1, 1) := by decide +kernel
theorem dL_law_319 : decode cL_law 319 = .ok (.invokestatic 120, 3) := by decide +kernel
theorem dL_law_322 : decode cL_law 322 = .ok (.ifCond .ne 5, 3) := by decide +kernel
theorem dL_law_325 : decode cL_law 325 = .ok (.iconst 0, 1) := by decide +kernel
theorem dL_law_326 : decode cL_law 326 = .ok (.ireturn, 1) := by decide +kernel
theorem dL_law_327 : decode cL_law 327 = .ok (.iinc 3 1, 3) := by decide +kernel
theorem dL_law_330 : decode cL_law 330 = .ok (.goto (-301), 3) := by decide +kernel
theorem dL_law_333 : decode cL_law 333 = .ok (.iconst 1, 1) := by decide +kernel
theorem dL_law_334 : decode cL_law 334 = .ok (.ireturn, 1) := by decide +kernel
end
section
/-! ===== the world of whole: abstract addresses, one memory of whole numbers ===== -/
abbrev xD : Type := Nat → Nat → Int
abbrev xR : Type := Nat → Nat → Option Nat
/-- class numbers and slots; array classes; the specials' addresses; the first own address -/
abbrev xW : Type := va_G × (Nat → ClassId) × (Nat → Nat) × Nat
abbrev vi (e : Int) : Value := .int (Int32.ofInt e)
abbrev vl (e : Int) : Value := .long (Int64.ofInt e)
def xad (ω : xW) (k : Nat) : Nat := if k < 4 then ω.2.2.1 k else ω.2.2.2 + (k - 4)
def xtr (ω : xW) : Value → Value
  | .ref k => .ref (xad ω k)
  | v => v
def xN : Nat → Nat
  | 0 => 3 | 1 => 7 | 2 => 17 | 3 => 10 | 4 => 6 | _ => 12
def xty : Nat → Nat → FieldType
  | 0 => tyX0 | 1 => tyX1 | 2 => tyX2 | 3 => tyX3 | 4 => tyX4 | _ => tyX5
def xkd : FieldType → Nat
  | .long => 1 | .object _ => 2 | .array _ => 2 | _ => 0
def xwsh (i : Nat) : Nat × Nat := if i = 0 then (3, 0) else if i = 1 then (10, 9) else if i = 2 then (10, 4) else if i = 3 then (15, 10) else if (i - 4) % 3 = 0 then (2, 0) else (10, 12)
/-- the kind of each cell (0 to 5: an object of that class; 10 int[], 11 long[], 12 char[], 13 boolean[], 14 Works[], 15 Product[]) and its length -/
def xSH (k : Nat) : Nat × Nat :=
  if k < 4 then (10, 9) else if k = 4 then (4, 0) else if k < 73 then xwsh ((k - 5) % 34) else if k = 73 then (1, 0) else if k = 74 then (12, 80)
  else if k = 75 then (0, 0) else if k = 76 then (14, 6) else if k < 281 then xwsh ((k - 77) % 34) else if k = 281 then (14, 2) else if k = 282 then (13, 2)
  else if k < 351 then xwsh ((k - 283) % 34) else (10, 0)
def xfv (ω : xW) (ci : Nat) (D : xD) (r : xR) (a j : Nat) : Value := match xkd (xty ci j) with
  | 0 => vi (D a j)
  | 1 => vl (D a j)
  | _ => va_rf ((r a j).map (xad ω))
def xarr (ω : xW) (c : Nat) (D : xD) (r : xR) (k : Nat) : (Nat → Int32) ⊕ (Nat → Int64) ⊕ (Nat → UInt32) ⊕ (Nat → UInt64) ⊕ (Nat → Option Nat) :=
  if c = 11 then .inr (.inl fun j => Int64.ofInt (D k j)) else if c < 14 then .inl (fun j => Int32.ofInt (D k j)) else .inr (.inr (.inr (.inr fun j => (r k j).map (xad ω))))
def xent (ω : xW) (D : xD) (r : xR) (k : Nat) : va_E :=
  if (xSH k).1 < 5 then .inr ((xSH k).1, (List.range (xN (xSH k).1)).map (xfv ω (xSH k).1 D r k))
  else .inl (ω.2.1 (xSH k).1, ((xSH k).2, xarr ω (xSH k).1 D r k))
def xws (ω : xW) (n : Nat) (D : xD) (r : xR) : va_W := (List.range (n - 4)).map (fun i => (xad ω (i + 4), xent ω D r (i + 4)))
def xaty : Nat → FieldType
  | 10 => .int | 11 => .long | 12 => .char | 13 => .boolean | 14 => .object RX3 | _ => .object RX2
abbrev xtys (ω : xW) : List (ClassId × FieldType) := [(ω.2.1 10, .int), (ω.2.1 11, .long), (ω.2.1 12, .char), (ω.2.1 13, .boolean), (ω.2.1 14, .object RX3), (ω.2.1 15, .object RX2)]
def xA (ω : xW) : Nat → Prop := fun q => ω.2.2.2 ≤ q
/-- what the class's own static rows hold -/
def xst : Nat → Nat → Int
  | 1, j => [0, 0, 0, 1, 0, 0, 0, 0, 0].getD j 0
  | 2, j => [1000, 500, 8, 6, 400, 1000, 100, 100, 100].getD j 0
  | _, j => [100, 20, 2, 2, 100, 50, 1, 5, 3].getD j 0
def xnm : Nat → String
  | 1 => "LEAST_SETTINGS" | 2 => "MOST_SETTINGS" | _ => "FIRST_SETTINGS"
/-- a static row of nine ints at its cell -/
def xTS (ω : xW) (k : Nat) (U : State) (H : Heap) : Prop := ∃ cell : Cell, H[ω.2.2.1 k]? = some cell ∧ U.isArrayOf cell .int ∧ cell.vm ≠ .unknown ∧ cell.slots.size = 9 ∧ (∀ j : Nat, j < 9 → cell.slots[j]? = some (vi (xst k j))) ∧ ¬ xA ω (ω.2.2.1 k) ∧ U.vm.findClass "[I" = some cell.cls
theorem xTS.moved {ω : xW} {k : Nat} {u U : State} {H : Heap} (hvm : u.vm.Alike U.vm) (h : xTS ω k u H) : xTS ω k U H := by
  obtain ⟨cell, h1, h2, h3, h4, h5, h6, h7⟩ := h
  exact ⟨cell, h1, State.isArrayOf_alike hvm h2, h3, h4, h5, h6, by rw [hvm.findClass]; exact h7⟩
theorem xTS.kept {ω : xW} {k : Nat} {U : State} {H H1 : Heap} (h : xTS ω k U H) (hq : ∀ a : Nat, a < H.size → ¬ xA ω a → H1[a]? = H[a]?) : xTS ω k U H1 := by
  obtain ⟨cell, h1, h2, h3, h4, h5, h6, h7⟩ := h
  exact ⟨cell, by rw [hq _ (Array.getElem?_eq_some_iff.mp h1).1 h6]; exact h1, h2, h3, h4, h5, h6, h7⟩
/-- what of the tables and of the statics a method is given beside its words -/
def xKF (ω : xW) (U : State) (H : Heap) : Prop :=
  va_K ω.1 vwCl (xtys ω) U ∧ va_AO RX3 U ∧ va_AO RX2 U
  ∧ va_Nw (.methodLinkNest RX4 21 yX1_init "LotFences") U ∧ va_Nw (.methodLinkNest RX3 38 yX2_init "LotFences") U ∧ va_Nw (.methodLinkNest RX3 159 yX4_isFamily "LotFences") U
  ∧ va_Nw (.fieldLinkNest RX3 9 "LotFences" "FIRST_SETTINGS" "[I" "LotFences") U ∧ va_Nw (.castable "[I" "java/lang/Cloneable") U
  ∧ ∀ k, 1 ≤ k → k < 4 → va_Z "LotFences" (xnm k) "[I" (.ref (ω.2.2.1 k)) (xA ω) U H ∧ xTS ω k U H
/-- the tables' words that every state keeps -/
def xtb : List Cond := lw_tbl.filter goodWord
theorem xtb_in {w : Cond} (i : Nat) (h : lw_tbl[i]? = some w) (hg : goodWord w = true) : w ∈ xtb := List.mem_filter.mpr ⟨List.mem_of_getElem? h, hg⟩
theorem xtb_tbl : ∀ w ∈ xtb, w ∈ lw_tbl := fun _ h => (List.mem_filter.mp h).1
theorem xtb_good : ∀ w ∈ xtb, (w.onTables && w.keeps) = true ∨ ∃ ty, w = .arrayClass ty := fun _ h => good_of_word (List.mem_filter.mp h).2
theorem xlg_len (vs : List Value) : (lg_sl vs).length ≤ (vs.map Value.category).sum := by
  induction vs with
  | nil => simp [lg_sl]
  | cons v vs ih =>
    have h : lg_sl (v :: vs) = (if v.category = 2 then [.val v, .second] else [.val v]) ++ lg_sl vs := by simp [lg_sl]
    rw [h, List.map_cons, List.sum_cons, List.length_append]
    have hv : 1 ≤ v.category := by cases v <;> simp [Value.category]
    split
    · rename_i h2; rw [h2]; simp; omega
    · simp; omega
/-! ===== locals ===== -/
def xlg : List (Option Value) → Nat → Option Value
  | [], _ => none
  | x :: _, 0 => x
  | _ :: xs, n + 1 => xlg xs n
def xclr : Option Value → Option Value
  | some (.long _) => none
  | some (.double _) => none
  | x => x
/-- a value of one slot is put at a place -/
def xs1 : List (Option Value) → Nat → Value → List (Option Value)
  | [], _, _ => []
  | _ :: xs, 0, v => some v :: xs
  | x :: _ :: xs, 1, v => xclr x :: some v :: xs
  | [x], 1, _ => [x]
  | x :: xs, n + 2, v => x :: xs1 xs (n + 1) v
/-- a value of two slots -/
def xs2 : List (Option Value) → Nat → Value → List (Option Value)
  | [], _, _ => []
  | _ :: _ :: xs, 0, v => some v :: none :: xs
  | [x], 0, _ => [x]
  | x :: _ :: _ :: xs, 1, v => xclr x :: some v :: none :: xs
  | x :: xs, 1, _ => x :: xs
  | x :: xs, n + 2, v => x :: xs2 xs (n + 1) v
def xll (ω : xW) : Nat → List (Option Value) → List (Nat × Value)
  | _, [] => []
  | i, some v :: xs => (i, xtr ω v) :: xll ω (i + 1) xs
  | i, none :: xs => xll ω (i + 1) xs
def xLH (ω : xW) (ls : Array Slot) (nL : Nat) (pl : List (Option Value)) : Prop := lv_has ls nL (xll ω 0 pl)
theorem xcat (ω : xW) (v : Value) : (xtr ω v).category = v.category := by cases v <;> rfl
theorem xll_mem {ω : xW} : ∀ (pl : List (Option Value)) (i : Nat) (q : Nat × Value), q ∈ xll ω i pl ↔ ∃ k v, q.1 = i + k ∧ xlg pl k = some v ∧ q.2 = xtr ω v := by
  intro pl
  induction pl with
  | nil => intro i q; simp [xll, xlg]
  | cons x xs ih =>
    intro i q
    cases x with
    | none =>
      simp only [xll, ih]
      constructor
      · rintro ⟨k, v, h1, h2, h3⟩; exact ⟨k + 1, v, by omega, h2, h3⟩
      · rintro ⟨k, v, h1, h2, h3⟩
        cases k with
        | zero => simp [xlg] at h2
        | succ k => exact ⟨k, v, by omega, h2, h3⟩
    | some w =>
      simp only [xll, List.mem_cons, ih]
      constructor
      · rintro (h | ⟨k, v, h1, h2, h3⟩)
        · exact ⟨0, w, by rw [h]; rfl, rfl, by rw [h]⟩
        · exact ⟨k + 1, v, by omega, h2, h3⟩
      · rintro ⟨k, v, h1, h2, h3⟩
        cases k with
        | zero =>
          left
          simp only [xlg, Option.some.injEq] at h2
          subst h2
          exact Prod.ext h1 h3
        | succ k => right; exact ⟨k, v, by omega, h2, h3⟩
theorem xLH.get {ω : xW} {ls : Array Slot} {nL : Nat} {pl : List (Option Value)} (h : xLH ω ls nL pl) {i : Nat} {v : Value} (hi : xlg pl i = some v) : ls[i]? = some (.val (xtr ω v)) :=
  h.2.2 (i, xtr ω v) ((xll_mem pl 0 _).mpr ⟨i, v, by simp, hi, rfl⟩)
theorem xclr_some {x : Option Value} {v : Value} (h : xclr x = some v) : x = some v ∧ v.category ≠ 2 := by
  cases x with
  | none => simp [xclr] at h
  | some w => cases w <;> simp [xclr] at h <;> subst h <;> simp [Value.category]
theorem xs1_get : ∀ (pl : List (Option Value)) (i : Nat) (v : Value) (k : Nat) (w : Value), xlg (xs1 pl i v) k = some w → (k = i ∧ w = v) ∨ (k ≠ i ∧ xlg pl k = some w ∧ ¬ (k + 1 = i ∧ w.category = 2)) ∨ (pl.length ≤ i ∧ xlg pl k = some w) := by
  intro pl
  induction pl with
  | nil => intro i v k w h; simp [xs1, xlg] at h
  | cons x xs ih =>
    intro i v k w h
    match i, k, h with
    | 0, 0, h => left; simp [xs1, xlg] at h; exact ⟨rfl, h.symm⟩
    | 0, k + 1, h => right; left; exact ⟨by omega, h, by omega⟩
    | 1, k, h =>
      cases xs with
      | nil => right; right; exact ⟨by simp, h⟩
      | cons y ys =>
        match k, h with
        | 0, h =>
          right; left
          obtain ⟨h1, h2⟩ := xclr_some (show xclr x = some w from h)
          exact ⟨by omega, h1, fun z => h2 z.2⟩
        | 1, h => left; simp [xs1, xlg] at h; exact ⟨rfl, h.symm⟩
        | k + 2, h => right; left; exact ⟨by omega, h, by omega⟩
    | i + 2, 0, h => right; left; exact ⟨by omega, by cases xs <;> exact h, by omega⟩
    | i + 2, k + 1, h =>
      have h' : xlg (xs1 xs (i + 1) v) k = some w := by cases xs <;> exact h
      rcases ih (i + 1) v k w h' with ⟨h1, h2⟩ | ⟨h1, h2, h3⟩ | ⟨h1, h2⟩
      · left; exact ⟨by omega, h2⟩
      · right; left; exact ⟨by omega, h2, fun z => h3 ⟨by omega, z.2⟩⟩
      · right; right; exact ⟨by simp; omega, h2⟩
theorem xs2_get : ∀ (pl : List (Option Value)) (i : Nat) (v : Value) (k : Nat) (w : Value), xlg (xs2 pl i v) k = some w → (k = i ∧ w = v) ∨ (k ≠ i ∧ k ≠ i + 1 ∧ xlg pl k = some w ∧ ¬ (k + 1 = i ∧ w.category = 2)) ∨ (pl.length ≤ i + 1 ∧ xlg pl k = some w) := by
  intro pl
  induction pl with
  | nil => intro i v k w h; simp [xs2, xlg] at h
  | cons x xs ih =>
    intro i v k w h
    match i, k, h with
    | 0, k, h =>
      cases xs with
      | nil => right; right; exact ⟨by simp, h⟩
      | cons y ys =>
        match k, h with
        | 0, h => left; simp [xs2, xlg] at h; exact ⟨rfl, h.symm⟩
        | 1, h => simp [xs2, xlg] at h
        | k + 2, h => right; left; exact ⟨by omega, by omega, h, by omega⟩
    | 1, k, h =>
      match xs, h with
      | [], h => right; right; exact ⟨by simp, h⟩
      | [y], h => right; right; exact ⟨by simp, h⟩
      | y :: z :: zs, h =>
        match k, h with
        | 0, h =>
          right; left
          obtain ⟨h1, h2⟩ := xclr_some (show xclr x = some w from h)
          exact ⟨by omega, by omega, h1, fun z => h2 z.2⟩
        | 1, h => left; simp [xs2, xlg] at h; exact ⟨rfl, h.symm⟩
        | 2, h => simp [xs2, xlg] at h
        | k + 3, h => right; left; exact ⟨by omega, by omega, h, by omega⟩
    | i + 2, 0, h => right; left; exact ⟨by omega, by omega, by match xs with | [] => exact h | [_] => exact h | _ :: _ :: _ => exact h, by omega⟩
    | i + 2, k + 1, h =>
      have h' : xlg (xs2 xs (i + 1) v) k = some w := by match xs with | [] => exact h | [_] => exact h | _ :: _ :: _ => exact h
      rcases ih (i + 1) v k w h' with ⟨h1, h2⟩ | ⟨h1, h1', h2, h3⟩ | ⟨h1, h2⟩
      · left; exact ⟨by omega, h2⟩
      · right; left; exact ⟨by omega, by omega, h2, fun z => h3 ⟨by omega, z.2⟩⟩
      · right; right; exact ⟨by simp; omega, h2⟩
/-- what a store of the machine leaves is what xs1 says -/
theorem xLH.put1 {ω : xW} {nL : Nat} {pl : List (Option Value)} {i : Nat} {v : Value} (hn : i < pl.length) {ls' : Array Slot}
    (h : lv_has ls' nL ((i, xtr ω v) :: (xll ω 0 pl).filter (fun q => !(q.1 == i) && !(q.1 + 1 == i && q.2.category == 2)))) : xLH ω ls' nL (xs1 pl i v) := by
  refine ⟨h.1, h.2.1, fun q hq => h.2.2 q ?_⟩
  obtain ⟨k, w, h1, h2, h3⟩ := (xll_mem _ 0 q).mp hq
  rcases xs1_get pl i v k w h2 with ⟨e1, e2⟩ | ⟨e1, e2, e3⟩ | ⟨e1, -⟩
  · subst e1; subst e2
    exact List.mem_cons.mpr (Or.inl (Prod.ext (by simpa using h1) h3))
  · refine List.mem_cons.mpr (Or.inr (List.mem_filter.mpr ⟨(xll_mem pl 0 q).mpr ⟨k, w, h1, e2, h3⟩, ?_⟩))
    have h4 : q.1 = k := by omega
    have h5 : q.2.category = w.category := by rw [h3, xcat]
    rw [h4, h5]
    have : ¬ (k + 1 = i ∧ w.category = 2) := e3
    simp [e1]
    omega
  · omega
theorem xLH.put2 {ω : xW} {nL : Nat} {pl : List (Option Value)} {i : Nat} {v : Value} (hn : i + 1 < pl.length) {ls' : Array Slot}
    (h : lv_has ls' nL ((i, xtr ω v) :: (xll ω 0 pl).filter (fun q => !(q.1 == i) && (!(q.1 == i + 1) && !(q.1 + 1 == i && q.2.category == 2))))) : xLH ω ls' nL (xs2 pl i v) := by
  refine ⟨h.1, h.2.1, fun q hq => h.2.2 q ?_⟩
  obtain ⟨k, w, h1, h2, h3⟩ := (xll_mem _ 0 q).mp hq
  rcases xs2_get pl i v k w h2 with ⟨e1, e2⟩ | ⟨e1, e1', e2, e3⟩ | ⟨e1, -⟩
  · subst e1; subst e2
    exact List.mem_cons.mpr (Or.inl (Prod.ext (by simpa using h1) h3))
  · refine List.mem_cons.mpr (Or.inr (List.mem_filter.mpr ⟨(xll_mem pl 0 q).mpr ⟨k, w, h1, e2, h3⟩, ?_⟩))
    have h4 : q.1 = k := by omega
    have h5 : q.2.category = w.category := by rw [h3, xcat]
    rw [h4, h5]
    have : ¬ (k + 1 = i ∧ w.category = 2) := e3
    simp [e1, e1']
    omega
  · omega
/-- the locals at a method's entry -/
def xen : List Value → Nat → List (Option Value)
  | _, 0 => []
  | [], n + 1 => none :: xen [] n
  | .long v :: vs, n + 2 => some (.long v) :: none :: xen vs n
  | .double v :: vs, n + 2 => some (.double v) :: none :: xen vs n
  | v :: vs, n + 1 => some v :: xen vs n
theorem xen_args (ω : xW) : ∀ (av : List Value) (n i : Nat) (q : Nat × Value), q ∈ xll ω i (xen av n) → q ∈ lv_args i (av.map (xtr ω)) := by
  intro av
  induction av with
  | nil =>
    intro n
    induction n with
    | zero => intro i q h; simp [xen, xll] at h
    | succ n ih => intro i q h; simp only [xen, xll] at h; have := ih (i + 1) q h; simp [lv_args] at this
  | cons v vs ih =>
    intro n i q h
    have hc : (xtr ω v).category = v.category := xcat ω v
    cases n with
    | zero => simp [xen, xll] at h
    | succ n =>
      cases v with
      | long x =>
        cases n with
        | zero =>
          simp only [xen, xll, List.mem_cons, List.not_mem_nil, or_false] at h
          subst h
          exact List.mem_cons_self
        | succ n =>
          simp only [xen, xll, List.mem_cons] at h
          rcases h with h | h
          · subst h; exact List.mem_cons_self
          · exact List.mem_cons_of_mem _ (ih n (i + 1 + 1) q h)
      | double x =>
        cases n with
        | zero =>
          simp only [xen, xll, List.mem_cons, List.not_mem_nil, or_false] at h
          subst h
          exact List.mem_cons_self
        | succ n =>
          simp only [xen, xll, List.mem_cons] at h
          rcases h with h | h
          · subst h; exact List.mem_cons_self
          · exact List.mem_cons_of_mem _ (ih n (i + 1 + 1) q h)
      | _ =>
        simp only [xen, xll, List.mem_cons] at h
        rcases h with h | h
        · subst h; exact List.mem_cons_self
        · exact List.mem_cons_of_mem _ (ih n (i + 1) q h)
theorem xLH.entry {ω : xW} {ls : Array Slot} {nL : Nat} {av : List Value} (h : lv_has ls nL (lv_args 0 (av.map (xtr ω)))) {pl : List (Option Value)} (hp : xen av nL = pl) : xLH ω ls nL pl := by
  subst hp
  exact ⟨h.1, h.2.1, fun q hq => h.2.2 q (xen_args ω av nL 0 q hq)⟩
/-! ===== the heap ===== -/
theorem xad_ge (ω : xW) {k : Nat} (h : 4 ≤ k) : xad ω k = ω.2.2.2 + (k - 4) := if_neg (by omega)
theorem xws_at (ω : xW) {n k : Nat} (D : xD) (r : xR) (h : 4 ≤ k) (hk : k < n) : (xws ω n D r)[k - 4]? = some (xad ω k, xent ω D r k) := by
  have h1 : k - 4 < n - 4 := by omega
  have h2 : k - 4 + 4 = k := by omega
  simp [xws, List.getElem?_map, List.getElem?_range h1, h2]
theorem xws_get (ω : xW) {n i : Nat} {D : xD} {r : xR} {q : Nat × va_E} (h : (xws ω n D r)[i]? = some q) : i < n - 4 ∧ q = (xad ω (i + 4), xent ω D r (i + 4)) := by
  simp only [xws, List.getElem?_map] at h
  by_cases hi : i < n - 4
  · rw [List.getElem?_range hi] at h
    exact ⟨hi, (Option.some.inj h).symm⟩
  · rw [List.getElem?_eq_none (by simp; omega)] at h
    cases h
theorem xws_D (ω : xW) (n : Nat) (D : xD) (r : xR) : va_D (xA ω) (xws ω n D r) := by
  refine ⟨fun i j p q hi hj h => ?_, fun k q h => ?_⟩
  · obtain ⟨-, rfl⟩ := xws_get ω hi
    obtain ⟨-, rfl⟩ := xws_get ω hj
    simp only [xad_ge ω (show 4 ≤ i + 4 by omega), xad_ge ω (show 4 ≤ j + 4 by omega)] at h
    omega
  · obtain ⟨-, rfl⟩ := xws_get ω h
    show ω.2.2.2 ≤ xad ω (k + 4)
    rw [xad_ge ω (by omega)]
    omega
theorem xent_congr (ω : xW) {D D' : xD} {r r' : xR} {k : Nat} (h : D' k = D k) (h' : r' k = r k) : xent ω D' r' k = xent ω D r k := by
  unfold xent xarr
  rw [show xfv ω (xSH k).1 D' r' k = xfv ω (xSH k).1 D r k from funext fun j => by unfold xfv; rw [h, h'], h, h']
theorem xws_set (ω : xW) {n k : Nat} {D D' : xD} {r r' : xR} {e : va_E} (h : 4 ≤ k) (hk : k < n) (he : e = xent ω D' r' k) (hD : ∀ q, q ≠ k → D' q = D q) (hr : ∀ q, q ≠ k → r' q = r q) : (xws ω n D r).set (k - 4) (xad ω k, e) = xws ω n D' r' := by
  subst he
  apply List.ext_getElem?
  intro i
  by_cases hik : i = k - 4
  · subst hik
    rw [xws_at ω D' r' h hk, List.getElem?_set_self]
    simp [xws]; omega
  · rw [List.getElem?_set_ne (Ne.symm hik)]
    simp only [xws, List.getElem?_map]
    by_cases hi : i < n - 4
    · rw [List.getElem?_range hi]
      simp only [Option.map_some, Option.some.injEq, Prod.mk.injEq, true_and]
      exact (xent_congr ω (hD _ (by omega)) (hr _ (by omega))).symm
    · rw [List.getElem?_eq_none (by simp; omega)]; rfl
def xRep (ω : xW) (n : Nat) (D : xD) (r : xR) (H : Heap) : Prop := (n < 351 → H.size = xad ω n) ∧ 4 ≤ n ∧ va_P ω.1 vwCl (xws ω n D r) H
theorem xent_obj (ω : xW) {D : xD} {r : xR} {k ci z : Nat} (hs : xSH k = (ci, z)) (hc : ci < 5) : xent ω D r k = .inr (ci, (List.range (xN ci)).map (xfv ω ci D r k)) := by
  unfold xent; rw [hs]; exact if_pos hc
theorem xent_arr (ω : xW) {D : xD} {r : xR} {k c z : Nat} (hs : xSH k = (c, z)) (hc : ¬ c < 5) : xent ω D r k = .inl (ω.2.1 c, (z, xarr ω c D r k)) := by
  unfold xent; rw [hs]; exact if_neg hc
/-- one number of the memory becomes another -/
def xu (D : xD) (a j : Nat) (e : Int) : xD := fun a' => if a' = a then (fun j' => if j' = j then e else D a' j') else D a'
theorem xu_at (D : xD) (a j : Nat) (e : Int) : xu D a j e a j = e := by simp [xu]
theorem xu_ne (D : xD) (a j : Nat) (e : Int) {a' j' : Nat} (h : a' ≠ a ∨ j' ≠ j) : xu D a j e a' j' = D a' j' := by
  unfold xu
  by_cases h1 : a' = a
  · rw [if_pos h1]; exact if_neg (h.resolve_left (not_not_intro h1))
  · rw [if_neg h1]
theorem xu_row (D : xD) (a j : Nat) (e : Int) {a' : Nat} (h : a' ≠ a) : xu D a j e a' = D a' := if_neg h
def xur (r : xR) (a j : Nat) (e : Option Nat) : xR := fun a' => if a' = a then (fun j' => if j' = j then e else r a' j') else r a'
theorem xur_at (D : xR) (a j : Nat) (e : Option Nat) : xur D a j e a j = e := by simp [xur]
theorem xur_ne (D : xR) (a j : Nat) (e : Option Nat) {a' j' : Nat} (h : a' ≠ a ∨ j' ≠ j) : xur D a j e a' j' = D a' j' := by
  unfold xur
  by_cases h1 : a' = a
  · rw [if_pos h1]; exact if_neg (h.resolve_left (not_not_intro h1))
  · rw [if_neg h1]
theorem xur_row (D : xR) (a j : Nat) (e : Option Nat) {a' : Nat} (h : a' ≠ a) : xur D a j e a' = D a' := if_neg h
theorem xfs_get (ω : xW) {ci j : Nat} {D : xD} {r : xR} {a : Nat} (hj : j < xN ci) : ((List.range (xN ci)).map (xfv ω ci D r a))[j]? = some (xfv ω ci D r a j) := by
  rw [List.getElem?_map, List.getElem?_range hj]; rfl
theorem xfs_set (ω : xW) {ci j : Nat} {D D' : xD} {r r' : xR} {a : Nat} (v : Value) (hj : j < xN ci) (hv : v = xfv ω ci D' r' a j) (hD : ∀ i, i ≠ j → D' a i = D a i) (hr : ∀ i, i ≠ j → r' a i = r a i) : ((List.range (xN ci)).map (xfv ω ci D r a)).set j v = (List.range (xN ci)).map (xfv ω ci D' r' a) := by
  subst hv
  apply List.ext_getElem?
  intro i
  by_cases hi : i = j
  · subst hi
    rw [xfs_get ω hj, List.getElem?_set_self (by simpa using hj)]
  · rw [List.getElem?_set_ne (Ne.symm hi)]
    simp only [List.getElem?_map]
    by_cases h : i < xN ci
    · rw [List.getElem?_range h]
      simp only [Option.map_some, Option.some.injEq]
      unfold xfv
      rw [hD i hi, hr i hi]
    · rw [List.getElem?_eq_none (by simpa using h)]; rfl
/-! ===== numbers ===== -/
theorem xi_in {k n : Nat} (h : k < n) (hn : n ≤ 100000) : vp_in (Int32.ofInt (k : Int)) n ∧ (Int32.ofInt (k : Int)).toNatClampNeg = k := by
  have h1 : (Int32.ofInt (k : Int)).toNatClampNeg = k := by
    rw [Int32.toNatClampNeg_ofInt_of_le (by omega) (by omega)]; simp
  refine ⟨fun z => ?_, h1⟩
  rcases z with z | z
  · rw [Int32.lt_iff_toInt_lt, Int32.toInt_ofInt_of_le (by omega) (by omega)] at z
    exact absurd z (by simp)
  · rw [h1] at z; omega
abbrev xI (a : Int) : Prop := -2147483648 ≤ a ∧ a < 2147483648
abbrev xJ (a : Int) : Prop := -9223372036854775808 ≤ a ∧ a < 9223372036854775808
theorem xti {a : Int} (h : xI a) : (Int32.ofInt a).toInt = a := Int32.toInt_ofInt_of_le h.1 h.2
theorem xtl {a : Int} (h : xJ a) : (Int64.ofInt a).toInt = a := Int64.toInt_ofInt_of_le h.1 h.2
theorem xi_lt {a b : Int} (ha : xI a) (hb : xI b) : Int32.ofInt a < Int32.ofInt b ↔ a < b := by rw [Int32.lt_iff_toInt_lt, xti ha, xti hb]
theorem xi_le {a b : Int} (ha : xI a) (hb : xI b) : Int32.ofInt a ≤ Int32.ofInt b ↔ a ≤ b := by rw [Int32.le_iff_toInt_le, xti ha, xti hb]
theorem xi_eq {a b : Int} (ha : xI a) (hb : xI b) : Int32.ofInt a = Int32.ofInt b ↔ a = b := by rw [← Int32.toInt_inj, xti ha, xti hb]
theorem xl_lt {a b : Int} (ha : xJ a) (hb : xJ b) : Int64.ofInt a < Int64.ofInt b ↔ a < b := by rw [Int64.lt_iff_toInt_lt, xtl ha, xtl hb]
theorem xl_eq {a b : Int} (ha : xJ a) (hb : xJ b) : Int64.ofInt a = Int64.ofInt b ↔ a = b := by rw [← Int64.toInt_inj, xtl ha, xtl hb]
/-! ===== the judgements ===== -/
abbrev xC : Type := Program × Launch × Env × Room × State × MethodId × Array Value × List Frame × Method × Code × (State → Prop) × xW × Nat × Nat × Nat × Nat
def xV (γ : xC) (pc : Nat) (pl : List (Option Value)) (st : List Value) (σ : Nat × Nat) (D : xD) (r : xR) : Prop := match γ with
  | (p, l, e, R, s, m, args, below, meth, c, Q, ω, n0, z0, n1, z1) =>
    n0 ≤ σ.1 → z0 ≤ σ.2 → σ.1 ≤ n1 → σ.2 ≤ z1 → ∀ (H : Heap) (locs : List Loc) (ls : Array Slot), xRep ω σ.1 D r H → va_S (xA ω) s.heap H locs → xLH ω ls c.maxLocals pl →
      W p l e R s m args below meth c H locs (σ.1 - n0) (σ.2 - z0) Q (F0 m pc ls (st.map (xtr ω)))
def xX (γ : xC) (cc : ByteArray) (nL : Nat) (y : MethodName) (d : Nat) : Prop := match γ with
  | (p, _, _, R, s, m, args, _, meth, c, _, ω, n0, z0, n1, z1) =>
    p.tables.exec = Jvm.exec ∧ c.code = cc ∧ c.maxLocals = nL ∧ s.vm.findClass y.cls = some m.cls ∧ (∀ w ∈ xtb, w.before args s = true) ∧ xKF ω s s.heap ∧ (∀ q, s.heap.size ≤ q → xA ω q)
      ∧ d ≤ R.frames ∧ 40 * d ≤ R.locals ∧ n1 - n0 ≤ R.cells ∧ z1 - z0 ≤ R.slots ∧ meth.name = y.name
abbrev xM : Type := MethodName × ByteArray × Nat × Option FieldType
def xMW (μ : xM) : List Cond := .code μ.1 μ.2.1 μ.2.2.1 μ.2.2.2 :: xtb
def xQ (ω : xW) (σ' : Nat × Nat) (P : Option Value → xD → xR → Prop) : Array Value → State → Outcome → State → Prop := fun _ st o t =>
  (∃ (v : Option Value) (D' : xD) (r' : xR), o = .returned (v.map (xtr ω)) ∧ P v D' r' ∧ xRep ω σ'.1 D' r' t.heap) ∧ va_F (xA ω) st t
def MX (d : Nat) (μ : xM) (av : List Value) (σ : Nat × Nat) (D : xD) (r : xR) (σ' : Nat × Nat) (P : Option Value → xD → xR → Prop) : Prop := ∀ (l : Launch) (ω : xW),
  Met l μ.1 (xMW μ) ({ frames := d, cells := σ'.1 - σ.1, slots := σ'.2 - σ.2, locals := 40 * d } : Room) (va_Pc (av.map (xtr ω)) (fun U => (xRep ω σ.1 D r U.heap ∧ σ.1 ≤ σ'.1 ∧ σ.2 ≤ σ'.2 ∧ ω.2.2.2 ≤ U.heap.size) ∧ xKF ω U U.heap)) (xQ ω σ' P) (σ'.1 - σ.1) (σ'.2 - σ.2) (xA ω)
def xRX (γ : xC) (rt : Option FieldType) (σ' : Nat × Nat) (P : Option Value → xD → xR → Prop) : Prop := match γ with
  | (_, _, _, _, s, _, args, below, meth, _, Q, ω, n0, z0, n1, z1) => Q = MQ below (xQ ω σ' P) args s (n1 - n0) (z1 - z0) (xA ω) ∧ meth.sig.returnType = rt ∧ meth.locks = false ∧ n1 = σ'.1 ∧ z1 = σ'.2
theorem xKF.moved {ω : xW} {s U : State} {H0 H : Heap} (hW : s.WarmedH U.vm) (h : xKF ω s H0) (hq : ∀ a : Nat, a < H0.size → ¬ xA ω a → H[a]? = H0[a]?) : xKF ω U H := by
  obtain ⟨h1, h2, h3, h4, h5, h6, h7, h8, h9⟩ := h
  exact ⟨va_K.moved hW.alike h1, h2.moved hW.alike, h3.moved hW.alike, va_Nw.warmM hW h4, va_Nw.warmM hW h5, va_Nw.warmM hW h6, va_Nw.warmF hW h7, va_Nw.warmC hW h8,
    fun k a b => ⟨((h9 k a b).1.kept hq).moved hW.alike, ((h9 k a b).2.kept hq).moved hW.alike⟩⟩
theorem xKF.same {ω : xW} {s U : State} {H : Heap} (hv : s.vm = U.vm) (h : xKF ω s H) : xKF ω U H := by
  obtain ⟨h1, h2, h3, h4, h5, h6, h7, h8, h9⟩ := h
  have ha : s.vm.Alike U.vm := hv ▸ Vm.Alike.refl s.vm
  exact ⟨va_K.moved ha h1, h2.moved ha, h3.moved ha, va_Nw.same rfl hv h4, va_Nw.same rfl hv h5, va_Nw.same rfl hv h6, va_Nw.same rfl hv h7, va_Nw.same rfl hv h8,
    fun k a b => ⟨(h9 k a b).1.moved ha, (h9 k a b).2.moved ha⟩⟩
set_option maxHeartbeats 4000000 in
/-- a method's contract out of the walk of its body -/
theorem MX.of {d : Nat} {y : MethodName} {cc : ByteArray} {nL : Nat} {rt : Option FieldType} {av : List Value} {σ σ' : Nat × Nat} {D : xD} {r : xR} {P : Option Value → xD → xR → Prop} (hy : plainName y.cls = true) (pl : List (Option Value)) (hpl : xen av nL = pl) (hlen : (av.map Value.category).sum ≤ nL)
    (h : ∀ γ : xC, xX γ cc nL y d → xRX γ rt σ' P → xV γ 0 pl [] σ D r) : MX d (y, cc, nL, rt) av σ D r σ' P := by
  intro l ω
  refine Met.ofW (cc := cc) (maxL := nL) (ret := rt) hy rfl ?_
  intro p e s m args below meth c s₁ B hml hv
  obtain ⟨rfl, ⟨hRep, hn, hz, hbase⟩, hKF⟩ := hv
  have hts0 := atoms_spec (ws := xMW (y, cc, nL, rt)) B.pre
  have hts : ∀ w ∈ xtb, w.before (av.map (xtr ω)).toArray s = true := fun w hw => hts0 w (List.mem_cons_of_mem _ hw)
  have hown : s.vm.findClass y.cls = some m.cls := findClass_of_methodNamed B.named
  have hin : meth.name = y.name := (name_of_methodNamed B.named B.method).1
  have hl := lv_entry (av.map (xtr ω)) (n := nL) (Nat.le_trans (xlg_len _) (by rw [List.map_map, show (Value.category ∘ xtr ω) = Value.category from funext fun v => xcat ω v]; exact hlen))
  rw [lg_entry_eq]
  generalize (lg_sl (av.map (xtr ω)) ++ List.replicate (nL - (lg_sl (av.map (xtr ω))).length) Slot.unset).toArray = ls at hl ⊢
  have hV := h (p, l, e, (headSpec (xMW (y, cc, nL, rt)) ({ frames := d, cells := σ'.1 - σ.1, slots := σ'.2 - σ.2, locals := 40 * d } : Room)).room, s, m, (av.map (xtr ω)).toArray, below, meth, c, _, ω, σ.1, σ.2, σ'.1, σ'.2)
    ⟨B.exec, B.bytes, hml, hown, hts, hKF, fun q hq => Nat.le_trans hbase hq, Nat.le_refl _, Nat.le_refl _, Nat.le_refl _, Nat.le_refl _, hin⟩
    ⟨rfl, B.returns, B.notSynchronized, rfl, rfl⟩ (Nat.le_refl _) (Nat.le_refl _) hn hz s.heap [] ls hRep va_S.rf (by rw [hml]; exact xLH.entry hl hpl)
  rw [Nat.sub_self, Nat.sub_self] at hV
  exact hV
end
section
theorem xl_le {a b : Int} (ha : xJ a) (hb : xJ b) : Int64.ofInt a ≤ Int64.ofInt b ↔ a ≤ b := by rw [Int64.le_iff_toInt_le, xtl ha, xtl hb]
theorem xi_min {a : Int} (h : xI a) : Int32.minValue.toInt ≤ a ∧ a ≤ Int32.maxValue.toInt := by
  have h1 : Int32.minValue.toInt = -2147483648 := by decide
  have h2 : Int32.maxValue.toInt = 2147483647 := by decide
  rw [h1, h2]; exact ⟨h.1, Int.le_of_lt_add_one h.2⟩
theorem xl_min {a : Int} (h : xJ a) : Int64.minValue.toInt ≤ a ∧ a ≤ Int64.maxValue.toInt := by
  have h1 : Int64.minValue.toInt = -9223372036854775808 := by decide
  have h2 : Int64.maxValue.toInt = 9223372036854775807 := by decide
  rw [h1, h2]; exact ⟨h.1, Int.le_of_lt_add_one h.2⟩
section XV
variable {γ : xC} {cc : ByteArray} {nL d : Nat} {y : MethodName} {pc q : Nat} {pl : List (Option Value)} {st : List Value} {σ : Nat × Nat} {D : xD} {r : xR}
theorem v_iconst (hX : xX γ cc nL y d) {n : Int} (hd : decode cc pc = .ok (.iconst n, 1)) (hq : pc + 1 = q) (k : xV γ q pl (vi n :: st) σ D r) : xV γ pc pl (st) σ D r := by
  subst hq
  obtain ⟨p, l, e, R, s, m, args, below, meth, c, Q, ω, n0, z0, n1, z1⟩ := γ
  obtain ⟨hx, hb, hml, hown, hts, hKF, hA, hfr, hlo, hce, hsl, hnm⟩ := hX
  intro g1 g2 g3 g4 H locs ls hR hS hL
  exact lv_iconst hx hb hd rfl (k g1 g2 g3 g4 H locs ls hR hS hL)
theorem v_bipush (hX : xX γ cc nL y d) {n : Int} (hv : (Int8.ofInt n).toInt32 = Int32.ofInt n) (hd : decode cc pc = .ok (.bipush n, 2)) (hq : pc + 2 = q) (k : xV γ q pl (vi n :: st) σ D r) : xV γ pc pl (st) σ D r := by
  subst hq
  obtain ⟨p, l, e, R, s, m, args, below, meth, c, Q, ω, n0, z0, n1, z1⟩ := γ
  obtain ⟨hx, hb, hml, hown, hts, hKF, hA, hfr, hlo, hce, hsl, hnm⟩ := hX
  intro g1 g2 g3 g4 H locs ls hR hS hL
  exact lv_bipush hx hb hd hv (k g1 g2 g3 g4 H locs ls hR hS hL)
theorem v_sipush (hX : xX γ cc nL y d) {n : Int} (hv : (Int16.ofInt n).toInt32 = Int32.ofInt n) (hd : decode cc pc = .ok (.sipush n, 3)) (hq : pc + 3 = q) (k : xV γ q pl (vi n :: st) σ D r) : xV γ pc pl (st) σ D r := by
  subst hq
  obtain ⟨p, l, e, R, s, m, args, below, meth, c, Q, ω, n0, z0, n1, z1⟩ := γ
  obtain ⟨hx, hb, hml, hown, hts, hKF, hA, hfr, hlo, hce, hsl, hnm⟩ := hX
  intro g1 g2 g3 g4 H locs ls hR hS hL
  exact lv_sipush hx hb hd hv (k g1 g2 g3 g4 H locs ls hR hS hL)
theorem v_lconst (hX : xX γ cc nL y d) {n : Fin 2} {e : Int} (hv : Int64.ofNat (n : Nat) = Int64.ofInt e) (hd : decode cc pc = .ok (.lconst n, 1)) (hq : pc + 1 = q) (k : xV γ q pl (vl e :: st) σ D r) : xV γ pc pl (st) σ D r := by
  subst hq
  obtain ⟨p, l, e, R, s, m, args, below, meth, c, Q, ω, n0, z0, n1, z1⟩ := γ
  obtain ⟨hx, hb, hml, hown, hts, hKF, hA, hfr, hlo, hce, hsl, hnm⟩ := hX
  intro g1 g2 g3 g4 H locs ls hR hS hL
  exact lv_lconst hx hb hd hv (k g1 g2 g3 g4 H locs ls hR hS hL)
theorem v_ldc2 (hX : xX γ cc nL y d) {i : Nat} {v : Int64} {e : Int} (hv : v = Int64.ofInt e) (hw : Cond.constantLong y.cls i v ∈ xtb) (hd : decode cc pc = .ok (.ldc2_w i, 3)) (hq : pc + 3 = q) (k : xV γ q pl (vl e :: st) σ D r) : xV γ pc pl (st) σ D r := by
  subst hq
  obtain ⟨p, l, e, R, s, m, args, below, meth, c, Q, ω, n0, z0, n1, z1⟩ := γ
  obtain ⟨hx, hb, hml, hown, hts, hKF, hA, hfr, hlo, hce, hsl, hnm⟩ := hX
  intro g1 g2 g3 g4 H locs ls hR hS hL
  exact lv_ldc2 hx hb hown (hts _ (hv ▸ hw)) hd (k g1 g2 g3 g4 H locs ls hR hS hL)
theorem v_null (hX : xX γ cc nL y d)  (hd : decode cc pc = .ok (.aconst_null, 1)) (hq : pc + 1 = q) (k : xV γ q pl (.null :: st) σ D r) : xV γ pc pl (st) σ D r := by
  subst hq
  obtain ⟨p, l, e, R, s, m, args, below, meth, c, Q, ω, n0, z0, n1, z1⟩ := γ
  obtain ⟨hx, hb, hml, hown, hts, hKF, hA, hfr, hlo, hce, hsl, hnm⟩ := hX
  intro g1 g2 g3 g4 H locs ls hR hS hL
  exact lv_null hx hb hd (k g1 g2 g3 g4 H locs ls hR hS hL)
theorem v_iload_n (hX : xX γ cc nL y d) {kk : Fin 4} {i : Nat} {x : Int32} (hd : decode cc pc = .ok (.iload_n kk, 1)) (hi : (kk : Nat) = i) (hl : xlg pl i = some (.int x)) (hq : pc + 1 = q) (k : xV γ q pl (.int x :: st) σ D r) : xV γ pc pl (st) σ D r := by
  subst hq
  obtain ⟨p, l, e, R, s, m, args, below, meth, c, Q, ω, n0, z0, n1, z1⟩ := γ
  obtain ⟨hx, hb, hml, hown, hts, hKF, hA, hfr, hlo, hce, hsl, hnm⟩ := hX
  intro g1 g2 g3 g4 H locs ls hR hS hL
  exact lv_iload_n hx hb hd hi (hL.get hl) (k g1 g2 g3 g4 H locs ls hR hS hL)
theorem v_iload (hX : xX γ cc nL y d) {i : Nat} {x : Int32} (hd : decode cc pc = .ok (.iload i, 2)) (hl : xlg pl i = some (.int x)) (hq : pc + 2 = q) (k : xV γ q pl (.int x :: st) σ D r) : xV γ pc pl (st) σ D r := by
  subst hq
  obtain ⟨p, l, e, R, s, m, args, below, meth, c, Q, ω, n0, z0, n1, z1⟩ := γ
  obtain ⟨hx, hb, hml, hown, hts, hKF, hA, hfr, hlo, hce, hsl, hnm⟩ := hX
  intro g1 g2 g3 g4 H locs ls hR hS hL
  exact lv_iload hx hb hd (hL.get hl) (k g1 g2 g3 g4 H locs ls hR hS hL)
theorem v_lload_n (hX : xX γ cc nL y d) {kk : Fin 4} {i : Nat} {x : Int64} (hd : decode cc pc = .ok (.lload_n kk, 1)) (hi : (kk : Nat) = i) (hl : xlg pl i = some (.long x)) (hq : pc + 1 = q) (k : xV γ q pl (.long x :: st) σ D r) : xV γ pc pl (st) σ D r := by
  subst hq
  obtain ⟨p, l, e, R, s, m, args, below, meth, c, Q, ω, n0, z0, n1, z1⟩ := γ
  obtain ⟨hx, hb, hml, hown, hts, hKF, hA, hfr, hlo, hce, hsl, hnm⟩ := hX
  intro g1 g2 g3 g4 H locs ls hR hS hL
  exact lv_lload_n hx hb hd hi (hL.get hl) (k g1 g2 g3 g4 H locs ls hR hS hL)
theorem v_lload (hX : xX γ cc nL y d) {i : Nat} {x : Int64} (hd : decode cc pc = .ok (.lload i, 2)) (hl : xlg pl i = some (.long x)) (hq : pc + 2 = q) (k : xV γ q pl (.long x :: st) σ D r) : xV γ pc pl (st) σ D r := by
  subst hq
  obtain ⟨p, l, e, R, s, m, args, below, meth, c, Q, ω, n0, z0, n1, z1⟩ := γ
  obtain ⟨hx, hb, hml, hown, hts, hKF, hA, hfr, hlo, hce, hsl, hnm⟩ := hX
  intro g1 g2 g3 g4 H locs ls hR hS hL
  exact lv_lload hx hb hd (hL.get hl) (k g1 g2 g3 g4 H locs ls hR hS hL)
theorem v_aload_n (hX : xX γ cc nL y d) {kk : Fin 4} {i : Nat} {x : Nat} (hd : decode cc pc = .ok (.aload_n kk, 1)) (hi : (kk : Nat) = i) (hl : xlg pl i = some (.ref x)) (hq : pc + 1 = q) (k : xV γ q pl (.ref x :: st) σ D r) : xV γ pc pl (st) σ D r := by
  subst hq
  obtain ⟨p, l, e, R, s, m, args, below, meth, c, Q, ω, n0, z0, n1, z1⟩ := γ
  obtain ⟨hx, hb, hml, hown, hts, hKF, hA, hfr, hlo, hce, hsl, hnm⟩ := hX
  intro g1 g2 g3 g4 H locs ls hR hS hL
  exact lv_aload_n hx hb hd hi (hL.get hl) (k g1 g2 g3 g4 H locs ls hR hS hL)
theorem v_aload (hX : xX γ cc nL y d) {i : Nat} {x : Nat} (hd : decode cc pc = .ok (.aload i, 2)) (hl : xlg pl i = some (.ref x)) (hq : pc + 2 = q) (k : xV γ q pl (.ref x :: st) σ D r) : xV γ pc pl (st) σ D r := by
  subst hq
  obtain ⟨p, l, e, R, s, m, args, below, meth, c, Q, ω, n0, z0, n1, z1⟩ := γ
  obtain ⟨hx, hb, hml, hown, hts, hKF, hA, hfr, hlo, hce, hsl, hnm⟩ := hX
  intro g1 g2 g3 g4 H locs ls hR hS hL
  exact lv_aload hx hb hd (hL.get hl) (k g1 g2 g3 g4 H locs ls hR hS hL)
theorem v_aloadN_n (hX : xX γ cc nL y d) {kk : Fin 4} {i : Nat}  (hd : decode cc pc = .ok (.aload_n kk, 1)) (hi : (kk : Nat) = i) (hl : xlg pl i = some (.null)) (hq : pc + 1 = q) (k : xV γ q pl (.null :: st) σ D r) : xV γ pc pl (st) σ D r := by
  subst hq
  obtain ⟨p, l, e, R, s, m, args, below, meth, c, Q, ω, n0, z0, n1, z1⟩ := γ
  obtain ⟨hx, hb, hml, hown, hts, hKF, hA, hfr, hlo, hce, hsl, hnm⟩ := hX
  intro g1 g2 g3 g4 H locs ls hR hS hL
  exact lv_aload_nN hx hb hd hi (hL.get hl) (k g1 g2 g3 g4 H locs ls hR hS hL)
theorem v_aloadN (hX : xX γ cc nL y d) {i : Nat}  (hd : decode cc pc = .ok (.aload i, 2)) (hl : xlg pl i = some (.null)) (hq : pc + 2 = q) (k : xV γ q pl (.null :: st) σ D r) : xV γ pc pl (st) σ D r := by
  subst hq
  obtain ⟨p, l, e, R, s, m, args, below, meth, c, Q, ω, n0, z0, n1, z1⟩ := γ
  obtain ⟨hx, hb, hml, hown, hts, hKF, hA, hfr, hlo, hce, hsl, hnm⟩ := hX
  intro g1 g2 g3 g4 H locs ls hR hS hL
  exact lv_aloadN hx hb hd (hL.get hl) (k g1 g2 g3 g4 H locs ls hR hS hL)
theorem v_istore_n (hX : xX γ cc nL y d) {kk : Fin 4} {i : Nat} {x : Int32} (hd : decode cc pc = .ok (.istore_n kk, 1)) (hi : (kk : Nat) = i) (hn1 : i < pl.length) (hn2 : i < nL) (hq : pc + 1 = q) (k : xV γ q (xs1 pl i (.int x)) (st) σ D r) : xV γ pc pl (.int x :: st) σ D r := by
  subst hq
  obtain ⟨p, l, e, R, s, m, args, below, meth, c, Q, ω, n0, z0, n1, z1⟩ := γ
  obtain ⟨hx, hb, hml, hown, hts, hKF, hA, hfr, hlo, hce, hsl, hnm⟩ := hX
  intro g1 g2 g3 g4 H locs ls hR hS hL
  exact lv_istore_n hx hb hd hi hL (by rw [hml]; exact hn2) rfl (fun ls' hl' => k g1 g2 g3 g4 H locs ls' hR hS (xLH.put1 hn1 hl'))
theorem v_istore (hX : xX γ cc nL y d) {i : Nat} {x : Int32} (hd : decode cc pc = .ok (.istore i, 2)) (hn1 : i < pl.length) (hn2 : i < nL) (hq : pc + 2 = q) (k : xV γ q (xs1 pl i (.int x)) (st) σ D r) : xV γ pc pl (.int x :: st) σ D r := by
  subst hq
  obtain ⟨p, l, e, R, s, m, args, below, meth, c, Q, ω, n0, z0, n1, z1⟩ := γ
  obtain ⟨hx, hb, hml, hown, hts, hKF, hA, hfr, hlo, hce, hsl, hnm⟩ := hX
  intro g1 g2 g3 g4 H locs ls hR hS hL
  exact lv_istore hx hb hd hL (by rw [hml]; exact hn2) rfl (fun ls' hl' => k g1 g2 g3 g4 H locs ls' hR hS (xLH.put1 hn1 hl'))
theorem v_lstore_n (hX : xX γ cc nL y d) {kk : Fin 4} {i : Nat} {x : Int64} (hd : decode cc pc = .ok (.lstore_n kk, 1)) (hi : (kk : Nat) = i) (hn1 : i + 1 < pl.length) (hn2 : i + 1 < nL) (hq : pc + 1 = q) (k : xV γ q (xs2 pl i (.long x)) (st) σ D r) : xV γ pc pl (.long x :: st) σ D r := by
  subst hq
  obtain ⟨p, l, e, R, s, m, args, below, meth, c, Q, ω, n0, z0, n1, z1⟩ := γ
  obtain ⟨hx, hb, hml, hown, hts, hKF, hA, hfr, hlo, hce, hsl, hnm⟩ := hX
  intro g1 g2 g3 g4 H locs ls hR hS hL
  exact lv_lstore_n hx hb hd hi hL (by rw [hml]; exact hn2) rfl (fun ls' hl' => k g1 g2 g3 g4 H locs ls' hR hS (xLH.put2 hn1 hl'))
theorem v_lstore (hX : xX γ cc nL y d) {i : Nat} {x : Int64} (hd : decode cc pc = .ok (.lstore i, 2)) (hn1 : i + 1 < pl.length) (hn2 : i + 1 < nL) (hq : pc + 2 = q) (k : xV γ q (xs2 pl i (.long x)) (st) σ D r) : xV γ pc pl (.long x :: st) σ D r := by
  subst hq
  obtain ⟨p, l, e, R, s, m, args, below, meth, c, Q, ω, n0, z0, n1, z1⟩ := γ
  obtain ⟨hx, hb, hml, hown, hts, hKF, hA, hfr, hlo, hce, hsl, hnm⟩ := hX
  intro g1 g2 g3 g4 H locs ls hR hS hL
  exact lv_lstore hx hb hd hL (by rw [hml]; exact hn2) rfl (fun ls' hl' => k g1 g2 g3 g4 H locs ls' hR hS (xLH.put2 hn1 hl'))
theorem v_astore_n (hX : xX γ cc nL y d) {kk : Fin 4} {i : Nat} {x : Nat} (hd : decode cc pc = .ok (.astore_n kk, 1)) (hi : (kk : Nat) = i) (hn1 : i < pl.length) (hn2 : i < nL) (hq : pc + 1 = q) (k : xV γ q (xs1 pl i (.ref x)) (st) σ D r) : xV γ pc pl (.ref x :: st) σ D r := by
  subst hq
  obtain ⟨p, l, e, R, s, m, args, below, meth, c, Q, ω, n0, z0, n1, z1⟩ := γ
  obtain ⟨hx, hb, hml, hown, hts, hKF, hA, hfr, hlo, hce, hsl, hnm⟩ := hX
  intro g1 g2 g3 g4 H locs ls hR hS hL
  exact lv_astore_n hx hb hd hi hL (by rw [hml]; exact hn2) rfl (fun ls' hl' => k g1 g2 g3 g4 H locs ls' hR hS (xLH.put1 hn1 hl'))
theorem v_astore (hX : xX γ cc nL y d) {i : Nat} {x : Nat} (hd : decode cc pc = .ok (.astore i, 2)) (hn1 : i < pl.length) (hn2 : i < nL) (hq : pc + 2 = q) (k : xV γ q (xs1 pl i (.ref x)) (st) σ D r) : xV γ pc pl (.ref x :: st) σ D r := by
  subst hq
  obtain ⟨p, l, e, R, s, m, args, below, meth, c, Q, ω, n0, z0, n1, z1⟩ := γ
  obtain ⟨hx, hb, hml, hown, hts, hKF, hA, hfr, hlo, hce, hsl, hnm⟩ := hX
  intro g1 g2 g3 g4 H locs ls hR hS hL
  exact lv_astore hx hb hd hL (by rw [hml]; exact hn2) rfl (fun ls' hl' => k g1 g2 g3 g4 H locs ls' hR hS (xLH.put1 hn1 hl'))
theorem v_astoreN_n (hX : xX γ cc nL y d) {kk : Fin 4} {i : Nat}  (hd : decode cc pc = .ok (.astore_n kk, 1)) (hi : (kk : Nat) = i) (hn1 : i < pl.length) (hn2 : i < nL) (hq : pc + 1 = q) (k : xV γ q (xs1 pl i (.null)) (st) σ D r) : xV γ pc pl (.null :: st) σ D r := by
  subst hq
  obtain ⟨p, l, e, R, s, m, args, below, meth, c, Q, ω, n0, z0, n1, z1⟩ := γ
  obtain ⟨hx, hb, hml, hown, hts, hKF, hA, hfr, hlo, hce, hsl, hnm⟩ := hX
  intro g1 g2 g3 g4 H locs ls hR hS hL
  exact lv_astore_nN hx hb hd hi hL (by rw [hml]; exact hn2) rfl (fun ls' hl' => k g1 g2 g3 g4 H locs ls' hR hS (xLH.put1 hn1 hl'))
theorem v_astoreN (hX : xX γ cc nL y d) {i : Nat}  (hd : decode cc pc = .ok (.astore i, 2)) (hn1 : i < pl.length) (hn2 : i < nL) (hq : pc + 2 = q) (k : xV γ q (xs1 pl i (.null)) (st) σ D r) : xV γ pc pl (.null :: st) σ D r := by
  subst hq
  obtain ⟨p, l, e, R, s, m, args, below, meth, c, Q, ω, n0, z0, n1, z1⟩ := γ
  obtain ⟨hx, hb, hml, hown, hts, hKF, hA, hfr, hlo, hce, hsl, hnm⟩ := hX
  intro g1 g2 g3 g4 H locs ls hR hS hL
  exact lv_astoreN hx hb hd hL (by rw [hml]; exact hn2) rfl (fun ls' hl' => k g1 g2 g3 g4 H locs ls' hR hS (xLH.put1 hn1 hl'))
theorem v_iinc (hX : xX γ cc nL y d) {i : Nat} {n a : Int} (hd : decode cc pc = .ok (.iinc i n, 3)) (hl : xlg pl i = some (vi a)) (hn1 : i < pl.length) (hn2 : i < nL) (hq : pc + 3 = q) (k : xV γ q (xs1 pl i (vi (a + n))) (st) σ D r) : xV γ pc pl (st) σ D r := by
  subst hq
  obtain ⟨p, l, e, R, s, m, args, below, meth, c, Q, ω, n0, z0, n1, z1⟩ := γ
  obtain ⟨hx, hb, hml, hown, hts, hKF, hA, hfr, hlo, hce, hsl, hnm⟩ := hX
  intro g1 g2 g3 g4 H locs ls hR hS hL
  have hm : (i, Value.int (Int32.ofInt a)) ∈ xll ω 0 pl := (xll_mem pl 0 _).mpr ⟨i, vi a, by simp, hl, rfl⟩
  obtain ⟨j, hj⟩ := List.getElem?_of_mem hm
  exact lv_iinc (v := Int32.ofInt (a + n)) hx hb hd hL hj (Int32.ofInt_add a n).symm (by rw [hml]; exact hn2) rfl (fun ls' hl' => k g1 g2 g3 g4 H locs ls' hR hS (xLH.put1 (v := vi (a + n)) hn1 hl'))
theorem v_iadd (hX : xX γ cc nL y d) {a b : Int} (hd : decode cc pc = .ok (.iadd, 1)) (hq : pc + 1 = q) (k : xV γ q pl (vi (a + b) :: st) σ D r) : xV γ pc pl (vi b :: vi a :: st) σ D r := by
  have k : xV γ q pl ((.int (Int32.ofInt a + Int32.ofInt b) : Value) :: st) σ D r := by rw [← Int32.ofInt_add]; exact k
  subst hq
  obtain ⟨p, l, e, R, s, m, args, below, meth, c, Q, ω, n0, z0, n1, z1⟩ := γ
  obtain ⟨hx, hb, hml, hown, hts, hKF, hA, hfr, hlo, hce, hsl, hnm⟩ := hX
  intro g1 g2 g3 g4 H locs ls hR hS hL
  exact lv_iadd hx hb hd (k g1 g2 g3 g4 H locs ls hR hS hL)
theorem v_isub (hX : xX γ cc nL y d) {a b : Int} (hd : decode cc pc = .ok (.isub, 1)) (hq : pc + 1 = q) (k : xV γ q pl (vi (a - b) :: st) σ D r) : xV γ pc pl (vi b :: vi a :: st) σ D r := by
  have k : xV γ q pl ((.int (Int32.ofInt a - Int32.ofInt b) : Value) :: st) σ D r := by rw [← Int32.ofInt_sub]; exact k
  subst hq
  obtain ⟨p, l, e, R, s, m, args, below, meth, c, Q, ω, n0, z0, n1, z1⟩ := γ
  obtain ⟨hx, hb, hml, hown, hts, hKF, hA, hfr, hlo, hce, hsl, hnm⟩ := hX
  intro g1 g2 g3 g4 H locs ls hR hS hL
  exact lv_isub hx hb hd (k g1 g2 g3 g4 H locs ls hR hS hL)
theorem v_imul (hX : xX γ cc nL y d) {a b : Int} (hd : decode cc pc = .ok (.imul, 1)) (hq : pc + 1 = q) (k : xV γ q pl (vi (a * b) :: st) σ D r) : xV γ pc pl (vi b :: vi a :: st) σ D r := by
  have k : xV γ q pl ((.int (Int32.ofInt a * Int32.ofInt b) : Value) :: st) σ D r := by rw [← Int32.ofInt_mul]; exact k
  subst hq
  obtain ⟨p, l, e, R, s, m, args, below, meth, c, Q, ω, n0, z0, n1, z1⟩ := γ
  obtain ⟨hx, hb, hml, hown, hts, hKF, hA, hfr, hlo, hce, hsl, hnm⟩ := hX
  intro g1 g2 g3 g4 H locs ls hR hS hL
  exact lv_imul hx hb hd (k g1 g2 g3 g4 H locs ls hR hS hL)
theorem v_ladd (hX : xX γ cc nL y d) {a b : Int} (hd : decode cc pc = .ok (.ladd, 1)) (hq : pc + 1 = q) (k : xV γ q pl (vl (a + b) :: st) σ D r) : xV γ pc pl (vl b :: vl a :: st) σ D r := by
  have k : xV γ q pl ((.long (Int64.ofInt a + Int64.ofInt b) : Value) :: st) σ D r := by rw [← Int64.ofInt_add]; exact k
  subst hq
  obtain ⟨p, l, e, R, s, m, args, below, meth, c, Q, ω, n0, z0, n1, z1⟩ := γ
  obtain ⟨hx, hb, hml, hown, hts, hKF, hA, hfr, hlo, hce, hsl, hnm⟩ := hX
  intro g1 g2 g3 g4 H locs ls hR hS hL
  exact lv_ladd hx hb hd (k g1 g2 g3 g4 H locs ls hR hS hL)
theorem v_lsub (hX : xX γ cc nL y d) {a b : Int} (hd : decode cc pc = .ok (.lsub, 1)) (hq : pc + 1 = q) (k : xV γ q pl (vl (a - b) :: st) σ D r) : xV γ pc pl (vl b :: vl a :: st) σ D r := by
  have k : xV γ q pl ((.long (Int64.ofInt a - Int64.ofInt b) : Value) :: st) σ D r := by rw [← Int64.ofInt_sub]; exact k
  subst hq
  obtain ⟨p, l, e, R, s, m, args, below, meth, c, Q, ω, n0, z0, n1, z1⟩ := γ
  obtain ⟨hx, hb, hml, hown, hts, hKF, hA, hfr, hlo, hce, hsl, hnm⟩ := hX
  intro g1 g2 g3 g4 H locs ls hR hS hL
  exact lv_lsub hx hb hd (k g1 g2 g3 g4 H locs ls hR hS hL)
theorem v_lmul (hX : xX γ cc nL y d) {a b : Int} (hd : decode cc pc = .ok (.lmul, 1)) (hq : pc + 1 = q) (k : xV γ q pl (vl (a * b) :: st) σ D r) : xV γ pc pl (vl b :: vl a :: st) σ D r := by
  have k : xV γ q pl ((.long (Int64.ofInt a * Int64.ofInt b) : Value) :: st) σ D r := by rw [← Int64.ofInt_mul]; exact k
  subst hq
  obtain ⟨p, l, e, R, s, m, args, below, meth, c, Q, ω, n0, z0, n1, z1⟩ := γ
  obtain ⟨hx, hb, hml, hown, hts, hKF, hA, hfr, hlo, hce, hsl, hnm⟩ := hX
  intro g1 g2 g3 g4 H locs ls hR hS hL
  exact lv_lmul hx hb hd (k g1 g2 g3 g4 H locs ls hR hS hL)
theorem v_idiv (hX : xX γ cc nL y d) {a b : Int} (ha : 0 ≤ a) (ha2 : xI a) (hb0 : 0 < b) (hb2 : xI b) (hd : decode cc pc = .ok (.idiv, 1)) (hq : pc + 1 = q) (k : xV γ q pl (vi (a / b) :: st) σ D r) : xV γ pc pl (vi b :: vi a :: st) σ D r := by
  have h1 : Int32.ofInt (a / b) = Int32.ofInt a / Int32.ofInt b := by
    rw [← Int.tdiv_eq_ediv_of_nonneg ha]
    exact Int32.ofInt_tdiv (xi_min ha2).1 (xi_min ha2).2 (xi_min hb2).1 (xi_min hb2).2
  have k : xV γ q pl ((.int (Int32.ofInt a / Int32.ofInt b) : Value) :: st) σ D r := by rw [← h1]; exact k
  have hne : ¬ Int32.ofInt b = 0 := by
    rw [show (0 : Int32) = Int32.ofInt 0 from rfl, xi_eq hb2 (by decide)]; omega
  subst hq
  obtain ⟨p, l, e, R, s, m, args, below, meth, c, Q, ω, n0, z0, n1, z1⟩ := γ
  obtain ⟨hx, hb, hml, hown, hts, hKF, hA, hfr, hlo, hce, hsl, hnm⟩ := hX
  intro g1 g2 g3 g4 H locs ls hR hS hL
  exact lv_idiv hx hb hd hne (k g1 g2 g3 g4 H locs ls hR hS hL)
theorem v_ldiv (hX : xX γ cc nL y d) {a b : Int} (ha : 0 ≤ a) (ha2 : xJ a) (hb0 : 0 < b) (hb2 : xJ b) (hd : decode cc pc = .ok (.ldiv, 1)) (hq : pc + 1 = q) (k : xV γ q pl (vl (a / b) :: st) σ D r) : xV γ pc pl (vl b :: vl a :: st) σ D r := by
  have h1 : Int64.ofInt (a / b) = Int64.ofInt a / Int64.ofInt b := by
    rw [← Int.tdiv_eq_ediv_of_nonneg ha]
    exact Int64.ofInt_tdiv (xl_min ha2).1 (xl_min ha2).2 (xl_min hb2).1 (xl_min hb2).2
  have k : xV γ q pl ((.long (Int64.ofInt a / Int64.ofInt b) : Value) :: st) σ D r := by rw [← h1]; exact k
  have hne : ¬ Int64.ofInt b = 0 := by
    rw [show (0 : Int64) = Int64.ofInt 0 from rfl, xl_eq hb2 (by decide)]; omega
  subst hq
  obtain ⟨p, l, e, R, s, m, args, below, meth, c, Q, ω, n0, z0, n1, z1⟩ := γ
  obtain ⟨hx, hb, hml, hown, hts, hKF, hA, hfr, hlo, hce, hsl, hnm⟩ := hX
  intro g1 g2 g3 g4 H locs ls hR hS hL
  exact lv_ldiv hx hb hd hne (k g1 g2 g3 g4 H locs ls hR hS hL)
theorem v_iand (hX : xX γ cc nL y d) {a b : Int} (e : Int) (he : Int32.ofInt a &&& Int32.ofInt b = Int32.ofInt e) (hd : decode cc pc = .ok (.iand, 1)) (hq : pc + 1 = q) (k : xV γ q pl (vi e :: st) σ D r) : xV γ pc pl (vi b :: vi a :: st) σ D r := by
  have k : xV γ q pl ((.int (Int32.ofInt a &&& Int32.ofInt b) : Value) :: st) σ D r := by rw [he]; exact k
  subst hq
  obtain ⟨p, l, e, R, s, m, args, below, meth, c, Q, ω, n0, z0, n1, z1⟩ := γ
  obtain ⟨hx, hb, hml, hown, hts, hKF, hA, hfr, hlo, hce, hsl, hnm⟩ := hX
  intro g1 g2 g3 g4 H locs ls hR hS hL
  exact lv_iand hx hb hd (k g1 g2 g3 g4 H locs ls hR hS hL)
theorem v_ior (hX : xX γ cc nL y d) {a b : Int} (e : Int) (he : Int32.ofInt a ||| Int32.ofInt b = Int32.ofInt e) (hd : decode cc pc = .ok (.ior, 1)) (hq : pc + 1 = q) (k : xV γ q pl (vi e :: st) σ D r) : xV γ pc pl (vi b :: vi a :: st) σ D r := by
  have k : xV γ q pl ((.int (Int32.ofInt a ||| Int32.ofInt b) : Value) :: st) σ D r := by rw [he]; exact k
  subst hq
  obtain ⟨p, l, e, R, s, m, args, below, meth, c, Q, ω, n0, z0, n1, z1⟩ := γ
  obtain ⟨hx, hb, hml, hown, hts, hKF, hA, hfr, hlo, hce, hsl, hnm⟩ := hX
  intro g1 g2 g3 g4 H locs ls hR hS hL
  exact lv_ior hx hb hd (k g1 g2 g3 g4 H locs ls hR hS hL)
theorem v_ishl (hX : xX γ cc nL y d) {a b : Int} (e : Int) (he : Int32.ofInt a <<< (Int32.ofInt b &&& 31) = Int32.ofInt e) (hd : decode cc pc = .ok (.ishl, 1)) (hq : pc + 1 = q) (k : xV γ q pl (vi e :: st) σ D r) : xV γ pc pl (vi b :: vi a :: st) σ D r := by
  have k : xV γ q pl ((.int (Int32.ofInt a <<< (Int32.ofInt b &&& 31)) : Value) :: st) σ D r := by rw [he]; exact k
  subst hq
  obtain ⟨p, l, e, R, s, m, args, below, meth, c, Q, ω, n0, z0, n1, z1⟩ := γ
  obtain ⟨hx, hb, hml, hown, hts, hKF, hA, hfr, hlo, hce, hsl, hnm⟩ := hX
  intro g1 g2 g3 g4 H locs ls hR hS hL
  exact lv_ishl hx hb hd (k g1 g2 g3 g4 H locs ls hR hS hL)
theorem v_ishr (hX : xX γ cc nL y d) {a b : Int} (e : Int) (he : Int32.ofInt a >>> (Int32.ofInt b &&& 31) = Int32.ofInt e) (hd : decode cc pc = .ok (.ishr, 1)) (hq : pc + 1 = q) (k : xV γ q pl (vi e :: st) σ D r) : xV γ pc pl (vi b :: vi a :: st) σ D r := by
  have k : xV γ q pl ((.int (Int32.ofInt a >>> (Int32.ofInt b &&& 31)) : Value) :: st) σ D r := by rw [he]; exact k
  subst hq
  obtain ⟨p, l, e, R, s, m, args, below, meth, c, Q, ω, n0, z0, n1, z1⟩ := γ
  obtain ⟨hx, hb, hml, hown, hts, hKF, hA, hfr, hlo, hce, hsl, hnm⟩ := hX
  intro g1 g2 g3 g4 H locs ls hR hS hL
  exact lv_ishr hx hb hd (k g1 g2 g3 g4 H locs ls hR hS hL)
theorem v_land (hX : xX γ cc nL y d) {a b : Int} (e : Int) (he : Int64.ofInt a &&& Int64.ofInt b = Int64.ofInt e) (hd : decode cc pc = .ok (.land, 1)) (hq : pc + 1 = q) (k : xV γ q pl (vl e :: st) σ D r) : xV γ pc pl (vl b :: vl a :: st) σ D r := by
  have k : xV γ q pl ((.long (Int64.ofInt a &&& Int64.ofInt b) : Value) :: st) σ D r := by rw [he]; exact k
  subst hq
  obtain ⟨p, l, e, R, s, m, args, below, meth, c, Q, ω, n0, z0, n1, z1⟩ := γ
  obtain ⟨hx, hb, hml, hown, hts, hKF, hA, hfr, hlo, hce, hsl, hnm⟩ := hX
  intro g1 g2 g3 g4 H locs ls hR hS hL
  exact lv_land hx hb hd (k g1 g2 g3 g4 H locs ls hR hS hL)
theorem v_lor (hX : xX γ cc nL y d) {a b : Int} (e : Int) (he : Int64.ofInt a ||| Int64.ofInt b = Int64.ofInt e) (hd : decode cc pc = .ok (.lor, 1)) (hq : pc + 1 = q) (k : xV γ q pl (vl e :: st) σ D r) : xV γ pc pl (vl b :: vl a :: st) σ D r := by
  have k : xV γ q pl ((.long (Int64.ofInt a ||| Int64.ofInt b) : Value) :: st) σ D r := by rw [he]; exact k
  subst hq
  obtain ⟨p, l, e, R, s, m, args, below, meth, c, Q, ω, n0, z0, n1, z1⟩ := γ
  obtain ⟨hx, hb, hml, hown, hts, hKF, hA, hfr, hlo, hce, hsl, hnm⟩ := hX
  intro g1 g2 g3 g4 H locs ls hR hS hL
  exact lv_lor hx hb hd (k g1 g2 g3 g4 H locs ls hR hS hL)
theorem v_lushr (hX : xX γ cc nL y d) {a b : Int} (e : Int) (he : ((Int64.ofInt a).toUInt64 >>> ((Int32.ofInt b).toInt64.toUInt64 &&& Int64.toUInt64 63)).toInt64 = Int64.ofInt e) (hd : decode cc pc = .ok (.lushr, 1)) (hq : pc + 1 = q) (k : xV γ q pl (vl e :: st) σ D r) : xV γ pc pl (vi b :: vl a :: st) σ D r := by
  subst hq
  obtain ⟨p, l, e, R, s, m, args, below, meth, c, Q, ω, n0, z0, n1, z1⟩ := γ
  obtain ⟨hx, hb, hml, hown, hts, hKF, hA, hfr, hlo, hce, hsl, hnm⟩ := hX
  intro g1 g2 g3 g4 H locs ls hR hS hL
  exact lv_lushr hx hb hd he (k g1 g2 g3 g4 H locs ls hR hS hL)
theorem v_lshl (hX : xX γ cc nL y d) {a b : Int} (e : Int) (he : Int64.ofInt a <<< ((Int32.ofInt b).toInt64 &&& 63) = Int64.ofInt e) (hd : decode cc pc = .ok (.lshl, 1)) (hq : pc + 1 = q) (k : xV γ q pl (vl e :: st) σ D r) : xV γ pc pl (vi b :: vl a :: st) σ D r := by
  subst hq
  obtain ⟨p, l, e, R, s, m, args, below, meth, c, Q, ω, n0, z0, n1, z1⟩ := γ
  obtain ⟨hx, hb, hml, hown, hts, hKF, hA, hfr, hlo, hce, hsl, hnm⟩ := hX
  intro g1 g2 g3 g4 H locs ls hR hS hL
  exact lv_lshl hx hb hd he (k g1 g2 g3 g4 H locs ls hR hS hL)
theorem v_lshr (hX : xX γ cc nL y d) {a b : Int} (e : Int) (he : Int64.ofInt a >>> ((Int32.ofInt b).toInt64 &&& 63) = Int64.ofInt e) (hd : decode cc pc = .ok (.lshr, 1)) (hq : pc + 1 = q) (k : xV γ q pl (vl e :: st) σ D r) : xV γ pc pl (vi b :: vl a :: st) σ D r := by
  subst hq
  obtain ⟨p, l, e, R, s, m, args, below, meth, c, Q, ω, n0, z0, n1, z1⟩ := γ
  obtain ⟨hx, hb, hml, hown, hts, hKF, hA, hfr, hlo, hce, hsl, hnm⟩ := hX
  intro g1 g2 g3 g4 H locs ls hR hS hL
  exact lv_lshr hx hb hd he (k g1 g2 g3 g4 H locs ls hR hS hL)
theorem v_i2l (hX : xX γ cc nL y d) {a : Int} (ha : xI a) (hd : decode cc pc = .ok (.i2l, 1)) (hq : pc + 1 = q) (k : xV γ q pl (vl a :: st) σ D r) : xV γ pc pl (vi a :: st) σ D r := by
  subst hq
  obtain ⟨p, l, e, R, s, m, args, below, meth, c, Q, ω, n0, z0, n1, z1⟩ := γ
  obtain ⟨hx, hb, hml, hown, hts, hKF, hA, hfr, hlo, hce, hsl, hnm⟩ := hX
  intro g1 g2 g3 g4 H locs ls hR hS hL
  exact lv_i2l hx hb hd (Int32.toInt64_ofInt (xi_min ha).1 (xi_min ha).2) (k g1 g2 g3 g4 H locs ls hR hS hL)
theorem v_l2i (hX : xX γ cc nL y d) {a : Int} (hd : decode cc pc = .ok (.l2i, 1)) (hq : pc + 1 = q) (k : xV γ q pl (vi a :: st) σ D r) : xV γ pc pl (vl a :: st) σ D r := by
  subst hq
  obtain ⟨p, l, e, R, s, m, args, below, meth, c, Q, ω, n0, z0, n1, z1⟩ := γ
  obtain ⟨hx, hb, hml, hown, hts, hKF, hA, hfr, hlo, hce, hsl, hnm⟩ := hX
  intro g1 g2 g3 g4 H locs ls hR hS hL
  exact lv_l2i hx hb hd Int64.toInt32_ofInt (k g1 g2 g3 g4 H locs ls hR hS hL)
theorem v_i2c (hX : xX γ cc nL y d) {a : Int} (e : Int) (he : ((Int32.ofInt a).toUInt32 % 65536).toInt32 = Int32.ofInt e) (hd : decode cc pc = .ok (.i2c, 1)) (hq : pc + 1 = q) (k : xV γ q pl (vi e :: st) σ D r) : xV γ pc pl (vi a :: st) σ D r := by
  subst hq
  obtain ⟨p, l, e, R, s, m, args, below, meth, c, Q, ω, n0, z0, n1, z1⟩ := γ
  obtain ⟨hx, hb, hml, hown, hts, hKF, hA, hfr, hlo, hce, hsl, hnm⟩ := hX
  intro g1 g2 g3 g4 H locs ls hR hS hL
  exact lv_i2c hx hb hd he (k g1 g2 g3 g4 H locs ls hR hS hL)
theorem v_dup (hX : xX γ cc nL y d) {v : Value} (hv : v.category = 1) (hd : decode cc pc = .ok (.dup, 1)) (hq : pc + 1 = q) (k : xV γ q pl (v :: v :: st) σ D r) : xV γ pc pl (v :: st) σ D r := by
  subst hq
  obtain ⟨p, l, e, R, s, m, args, below, meth, c, Q, ω, n0, z0, n1, z1⟩ := γ
  obtain ⟨hx, hb, hml, hown, hts, hKF, hA, hfr, hlo, hce, hsl, hnm⟩ := hX
  intro g1 g2 g3 g4 H locs ls hR hS hL
  exact lv_dup hx hb hd (by rw [xcat]; exact hv) (k g1 g2 g3 g4 H locs ls hR hS hL)
theorem v_dup2_11 (hX : xX γ cc nL y d) {v w : Value} (hv : v.category = 1) (hw : w.category = 1) (hd : decode cc pc = .ok (.dup2, 1)) (hq : pc + 1 = q) (k : xV γ q pl (v :: w :: v :: w :: st) σ D r) : xV γ pc pl (v :: w :: st) σ D r := by
  subst hq
  obtain ⟨p, l, e, R, s, m, args, below, meth, c, Q, ω, n0, z0, n1, z1⟩ := γ
  obtain ⟨hx, hb, hml, hown, hts, hKF, hA, hfr, hlo, hce, hsl, hnm⟩ := hX
  intro g1 g2 g3 g4 H locs ls hR hS hL
  exact lv_dup2_11 hx hb hd (by rw [xcat]; exact hv) (by rw [xcat]; exact hw) (k g1 g2 g3 g4 H locs ls hR hS hL)
theorem v_goto (hX : xX γ cc nL y d) {off : Int} {tgt : Nat} (hd : decode cc pc = .ok (.goto off, 3)) (ht : (pc : Int) + off = (tgt : Int)) (k : xV γ tgt pl (st) σ D r) : xV γ pc pl (st) σ D r := by
  obtain ⟨p, l, e, R, s, m, args, below, meth, c, Q, ω, n0, z0, n1, z1⟩ := γ
  obtain ⟨hx, hb, hml, hown, hts, hKF, hA, hfr, hlo, hce, hsl, hnm⟩ := hX
  intro g1 g2 g3 g4 H locs ls hR hS hL
  exact lv_goto hx hb hd ht (k g1 g2 g3 g4 H locs ls hR hS hL)
theorem v_icmp_eq (hX : xX γ cc nL y d) {a b : Int} {off : Int} {tgt : Nat} (ha : xI a) (hb2 : xI b) (hd : decode cc pc = .ok (.if_icmp .eq off, 3)) (ht : (pc : Int) + off = (tgt : Int)) (hq : pc + 3 = q) (kt : a = b → xV γ tgt pl (st) σ D r) (kf : a ≠ b → xV γ q pl (st) σ D r) : xV γ pc pl (vi b :: vi a :: st) σ D r := by
  have H1 : Int32.ofInt a = Int32.ofInt b → a = b := fun h => (xi_eq ha hb2).mp h
  have H2 : ¬ (Int32.ofInt a = Int32.ofInt b) → a ≠ b := fun h z => h ((xi_eq ha hb2).mpr z)
  subst hq
  obtain ⟨p, l, e, R, s, m, args, below, meth, c, Q, ω, n0, z0, n1, z1⟩ := γ
  obtain ⟨hx, hb, hml, hown, hts, hKF, hA, hfr, hlo, hce, hsl, hnm⟩ := hX
  intro g1 g2 g3 g4 H locs ls hR hS hL
  exact lv_icmp_eq hx hb hd ht (fun h => kt (H1 h) g1 g2 g3 g4 H locs ls hR hS hL) (fun h => kf (H2 h) g1 g2 g3 g4 H locs ls hR hS hL)
theorem v_if_eq (hX : xX γ cc nL y d) {a : Int} {off : Int} {tgt : Nat} (ha : xI a) (hd : decode cc pc = .ok (.ifCond .eq off, 3)) (ht : (pc : Int) + off = (tgt : Int)) (hq : pc + 3 = q) (kt : a = (0 : Int) → xV γ tgt pl (st) σ D r) (kf : a ≠ (0 : Int) → xV γ q pl (st) σ D r) : xV γ pc pl (vi a :: st) σ D r := by
  have H1 : Int32.ofInt a = Int32.ofInt 0 → a = (0 : Int) := fun h => (xi_eq ha (show xI 0 by decide)).mp h
  have H2 : ¬ (Int32.ofInt a = Int32.ofInt 0) → a ≠ (0 : Int) := fun h z => h ((xi_eq ha (show xI 0 by decide)).mpr z)
  subst hq
  obtain ⟨p, l, e, R, s, m, args, below, meth, c, Q, ω, n0, z0, n1, z1⟩ := γ
  obtain ⟨hx, hb, hml, hown, hts, hKF, hA, hfr, hlo, hce, hsl, hnm⟩ := hX
  intro g1 g2 g3 g4 H locs ls hR hS hL
  exact lv_if_eq hx hb hd ht (fun h => kt (H1 h) g1 g2 g3 g4 H locs ls hR hS hL) (fun h => kf (H2 h) g1 g2 g3 g4 H locs ls hR hS hL)
theorem v_lcmp_eq (hX : xX γ cc nL y d) {a b : Int} {off : Int} {tgt : Nat} (ha : xJ a) (hb2 : xJ b) (hd : decode cc pc = .ok (.lcmp, 1)) (hd2 : decode cc (pc + 1) = .ok (.ifCond .eq off, 3)) (ht : ((pc + 1 : Nat) : Int) + off = (tgt : Int)) (hq : pc + 1 + 3 = q) (kt : a = b → xV γ tgt pl (st) σ D r) (kf : a ≠ b → xV γ q pl (st) σ D r) : xV γ pc pl (vl b :: vl a :: st) σ D r := by
  have H1 : lg_cmp (Int64.ofInt a) (Int64.ofInt b) = 0 → a = b := fun h => (((lg_cmp_eq (Int64.ofInt a) (Int64.ofInt b))).trans (xl_eq ha hb2)).mp h
  have H2 : ¬ (lg_cmp (Int64.ofInt a) (Int64.ofInt b) = 0) → a ≠ b := fun h z => h ((((lg_cmp_eq (Int64.ofInt a) (Int64.ofInt b))).trans (xl_eq ha hb2)).mpr z)
  subst hq
  obtain ⟨p, l, e, R, s, m, args, below, meth, c, Q, ω, n0, z0, n1, z1⟩ := γ
  obtain ⟨hx, hb, hml, hown, hts, hKF, hA, hfr, hlo, hce, hsl, hnm⟩ := hX
  intro g1 g2 g3 g4 H locs ls hR hS hL
  refine W.lcmp hx hb hd ?_
  exact lv_if_eq hx hb hd2 ht (fun h => kt (H1 h) g1 g2 g3 g4 H locs ls hR hS hL) (fun h => kf (H2 h) g1 g2 g3 g4 H locs ls hR hS hL)
theorem v_icmp_ne (hX : xX γ cc nL y d) {a b : Int} {off : Int} {tgt : Nat} (ha : xI a) (hb2 : xI b) (hd : decode cc pc = .ok (.if_icmp .ne off, 3)) (ht : (pc : Int) + off = (tgt : Int)) (hq : pc + 3 = q) (kt : a ≠ b → xV γ tgt pl (st) σ D r) (kf : a = b → xV γ q pl (st) σ D r) : xV γ pc pl (vi b :: vi a :: st) σ D r := by
  have H1 : ¬ Int32.ofInt a = Int32.ofInt b → a ≠ b := fun h => fun z => h ((xi_eq ha hb2).mpr z)
  have H2 : Int32.ofInt a = Int32.ofInt b → a = b := fun h => (xi_eq ha hb2).mp h
  subst hq
  obtain ⟨p, l, e, R, s, m, args, below, meth, c, Q, ω, n0, z0, n1, z1⟩ := γ
  obtain ⟨hx, hb, hml, hown, hts, hKF, hA, hfr, hlo, hce, hsl, hnm⟩ := hX
  intro g1 g2 g3 g4 H locs ls hR hS hL
  exact lv_icmp_ne hx hb hd ht (fun h => kt (H1 h) g1 g2 g3 g4 H locs ls hR hS hL) (fun h => kf (H2 h) g1 g2 g3 g4 H locs ls hR hS hL)
theorem v_if_ne (hX : xX γ cc nL y d) {a : Int} {off : Int} {tgt : Nat} (ha : xI a) (hd : decode cc pc = .ok (.ifCond .ne off, 3)) (ht : (pc : Int) + off = (tgt : Int)) (hq : pc + 3 = q) (kt : a ≠ (0 : Int) → xV γ tgt pl (st) σ D r) (kf : a = (0 : Int) → xV γ q pl (st) σ D r) : xV γ pc pl (vi a :: st) σ D r := by
  have H1 : ¬ Int32.ofInt a = Int32.ofInt 0 → a ≠ (0 : Int) := fun h => fun z => h ((xi_eq ha (show xI 0 by decide)).mpr z)
  have H2 : Int32.ofInt a = Int32.ofInt 0 → a = (0 : Int) := fun h => (xi_eq ha (show xI 0 by decide)).mp h
  subst hq
  obtain ⟨p, l, e, R, s, m, args, below, meth, c, Q, ω, n0, z0, n1, z1⟩ := γ
  obtain ⟨hx, hb, hml, hown, hts, hKF, hA, hfr, hlo, hce, hsl, hnm⟩ := hX
  intro g1 g2 g3 g4 H locs ls hR hS hL
  exact lv_if_ne hx hb hd ht (fun h => kt (H1 h) g1 g2 g3 g4 H locs ls hR hS hL) (fun h => kf (H2 h) g1 g2 g3 g4 H locs ls hR hS hL)
theorem v_lcmp_ne (hX : xX γ cc nL y d) {a b : Int} {off : Int} {tgt : Nat} (ha : xJ a) (hb2 : xJ b) (hd : decode cc pc = .ok (.lcmp, 1)) (hd2 : decode cc (pc + 1) = .ok (.ifCond .ne off, 3)) (ht : ((pc + 1 : Nat) : Int) + off = (tgt : Int)) (hq : pc + 1 + 3 = q) (kt : a ≠ b → xV γ tgt pl (st) σ D r) (kf : a = b → xV γ q pl (st) σ D r) : xV γ pc pl (vl b :: vl a :: st) σ D r := by
  have H1 : ¬ lg_cmp (Int64.ofInt a) (Int64.ofInt b) = 0 → a ≠ b := fun h => fun z => h ((((lg_cmp_eq (Int64.ofInt a) (Int64.ofInt b))).trans (xl_eq ha hb2)).mpr z)
  have H2 : lg_cmp (Int64.ofInt a) (Int64.ofInt b) = 0 → a = b := fun h => (((lg_cmp_eq (Int64.ofInt a) (Int64.ofInt b))).trans (xl_eq ha hb2)).mp h
  subst hq
  obtain ⟨p, l, e, R, s, m, args, below, meth, c, Q, ω, n0, z0, n1, z1⟩ := γ
  obtain ⟨hx, hb, hml, hown, hts, hKF, hA, hfr, hlo, hce, hsl, hnm⟩ := hX
  intro g1 g2 g3 g4 H locs ls hR hS hL
  refine W.lcmp hx hb hd ?_
  exact lv_if_ne hx hb hd2 ht (fun h => kt (H1 h) g1 g2 g3 g4 H locs ls hR hS hL) (fun h => kf (H2 h) g1 g2 g3 g4 H locs ls hR hS hL)
theorem v_icmp_lt (hX : xX γ cc nL y d) {a b : Int} {off : Int} {tgt : Nat} (ha : xI a) (hb2 : xI b) (hd : decode cc pc = .ok (.if_icmp .lt off, 3)) (ht : (pc : Int) + off = (tgt : Int)) (hq : pc + 3 = q) (kt : a < b → xV γ tgt pl (st) σ D r) (kf : b ≤ a → xV γ q pl (st) σ D r) : xV γ pc pl (vi b :: vi a :: st) σ D r := by
  have H1 : Int32.ofInt a < Int32.ofInt b → a < b := fun h => (xi_lt ha hb2).mp h
  have H2 : ¬ (Int32.ofInt a < Int32.ofInt b) → b ≤ a := fun h => Int.not_lt.mp (fun z => h ((xi_lt ha hb2).mpr z))
  subst hq
  obtain ⟨p, l, e, R, s, m, args, below, meth, c, Q, ω, n0, z0, n1, z1⟩ := γ
  obtain ⟨hx, hb, hml, hown, hts, hKF, hA, hfr, hlo, hce, hsl, hnm⟩ := hX
  intro g1 g2 g3 g4 H locs ls hR hS hL
  exact lv_icmp_lt hx hb hd ht (fun h => kt (H1 h) g1 g2 g3 g4 H locs ls hR hS hL) (fun h => kf (H2 h) g1 g2 g3 g4 H locs ls hR hS hL)
theorem v_if_lt (hX : xX γ cc nL y d) {a : Int} {off : Int} {tgt : Nat} (ha : xI a) (hd : decode cc pc = .ok (.ifCond .lt off, 3)) (ht : (pc : Int) + off = (tgt : Int)) (hq : pc + 3 = q) (kt : a < (0 : Int) → xV γ tgt pl (st) σ D r) (kf : (0 : Int) ≤ a → xV γ q pl (st) σ D r) : xV γ pc pl (vi a :: st) σ D r := by
  have H1 : Int32.ofInt a < Int32.ofInt 0 → a < (0 : Int) := fun h => (xi_lt ha (show xI 0 by decide)).mp h
  have H2 : ¬ (Int32.ofInt a < Int32.ofInt 0) → (0 : Int) ≤ a := fun h => Int.not_lt.mp (fun z => h ((xi_lt ha (show xI 0 by decide)).mpr z))
  subst hq
  obtain ⟨p, l, e, R, s, m, args, below, meth, c, Q, ω, n0, z0, n1, z1⟩ := γ
  obtain ⟨hx, hb, hml, hown, hts, hKF, hA, hfr, hlo, hce, hsl, hnm⟩ := hX
  intro g1 g2 g3 g4 H locs ls hR hS hL
  exact lv_if_lt hx hb hd ht (fun h => kt (H1 h) g1 g2 g3 g4 H locs ls hR hS hL) (fun h => kf (H2 h) g1 g2 g3 g4 H locs ls hR hS hL)
theorem v_lcmp_lt (hX : xX γ cc nL y d) {a b : Int} {off : Int} {tgt : Nat} (ha : xJ a) (hb2 : xJ b) (hd : decode cc pc = .ok (.lcmp, 1)) (hd2 : decode cc (pc + 1) = .ok (.ifCond .lt off, 3)) (ht : ((pc + 1 : Nat) : Int) + off = (tgt : Int)) (hq : pc + 1 + 3 = q) (kt : a < b → xV γ tgt pl (st) σ D r) (kf : b ≤ a → xV γ q pl (st) σ D r) : xV γ pc pl (vl b :: vl a :: st) σ D r := by
  have H1 : lg_cmp (Int64.ofInt a) (Int64.ofInt b) < 0 → a < b := fun h => (((lg_cmp_lt (Int64.ofInt a) (Int64.ofInt b))).trans (xl_lt ha hb2)).mp h
  have H2 : ¬ (lg_cmp (Int64.ofInt a) (Int64.ofInt b) < 0) → b ≤ a := fun h => Int.not_lt.mp (fun z => h ((((lg_cmp_lt (Int64.ofInt a) (Int64.ofInt b))).trans (xl_lt ha hb2)).mpr z))
  subst hq
  obtain ⟨p, l, e, R, s, m, args, below, meth, c, Q, ω, n0, z0, n1, z1⟩ := γ
  obtain ⟨hx, hb, hml, hown, hts, hKF, hA, hfr, hlo, hce, hsl, hnm⟩ := hX
  intro g1 g2 g3 g4 H locs ls hR hS hL
  refine W.lcmp hx hb hd ?_
  exact lv_if_lt hx hb hd2 ht (fun h => kt (H1 h) g1 g2 g3 g4 H locs ls hR hS hL) (fun h => kf (H2 h) g1 g2 g3 g4 H locs ls hR hS hL)
theorem v_icmp_ge (hX : xX γ cc nL y d) {a b : Int} {off : Int} {tgt : Nat} (ha : xI a) (hb2 : xI b) (hd : decode cc pc = .ok (.if_icmp .ge off, 3)) (ht : (pc : Int) + off = (tgt : Int)) (hq : pc + 3 = q) (kt : b ≤ a → xV γ tgt pl (st) σ D r) (kf : a < b → xV γ q pl (st) σ D r) : xV γ pc pl (vi b :: vi a :: st) σ D r := by
  have H1 : Int32.ofInt b ≤ Int32.ofInt a → b ≤ a := fun h => (xi_le hb2 ha).mp h
  have H2 : ¬ (Int32.ofInt b ≤ Int32.ofInt a) → a < b := fun h => Int.not_le.mp (fun z => h ((xi_le hb2 ha).mpr z))
  subst hq
  obtain ⟨p, l, e, R, s, m, args, below, meth, c, Q, ω, n0, z0, n1, z1⟩ := γ
  obtain ⟨hx, hb, hml, hown, hts, hKF, hA, hfr, hlo, hce, hsl, hnm⟩ := hX
  intro g1 g2 g3 g4 H locs ls hR hS hL
  exact lv_icmp_ge hx hb hd ht (fun h => kt (H1 h) g1 g2 g3 g4 H locs ls hR hS hL) (fun h => kf (H2 h) g1 g2 g3 g4 H locs ls hR hS hL)
theorem v_if_ge (hX : xX γ cc nL y d) {a : Int} {off : Int} {tgt : Nat} (ha : xI a) (hd : decode cc pc = .ok (.ifCond .ge off, 3)) (ht : (pc : Int) + off = (tgt : Int)) (hq : pc + 3 = q) (kt : (0 : Int) ≤ a → xV γ tgt pl (st) σ D r) (kf : a < (0 : Int) → xV γ q pl (st) σ D r) : xV γ pc pl (vi a :: st) σ D r := by
  have H1 : Int32.ofInt 0 ≤ Int32.ofInt a → (0 : Int) ≤ a := fun h => (xi_le (show xI 0 by decide) ha).mp h
  have H2 : ¬ (Int32.ofInt 0 ≤ Int32.ofInt a) → a < (0 : Int) := fun h => Int.not_le.mp (fun z => h ((xi_le (show xI 0 by decide) ha).mpr z))
  subst hq
  obtain ⟨p, l, e, R, s, m, args, below, meth, c, Q, ω, n0, z0, n1, z1⟩ := γ
  obtain ⟨hx, hb, hml, hown, hts, hKF, hA, hfr, hlo, hce, hsl, hnm⟩ := hX
  intro g1 g2 g3 g4 H locs ls hR hS hL
  exact lv_if_ge hx hb hd ht (fun h => kt (H1 h) g1 g2 g3 g4 H locs ls hR hS hL) (fun h => kf (H2 h) g1 g2 g3 g4 H locs ls hR hS hL)
theorem v_lcmp_ge (hX : xX γ cc nL y d) {a b : Int} {off : Int} {tgt : Nat} (ha : xJ a) (hb2 : xJ b) (hd : decode cc pc = .ok (.lcmp, 1)) (hd2 : decode cc (pc + 1) = .ok (.ifCond .ge off, 3)) (ht : ((pc + 1 : Nat) : Int) + off = (tgt : Int)) (hq : pc + 1 + 3 = q) (kt : b ≤ a → xV γ tgt pl (st) σ D r) (kf : a < b → xV γ q pl (st) σ D r) : xV γ pc pl (vl b :: vl a :: st) σ D r := by
  have H1 : 0 ≤ lg_cmp (Int64.ofInt a) (Int64.ofInt b) → b ≤ a := fun h => (((lg_cmp_ge (Int64.ofInt a) (Int64.ofInt b))).trans (xl_le hb2 ha)).mp h
  have H2 : ¬ (0 ≤ lg_cmp (Int64.ofInt a) (Int64.ofInt b)) → a < b := fun h => Int.not_le.mp (fun z => h ((((lg_cmp_ge (Int64.ofInt a) (Int64.ofInt b))).trans (xl_le hb2 ha)).mpr z))
  subst hq
  obtain ⟨p, l, e, R, s, m, args, below, meth, c, Q, ω, n0, z0, n1, z1⟩ := γ
  obtain ⟨hx, hb, hml, hown, hts, hKF, hA, hfr, hlo, hce, hsl, hnm⟩ := hX
  intro g1 g2 g3 g4 H locs ls hR hS hL
  refine W.lcmp hx hb hd ?_
  exact lv_if_ge hx hb hd2 ht (fun h => kt (H1 h) g1 g2 g3 g4 H locs ls hR hS hL) (fun h => kf (H2 h) g1 g2 g3 g4 H locs ls hR hS hL)
theorem v_icmp_gt (hX : xX γ cc nL y d) {a b : Int} {off : Int} {tgt : Nat} (ha : xI a) (hb2 : xI b) (hd : decode cc pc = .ok (.if_icmp .gt off, 3)) (ht : (pc : Int) + off = (tgt : Int)) (hq : pc + 3 = q) (kt : b < a → xV γ tgt pl (st) σ D r) (kf : a ≤ b → xV γ q pl (st) σ D r) : xV γ pc pl (vi b :: vi a :: st) σ D r := by
  have H1 : Int32.ofInt b < Int32.ofInt a → b < a := fun h => (xi_lt hb2 ha).mp h
  have H2 : ¬ (Int32.ofInt b < Int32.ofInt a) → a ≤ b := fun h => Int.not_lt.mp (fun z => h ((xi_lt hb2 ha).mpr z))
  subst hq
  obtain ⟨p, l, e, R, s, m, args, below, meth, c, Q, ω, n0, z0, n1, z1⟩ := γ
  obtain ⟨hx, hb, hml, hown, hts, hKF, hA, hfr, hlo, hce, hsl, hnm⟩ := hX
  intro g1 g2 g3 g4 H locs ls hR hS hL
  exact lv_icmp_gt hx hb hd ht (fun h => kt (H1 h) g1 g2 g3 g4 H locs ls hR hS hL) (fun h => kf (H2 h) g1 g2 g3 g4 H locs ls hR hS hL)
theorem v_if_gt (hX : xX γ cc nL y d) {a : Int} {off : Int} {tgt : Nat} (ha : xI a) (hd : decode cc pc = .ok (.ifCond .gt off, 3)) (ht : (pc : Int) + off = (tgt : Int)) (hq : pc + 3 = q) (kt : (0 : Int) < a → xV γ tgt pl (st) σ D r) (kf : a ≤ (0 : Int) → xV γ q pl (st) σ D r) : xV γ pc pl (vi a :: st) σ D r := by
  have H1 : Int32.ofInt 0 < Int32.ofInt a → (0 : Int) < a := fun h => (xi_lt (show xI 0 by decide) ha).mp h
  have H2 : ¬ (Int32.ofInt 0 < Int32.ofInt a) → a ≤ (0 : Int) := fun h => Int.not_lt.mp (fun z => h ((xi_lt (show xI 0 by decide) ha).mpr z))
  subst hq
  obtain ⟨p, l, e, R, s, m, args, below, meth, c, Q, ω, n0, z0, n1, z1⟩ := γ
  obtain ⟨hx, hb, hml, hown, hts, hKF, hA, hfr, hlo, hce, hsl, hnm⟩ := hX
  intro g1 g2 g3 g4 H locs ls hR hS hL
  exact lv_if_gt hx hb hd ht (fun h => kt (H1 h) g1 g2 g3 g4 H locs ls hR hS hL) (fun h => kf (H2 h) g1 g2 g3 g4 H locs ls hR hS hL)
theorem v_lcmp_gt (hX : xX γ cc nL y d) {a b : Int} {off : Int} {tgt : Nat} (ha : xJ a) (hb2 : xJ b) (hd : decode cc pc = .ok (.lcmp, 1)) (hd2 : decode cc (pc + 1) = .ok (.ifCond .gt off, 3)) (ht : ((pc + 1 : Nat) : Int) + off = (tgt : Int)) (hq : pc + 1 + 3 = q) (kt : b < a → xV γ tgt pl (st) σ D r) (kf : a ≤ b → xV γ q pl (st) σ D r) : xV γ pc pl (vl b :: vl a :: st) σ D r := by
  have H1 : 0 < lg_cmp (Int64.ofInt a) (Int64.ofInt b) → b < a := fun h => (((lg_cmp_gt (Int64.ofInt a) (Int64.ofInt b))).trans (xl_lt hb2 ha)).mp h
  have H2 : ¬ (0 < lg_cmp (Int64.ofInt a) (Int64.ofInt b)) → a ≤ b := fun h => Int.not_lt.mp (fun z => h ((((lg_cmp_gt (Int64.ofInt a) (Int64.ofInt b))).trans (xl_lt hb2 ha)).mpr z))
  subst hq
  obtain ⟨p, l, e, R, s, m, args, below, meth, c, Q, ω, n0, z0, n1, z1⟩ := γ
  obtain ⟨hx, hb, hml, hown, hts, hKF, hA, hfr, hlo, hce, hsl, hnm⟩ := hX
  intro g1 g2 g3 g4 H locs ls hR hS hL
  refine W.lcmp hx hb hd ?_
  exact lv_if_gt hx hb hd2 ht (fun h => kt (H1 h) g1 g2 g3 g4 H locs ls hR hS hL) (fun h => kf (H2 h) g1 g2 g3 g4 H locs ls hR hS hL)
theorem v_icmp_le (hX : xX γ cc nL y d) {a b : Int} {off : Int} {tgt : Nat} (ha : xI a) (hb2 : xI b) (hd : decode cc pc = .ok (.if_icmp .le off, 3)) (ht : (pc : Int) + off = (tgt : Int)) (hq : pc + 3 = q) (kt : a ≤ b → xV γ tgt pl (st) σ D r) (kf : b < a → xV γ q pl (st) σ D r) : xV γ pc pl (vi b :: vi a :: st) σ D r := by
  have H1 : Int32.ofInt a ≤ Int32.ofInt b → a ≤ b := fun h => (xi_le ha hb2).mp h
  have H2 : ¬ (Int32.ofInt a ≤ Int32.ofInt b) → b < a := fun h => Int.not_le.mp (fun z => h ((xi_le ha hb2).mpr z))
  subst hq
  obtain ⟨p, l, e, R, s, m, args, below, meth, c, Q, ω, n0, z0, n1, z1⟩ := γ
  obtain ⟨hx, hb, hml, hown, hts, hKF, hA, hfr, hlo, hce, hsl, hnm⟩ := hX
  intro g1 g2 g3 g4 H locs ls hR hS hL
  exact lv_icmp_le hx hb hd ht (fun h => kt (H1 h) g1 g2 g3 g4 H locs ls hR hS hL) (fun h => kf (H2 h) g1 g2 g3 g4 H locs ls hR hS hL)
theorem v_if_le (hX : xX γ cc nL y d) {a : Int} {off : Int} {tgt : Nat} (ha : xI a) (hd : decode cc pc = .ok (.ifCond .le off, 3)) (ht : (pc : Int) + off = (tgt : Int)) (hq : pc + 3 = q) (kt : a ≤ (0 : Int) → xV γ tgt pl (st) σ D r) (kf : (0 : Int) < a → xV γ q pl (st) σ D r) : xV γ pc pl (vi a :: st) σ D r := by
  have H1 : Int32.ofInt a ≤ Int32.ofInt 0 → a ≤ (0 : Int) := fun h => (xi_le ha (show xI 0 by decide)).mp h
  have H2 : ¬ (Int32.ofInt a ≤ Int32.ofInt 0) → (0 : Int) < a := fun h => Int.not_le.mp (fun z => h ((xi_le ha (show xI 0 by decide)).mpr z))
  subst hq
  obtain ⟨p, l, e, R, s, m, args, below, meth, c, Q, ω, n0, z0, n1, z1⟩ := γ
  obtain ⟨hx, hb, hml, hown, hts, hKF, hA, hfr, hlo, hce, hsl, hnm⟩ := hX
  intro g1 g2 g3 g4 H locs ls hR hS hL
  exact lv_if_le hx hb hd ht (fun h => kt (H1 h) g1 g2 g3 g4 H locs ls hR hS hL) (fun h => kf (H2 h) g1 g2 g3 g4 H locs ls hR hS hL)
theorem v_lcmp_le (hX : xX γ cc nL y d) {a b : Int} {off : Int} {tgt : Nat} (ha : xJ a) (hb2 : xJ b) (hd : decode cc pc = .ok (.lcmp, 1)) (hd2 : decode cc (pc + 1) = .ok (.ifCond .le off, 3)) (ht : ((pc + 1 : Nat) : Int) + off = (tgt : Int)) (hq : pc + 1 + 3 = q) (kt : a ≤ b → xV γ tgt pl (st) σ D r) (kf : b < a → xV γ q pl (st) σ D r) : xV γ pc pl (vl b :: vl a :: st) σ D r := by
  have H1 : lg_cmp (Int64.ofInt a) (Int64.ofInt b) ≤ 0 → a ≤ b := fun h => (((lg_cmp_le (Int64.ofInt a) (Int64.ofInt b))).trans (xl_le ha hb2)).mp h
  have H2 : ¬ (lg_cmp (Int64.ofInt a) (Int64.ofInt b) ≤ 0) → b < a := fun h => Int.not_le.mp (fun z => h ((((lg_cmp_le (Int64.ofInt a) (Int64.ofInt b))).trans (xl_le ha hb2)).mpr z))
  subst hq
  obtain ⟨p, l, e, R, s, m, args, below, meth, c, Q, ω, n0, z0, n1, z1⟩ := γ
  obtain ⟨hx, hb, hml, hown, hts, hKF, hA, hfr, hlo, hce, hsl, hnm⟩ := hX
  intro g1 g2 g3 g4 H locs ls hR hS hL
  refine W.lcmp hx hb hd ?_
  exact lv_if_le hx hb hd2 ht (fun h => kt (H1 h) g1 g2 g3 g4 H locs ls hR hS hL) (fun h => kf (H2 h) g1 g2 g3 g4 H locs ls hR hS hL)
theorem v_ifnonnull (hX : xX γ cc nL y d) {x : Nat} {off : Int} {tgt : Nat} (hd : decode cc pc = .ok (.ifnonnull off, 3)) (ht : (pc : Int) + off = (tgt : Int)) (k : xV γ tgt pl (st) σ D r) : xV γ pc pl (.ref x :: st) σ D r := by
  obtain ⟨p, l, e, R, s, m, args, below, meth, c, Q, ω, n0, z0, n1, z1⟩ := γ
  obtain ⟨hx, hb, hml, hown, hts, hKF, hA, hfr, hlo, hce, hsl, hnm⟩ := hX
  intro g1 g2 g3 g4 H locs ls hR hS hL
  exact lv_ifnonnull hx hb hd ht (k g1 g2 g3 g4 H locs ls hR hS hL)
theorem v_ifnull (hX : xX γ cc nL y d) {x : Nat} {off : Int} (hd : decode cc pc = .ok (.ifnull off, 3)) (hq : pc + 3 = q) (k : xV γ q pl (st) σ D r) : xV γ pc pl (.ref x :: st) σ D r := by
  subst hq
  obtain ⟨p, l, e, R, s, m, args, below, meth, c, Q, ω, n0, z0, n1, z1⟩ := γ
  obtain ⟨hx, hb, hml, hown, hts, hKF, hA, hfr, hlo, hce, hsl, hnm⟩ := hX
  intro g1 g2 g3 g4 H locs ls hR hS hL
  exact lv_ifnull hx hb hd (k g1 g2 g3 g4 H locs ls hR hS hL)
theorem v_ifnullN (hX : xX γ cc nL y d) {off : Int} {tgt : Nat} (hd : decode cc pc = .ok (.ifnull off, 3)) (ht : (pc : Int) + off = (tgt : Int)) (k : xV γ tgt pl (st) σ D r) : xV γ pc pl (.null :: st) σ D r := by
  obtain ⟨p, l, e, R, s, m, args, below, meth, c, Q, ω, n0, z0, n1, z1⟩ := γ
  obtain ⟨hx, hb, hml, hown, hts, hKF, hA, hfr, hlo, hce, hsl, hnm⟩ := hX
  intro g1 g2 g3 g4 H locs ls hR hS hL
  exact lv_ifnullN hx hb hd ht (k g1 g2 g3 g4 H locs ls hR hS hL)
theorem v_ifnonnullN (hX : xX γ cc nL y d) {off : Int} (hd : decode cc pc = .ok (.ifnonnull off, 3)) (hq : pc + 3 = q) (k : xV γ q pl (st) σ D r) : xV γ pc pl (.null :: st) σ D r := by
  subst hq
  obtain ⟨p, l, e, R, s, m, args, below, meth, c, Q, ω, n0, z0, n1, z1⟩ := γ
  obtain ⟨hx, hb, hml, hown, hts, hKF, hA, hfr, hlo, hce, hsl, hnm⟩ := hX
  intro g1 g2 g3 g4 H locs ls hR hS hL
  exact lv_ifnonnullN hx hb hd (k g1 g2 g3 g4 H locs ls hR hS hL)
theorem v_acmp_ne (hX : xX γ cc nL y d) {x w : Nat} {off : Int} {tgt : Nat} (hxa : 4 ≤ x) (hwa : 4 ≤ w) (hd : decode cc pc = .ok (.if_acmp .ne off, 3)) (ht : (pc : Int) + off = (tgt : Int)) (hq : pc + 3 = q) (kt : x ≠ w → xV γ tgt pl (st) σ D r) (kf : x = w → xV γ q pl (st) σ D r) : xV γ pc pl (.ref w :: .ref x :: st) σ D r := by
  subst hq
  obtain ⟨p, l, e, R, s, m, args, below, meth, c, Q, ω, n0, z0, n1, z1⟩ := γ
  obtain ⟨hx, hb, hml, hown, hts, hKF, hA, hfr, hlo, hce, hsl, hnm⟩ := hX
  intro g1 g2 g3 g4 H locs ls hR hS hL
  have inj : xad ω x = xad ω w → x = w := fun h => by rw [xad_ge ω hxa, xad_ge ω hwa] at h; omega
  exact lv_acmp_ne (rx := some (xad ω x)) (ry := some (xad ω w)) hx hb hd ht (fun h => kt (fun z => h (by rw [z])) g1 g2 g3 g4 H locs ls hR hS hL) (fun h => kf (inj (Option.some.inj h)) g1 g2 g3 g4 H locs ls hR hS hL)
theorem v_acmp_neN (hX : xX γ cc nL y d) {x : Nat} {off : Int} {tgt : Nat} (hd : decode cc pc = .ok (.if_acmp .ne off, 3)) (ht : (pc : Int) + off = (tgt : Int)) (k : xV γ tgt pl (st) σ D r) : xV γ pc pl (.null :: .ref x :: st) σ D r := by
  obtain ⟨p, l, e, R, s, m, args, below, meth, c, Q, ω, n0, z0, n1, z1⟩ := γ
  obtain ⟨hx, hb, hml, hown, hts, hKF, hA, hfr, hlo, hce, hsl, hnm⟩ := hX
  intro g1 g2 g3 g4 H locs ls hR hS hL
  exact lv_acmp_ne (rx := some (xad ω x)) (ry := none) hx hb hd ht (fun _ => (k g1 g2 g3 g4 H locs ls hR hS hL)) (fun h => by cases h)
theorem v_tableIn (hX : xX γ cc nL y d) {dflt lo hi : Int} {offs : Array Int} {len : Nat} {x off : Int} {tgt : Nat} (hxr : xI x) (hd : decode cc pc = .ok (.tableswitch dflt lo hi offs, len)) (h1 : lo ≤ x) (h2 : x ≤ hi) (ho : offs[(x - lo).toNat]? = some off) (ht : (pc : Int) + off = (tgt : Int)) (k : xV γ tgt pl (st) σ D r) : xV γ pc pl (vi x :: st) σ D r := by
  obtain ⟨p, l, e, R, s, m, args, below, meth, c, Q, ω, n0, z0, n1, z1⟩ := γ
  obtain ⟨hx, hb, hml, hown, hts, hKF, hA, hfr, hlo, hce, hsl, hnm⟩ := hX
  intro g1 g2 g3 g4 H locs ls hR hS hL
  exact lv_tableIn hx hb hd (by rw [xti hxr]; omega) (by rw [xti hxr]; omega) (by rw [xti hxr]; exact ho) ht (k g1 g2 g3 g4 H locs ls hR hS hL)
theorem v_tableOut (hX : xX γ cc nL y d) {dflt lo hi : Int} {offs : Array Int} {len : Nat} {x : Int} {tgt : Nat} (hxr : xI x) (hd : decode cc pc = .ok (.tableswitch dflt lo hi offs, len)) (h : x < lo ∨ hi < x) (ht : (pc : Int) + dflt = (tgt : Int)) (k : xV γ tgt pl (st) σ D r) : xV γ pc pl (vi x :: st) σ D r := by
  obtain ⟨p, l, e, R, s, m, args, below, meth, c, Q, ω, n0, z0, n1, z1⟩ := γ
  obtain ⟨hx, hb, hml, hown, hts, hKF, hA, hfr, hlo, hce, hsl, hnm⟩ := hX
  intro g1 g2 g3 g4 H locs ls hR hS hL
  exact lv_tableOut hx hb hd (by rw [xti hxr]; exact h) ht (k g1 g2 g3 g4 H locs ls hR hS hL)
theorem v_ireturn (hX : xX γ cc nL y d) {rt : Option FieldType} {σ' : Nat × Nat} {P : Option Value → xD → xR → Prop} (hRX : xRX γ rt σ' P) {a : Int} {ty : FieldType} (hty : rt = some ty) (hn : narrow ty (vi a) = vi a) (hd : decode cc pc = .ok (.ireturn, 1)) (hσ : σ.1 = σ'.1) (hP : P (some (vi a)) D r) : xV γ pc pl ([vi a]) σ D r := by
  obtain ⟨p, l, e, R, s, m, args, below, meth, c, Q, ω, n0, z0, n1, z1⟩ := γ
  obtain ⟨hx, hb, hml, hown, hts, hKF, hA, hfr, hlo, hce, hsl, hnm⟩ := hX
  obtain ⟨hQ, hrt, hlk, e1, e2⟩ := hRX
  subst hQ
  intro g1 g2 g3 g4 H locs ls hR hS hL
  refine W.widen (k := n1 - n0) (n := z1 - z0) (Nat.sub_le_sub_right g3 n0) (Nat.sub_le_sub_right g4 z0) ?_
  exact W.zret (v := Int32.ofInt a) hx hb (hrt.trans hty) hn (fun t ht hW => ⟨⟨some (vi a), D, r, rfl, hP, by rw [ht, ← hσ]; exact hR⟩, hS.F ht⟩) hS.2.2 hd hlk
theorem v_lreturn (hX : xX γ cc nL y d) {rt : Option FieldType} {σ' : Nat × Nat} {P : Option Value → xD → xR → Prop} (hRX : xRX γ rt σ' P) {a : Int} (hty : rt = some .long) (hd : decode cc pc = .ok (.lreturn, 1)) (hσ : σ.1 = σ'.1) (hP : P (some (vl a)) D r) : xV γ pc pl ([vl a]) σ D r := by
  obtain ⟨p, l, e, R, s, m, args, below, meth, c, Q, ω, n0, z0, n1, z1⟩ := γ
  obtain ⟨hx, hb, hml, hown, hts, hKF, hA, hfr, hlo, hce, hsl, hnm⟩ := hX
  obtain ⟨hQ, hrt, hlk, e1, e2⟩ := hRX
  subst hQ
  intro g1 g2 g3 g4 H locs ls hR hS hL
  refine W.widen (k := n1 - n0) (n := z1 - z0) (Nat.sub_le_sub_right g3 n0) (Nat.sub_le_sub_right g4 z0) ?_
  exact W.lret (v := Int64.ofInt a) hx hb (hrt.trans hty) (fun t ht hW => ⟨⟨some (vl a), D, r, rfl, hP, by rw [ht, ← hσ]; exact hR⟩, hS.F ht⟩) hS.2.2 hd hlk
theorem v_vreturn (hX : xX γ cc nL y d) {rt : Option FieldType} {σ' : Nat × Nat} {P : Option Value → xD → xR → Prop} (hRX : xRX γ rt σ' P) (hty : rt = none) (hd : decode cc pc = .ok (.return_, 1)) (hσ : σ.1 = σ'.1) (hP : P (none) D r) : xV γ pc pl ([]) σ D r := by
  obtain ⟨p, l, e, R, s, m, args, below, meth, c, Q, ω, n0, z0, n1, z1⟩ := γ
  obtain ⟨hx, hb, hml, hown, hts, hKF, hA, hfr, hlo, hce, hsl, hnm⟩ := hX
  obtain ⟨hQ, hrt, hlk, e1, e2⟩ := hRX
  subst hQ
  intro g1 g2 g3 g4 H locs ls hR hS hL
  refine W.widen (k := n1 - n0) (n := z1 - z0) (Nat.sub_le_sub_right g3 n0) (Nat.sub_le_sub_right g4 z0) ?_
  exact W.vret hx hb (hrt.trans hty) (fun t ht hW => ⟨⟨none, D, r, rfl, hP, by rw [ht, ← hσ]; exact hR⟩, hS.F ht⟩) hS.2.2 hd hlk
theorem v_areturn (hX : xX γ cc nL y d) {rt : Option FieldType} {σ' : Nat × Nat} {P : Option Value → xD → xR → Prop} (hRX : xRX γ rt σ' P) {x : Nat} {nm : String} (hty : rt = some (.object nm)) (hd : decode cc pc = .ok (.areturn, 1)) (hσ : σ.1 = σ'.1) (hP : P (some (.ref x)) D r) : xV γ pc pl ([.ref x]) σ D r := by
  obtain ⟨p, l, e, R, s, m, args, below, meth, c, Q, ω, n0, z0, n1, z1⟩ := γ
  obtain ⟨hx, hb, hml, hown, hts, hKF, hA, hfr, hlo, hce, hsl, hnm⟩ := hX
  obtain ⟨hQ, hrt, hlk, e1, e2⟩ := hRX
  subst hQ
  intro g1 g2 g3 g4 H locs ls hR hS hL
  refine W.widen (k := n1 - n0) (n := z1 - z0) (Nat.sub_le_sub_right g3 n0) (Nat.sub_le_sub_right g4 z0) ?_
  exact W.aret (v := .ref (xad ω x)) hx hb (hrt.trans hty) (Or.inl ⟨nm, rfl⟩) (Or.inr ⟨_, rfl⟩) (fun t ht hW => ⟨⟨some (.ref x), D, r, rfl, hP, by rw [ht, ← hσ]; exact hR⟩, hS.F ht⟩) hS.2.2 hd hlk
theorem v_areturnN (hX : xX γ cc nL y d) {rt : Option FieldType} {σ' : Nat × Nat} {P : Option Value → xD → xR → Prop} (hRX : xRX γ rt σ' P) {nm : String} (hty : rt = some (.object nm)) (hd : decode cc pc = .ok (.areturn, 1)) (hσ : σ.1 = σ'.1) (hP : P (some .null) D r) : xV γ pc pl ([.null]) σ D r := by
  obtain ⟨p, l, e, R, s, m, args, below, meth, c, Q, ω, n0, z0, n1, z1⟩ := γ
  obtain ⟨hx, hb, hml, hown, hts, hKF, hA, hfr, hlo, hce, hsl, hnm⟩ := hX
  obtain ⟨hQ, hrt, hlk, e1, e2⟩ := hRX
  subst hQ
  intro g1 g2 g3 g4 H locs ls hR hS hL
  refine W.widen (k := n1 - n0) (n := z1 - z0) (Nat.sub_le_sub_right g3 n0) (Nat.sub_le_sub_right g4 z0) ?_
  exact W.aret (v := .null) hx hb (hrt.trans hty) (Or.inl ⟨nm, rfl⟩) (Or.inl rfl) (fun t ht hW => ⟨⟨some .null, D, r, rfl, hP, by rw [ht, ← hσ]; exact hR⟩, hS.F ht⟩) hS.2.2 hd hlk
end XV
end
section
/-! ===== the heap's rows ===== -/
def xcn : Nat → String
  | 0 => RX0 | 1 => RX1 | 2 => RX2 | 3 => RX3 | 4 => RX4 | _ => RX5
/-- a link of the pool of 'own' that names the field j of the class ci -/
def xFL (own : String) (idx ci j : Nat) (fin : Bool) : Prop := ∃ (T : u_T), ci < 5 ∧ vwCl[ci]? = some (xcn ci, T, xN ci) ∧ j < xN ci ∧ (∀ w ∈ u_ws (xcn ci) T (xN ci), w ∈ xtb) ∧ (∀ k, k < xN ci → parseFieldDescriptor (T k).2.2.1 = some (xty ci k))
  ∧ (∀ a, a < xN ci → ∀ b, b < xN ci → a ≠ b → (T a).2.1 ≠ (T b).2.1) ∧ Cond.fieldLink own idx (T j).1 (T j).2.1 (T j).2.2.1 ∈ xtb ∧ (T j).2.2.2 = fin ∧ (T j).1 = xcn ci
theorem xRep.put {ω : xW} {n : Nat} {D D' : xD} {r r' : xR} {H H1 : Heap} {k : Nat} (hR : xRep ω n D r H) (hk : 4 ≤ k) (hkn : k < n) (z : H1.size = H.size) (oq : ∀ q : Nat, q ≠ xad ω k → H1[q]? = H[q]?) (hat : va_at ω.1 vwCl (xad ω k, xent ω D' r' k) H1)
    (hD : ∀ q, q ≠ k → D' q = D q) (hr : ∀ q, q ≠ k → r' q = r q) : xRep ω n D' r' H1 := by
  refine ⟨fun hn => by rw [z]; exact hR.1 hn, hR.2.1, ?_⟩
  have h := hR.2.2.set (xws_D ω n D r) (xws_at ω D r hk hkn) hat oq
  rwa [xws_set ω hk hkn rfl hD hr] at h
theorem xRep.cell {ω : xW} {n : Nat} {D : xD} {r : xR} {H : Heap} (hR : xRep ω n D r H) {k c z : Nat} (hk : 4 ≤ k) (hkn : k < n) (hs : xSH k = (c, z)) (hc : ¬ c < 5) : H[xad ω k]? = some (vp_cell (ω.2.1 c) (z, xarr ω c D r k)) := by
  have h := hR.2.2 _ _ (xws_at ω D r hk hkn)
  rw [xent_arr ω hs hc] at h
  exact h
theorem xA_ad (ω : xW) {k : Nat} (h : 4 ≤ k) : xA ω (xad ω k) := by
  show ω.2.2.2 ≤ xad ω k
  rw [xad_ge ω h]; omega
section XH
variable {γ : xC} {cc : ByteArray} {nL d : Nat} {y : MethodName} {pc q : Nat} {pl : List (Option Value)} {st : List Value} {σ : Nat × Nat} {D : xD} {r : xR}
theorem v_getX (hX : xX γ cc nL y d) {idx ci j a z : Nat} {fin : Bool} (hf : xFL y.cls idx ci j fin) (hs : xSH a = (ci, z)) (ha : 4 ≤ a) (han : a < σ.1) {v : Value} (hv : ∀ ω, xfv ω ci D r a j = xtr ω v) (hd : decode cc pc = .ok (.getfield idx, 3)) (hq : pc + 3 = q)
    (k : xV γ q pl (v :: st) σ D r) : xV γ pc pl (.ref a :: st) σ D r := by
  subst hq
  obtain ⟨p, l, e, R, s, m, args, below, meth, c, Q, ω, n0, z0, n1, z1⟩ := γ
  obtain ⟨hx, hb, hml, hown, hts, hKF, hA, hfr, hlo, hce, hsl, hnm⟩ := hX
  obtain ⟨T, h6, hcl, hj, hws, hty, hnn, hlk, hfin, hcn⟩ := hf
  intro g1 g2 g3 g4 H locs ls hR hS hL
  have h0 := xws_at ω D r ha han
  rw [xent_obj ω hs h6] at h0
  have hk := k g1 g2 g3 g4 H locs ls hR hS hL
  rw [List.map_cons, ← hv ω] at hk
  exact va_get (D := ω.1) (ci := ci) (C := xcn ci) (T := T) (N := xN ci) hx hb hts hws hown hKF.1 hR.2.2 (a - 4) h0 hcl j hj (hts _ hlk) (fun _ h9 => by rw [← hcn] at *; exact h9) (xfs_get ω hj) hd hk
theorem v_getI (hX : xX γ cc nL y d) {idx ci j a z : Nat} {fin : Bool} (hf : xFL y.cls idx ci j fin) (hk : xkd (xty ci j) = 0) (hs : xSH a = (ci, z)) (ha : 4 ≤ a) (han : a < σ.1) (hd : decode cc pc = .ok (.getfield idx, 3)) (hq : pc + 3 = q)
    (k : xV γ q pl (vi (D a j) :: st) σ D r) : xV γ pc pl (.ref a :: st) σ D r := v_getX hX hf hs ha han (v := vi (D a j)) (fun ω => by unfold xfv; rw [hk]; rfl) hd hq k
theorem v_getL (hX : xX γ cc nL y d) {idx ci j a z : Nat} {fin : Bool} (hf : xFL y.cls idx ci j fin) (hk : xkd (xty ci j) = 1) (hs : xSH a = (ci, z)) (ha : 4 ≤ a) (han : a < σ.1) (hd : decode cc pc = .ok (.getfield idx, 3)) (hq : pc + 3 = q)
    (k : xV γ q pl (vl (D a j) :: st) σ D r) : xV γ pc pl (.ref a :: st) σ D r := v_getX hX hf hs ha han (v := vl (D a j)) (fun ω => by unfold xfv; rw [hk]; rfl) hd hq k
theorem v_getR (hX : xX γ cc nL y d) {idx ci j a z : Nat} {fin : Bool} (hf : xFL y.cls idx ci j fin) (hk : xkd (xty ci j) = 2) (hs : xSH a = (ci, z)) (ha : 4 ≤ a) (han : a < σ.1) {b : Nat} (hr : r a j = some b) (hd : decode cc pc = .ok (.getfield idx, 3)) (hq : pc + 3 = q)
    (k : xV γ q pl (.ref b :: st) σ D r) : xV γ pc pl (.ref a :: st) σ D r := v_getX hX hf hs ha han (v := .ref b) (fun ω => by unfold xfv; rw [hk]; show va_rf ((r a j).map (xad ω)) = _; rw [hr]; rfl) hd hq k
theorem v_putX (hX : xX γ cc nL y d) {idx ci j a z : Nat} (hf : xFL y.cls idx ci j false) (hs : xSH a = (ci, z)) (ha : 4 ≤ a) (han : a < σ.1) {v : Value} {D' : xD} {r' : xR} (hv : ∀ ω, xfv ω ci D' r' a j = xtr ω v) (hn : ∀ ω, narrow (xty ci j) (xtr ω v) = xtr ω v) (hfit : ∀ ω, fits (xty ci j) (xtr ω v) = true)
    (hD : ∀ q, q ≠ a → D' q = D q) (hr : ∀ q, q ≠ a → r' q = r q) (hD2 : ∀ i, i ≠ j → D' a i = D a i) (hr2 : ∀ i, i ≠ j → r' a i = r a i) (hd : decode cc pc = .ok (.putfield idx, 3)) (hq : pc + 3 = q)
    (k : xV γ q pl st σ D' r') : xV γ pc pl (v :: .ref a :: st) σ D r := by
  subst hq
  obtain ⟨p, l, e, R, s, m, args, below, meth, c, Q, ω, n0, z0, n1, z1⟩ := γ
  obtain ⟨hx, hb, hml, hown, hts, hKF, hA, hfr, hlo, hce, hsl, hnm⟩ := hX
  obtain ⟨T, h6, hcl, hj, hws, hty, hnn, hlk, hfin, hcn⟩ := hf
  intro g1 g2 g3 g4 H locs ls hR hS hL
  have h0 := xws_at ω D r ha han
  rw [xent_obj ω hs h6] at h0
  have hap := va_apart (own := y.cls) hts hws (xty ci) hty hnn hKF.1 hcl
  obtain ⟨rr, h1, cell, q1, q2, q3, q4⟩ := hR.2.2 _ _ h0
  obtain rfl : rr = (xcn ci, T, xN ci) := Option.some.inj (h1.symm.trans hcl)
  obtain ⟨hSl, hfc, kC, hkC, hkind⟩ := hKF.1.1 ci _ hcl
  obtain ⟨cf, kf, fi, f, hi, hsl2⟩ := hSl j hj
  have hlay := hts _ (hws _ (u_in_lay hj))
  unfold u_lay at hlay
  rw [if_neg (by rw [hfin]; decide)] at hlay
  refine W.putK hx hb (f := f) ⟨hown, hts _ hlk, ⟨_, _, _, hi⟩, (u_facts hfc hkC (u_lays hts hws hj) hi).1⟩ (by rw [q2]; exact u_store hfc hkC hkind hlay hi (hty j hj) (hn ω) (hfit ω)) q1 q3 (by rw [hsl2]; exact k2_hasslot (q4 j hj)) rfl rfl hd fun H' e1 e2 e3 => ?_
  rw [hsl2] at e1 ⊢
  refine k g1 g2 g3 g4 H' _ ls (hR.put ha han e2 e3 ?_ hD hr) (hS.put e2 e3 (xA_ad ω ha)) hL
  rw [xent_obj ω hs h6, ← xfs_set ω (D := D) (r := r) (xtr ω v) hj (hv ω).symm hD2 hr2]
  exact ⟨_, hcl, t_OB.to (V := updV (vp_V ((List.range (xN ci)).map (xfv ω ci D r a))) j (xtr ω v)) ⟨_, e1, q2, q3, t_set q4 hap hj (xtr ω v)⟩ (fun i _ => vp_updV_set (by simpa using hj) (xtr ω v) i)⟩
theorem v_putI (hX : xX γ cc nL y d) {idx ci j a z : Nat} {e : Int} (hf : xFL y.cls idx ci j false) (hk : xkd (xty ci j) = 0) (hn : narrow (xty ci j) (vi e) = vi e) (hfit : fits (xty ci j) (vi e) = true) (hs : xSH a = (ci, z)) (ha : 4 ≤ a) (han : a < σ.1) (hd : decode cc pc = .ok (.putfield idx, 3)) (hq : pc + 3 = q)
    (k : xV γ q pl st σ (xu D a j e) r) : xV γ pc pl (vi e :: .ref a :: st) σ D r :=
  v_putX hX hf hs ha han (v := vi e) (D' := xu D a j e) (r' := r) (fun ω => by unfold xfv; rw [hk]; show vi (xu D a j e a j) = _; rw [xu_at]; rfl) (fun _ => hn) (fun _ => hfit) (fun _ h => xu_row D a j e h) (fun _ _ => rfl) (fun _ h => xu_ne D a j e (Or.inr h)) (fun _ _ => rfl) hd hq k
theorem v_putL (hX : xX γ cc nL y d) {idx ci j a z : Nat} {e : Int} (hf : xFL y.cls idx ci j false) (hk : xty ci j = .long) (hs : xSH a = (ci, z)) (ha : 4 ≤ a) (han : a < σ.1) (hd : decode cc pc = .ok (.putfield idx, 3)) (hq : pc + 3 = q)
    (k : xV γ q pl st σ (xu D a j e) r) : xV γ pc pl (vl e :: .ref a :: st) σ D r :=
  v_putX hX hf hs ha han (v := vl e) (D' := xu D a j e) (r' := r) (fun ω => by unfold xfv; rw [hk]; show vl (xu D a j e a j) = _; rw [xu_at]; rfl) (fun _ => by rw [hk]; rfl) (fun _ => by rw [hk]; rfl) (fun _ h => xu_row D a j e h) (fun _ _ => rfl) (fun _ h => xu_ne D a j e (Or.inr h)) (fun _ _ => rfl) hd hq k
/-- a final field of the object that its constructor makes -/
theorem v_putF (hX : xX γ cc nL y d) {idx ci j a z b : Nat} (hf : xFL y.cls idx ci j true) (hk : xkd (xty ci j) = 2) (hn : ∀ b : Nat, narrow (xty ci j) (.ref b) = .ref b) (hfit : ∀ b : Nat, fits (xty ci j) (.ref b) = true) (hy : y.cls = xcn ci) (hy2 : y.name = "<init>") (hs : xSH a = (ci, z)) (ha : 4 ≤ a) (han : a < σ.1) (hd : decode cc pc = .ok (.putfield idx, 3)) (hq : pc + 3 = q)
    (k : xV γ q pl st σ D (xur r a j (some b))) : xV γ pc pl (.ref b :: .ref a :: st) σ D r := by
  subst hq
  obtain ⟨p, l, e, R, s, m, args, below, meth, c, Q, ω, n0, z0, n1, z1⟩ := γ
  obtain ⟨hx, hb, hml, hown, hts, hKF, hA, hfr, hlo, hce, hsl, hnm⟩ := hX
  obtain ⟨T, h6, hcl, hj, hws, hty, hnn, hlk, hfin, hcn⟩ := hf
  intro g1 g2 g3 g4 H locs ls hR hS hL
  have h0 := xws_at ω D r ha han
  rw [xent_obj ω hs h6] at h0
  have hap := va_apart (own := y.cls) hts hws (xty ci) hty hnn hKF.1 hcl
  obtain ⟨rr, h1, cell, q1, q2, q3, q4⟩ := hR.2.2 _ _ h0
  obtain rfl : rr = (xcn ci, T, xN ci) := Option.some.inj (h1.symm.trans hcl)
  obtain ⟨hSl, hfc, kC, hkC, hkind⟩ := hKF.1.1 ci _ hcl
  obtain ⟨cf, kf, fi, f, hi, hsl2⟩ := hSl j hj
  have hlay := hts _ (hws _ (u_in_lay hj))
  unfold u_lay at hlay
  rw [if_pos hfin] at hlay
  have hcf : m.cls = cf := by
    obtain ⟨_, _, c', _, _, _, -, -, hf', -, -, -, hown2, -⟩ := Cond.laysFinal_spec hlay
    have e1 : c' = cf := by have := hi.symm.trans hf'; simp at this; exact this.1.symm
    rw [hcn, ← hy] at hown2
    rw [← e1]; exact Option.some.inj (hown.symm.trans hown2)
  refine W.putFinK hx hb hown (hts _ hlk) hi (u_facts hfc hkC (u_lays hts hws hj) hi).1 hcf (hnm.trans hy2) (by rw [q2]; exact u_fits hfc hkC hkind (Or.inr hlay) hi (hty j hj) (hn (xad ω b)) (hfit (xad ω b))) q1 q3 (by rw [hsl2]; exact k2_hasslot (q4 j hj)) rfl rfl hd fun H' e1 e2 e3 => ?_
  rw [hsl2] at e1 ⊢
  refine k g1 g2 g3 g4 H' _ ls (hR.put ha han e2 e3 ?_ (fun _ _ => rfl) (fun _ h => xur_row r a j _ h)) (hS.put e2 e3 (xA_ad ω ha)) hL
  rw [xent_obj ω hs h6, ← xfs_set ω (D := D) (r := r) (.ref (xad ω b)) hj (by unfold xfv; rw [hk, xur_at]; rfl) (fun _ _ => rfl) (fun _ h => xur_ne r a j _ (Or.inr h))]
  exact ⟨_, hcl, t_OB.to (V := updV (vp_V ((List.range (xN ci)).map (xfv ω ci D r a))) j (.ref (xad ω b))) ⟨_, e1, q2, q3, t_set q4 hap hj (.ref (xad ω b))⟩ (fun i _ => vp_updV_set (by simpa using hj) (.ref (xad ω b)) i)⟩
theorem v_iaload (hX : xX γ cc nL y d) {a kk z : Nat} {i : Int} (hi : i = (kk : Int)) (hk : kk < z) (hz : z ≤ 100000) (hs : xSH a = (10, z)) (ha : 4 ≤ a) (han : a < σ.1) (hd : decode cc pc = .ok (.iaload, 1)) (hq : pc + 1 = q)
    (k : xV γ q pl (vi (D a kk) :: st) σ D r) : xV γ pc pl (vi i :: .ref a :: st) σ D r := by
  subst hq; subst hi
  obtain ⟨p, l, e, R, s, m, args, below, meth, c, Q, ω, n0, z0, n1, z1⟩ := γ
  obtain ⟨hx, hb, hml, hown, hts, hKF, hA, hfr, hlo, hce, hsl, hnm⟩ := hX
  intro g1 g2 g3 g4 H locs ls hR hS hL
  obtain ⟨hin, hto⟩ := xi_in hk hz
  have h0 := xws_at ω D r ha han
  rw [xent_arr ω hs (by decide)] at h0
  have hk2 := k g1 g2 g3 g4 H locs ls hR hS hL
  refine va_iald hx hb hKF.1 hR.2.2 (a - 4) 0 h0 rfl hin hd ?_
  rw [hto]
  exact hk2
theorem v_laload (hX : xX γ cc nL y d) {a kk z : Nat} {i : Int} (hi : i = (kk : Int)) (hk : kk < z) (hz : z ≤ 100000) (hs : xSH a = (11, z)) (ha : 4 ≤ a) (han : a < σ.1) (hd : decode cc pc = .ok (.laload, 1)) (hq : pc + 1 = q)
    (k : xV γ q pl (vl (D a kk) :: st) σ D r) : xV γ pc pl (vi i :: .ref a :: st) σ D r := by
  subst hq; subst hi
  obtain ⟨p, l, e, R, s, m, args, below, meth, c, Q, ω, n0, z0, n1, z1⟩ := γ
  obtain ⟨hx, hb, hml, hown, hts, hKF, hA, hfr, hlo, hce, hsl, hnm⟩ := hX
  intro g1 g2 g3 g4 H locs ls hR hS hL
  obtain ⟨hin, hto⟩ := xi_in hk hz
  have h0 := xws_at ω D r ha han
  rw [xent_arr ω hs (by decide)] at h0
  have hk2 := k g1 g2 g3 g4 H locs ls hR hS hL
  refine va_lald hx hb hKF.1 hR.2.2 (a - 4) 1 h0 rfl hin hd ?_
  rw [hto]
  exact hk2
theorem v_caload (hX : xX γ cc nL y d) {a kk z : Nat} {i : Int} (hi : i = (kk : Int)) (hk : kk < z) (hz : z ≤ 100000) (hs : xSH a = (12, z)) (ha : 4 ≤ a) (han : a < σ.1) (hd : decode cc pc = .ok (.caload, 1)) (hq : pc + 1 = q)
    (k : xV γ q pl (vi (D a kk) :: st) σ D r) : xV γ pc pl (vi i :: .ref a :: st) σ D r := by
  subst hq; subst hi
  obtain ⟨p, l, e, R, s, m, args, below, meth, c, Q, ω, n0, z0, n1, z1⟩ := γ
  obtain ⟨hx, hb, hml, hown, hts, hKF, hA, hfr, hlo, hce, hsl, hnm⟩ := hX
  intro g1 g2 g3 g4 H locs ls hR hS hL
  obtain ⟨hin, hto⟩ := xi_in hk hz
  have h0 := xws_at ω D r ha han
  rw [xent_arr ω hs (by decide)] at h0
  have hk2 := k g1 g2 g3 g4 H locs ls hR hS hL
  refine va_cald hx hb hKF.1 hR.2.2 (a - 4) 2 h0 rfl hin hd ?_
  rw [hto]
  exact hk2
theorem v_baload (hX : xX γ cc nL y d) {a kk z : Nat} {i : Int} (hi : i = (kk : Int)) (hk : kk < z) (hz : z ≤ 100000) (hs : xSH a = (13, z)) (ha : 4 ≤ a) (han : a < σ.1) (hd : decode cc pc = .ok (.baload, 1)) (hq : pc + 1 = q)
    (k : xV γ q pl (vi (D a kk) :: st) σ D r) : xV γ pc pl (vi i :: .ref a :: st) σ D r := by
  subst hq; subst hi
  obtain ⟨p, l, e, R, s, m, args, below, meth, c, Q, ω, n0, z0, n1, z1⟩ := γ
  obtain ⟨hx, hb, hml, hown, hts, hKF, hA, hfr, hlo, hce, hsl, hnm⟩ := hX
  intro g1 g2 g3 g4 H locs ls hR hS hL
  obtain ⟨hin, hto⟩ := xi_in hk hz
  have h0 := xws_at ω D r ha han
  rw [xent_arr ω hs (by decide)] at h0
  have hk2 := k g1 g2 g3 g4 H locs ls hR hS hL
  refine va_zald hx hb hKF.1 hR.2.2 (a - 4) 3 h0 rfl hin hd ?_
  rw [hto]
  exact hk2
theorem v_aaload (hX : xX γ cc nL y d) {a kk z b c0 : Nat} {i : Int} (hi : i = (kk : Int)) (hk : kk < z) (hz : z ≤ 100000) (hs : xSH a = (c0, z)) (hc0 : c0 = 14 ∨ c0 = 15) (ha : 4 ≤ a) (han : a < σ.1) (hr : r a kk = some b) (hd : decode cc pc = .ok (.aaload, 1)) (hq : pc + 1 = q)
    (k : xV γ q pl (.ref b :: st) σ D r) : xV γ pc pl (vi i :: .ref a :: st) σ D r := by
  subst hq; subst hi
  obtain ⟨p, l, e, R, s, m, args, below, meth, c, Q, ω, n0, z0, n1, z1⟩ := γ
  obtain ⟨hx, hb, hml, hown, hts, hKF, hA, hfr, hlo, hce, hsl, hnm⟩ := hX
  intro g1 g2 g3 g4 H locs ls hR hS hL
  obtain ⟨hin, hto⟩ := xi_in hk hz
  have h0 := xws_at ω D r ha han
  have hk2 := k g1 g2 g3 g4 H locs ls hR hS hL
  rcases hc0 with rfl | rfl
  · rw [xent_arr ω hs (by decide)] at h0
    refine va_aldq hx hb hKF.1 hR.2.2 (a - 4) 4 h0 rfl hin hd ?_
    rw [hto, hr]
    exact hk2
  · rw [xent_arr ω hs (by decide)] at h0
    refine va_aldq hx hb hKF.1 hR.2.2 (a - 4) 5 h0 rfl hin hd ?_
    rw [hto, hr]
    exact hk2
theorem v_iastore (hX : xX γ cc nL y d) {a kk z : Nat} {i v : Int} (hi : i = (kk : Int)) (hk : kk < z) (hz : z ≤ 100000) (hs : xSH a = (10, z)) (ha : 4 ≤ a) (han : a < σ.1) (hd : decode cc pc = .ok (.iastore, 1)) (hq : pc + 1 = q)
    (k : xV γ q pl st σ (xu D a kk v) r) : xV γ pc pl (vi v :: vi i :: .ref a :: st) σ D r := by
  subst hq; subst hi
  obtain ⟨p, l, e, R, s, m, args, below, meth, c, Q, ω, n0, z0, n1, z1⟩ := γ
  obtain ⟨hx, hb, hml, hown, hts, hKF, hA, hfr, hlo, hce, hsl, hnm⟩ := hX
  intro g1 g2 g3 g4 H locs ls hR hS hL
  obtain ⟨hin, hto⟩ := xi_in hk hz
  have h0 := hR.cell ha han hs (by decide)
  refine W.iast hx hb h0 ((hKF.1.2 0 _ rfl).1 z (fun j => .int (Int32.ofInt (D a j)))) (fun h => by cases h) (by show ¬ (_ ∨ (arrV _ _ _).slots.size ≤ _); rw [arrV_size]; exact hin) rfl rfl hd fun H1 e1 e2 e3 => ?_
  refine k g1 g2 g3 g4 H1 _ ls (hR.put ha han e2 e3 ?_ (fun _ h => xu_row D a kk v h) (fun _ _ => rfl)) (hS.put e2 e3 (xA_ad ω ha)) hL
  rw [xent_arr ω hs (by decide)]
  show H1[xad ω a]? = some (arrV (ω.2.1 10) z (fun j => .int (Int32.ofInt (xu D a kk v a j))))
  rw [e1, hto]
  show some ((arrV (ω.2.1 10) z (fun j => .int (Int32.ofInt (D a j)))).setSlot kk _) = _
  rw [arrV_store]
  congr 2
  funext j
  unfold updV xu
  by_cases hj : j = kk
  · simp [hj]
  · simp [hj]
theorem v_lastore (hX : xX γ cc nL y d) {a kk z : Nat} {i v : Int} (hi : i = (kk : Int)) (hk : kk < z) (hz : z ≤ 100000) (hs : xSH a = (11, z)) (ha : 4 ≤ a) (han : a < σ.1) (hd : decode cc pc = .ok (.lastore, 1)) (hq : pc + 1 = q)
    (k : xV γ q pl st σ (xu D a kk v) r) : xV γ pc pl (vl v :: vi i :: .ref a :: st) σ D r := by
  subst hq; subst hi
  obtain ⟨p, l, e, R, s, m, args, below, meth, c, Q, ω, n0, z0, n1, z1⟩ := γ
  obtain ⟨hx, hb, hml, hown, hts, hKF, hA, hfr, hlo, hce, hsl, hnm⟩ := hX
  intro g1 g2 g3 g4 H locs ls hR hS hL
  obtain ⟨hin, hto⟩ := xi_in hk hz
  have h0 := hR.cell ha han hs (by decide)
  refine W.last hx hb h0 ((hKF.1.2 1 _ rfl).1 z (fun j => .long (Int64.ofInt (D a j)))) (fun h => by cases h) (by show ¬ (_ ∨ (arrV _ _ _).slots.size ≤ _); rw [arrV_size]; exact hin) rfl rfl hd fun H1 e1 e2 e3 => ?_
  refine k g1 g2 g3 g4 H1 _ ls (hR.put ha han e2 e3 ?_ (fun _ h => xu_row D a kk v h) (fun _ _ => rfl)) (hS.put e2 e3 (xA_ad ω ha)) hL
  rw [xent_arr ω hs (by decide)]
  show H1[xad ω a]? = some (arrV (ω.2.1 11) z (fun j => .long (Int64.ofInt (xu D a kk v a j))))
  rw [e1, hto]
  show some ((arrV (ω.2.1 11) z (fun j => .long (Int64.ofInt (D a j)))).setSlot kk _) = _
  rw [arrV_store]
  congr 2
  funext j
  unfold updV xu
  by_cases hj : j = kk
  · simp [hj]
  · simp [hj]
theorem v_castore (hX : xX γ cc nL y d) {a kk z : Nat} {i v : Int} (hi : i = (kk : Int)) (hk : kk < z) (hz : z ≤ 100000) (hn : narrow .char (vi v) = vi v) (hs : xSH a = (12, z)) (ha : 4 ≤ a) (han : a < σ.1) (hd : decode cc pc = .ok (.castore, 1)) (hq : pc + 1 = q)
    (k : xV γ q pl st σ (xu D a kk v) r) : xV γ pc pl (vi v :: vi i :: .ref a :: st) σ D r := by
  subst hq; subst hi
  obtain ⟨p, l, e, R, s, m, args, below, meth, c, Q, ω, n0, z0, n1, z1⟩ := γ
  obtain ⟨hx, hb, hml, hown, hts, hKF, hA, hfr, hlo, hce, hsl, hnm⟩ := hX
  intro g1 g2 g3 g4 H locs ls hR hS hL
  obtain ⟨hin, hto⟩ := xi_in hk hz
  have h0 := hR.cell ha han hs (by decide)
  refine W.cast hx hb h0 ((hKF.1.2 2 _ rfl).1 z (fun j => .int (Int32.ofInt (D a j)))) (fun h => by cases h) (by show ¬ (_ ∨ (arrV _ _ _).slots.size ≤ _); rw [arrV_size]; exact hin) rfl rfl hd fun H1 e1 e2 e3 => ?_
  rw [hn] at e1
  refine k g1 g2 g3 g4 H1 _ ls (hR.put ha han e2 e3 ?_ (fun _ h => xu_row D a kk v h) (fun _ _ => rfl)) (hS.put e2 e3 (xA_ad ω ha)) hL
  rw [xent_arr ω hs (by decide)]
  show H1[xad ω a]? = some (arrV (ω.2.1 12) z (fun j => .int (Int32.ofInt (xu D a kk v a j))))
  rw [e1, hto]
  show some ((arrV (ω.2.1 12) z (fun j => .int (Int32.ofInt (D a j)))).setSlot kk _) = _
  rw [arrV_store]
  congr 2
  funext j
  unfold updV xu
  by_cases hj : j = kk
  · simp [hj]
  · simp [hj]
theorem v_bastore (hX : xX γ cc nL y d) {a kk z : Nat} {i v : Int} (hi : i = (kk : Int)) (hk : kk < z) (hz : z ≤ 100000) (hn : narrow .boolean (vi v) = vi v) (hs : xSH a = (13, z)) (ha : 4 ≤ a) (han : a < σ.1) (hd : decode cc pc = .ok (.bastore, 1)) (hq : pc + 1 = q)
    (k : xV γ q pl st σ (xu D a kk v) r) : xV γ pc pl (vi v :: vi i :: .ref a :: st) σ D r := by
  subst hq; subst hi
  obtain ⟨p, l, e, R, s, m, args, below, meth, c, Q, ω, n0, z0, n1, z1⟩ := γ
  obtain ⟨hx, hb, hml, hown, hts, hKF, hA, hfr, hlo, hce, hsl, hnm⟩ := hX
  intro g1 g2 g3 g4 H locs ls hR hS hL
  obtain ⟨hin, hto⟩ := xi_in hk hz
  have h0 := hR.cell ha han hs (by decide)
  refine W.zast hx hb h0 ((hKF.1.2 3 _ rfl).1 z (fun j => .int (Int32.ofInt (D a j)))) (fun h => by cases h) (by show ¬ (_ ∨ (arrV _ _ _).slots.size ≤ _); rw [arrV_size]; exact hin) rfl rfl hd fun H1 e1 e2 e3 => ?_
  rw [hn] at e1
  refine k g1 g2 g3 g4 H1 _ ls (hR.put ha han e2 e3 ?_ (fun _ h => xu_row D a kk v h) (fun _ _ => rfl)) (hS.put e2 e3 (xA_ad ω ha)) hL
  rw [xent_arr ω hs (by decide)]
  show H1[xad ω a]? = some (arrV (ω.2.1 13) z (fun j => .int (Int32.ofInt (xu D a kk v a j))))
  rw [e1, hto]
  show some ((arrV (ω.2.1 13) z (fun j => .int (Int32.ofInt (D a j)))).setSlot kk _) = _
  rw [arrV_store]
  congr 2
  funext j
  unfold updV xu
  by_cases hj : j = kk
  · simp [hj]
  · simp [hj]
end XH
end
section
/-! ===== calls ===== -/
theorem xcl_at : ∀ ci, ci < 5 → ∃ T : u_T, vwCl[ci]? = some (xcn ci, T, xN ci) := by
  intro ci h
  match ci, h with
  | 0, _ => exact ⟨_, rfl⟩
  | 1, _ => exact ⟨_, rfl⟩
  | 2, _ => exact ⟨_, rfl⟩
  | 3, _ => exact ⟨_, rfl⟩
  | 4, _ => exact ⟨_, rfl⟩
def xMD (μ : xM) (n : Nat) : Prop := (μ.1.cls ≠ "java/lang/invoke/MethodHandle" ∧ μ.1.cls ≠ "java/lang/invoke/VarHandle" ∧ (parseMethodDescriptor μ.1.desc).map (fun d => d.parameters.length) = some n) ∧ μ.2.2.1 ≤ 21
/-- a method that a virtual call finds, of n parameters -/
def xMV (μ : xM) (n : Nat) : Prop := .instanceMethod μ.1 ∈ xtb ∧ .selects μ.1.cls μ.1 μ.1 ∈ xtb ∧ .initialized μ.1.cls ∈ xtb ∧ .code μ.1 μ.2.1 μ.2.2.1 μ.2.2.2 ∈ xtb ∧ xMD μ n
def xMS (μ : xM) (n : Nat) : Prop := .static μ.1 ∈ xtb ∧ .initialized μ.1.cls ∈ xtb ∧ .code μ.1 μ.2.1 μ.2.2.1 μ.2.2.2 ∈ xtb ∧ xMD μ n
def xMI (μ : xM) (n : Nat) : Prop := .instanceMethod μ.1 ∈ xtb ∧ .initialized μ.1.cls ∈ xtb ∧ .code μ.1 μ.2.1 μ.2.2.1 μ.2.2.2 ∈ xtb ∧ xMD μ n ∧ μ.2.2.2 = none ∧ μ.1.name = "<init>"
theorem xgood {w : Cond} (h : w ∈ xtb) : w ∈ xtb ∧ ((w.onTables && w.keeps) = true ∨ ∃ ty, w = .arrayClass ty) := ⟨h, xtb_good w h⟩
theorem xMW_good {μ : xM} (h : Cond.code μ.1 μ.2.1 μ.2.2.1 μ.2.2.2 ∈ xtb) : GoodIn xtb (xMW μ) := fun w hw => by
  rcases List.mem_cons.mp hw with rfl | hw
  · exact xgood h
  · exact xgood hw
def xGB (γ : xC) (σf : Nat × Nat) : Prop := match γ with
  | (_, _, _, _, _, _, _, _, _, _, _, _, _, _, n1, z1) => n1 = σf.1 ∧ z1 = σf.2
theorem xRX.gb {γ : xC} {rt : Option FieldType} {σf : Nat × Nat} {P : Option Value → xD → xR → Prop} (h : xRX γ rt σf P) : xGB γ σf := by
  obtain ⟨p, l, e, R, s, m, args, below, meth, c, Q, ω, n0, z0, n1, z1⟩ := γ
  exact ⟨h.2.2.2.1, h.2.2.2.2⟩
abbrev xP (w : Value) (D : xD) (r : xR) : Option Value → xD → xR → Prop := fun v D' r' => v = some w ∧ D' = D ∧ r' = r
section XCALL
variable {p : Program} {l : Launch} {e : Env} {R : Room} {s : State} {m : MethodId} {args : Array Value} {below : List Frame} {meth : Method} {c : Code} {H : Heap} {locs : List Loc} {cells slots mc ms : Nat} {Q : State → Prop} {pc : Nat} {ls : Array Slot} {rest st0 : List Value}
theorem xblind {ω : xW} {n : Nat} {D : xD} {r : xR} {av : List Value} {X Y : Prop} : FrameBlind (va_Pc av (fun U => (xRep ω n D r U.heap ∧ X ∧ Y ∧ ω.2.2.2 ≤ U.heap.size) ∧ xKF ω U U.heap)) := fun a U g mk q => by
  obtain ⟨q0, q1, q2⟩ := q
  exact ⟨q0, q1, xKF.same (U := U.calling g mk a) rfl q2⟩
theorem xcall {ω : xW} {σ' : Nat × Nat} {P : Option Value → xD → xR → Prop} {a : Array Value} (hr : va_Run p l e R s m args below meth c H locs cells slots mc ms (F0 m pc ls st0) rest (xQ ω σ' P a) (xA ω)) (hS : va_S (xA ω) s.heap H locs)
    (kk : ∀ (v : Option Value) (D' : xD) (r' : xR) (H1 : Heap) (locs1 : List Loc), P v D' r' → xRep ω σ'.1 D' r' H1 → va_S (xA ω) s.heap H1 locs1 → W p l e R s m args below meth c H1 locs1 (cells + mc) (slots + ms) Q (F0 m (pc + 3) ls ((v.map (xtr ω)).toList ++ rest))) :
    W p l e R s m args below meth c H locs cells slots Q (F0 m pc ls st0) := by
  intro T hT X
  obtain ⟨v, st₀, t, T', L, h0, X', hL, e1, e2, ⟨⟨v', D', r', hv, hp, hR⟩, hz, hk⟩, st⟩ := hr T hT X
  cases hv
  rw [h0] at hz hk
  obtain ⟨t2, a1, b1⟩ := kk v' D' r' T'.heap (locs ++ L) hp (by rw [e1]; exact hR)
    ⟨Nat.le_trans hS.1 (by rw [e1]; exact hz), fun q h1 h2 => by rw [e1, hk q (Nat.lt_of_lt_of_le h1 hS.1) h2]; exact hS.2.1 q h1 h2, fun q hq => by
      rcases List.mem_append.mp hq with h | h
      · exact hS.2.2 q h
      · exact hL q h⟩ T' rfl X'
  exact ⟨t2, st t2 a1, b1⟩
end XCALL
theorem xtr_toList (ω : xW) (v : Option Value) (rest : List Value) : (v.map (xtr ω)).toList ++ rest.map (xtr ω) = (v.toList ++ rest).map (xtr ω) := by cases v <;> rfl
theorem xcat_sum (ω : xW) (rest : List Value) : ((rest.map (xtr ω)).map fun v => v.category).sum = (rest.map Value.category).sum := by
  rw [List.map_map]
  congr 1
  exact List.map_congr_left fun v _ => xcat ω v
section XC2
variable {γ : xC} {cc : ByteArray} {nL d : Nat} {y : MethodName} {pc q : Nat} {pl : List (Option Value)} {st rest As : List Value} {σ σ' σf : Nat × Nat} {D : xD} {r : xR} {μ : xM} {d' n a idx : Nat} {P : Option Value → xD → xR → Prop}
theorem v_callV (hX : xX γ cc nL y d) (hM : MX d' μ (.ref a :: As) σ D r σ P) (hst : st = As.reverse ++ .ref a :: rest) (hμ : xMV μ n) (hn : As.length = n) (hdd : d' + 1 ≤ d) (hlk : Cond.methodLink y.cls idx μ.1 ∈ xtb) {ci z : Nat} (hci : ci < 5) (hcn : xcn ci = μ.1.cls) (hs : xSH a = (ci, z)) (ha : 4 ≤ a) (han : a < σ.1)
    (hrest : (rest.map Value.category).sum ≤ 8) (hd : decode cc pc = .ok (.invokevirtual idx, 3)) (hq : pc + 3 = q) (k : ∀ v D' r', P v D' r' → xV γ q pl (v.toList ++ rest) σ D' r') : xV γ pc pl st σ D r := by
  subst hq; subst hst
  obtain ⟨p, l, e, R, s, m, args, below, meth, c, Q, ω, n0, z0, n1, z1⟩ := γ
  obtain ⟨hx, hb, hml, hown, hts, hKF, hA, hfr, hlo, hce, hsl, hnm⟩ := hX
  obtain ⟨m1, m2, m3, m4, m5, m6⟩ := hμ
  intro g1 g2 g3 g4 H locs ls hR hS hL
  obtain ⟨T, hcl⟩ := xcl_at ci hci
  have h0 := xws_at ω D r ha han
  rw [xent_obj ω hs hci] at h0
  have hG : GoodIn xtb (wsV y.cls idx μ.1.cls μ.1 (xMW μ)) := by
    intro w hw
    rcases List.mem_append.mp hw with hw | hw
    · simp only [List.mem_cons, List.not_mem_nil, or_false] at hw
      rcases hw with rfl | rfl | rfl | rfl
      · exact xgood hlk
      · exact xgood m1
      · exact xgood m2
      · exact xgood m3
    · exact xMW_good m4 w hw
  have cw := cwV (R := R) (s := s) (args := args) (own := y.cls) (index := idx) (C := μ.1.cls) (y := μ.1) (bytes := μ.2.1) (maxL := μ.2.2.1) (ret := μ.2.2.2) (rm := ({ frames := d', cells := σ.1 - σ.1, slots := σ.2 - σ.2, locals := 40 * d' } : Room)) (mc := σ.1 - σ.1) (ms := σ.2 - σ.2) n hts hG rfl rfl rfl ⟨rfl, m5⟩ ⟨by show d' + 1 ≤ R.frames; omega, by show 8 + (μ.2.2.1 + 11) + 40 * d' ≤ R.locals; omega⟩
  have hrun := va_runV (As := As.map (xtr ω)) (rest := rest.map (xtr ω)) (b := xad ω a) (g := F0 m pc ls ((As.reverse ++ .ref a :: rest).map (xtr ω))) (locs := locs) (cells := σ.1 - n0) (slots := σ.2 - z0) (H := H) (p := p) (e := e) (R := R) (s := s) (below := below) (meth := meth) ⟨hx, hb, hml, hown, hts⟩ (hM l ω) cw
    ⟨xblind, by have := va_recv hKF.1 hR.2.2 hcl h0; rw [show (xcn ci, T, xN ci).1 = μ.1.cls from hcn] at this; exact this, fun U hU hW => ⟨rfl, ⟨by rw [hU]; exact hR, Nat.le_refl _, Nat.le_refl _, by rw [hU]; exact Nat.le_trans (hA _ (Nat.le_refl _)) hS.1⟩, xKF.moved hW hKF (by rw [hU]; exact hS.2.1)⟩⟩
    rfl (by simpa using hn) (hL.1.trans hml) (by simp [xtr]) (lv_room (by rw [xcat_sum]; exact hrest)) hd ⟨by omega, by omega⟩
  refine xcall hrun hS fun v D' r' H1 locs1 hp hR1 hS1 => ?_
  have hk := k v D' r' hp g1 g2 g3 g4 H1 locs1 ls hR1 hS1 hL
  rw [xtr_toList]
  rw [show σ.1 - n0 + (σ.1 - σ.1) = σ.1 - n0 by omega, show σ.2 - z0 + (σ.2 - σ.2) = σ.2 - z0 by omega]
  exact hk
theorem v_callS (hX : xX γ cc nL y d) (hM : MX d' μ As σ D r σ P) (hst : st = As.reverse ++ rest) (hμ : xMS μ n) (hn : As.length = n) (hdd : d' + 1 ≤ d) (hlk : Cond.methodLink y.cls idx μ.1 ∈ xtb)
    (hrest : (rest.map Value.category).sum ≤ 8) (hd : decode cc pc = .ok (.invokestatic idx, 3)) (hq : pc + 3 = q) (k : ∀ v D' r', P v D' r' → xV γ q pl (v.toList ++ rest) σ D' r') : xV γ pc pl st σ D r := by
  subst hq; subst hst
  obtain ⟨p, l, e, R, s, m, args, below, meth, c, Q, ω, n0, z0, n1, z1⟩ := γ
  obtain ⟨hx, hb, hml, hown, hts, hKF, hA, hfr, hlo, hce, hsl, hnm⟩ := hX
  obtain ⟨m1, m3, m4, m5, m6⟩ := hμ
  intro g1 g2 g3 g4 H locs ls hR hS hL
  have hG : GoodIn xtb (va_wsS y.cls idx μ.1 (xMW μ)) := by
    intro w hw
    rcases List.mem_append.mp hw with hw | hw
    · simp only [List.mem_cons, List.not_mem_nil, or_false] at hw
      rcases hw with rfl | rfl | rfl
      · exact xgood hlk
      · exact xgood m1
      · exact xgood m3
    · exact xMW_good m4 w hw
  have cw := va_cwS (R := R) (s := s) (args := args) (own := y.cls) (index := idx) (y := μ.1) (bytes := μ.2.1) (maxL := μ.2.2.1) (ret := μ.2.2.2) (rm := ({ frames := d', cells := σ.1 - σ.1, slots := σ.2 - σ.2, locals := 40 * d' } : Room)) (mc := σ.1 - σ.1) (ms := σ.2 - σ.2) n hts hG rfl rfl rfl m5 ⟨by show d' + 1 ≤ R.frames; omega, by show 8 + (μ.2.2.1 + 11) + 40 * d' ≤ R.locals; omega⟩
  have hrun := va_runS (As := As.map (xtr ω)) (rest := rest.map (xtr ω)) (g := F0 m pc ls ((As.reverse ++ rest).map (xtr ω))) (locs := locs) (cells := σ.1 - n0) (slots := σ.2 - z0) (H := H) (p := p) (e := e) (R := R) (s := s) (below := below) (meth := meth) ⟨hx, hb, hml, hown, hts⟩ (hM l ω) cw
    ⟨xblind, fun U hU hW => ⟨rfl, ⟨by rw [hU]; exact hR, Nat.le_refl _, Nat.le_refl _, by rw [hU]; exact Nat.le_trans (hA _ (Nat.le_refl _)) hS.1⟩, xKF.moved hW hKF (by rw [hU]; exact hS.2.1)⟩⟩
    rfl (by simpa using hn) (hL.1.trans hml) (by simp) (lv_room (by rw [xcat_sum]; exact hrest)) hd ⟨by omega, by omega⟩
  refine xcall hrun hS fun v D' r' H1 locs1 hp hR1 hS1 => ?_
  have hk := k v D' r' hp g1 g2 g3 g4 H1 locs1 ls hR1 hS1 hL
  rw [xtr_toList]
  rw [show σ.1 - n0 + (σ.1 - σ.1) = σ.1 - n0 by omega, show σ.2 - z0 + (σ.2 - σ.2) = σ.2 - z0 by omega]
  exact hk
/-- a constructor; it may make cells -/
theorem v_callI (hX : xX γ cc nL y d) (hG0 : xGB γ σf) (hM : MX d' μ (.ref a :: As) σ D r σ' P) (hst : st = As.reverse ++ .ref a :: rest) (hμ : xMI μ n) (hn : As.length = n) (hdd : d' + 1 ≤ d) (hlk : Cond.methodLink y.cls idx μ.1 ∈ xtb)
    (hσ : σ.1 ≤ σ'.1 ∧ σ.2 ≤ σ'.2) (hσf : σ'.1 ≤ σf.1 ∧ σ'.2 ≤ σf.2)
    (hrest : (rest.map Value.category).sum ≤ 8) (hd : decode cc pc = .ok (.invokespecial idx, 3)) (hq : pc + 3 = q) (k : ∀ v D' r', P v D' r' → xV γ q pl (v.toList ++ rest) σ' D' r') : xV γ pc pl st σ D r := by
  subst hq; subst hst
  obtain ⟨p, l, e, R, s, m, args, below, meth, c, Q, ω, n0, z0, n1, z1⟩ := γ
  obtain ⟨hx, hb, hml, hown, hts, hKF, hA, hfr, hlo, hce, hsl, hnm⟩ := hX
  obtain ⟨rfl, rfl⟩ := hG0
  obtain ⟨m1, m3, m4, ⟨m5, m6⟩, m7, m8⟩ := hμ
  obtain ⟨y', b', nl', rt'⟩ := μ
  obtain rfl : rt' = none := m7
  intro g1 g2 g3 g4 H locs ls hR hS hL
  have cw := cwI (R := R) (s := s) (args := args) (own := y.cls) (index := idx) (y := y') (bytes := b') (maxL := nl') (ws := xMW (y', b', nl', none)) (rm := ({ frames := d', cells := σ'.1 - σ.1, slots := σ'.2 - σ.2, locals := 40 * d' } : Room)) (mc := σ'.1 - σ.1) (ms := σ'.2 - σ.2) n hts (xMW_good m4) rfl rfl rfl (hts _ m3) (hts _ hlk) (hts _ m1) m8 m5 ⟨by show d' + 1 ≤ R.frames; omega, by show 8 + (nl' + 11) + 40 * d' ≤ R.locals; have h9 : nl' ≤ 21 := m6; omega⟩
  have hrun := va_runI (As := As.map (xtr ω)) (rest := rest.map (xtr ω)) (b := xad ω a) (g := F0 m pc ls ((As.reverse ++ .ref a :: rest).map (xtr ω))) (locs := locs) (cells := σ.1 - n0) (slots := σ.2 - z0) (H := H) (p := p) (e := e) (R := R) (s := s) (below := below) (meth := meth) ⟨hx, hb, hml, hown, hts⟩ (hM l ω) cw
    ⟨xblind, fun U hU hW => ⟨rfl, ⟨by rw [hU]; exact hR, hσ.1, hσ.2, by rw [hU]; exact Nat.le_trans (hA _ (Nat.le_refl _)) hS.1⟩, xKF.moved hW hKF (by rw [hU]; exact hS.2.1)⟩⟩
    rfl (by simpa using hn) (hL.1.trans hml) (by simp [xtr]) (lv_room (by rw [xcat_sum]; exact hrest)) hd ⟨by omega, by omega⟩
  refine xcall hrun hS fun v D' r' H1 locs1 hp hR1 hS1 => ?_
  have hk := k v D' r' hp (by omega) (by omega) hσf.1 hσf.2 H1 locs1 ls hR1 hS1 hL
  rw [xtr_toList]
  rw [show σ.1 - n0 + (σ'.1 - σ.1) = σ'.1 - n0 by omega, show σ.2 - z0 + (σ'.2 - σ.2) = σ'.2 - z0 by omega]
  exact hk
/-- a private constructor of a nest mate -/
theorem v_callIN (hX : xX γ cc nL y d) (hG0 : xGB γ σf) (hM : MX d' μ (.ref a :: As) σ D r σ' P) (hst : st = As.reverse ++ .ref a :: rest) (hμ : xMI μ n) (hn : As.length = n) (hdd : d' + 1 ≤ d)
    (hlk : ∀ ω U H, xKF ω U H → va_Nw (.methodLinkNest y.cls idx μ.1 "LotFences") U) (hσ : σ.1 ≤ σ'.1 ∧ σ.2 ≤ σ'.2) (hσf : σ'.1 ≤ σf.1 ∧ σ'.2 ≤ σf.2)
    (hrest : (rest.map Value.category).sum ≤ 8) (hd : decode cc pc = .ok (.invokespecial idx, 3)) (hq : pc + 3 = q) (k : ∀ v D' r', P v D' r' → xV γ q pl (v.toList ++ rest) σ' D' r') : xV γ pc pl st σ D r := by
  subst hq; subst hst
  obtain ⟨p, l, e, R, s, m, args, below, meth, c, Q, ω, n0, z0, n1, z1⟩ := γ
  obtain ⟨hx, hb, hml, hown, hts, hKF, hA, hfr, hlo, hce, hsl, hnm⟩ := hX
  obtain ⟨rfl, rfl⟩ := hG0
  obtain ⟨m1, m3, m4, ⟨m5, m6⟩, m7, m8⟩ := hμ
  obtain ⟨y', b', nl', rt'⟩ := μ
  obtain rfl : rt' = none := m7
  intro g1 g2 g3 g4 H locs ls hR hS hL
  have cw := va_cnB (R := R) (s := s) (args := args) (own := y.cls) (host := "LotFences") (index := idx) (y := y') (bytes := b') (maxL := nl') (ret := none) (ws := xMW (y', b', nl', none)) (rm := ({ frames := d', cells := σ'.1 - σ.1, slots := σ'.2 - σ.2, locals := 40 * d' } : Room)) (mc := σ'.1 - σ.1) (ms := σ'.2 - σ.2) n hts (xMW_good m4) rfl rfl rfl (hlk ω s _ hKF) (hts _ m3) m5 ⟨by show d' + 1 ≤ R.frames; omega, by show 8 + (nl' + 11) + 40 * d' ≤ R.locals; have h9 : nl' ≤ 21 := m6; omega⟩
  have hrun := va_runIN (As := As.map (xtr ω)) (rest := rest.map (xtr ω)) (b := xad ω a) (g := F0 m pc ls ((As.reverse ++ .ref a :: rest).map (xtr ω))) (locs := locs) (cells := σ.1 - n0) (slots := σ.2 - z0) (H := H) (p := p) (e := e) (R := R) (s := s) (below := below) (meth := meth) ⟨hx, hb, hml, hown, hts⟩ (hM l ω) ⟨cw, m8, hts _ m1⟩
    ⟨xblind, fun U hU hW => ⟨rfl, ⟨by rw [hU]; exact hR, hσ.1, hσ.2, by rw [hU]; exact Nat.le_trans (hA _ (Nat.le_refl _)) hS.1⟩, xKF.moved hW hKF (by rw [hU]; exact hS.2.1)⟩⟩
    rfl (by simpa using hn) (hL.1.trans hml) (by simp [xtr]) (lv_room (by rw [xcat_sum]; exact hrest)) hd ⟨by omega, by omega⟩
  refine xcall hrun hS fun v D' r' H1 locs1 hp hR1 hS1 => ?_
  have hk := k v D' r' hp (by omega) (by omega) hσf.1 hσf.2 H1 locs1 ls hR1 hS1 hL
  rw [xtr_toList]
  rw [show σ.1 - n0 + (σ'.1 - σ.1) = σ'.1 - n0 by omega, show σ.2 - z0 + (σ'.2 - σ.2) = σ'.2 - z0 by omega]
  exact hk
/-- a private static method of a nest mate -/
theorem v_callSN (hX : xX γ cc nL y d) (hM : MX d' μ As σ D r σ P) (hst : st = As.reverse ++ rest) (hμ : xMS μ n) (hn : As.length = n) (hdd : d' + 1 ≤ d) (hlk : ∀ ω U H, xKF ω U H → va_Nw (.methodLinkNest y.cls idx μ.1 "LotFences") U)
    (hrest : (rest.map Value.category).sum ≤ 8) (hd : decode cc pc = .ok (.invokestatic idx, 3)) (hq : pc + 3 = q) (k : ∀ v D' r', P v D' r' → xV γ q pl (v.toList ++ rest) σ D' r') : xV γ pc pl st σ D r := by
  subst hq; subst hst
  obtain ⟨p, l, e, R, s, m, args, below, meth, c, Q, ω, n0, z0, n1, z1⟩ := γ
  obtain ⟨hx, hb, hml, hown, hts, hKF, hA, hfr, hlo, hce, hsl, hnm⟩ := hX
  obtain ⟨m1, m3, m4, m5, m6⟩ := hμ
  intro g1 g2 g3 g4 H locs ls hR hS hL
  have cw := va_cnB (R := R) (s := s) (args := args) (own := y.cls) (host := "LotFences") (index := idx) (y := μ.1) (bytes := μ.2.1) (maxL := μ.2.2.1) (ret := μ.2.2.2) (ws := xMW μ) (rm := ({ frames := d', cells := σ.1 - σ.1, slots := σ.2 - σ.2, locals := 40 * d' } : Room)) (mc := σ.1 - σ.1) (ms := σ.2 - σ.2) n hts (xMW_good m4) rfl rfl rfl (hlk ω s _ hKF) (hts _ m3) m5 ⟨by show d' + 1 ≤ R.frames; omega, by show 8 + (μ.2.2.1 + 11) + 40 * d' ≤ R.locals; omega⟩
  have hrun := va_runSN (As := As.map (xtr ω)) (rest := rest.map (xtr ω)) (g := F0 m pc ls ((As.reverse ++ rest).map (xtr ω))) (locs := locs) (cells := σ.1 - n0) (slots := σ.2 - z0) (H := H) (p := p) (e := e) (R := R) (s := s) (below := below) (meth := meth) ⟨hx, hb, hml, hown, hts⟩ (hM l ω) ⟨cw, hts _ m1, trivial⟩
    ⟨xblind, fun U hU hW => ⟨rfl, ⟨by rw [hU]; exact hR, Nat.le_refl _, Nat.le_refl _, by rw [hU]; exact Nat.le_trans (hA _ (Nat.le_refl _)) hS.1⟩, xKF.moved hW hKF (by rw [hU]; exact hS.2.1)⟩⟩
    rfl (by simpa using hn) (hL.1.trans hml) (by simp) (lv_room (by rw [xcat_sum]; exact hrest)) hd ⟨by omega, by omega⟩
  refine xcall hrun hS fun v D' r' H1 locs1 hp hR1 hS1 => ?_
  have hk := k v D' r' hp g1 g2 g3 g4 H1 locs1 ls hR1 hS1 hL
  rw [xtr_toList]
  rw [show σ.1 - n0 + (σ.1 - σ.1) = σ.1 - n0 by omega, show σ.2 - z0 + (σ.2 - σ.2) = σ.2 - z0 by omega]
  exact hk
end XC2
end
section
/-! ===== making cells, statics, copies, the JDK's small functions ===== -/
theorem xty_ok : ∀ ci, ci < 5 → ∀ j, j < xN ci → xty ci j ≠ .float ∧ xty ci j ≠ .double := by decide +kernel
theorem xfv_zero (ω : xW) {ci j : Nat} {D : xD} {r : xR} {a : Nat} (h1 : D a j = 0) (h2 : r a j = none) (h3 : xty ci j ≠ .float ∧ xty ci j ≠ .double) : defaultValue (xty ci j) = xfv ω ci D r a j := by
  unfold xfv
  rw [h1, h2]
  generalize xty ci j = t at h3 ⊢
  cases t <;> first | rfl | exact absurd rfl h3.1 | exact absurd rfl h3.2
theorem xws_push (ω : xW) (n : Nat) (D : xD) (r : xR) (h : 4 ≤ n) : xws ω (n + 1) D r = xws ω n D r ++ [(xad ω n, xent ω D r n)] := by
  unfold xws
  rw [show n + 1 - 4 = (n - 4) + 1 by omega, List.range_succ, List.map_append, List.map_singleton, show n - 4 + 4 = n by omega]
theorem xRep.push {ω : xW} {n : Nat} {D : xD} {r : xR} {H H1 : Heap} (hR : xRep ω n D r H) (z : H1.size = H.size + 1) (hn : n < 351) (oq : ∀ q : Nat, q < H.size → H1[q]? = H[q]?) (hat : va_at ω.1 vwCl (xad ω n, xent ω D r n) H1) : xRep ω (n + 1) D r H1 := by
  refine ⟨fun _ => by rw [z, hR.1 hn, xad_ge ω hR.2.1, xad_ge ω (Nat.le_succ_of_le hR.2.1)]; have := hR.2.1; omega, Nat.le_succ_of_le hR.2.1, ?_⟩
  rw [xws_push ω n D r hR.2.1]
  refine va_P.app (hR.2.2.kept fun k x hx => oq x.1 ((hR.2.2 k x hx).lt)) fun k x hx => ?_
  have hz : k < 1 := (List.getElem?_eq_some_iff.mp hx).1
  rw [show k = 0 by omega] at hx
  cases hx
  exact hat
section XN
variable {γ : xC} {cc : ByteArray} {nL d : Nat} {y : MethodName} {pc q : Nat} {pl : List (Option Value)} {st : List Value} {σf : Nat × Nat} {n z n' z' : Nat} {D : xD} {r : xR}
theorem v_new (hX : xX γ cc nL y d) (hG0 : xGB γ σf) {idx ci : Nat} (hci : ci < 5) (hs : xSH n = (ci, 0)) (hlk : Cond.classLink y.cls idx (xcn ci) ∈ xtb) (hin : Cond.instantiable (xcn ci) (xN ci) ∈ xtb) (hini : Cond.initialized (xcn ci) ∈ xtb) (hws : ∀ w ∈ u_ws (xcn ci) (vwCl.getD ci default).2.1 (xN ci), w ∈ xtb) (hty : ∀ k, k < xN ci → parseFieldDescriptor ((vwCl.getD ci default).2.1 k).2.2.1 = some (xty ci k))
    (hn : n < 351) (hD : ∀ j, D n j = 0) (hr : ∀ j, r n j = none) (e1 : n + 1 = n') (e2 : z + xN ci = z') (hf : n' ≤ σf.1 ∧ z' ≤ σf.2) (hd : decode cc pc = .ok (.new idx, 3)) (hq : pc + 3 = q) (k : xV γ q pl (.ref n :: st) (n', z') D r) : xV γ pc pl st (n, z) D r := by
  subst hq; subst e1; subst e2
  obtain ⟨p, l, e, R, s, m, args, below, meth, c, Q, ω, n0, z0, n1, z1⟩ := γ
  obtain ⟨hx, hb, hml, hown, hts, hKF, hA, hfr, hlo, hce, hsl, hnm⟩ := hX
  obtain ⟨rfl, rfl⟩ := hG0
  intro g1 g2 g3 g4 H locs ls hR hS hL
  dsimp only at g1 g2 g3 g4 hR hf
  obtain ⟨T, hcl⟩ := xcl_at ci hci
  have hT : (vwCl.getD ci default).2.1 = T := by rw [List.getD_eq_getElem?_getD, hcl]; rfl
  rw [hT] at hws hty
  have hKn := hKF.1.1 ci _ hcl
  have hsz := hR.1 hn
  show W p l e R s m args below meth c H locs (n - n0) (z - z0) Q (F0 m pc ls (st.map (xtr ω)))
  refine W.newcK hx hb hown (hts _ hlk) (hts _ hin) (hts _ hini) rfl hd (by omega) (by omega) hKn.2.1 hsz fun H1 kC hkC e1 z1' o1 => ?_
  have hk := k (by dsimp only; omega) (by dsimp only; omega) (by dsimp only; omega) (by dsimp only; omega) H1 locs ls (hR.push (by rw [z1', hsz]) hn (fun q hq => o1 q (by rw [← hsz]; exact hq)) (by
    rw [xent_obj ω hs hci]
    exact ⟨_, hcl, (u_born (xty ci) hts hws hKn hkC e1 hty).to fun j hj => by
      unfold vp_V
      rw [List.getD_eq_getElem?_getD, xfs_get ω hj]
      exact xfv_zero ω (hD j) (hr j) (xty_ok ci hci j hj)⟩)) ⟨Nat.le_trans hS.1 (by rw [z1', hsz]; omega), fun x h1 h2 => (o1 x (by rw [← hsz]; exact Nat.lt_of_lt_of_le h1 hS.1)).trans (hS.2.1 x h1 h2), hS.2.2⟩ hL
  dsimp only at hk
  rw [show n - n0 + 1 = n + 1 - n0 by omega, show z - z0 + xN ci = z + xN ci - z0 by omega]
  exact hk
theorem xarr_name {U : State} {cA cB : ClassId} {ty : FieldType} (h1 : va_RA U cB ty) (hp : ∀ C, ty ≠ .object C) (h2 : U.vm.findClass ("[" ++ ty.toString) = some cA) : cA = cB := by
  have h3 : U.vm.findClass ("[" ++ ty.toString) = some cB := by
    cases ty <;> first | exact h1 | exact absurd rfl (hp _)
  exact Option.some.inj (h2.symm.trans h3)
theorem v_newarr (hX : xX γ cc nL y d) (hG0 : xGB γ σf) {atype : ArrayType} {ty : FieldType} {cd len pi : Nat} {i : Int} (hcd : (cd, ty, pi) = (10, .int, 0) ∨ (cd, ty, pi) = (11, .long, 1) ∨ (cd, ty, pi) = (12, .char, 2) ∨ (cd, ty, pi) = (13, .boolean, 3)) (hat : newarray.typeOf atype = ty) (hs : xSH n = (cd, len)) (hi : i = (len : Int)) (hlen : len < 100000) (hac : Cond.arrayClass ty ∈ xtb)
    (hn : n < 351) (hD : ∀ j, D n j = 0) (e1 : n + 1 = n') (e2 : z + len = z') (hf : n' ≤ σf.1 ∧ z' ≤ σf.2) (hd : decode cc pc = .ok (.newarray atype, 2)) (hq : pc + 2 = q) (k : xV γ q pl (.ref n :: st) (n', z') D r) : xV γ pc pl (vi i :: st) (n, z) D r := by
  subst hq; subst e1; subst e2; subst hi; subst hat
  obtain ⟨p, l, e, R, s, m, args, below, meth, c, Q, ω, n0, z0, n1, z1⟩ := γ
  obtain ⟨hx, hb, hml, hown, hts, hKF, hA, hfr, hlo, hce, hsl, hnm⟩ := hX
  obtain ⟨rfl, rfl⟩ := hG0
  intro g1 g2 g3 g4 H locs ls hR hS hL
  dsimp only at g1 g2 g3 g4 hR hf
  have hsz := hR.1 hn
  have hto : (Int32.ofInt (len : Int)).toNatClampNeg = len := (xi_in (k := len) (n := len + 1) (by omega) (by omega)).2
  have hng : ¬ Int32.ofInt (len : Int) < 0 := fun h => (xi_in (k := len) (n := len + 1) (by omega) (by omega)).1 (Or.inl h)
  have hcb : componentBytes (newarray.typeOf atype) ≤ 8 := by cases atype <;> decide
  show W p l e R s m args below meth c H locs (n - n0) (z - z0) Q (F0 m pc ls ((vi (len : Int) :: st).map (xtr ω)))
  refine va_newaK hx hb (hts _ hac) rfl hd rfl hng hto (Nat.le_trans (Nat.mul_le_mul (Nat.le_of_lt hlen) hcb) (by decide)) (by omega) (by omega) hsz fun H1 cA f1 f2 f3 f4 f5 => ?_
  have hcA : cA = ω.2.1 cd := by
    rcases hcd with h | h | h | h <;> (injection h with h1 h2; injection h2 with h2 h3; subst h1; subst h3)
    · exact xarr_name (ty := newarray.typeOf atype) (by rw [h2]; exact (hKF.1.2 0 _ rfl).2) (by rw [h2]; intro C hC; cases hC) f5
    · exact xarr_name (ty := newarray.typeOf atype) (by rw [h2]; exact (hKF.1.2 1 _ rfl).2) (by rw [h2]; intro C hC; cases hC) f5
    · exact xarr_name (ty := newarray.typeOf atype) (by rw [h2]; exact (hKF.1.2 2 _ rfl).2) (by rw [h2]; intro C hC; cases hC) f5
    · exact xarr_name (ty := newarray.typeOf atype) (by rw [h2]; exact (hKF.1.2 3 _ rfl).2) (by rw [h2]; intro C hC; cases hC) f5
  have hk := k (by dsimp only; omega) (by dsimp only; omega) (by dsimp only; omega) (by dsimp only; omega) H1 locs ls (hR.push (by rw [f2, hsz]) hn (fun q hq => f3 q (by rw [← hsz]; exact hq)) (by
    have h6 : ¬ cd < 5 := by rcases hcd with h | h | h | h <;> (injection h with h1 h2; omega)
    rw [xent_arr ω hs h6]
    show H1[xad ω n]? = some _
    rw [f1, hcA]
    rcases hcd with h | h | h | h <;> (injection h with h1 h2; injection h2 with h2 h3; subst h1; rw [h2])
    · show _ = some (arrV (ω.2.1 10) len (fun j => .int (Int32.ofInt (D n j))))
      simp only [hD]; rfl
    · show _ = some (arrV (ω.2.1 11) len (fun j => .long (Int64.ofInt (D n j))))
      simp only [hD]; rfl
    · show _ = some (arrV (ω.2.1 12) len (fun j => .int (Int32.ofInt (D n j))))
      simp only [hD]; rfl
    · show _ = some (arrV (ω.2.1 13) len (fun j => .int (Int32.ofInt (D n j))))
      simp only [hD]; rfl)) ⟨Nat.le_trans hS.1 (by rw [f2, hsz]; omega), fun x h1 h2 => (f3 x (by rw [← hsz]; exact Nat.lt_of_lt_of_le h1 hS.1)).trans (hS.2.1 x h1 h2), hS.2.2⟩ hL
  dsimp only at hk
  rw [show n - n0 + 1 = n + 1 - n0 by omega, show z - z0 + len = z + len - z0 by omega]
  exact hk
theorem v_anew (hX : xX γ cc nL y d) (hG0 : xGB γ σf) {idx cd len pi : Nat} {C : String} {i : Int} (hcd : (cd, C, pi) = (14, RX3, 4) ∨ (cd, C, pi) = (15, RX2, 5)) (hs : xSH n = (cd, len)) (hi : i = (len : Int)) (hlen : len < 100000) (hlk : Cond.classLink y.cls idx C ∈ xtb)
    (hn : n < 351) (hr : ∀ j, r n j = none) (e1 : n + 1 = n') (e2 : z + len = z') (hf : n' ≤ σf.1 ∧ z' ≤ σf.2) (hd : decode cc pc = .ok (.anewarray idx, 3)) (hq : pc + 3 = q) (k : xV γ q pl (.ref n :: st) (n', z') D r) : xV γ pc pl (vi i :: st) (n, z) D r := by
  subst hq; subst e1; subst e2; subst hi
  obtain ⟨p, l, e, R, s, m, args, below, meth, c, Q, ω, n0, z0, n1, z1⟩ := γ
  obtain ⟨hx, hb, hml, hown, hts, hKF, hA, hfr, hlo, hce, hsl, hnm⟩ := hX
  obtain ⟨rfl, rfl⟩ := hG0
  intro g1 g2 g3 g4 H locs ls hR hS hL
  dsimp only at g1 g2 g3 g4 hR hf
  have hsz := hR.1 hn
  have hto : (Int32.ofInt (len : Int)).toNatClampNeg = len := (xi_in (k := len) (n := len + 1) (by omega) (by omega)).2
  have hng : ¬ Int32.ofInt (len : Int) < 0 := fun h => (xi_in (k := len) (n := len + 1) (by omega) (by omega)).1 (Or.inl h)
  have hao : va_AO C s := by
    rcases hcd with h | h <;> (injection h with h1 h2; injection h2 with h2 h3; subst h2)
    · exact hKF.2.1
    · exact hKF.2.2.1
  show W p l e R s m args below meth c H locs (n - n0) (z - z0) Q (F0 m pc ls ((vi (len : Int) :: st).map (xtr ω)))
  refine W.anew hx hb hown (hts _ hlk) (va_AO.use hao) rfl hd rfl hng (by rw [hto]; omega) (by omega) (by rw [hto]; omega) fun cA kA comp f1 f2 f3 f4 => ?_
  rw [hto]
  have hcA : cA = ω.2.1 cd := by
    rcases hcd with h | h <;> (injection h with h1 h2; injection h2 with h2 h3; subst h1; subst h2)
    · obtain ⟨_, _, _, _, _, h9⟩ := (hKF.1.2 4 _ rfl).2
      exact Option.some.inj (f1.symm.trans h9)
    · obtain ⟨_, _, _, _, _, h9⟩ := (hKF.1.2 5 _ rfl).2
      exact Option.some.inj (f1.symm.trans h9)
  generalize hH1 : H.push ({ cls := cA, slots := Array.replicate len .null, vm := .none } : Cell) = H1
  have y1 : H1.size = H.size + 1 := by rw [← hH1, Array.size_push]
  have y2 : H1[H.size]? = some (arrV cA len (fun _ => .null)) := by rw [← hH1, Array.getElem?_push_size, ← arrV_new]
  have o1 : ∀ q : Nat, q < H.size → H1[q]? = H[q]? := fun q hq => by rw [← hH1, Array.getElem?_push, if_neg (Nat.ne_of_lt hq)]
  have hk := k (by dsimp only; omega) (by dsimp only; omega) (by dsimp only; omega) (by dsimp only; omega) H1 locs ls (hR.push y1 hn o1 (by
    have h6 : ¬ cd < 5 := by rcases hcd with h | h <;> (injection h with h1 h2; omega)
    rw [xent_arr ω hs h6]
    show H1[xad ω n]? = some _
    rw [← hsz, y2, hcA]
    rcases hcd with h | h <;> (injection h with h1 h2; subst h1)
    · show _ = some (arrV (ω.2.1 14) len (fun j => va_rf ((r n j).map (xad ω))))
      simp only [hr]; rfl
    · show _ = some (arrV (ω.2.1 15) len (fun j => va_rf ((r n j).map (xad ω))))
      simp only [hr]; rfl)) ⟨Nat.le_trans hS.1 (by rw [y1]; omega), fun x h1 h2 => (o1 x (Nat.lt_of_lt_of_le h1 hS.1)).trans (hS.2.1 x h1 h2), hS.2.2⟩ hL
  dsimp only at hk
  rw [show n - n0 + 1 = n + 1 - n0 by omega, show z - z0 + len = z + len - z0 by omega, hsz]
  exact hk
end XN
section XM2
variable {γ : xC} {cc : ByteArray} {nL d : Nat} {y : MethodName} {pc q : Nat} {pl : List (Option Value)} {st : List Value} {σ : Nat × Nat} {D : xD} {r : xR}
theorem v_objInit (hX : xX γ cc nL y d) {idx a : Nat} (hlk : Cond.methodLink y.cls idx Lib.objectInit ∈ xtb) (hin : Cond.instanceMethod Lib.objectInit ∈ xtb) (hcd : Cond.code Lib.objectInit ⟨#[0xb1]⟩ 1 none ∈ xtb) (hd1 : 1 ≤ d) (hst : (st.map Value.category).sum ≤ 8) (hd : decode cc pc = .ok (.invokespecial idx, 3)) (hq : pc + 3 = q)
    (k : xV γ q pl st σ D r) : xV γ pc pl (.ref a :: st) σ D r := by
  subst hq
  obtain ⟨p, l, e, R, s, m, args, below, meth, c, Q, ω, n0, z0, n1, z1⟩ := γ
  obtain ⟨hx, hb, hml, hown, hts, hKF, hA, hfr, hlo, hce, hsl, hnm⟩ := hX
  intro g1 g2 g3 g4 H locs ls hR hS hL
  refine W.objInit hx hb hown (hts _ hlk) (hts _ hin) (hts _ hcd) rfl hL.1 rfl hd (by omega) ?_ ?_
  · show 2 * 0 + _ + 12 ≤ _
    rw [xcat_sum]; omega
  · exact k g1 g2 g3 g4 H locs ls hR hS hL
theorem v_getst (hX : xX γ cc nL y d) {idx kk : Nat} (h1 : 1 ≤ kk) (h4 : kk < 4) (hy : y.cls = "LotFences") (hlk : Cond.fieldLink y.cls idx "LotFences" (xnm kk) "[I" ∈ xtb) (hd : decode cc pc = .ok (.getstatic idx, 3)) (hq : pc + 3 = q)
    (k : xV γ q pl (.ref kk :: st) σ D r) : xV γ pc pl st σ D r := by
  subst hq
  obtain ⟨p, l, e, R, s, m, args, below, meth, c, Q, ω, n0, z0, n1, z1⟩ := γ
  obtain ⟨hx, hb, hml, hown, hts, hKF, hA, hfr, hlo, hce, hsl, hnm⟩ := hX
  intro g1 g2 g3 g4 H locs ls hR hS hL
  have hk := k g1 g2 g3 g4 H locs ls hR hS hL
  have he : xtr ω (.ref kk) = .ref (ω.2.2.1 kk) := by show Value.ref (xad ω kk) = _; unfold xad; rw [if_pos h4]
  rw [List.map_cons, he] at hk
  exact va_gets hx hb (hKF.2.2.2.2.2.2.2.2 kk h1 h4).1 hS hown (hts _ hlk) (fun _ h9 => h9) hd hk
theorem v_stald (hX : xX γ cc nL y d) {a kk : Nat} {i : Int} (h1 : 1 ≤ a) (h4 : a < 4) (hi : i = (kk : Int)) (hk9 : kk < 9) (hd : decode cc pc = .ok (.iaload, 1)) (hq : pc + 1 = q)
    (k : xV γ q pl (vi (xst a kk) :: st) σ D r) : xV γ pc pl (vi i :: .ref a :: st) σ D r := by
  subst hq; subst hi
  obtain ⟨p, l, e, R, s, m, args, below, meth, c, Q, ω, n0, z0, n1, z1⟩ := γ
  obtain ⟨hx, hb, hml, hown, hts, hKF, hA, hfr, hlo, hce, hsl, hnm⟩ := hX
  intro g1 g2 g3 g4 H locs ls hR hS hL
  obtain ⟨cell, c1, c2, c3, c4, c5, c6, c7⟩ := (hKF.2.2.2.2.2.2.2.2 a h1 h4).2
  obtain ⟨hin, hto⟩ := xi_in (k := kk) (n := 9) hk9 (by decide)
  have he : xad ω a = ω.2.2.1 a := by unfold xad; rw [if_pos h4]
  exact W.iald (a := xad ω a) (v := vi (xst a kk)) hx hb (by rw [he, hS.2.1 _ (Array.getElem?_eq_some_iff.mp c1).1 c6]; exact c1) c2 c3 (by rw [c4]; exact hin) (by rw [hto]; exact c5 kk hk9) rfl rfl hd (k g1 g2 g3 g4 H locs ls hR hS hL)
theorem xcpy (D : xD) (a b sp dp len : Nat) : (fun j => Int32.ofInt ((fun q => if q = b then (fun j => if dp ≤ j ∧ j < dp + len then D a (sp + (j - dp)) else D b j) else D q) b j)) = va_cpy (fun j => Int32.ofInt (D a j)) (fun j => Int32.ofInt (D b j)) sp dp len := by
  funext j
  simp only [if_pos]
  unfold va_cpy
  split <;> rfl
/-- a part of a row of ints is put into another one (or the same) -/
def xcp (D : xD) (a sp b dp len : Nat) : xD := fun q => if q = b then (fun j => if dp ≤ j ∧ j < dp + len then D a (sp + (j - dp)) else D b j) else D q
theorem v_copy (hX : xX γ cc nL y d) {idx a b za zb sp dp len : Nat} {i1 i2 i3 : Int} (hσ : 351 ≤ σ.1) (hlk : Cond.methodLink y.cls idx arraycopyName ∈ xtb) (hnat : Cond.native arraycopyName ∈ xtb) (hsta : Cond.static arraycopyName ∈ xtb) (hini : Cond.initialized "java/lang/System" ∈ xtb)
    (e1 : i1 = (sp : Int)) (e2 : i2 = (dp : Int)) (e3 : i3 = (len : Int)) (h1 : sp + len ≤ za) (h2 : dp + len ≤ zb) (hz : za ≤ 10000 ∧ zb ≤ 10000) (hs1 : xSH a = (10, za)) (hs2 : xSH b = (10, zb)) (ha : 4 ≤ a) (han : a < σ.1) (hb4 : 4 ≤ b) (hbn : b < σ.1) (hd1 : 1 ≤ d) (hst : (st.map Value.category).sum ≤ 8)
    (hd : decode cc pc = .ok (.invokestatic idx, 3)) (hq : pc + 3 = q) (k : xV γ q pl st σ (xcp D a sp b dp len) r) : xV γ pc pl (vi i3 :: vi i2 :: .ref b :: vi i1 :: .ref a :: st) σ D r := by
  subst hq; subst e1; subst e2; subst e3
  obtain ⟨p, l, e, R, s, m, args, below, meth, c, Q, ω, n0, z0, n1, z1⟩ := γ
  obtain ⟨hx, hb, hml, hown, hts, hKF, hA, hfr, hlo, hce, hsl, hnm⟩ := hX
  intro g1 g2 g3 g4 H locs ls hR hS hL
  have w1 := xws_at ω D r ha han
  have w2 := xws_at ω D r hb4 hbn
  rw [xent_arr ω hs1 (by decide)] at w1
  rw [xent_arr ω hs2 (by decide)] at w2
  obtain ⟨i1, t1⟩ := xi_in (k := sp) (n := 100000) (by omega) (by omega)
  obtain ⟨i2, t2⟩ := xi_in (k := dp) (n := 100000) (by omega) (by omega)
  obtain ⟨i3, t3⟩ := xi_in (k := len) (n := 100000) (by omega) (by omega)
  refine va_copyi hx hb (hL.1.symm) hown (hts _ hlk) (hts _ hnat) (hts _ hsta) (hts _ hini) hKF.1 hR.2.2 (xws_D ω σ.1 D r) hS (a - 4) (b - 4) 0 0 w1 w2 rfl rfl rfl (fun h => i1 (Or.inl h)) (fun h => i2 (Or.inl h)) (fun h => i3 (Or.inl h)) (by rw [t1, t3]; exact h1) (by rw [t2, t3]; exact h2) (fun i _ => rfl) (by omega) ?_ hd fun H1 locs1 hP hD hS1 => ?_
  · rw [xcat_sum]
    have h9 : nativeFrameWords "java/lang/System" "arraycopy" 5 + 11 ≤ 30 := by decide +kernel
    omega
  · refine k g1 g2 g3 g4 H1 locs1 ls ⟨fun h => by omega, hR.2.1, ?_⟩ hS1 hL
    rw [t1, t2, t3] at hP
    rw [← xws_set ω (D := D) (D' := xcp D a sp b dp len) (r := r) (r' := r) (k := b) hb4 hbn rfl (fun q hq => if_neg hq) (fun _ _ => rfl)]
    rw [xent_arr ω hs2 (by decide)]
    have h8 : xarr ω 10 (xcp D a sp b dp len) r b = .inl (va_cpy (fun j => Int32.ofInt (D a j)) (fun j => Int32.ofInt (D b j)) sp dp len) := by
      show Sum.inl _ = Sum.inl _
      congr 1
      exact xcpy D a b sp dp len
    rw [h8]
    exact hP
theorem v_mmin (hX : xX γ cc nL y d) {idx : Nat} {a b : Int} (ha : xI a) (hb2 : xI b) (hlk : Cond.methodLink y.cls idx Lib.Math.min.name ∈ xtb) (hsta : Cond.static Lib.Math.min.name ∈ xtb) (hini : Cond.initialized "java/lang/Math" ∈ xtb) (hcd : Cond.code Lib.Math.min.name Lib.Math.min.code 2 (some .int) ∈ xtb) (hd1 : 1 ≤ d) (hst : (st.map Value.category).sum ≤ 8) (hd : decode cc pc = .ok (.invokestatic idx, 3)) (hq : pc + 3 = q)
    (k : xV γ q pl (vi (if b < a then b else a) :: st) σ D r) : xV γ pc pl (vi b :: vi a :: st) σ D r := by
  have e0 : Int32.ofInt (if b < a then b else a) = if Int32.ofInt b < Int32.ofInt a then Int32.ofInt b else Int32.ofInt a := by
    simp only [xi_lt hb2 ha]; split <;> rfl
  have k : xV γ q pl ((.int (if Int32.ofInt b < Int32.ofInt a then Int32.ofInt b else Int32.ofInt a) : Value) :: st) σ D r := by rw [← e0]; exact k
  subst hq
  obtain ⟨p, l, e, R, s, m, args, below, meth, c, Q, ω, n0, z0, n1, z1⟩ := γ
  obtain ⟨hx, hb, hml, hown, hts, hKF, hA, hfr, hlo, hce, hsl, hnm⟩ := hX
  intro g1 g2 g3 g4 H locs ls hR hS hL
  exact va_mmin hx hb hL.1.symm hown (hts _ hlk) (hts _ hsta) (hts _ hini) (hts _ hcd) (by omega) (by rw [xcat_sum]; omega) (by omega) (by omega) hd (k g1 g2 g3 g4 H locs ls hR hS hL)
theorem v_mmax (hX : xX γ cc nL y d) {idx : Nat} {a b : Int} (ha : xI a) (hb2 : xI b) (hlk : Cond.methodLink y.cls idx Lib.Math.max.name ∈ xtb) (hsta : Cond.static Lib.Math.max.name ∈ xtb) (hini : Cond.initialized "java/lang/Math" ∈ xtb) (hcd : Cond.code Lib.Math.max.name Lib.Math.max.code 2 (some .int) ∈ xtb) (hd1 : 1 ≤ d) (hst : (st.map Value.category).sum ≤ 8) (hd : decode cc pc = .ok (.invokestatic idx, 3)) (hq : pc + 3 = q)
    (k : xV γ q pl (vi (if a < b then b else a) :: st) σ D r) : xV γ pc pl (vi b :: vi a :: st) σ D r := by
  have e0 : Int32.ofInt (if a < b then b else a) = if Int32.ofInt a < Int32.ofInt b then Int32.ofInt b else Int32.ofInt a := by
    simp only [xi_lt ha hb2]; split <;> rfl
  have k : xV γ q pl ((.int (if Int32.ofInt a < Int32.ofInt b then Int32.ofInt b else Int32.ofInt a) : Value) :: st) σ D r := by rw [← e0]; exact k
  subst hq
  obtain ⟨p, l, e, R, s, m, args, below, meth, c, Q, ω, n0, z0, n1, z1⟩ := γ
  obtain ⟨hx, hb, hml, hown, hts, hKF, hA, hfr, hlo, hce, hsl, hnm⟩ := hX
  intro g1 g2 g3 g4 H locs ls hR hS hL
  exact va_mmax hx hb hL.1.symm hown (hts _ hlk) (hts _ hsta) (hts _ hini) (hts _ hcd) (by omega) (by rw [xcat_sum]; omega) (by omega) (by omega) hd (k g1 g2 g3 g4 H locs ls hR hS hL)
theorem v_mminL (hX : xX γ cc nL y d) {idx : Nat} {a b : Int} (ha : xJ a) (hb2 : xJ b) (hlk : Cond.methodLink y.cls idx Lib.MathLoose.min_long.x ∈ xtb) (hsta : Cond.static Lib.MathLoose.min_long.x ∈ xtb) (hini : Cond.initialized "java/lang/Math" ∈ xtb) (hcd : Cond.code Lib.MathLoose.min_long.x Lib.MathLoose.min_long.code 4 (some .long) ∈ xtb) (hd1 : 1 ≤ d) (hst : (st.map Value.category).sum ≤ 8) (hd : decode cc pc = .ok (.invokestatic idx, 3)) (hq : pc + 3 = q)
    (k : xV γ q pl (vl (if b < a then b else a) :: st) σ D r) : xV γ pc pl (vl b :: vl a :: st) σ D r := by
  have e0 : Int64.ofInt (if b < a then b else a) = if Int64.ofInt b < Int64.ofInt a then Int64.ofInt b else Int64.ofInt a := by
    simp only [xl_lt hb2 ha]; split <;> rfl
  have k : xV γ q pl ((.long (if Int64.ofInt b < Int64.ofInt a then Int64.ofInt b else Int64.ofInt a) : Value) :: st) σ D r := by rw [← e0]; exact k
  subst hq
  obtain ⟨p, l, e, R, s, m, args, below, meth, c, Q, ω, n0, z0, n1, z1⟩ := γ
  obtain ⟨hx, hb, hml, hown, hts, hKF, hA, hfr, hlo, hce, hsl, hnm⟩ := hX
  intro g1 g2 g3 g4 H locs ls hR hS hL
  exact va_mmin_long hx hb hL.1.symm hown (hts _ hlk) (hts _ hsta) (hts _ hini) (hts _ hcd) (by omega) (by rw [xcat_sum]; omega) (by omega) (by omega) hd (k g1 g2 g3 g4 H locs ls hR hS hL)
theorem v_mabs (hX : xX γ cc nL y d) {idx : Nat} {a : Int} (ha : xI a) (hlk : Cond.methodLink y.cls idx Lib.Math.abs.name ∈ xtb) (hsta : Cond.static Lib.Math.abs.name ∈ xtb) (hini : Cond.initialized "java/lang/Math" ∈ xtb) (hcd : Cond.code Lib.Math.abs.name Lib.Math.abs.code 1 (some .int) ∈ xtb) (hd1 : 1 ≤ d) (hst : (st.map Value.category).sum ≤ 8) (hd : decode cc pc = .ok (.invokestatic idx, 3)) (hq : pc + 3 = q)
    (k : xV γ q pl (vi (if 0 ≤ a then a else 0 - a) :: st) σ D r) : xV γ pc pl (vi a :: st) σ D r := by
  have e0 : Int32.ofInt (if 0 ≤ a then a else 0 - a) = if 0 ≤ Int32.ofInt a then Int32.ofInt a else 0 - Int32.ofInt a := by
    rw [show (0 : Int32) = Int32.ofInt 0 from rfl, ← Int32.ofInt_sub]
    simp only [xi_le (show xI 0 by decide) ha]; split <;> rfl
  have k : xV γ q pl ((.int (if 0 ≤ Int32.ofInt a then Int32.ofInt a else 0 - Int32.ofInt a) : Value) :: st) σ D r := by rw [← e0]; exact k
  subst hq
  obtain ⟨p, l, e, R, s, m, args, below, meth, c, Q, ω, n0, z0, n1, z1⟩ := γ
  obtain ⟨hx, hb, hml, hown, hts, hKF, hA, hfr, hlo, hce, hsl, hnm⟩ := hX
  intro g1 g2 g3 g4 H locs ls hR hS hL
  exact va_mabs hx hb hL.1.symm hown (hts _ hlk) (hts _ hsta) (hts _ hini) (hts _ hcd) (by omega) (by rw [xcat_sum]; omega) (by omega) (by omega) hd (k g1 g2 g3 g4 H locs ls hR hS hL)
end XM2
end
section
section XK
variable {γ : xC} {cc : ByteArray} {nL d : Nat} {y : MethodName} {pc q : Nat} {pl : List (Option Value)} {st : List Value} {σf : Nat × Nat} {n z n' z' : Nat} {D : xD} {r : xR}
theorem v_getstN (hX : xX γ cc nL y d) {σ : Nat × Nat} (hy : y.cls = RX3) (hd : decode cc pc = .ok (.getstatic 9, 3)) (hq : pc + 3 = q) (k : xV γ q pl (.ref 3 :: st) σ D r) : xV γ pc pl st σ D r := by
  subst hq
  obtain ⟨p, l, e, R, s, m, args, below, meth, c, Q, ω, n0, z0, n1, z1⟩ := γ
  obtain ⟨hx, hb, hml, hown, hts, hKF, hA, hfr, hlo, hce, hsl, hnm⟩ := hX
  intro g1 g2 g3 g4 H locs ls hR hS hL
  rw [hy] at hown
  have hk := k g1 g2 g3 g4 H locs ls hR hS hL
  have he : xtr ω (.ref 3) = .ref (ω.2.2.1 3) := rfl
  rw [List.map_cons, he] at hk
  exact va_getsN (C := "LotFences") (n := "FIRST_SETTINGS") (d := "[I") (host := "LotFences") hx hb (hKF.2.2.2.2.2.2.2.2 3 (by decide) (by decide)).1 hS hown (va_Nw.use rfl hKF.2.2.2.2.2.2.1) (fun _ h9 => h9) hd hk
/-- the clone of the static row of the first settings -/
theorem v_clone (hX : xX γ cc nL y d) (hG0 : xGB γ σf) {idx : Nat} (hlk : Cond.methodLink y.cls idx ⟨"[I", "clone", "()Ljava/lang/Object;"⟩ ∈ xtb) (hsm : Cond.sameMethod "[I" "java/lang/Object" "clone" "()Ljava/lang/Object;" ∈ xtb) (hnat : Cond.native ⟨"java/lang/Object", "clone", "()Ljava/lang/Object;"⟩ ∈ xtb)
    (hins : Cond.instanceMethod ⟨"java/lang/Object", "clone", "()Ljava/lang/Object;"⟩ ∈ xtb) (hsel : Cond.selects "[I" ⟨"[I", "clone", "()Ljava/lang/Object;"⟩ ⟨"java/lang/Object", "clone", "()Ljava/lang/Object;"⟩ ∈ xtb)
    (hs : xSH n = (10, 9)) (hn : n < 351) (e1 : n + 1 = n') (e2 : z + 9 = z') (hf : n' ≤ σf.1 ∧ z' ≤ σf.2) (hd1 : 1 ≤ d) (hst : (st.map Value.category).sum ≤ 8) {D' : xD} (hD1 : ∀ q, q ≠ n → D' q = D q) (hD2 : ∀ j, j < 9 → D' n j = xst 3 j) (hd : decode cc pc = .ok (.invokevirtual idx, 3)) (hq : pc + 3 = q)
    (k : xV γ q pl (.ref n :: st) (n', z') D' r) : xV γ pc pl (.ref 3 :: st) (n, z) D r := by
  subst hq; subst e1; subst e2
  obtain ⟨p, l, e, R, s, m, args, below, meth, c, Q, ω, n0, z0, n1, z1⟩ := γ
  obtain ⟨hx, hb, hml, hown, hts, hKF, hA, hfr, hlo, hce, hsl, hnm⟩ := hX
  obtain ⟨rfl, rfl⟩ := hG0
  intro g1 g2 g3 g4 H locs ls hR hS hL
  dsimp only at g1 g2 g3 g4 hR hf
  have hsz := hR.1 hn
  have hn4 := hR.2.1
  have he : xad ω 3 = ω.2.2.1 3 := rfl
  obtain ⟨cell, c1, c2, c3, c4, c5, c6, c7⟩ := (hKF.2.2.2.2.2.2.2.2 3 (by decide) (by decide)).2
  have hcH : H[ω.2.2.1 3]? = some cell := by rw [hS.2.1 _ (Array.getElem?_eq_some_iff.mp c1).1 c6]; exact c1
  obtain ⟨c0, t0', f1, f2, f3⟩ := Cond.castable_spec (va_Nw.use (A := args) rfl hKF.2.2.2.2.2.2.2.1)
  cases c7.symm.trans f1
  obtain ⟨hAr, hRA⟩ := hKF.1.2 0 _ rfl
  have hcA : cell.cls = ω.2.1 10 := Option.some.inj (c7.symm.trans hRA)
  intro T hT X
  obtain ⟨-, kA, hkA, comp, hkind⟩ := State.isArrayOf_alike X.warmed.alike (hAr 0 (fun _ => .null))
  obtain ⟨-, kS, hkS, compS, hkindS⟩ := hAr 0 (fun _ => .null)
  obtain ⟨vm', X', st9⟩ := X.cloneArray hx hown (hts _ hlk) (hts _ hsm) (hts _ hnat) (hts _ hins) (hts _ hsel) (a := ω.2.2.1 3) (cell := cell) (by rw [hT]; exact hcH) c2.1 c3 c7 f2 f3
    (fun i v hv => by
      rw [hcA]
      have hk' : T.vm.classes[ω.2.1 10]? = some kA := hkA
      have hi : i < 9 := by rw [← c4]; exact (Array.getElem?_eq_some_iff.mp hv).1
      rw [c5 i hi] at hv
      cases hv
      have hf9 : fits .int (vi (xst 3 i)) = true := rfl
      simpa [State.fitsSlot, State.slotType?, hk', hkind] using hf9)
    (g := F0 m pc ls ((Value.ref 3 :: st).map (xtr ω))) rfl hL.1 rfl (by rw [hb]; exact hd) (by omega) (by show 2 * 0 + _ + 14 ≤ _; rw [xcat_sum]; omega) (by omega) (by rw [c4]; omega) (hloader := by rw [hcA]; exact Vm.clonesLoader_of_array hkS hkindS)
  rw [c4] at X'
  generalize hH1 : H.push ({ cls := cell.cls, slots := cell.slots } : Cell) = H1
  have y1 : H1.size = H.size + 1 := by rw [← hH1, Array.size_push]
  have y2 : H1[H.size]? = some ({ cls := cell.cls, slots := cell.slots } : Cell) := by rw [← hH1, Array.getElem?_push_size]
  have o1 : ∀ q : Nat, q < H.size → H1[q]? = H[q]? := fun q hq => by rw [← hH1, Array.getElem?_push, if_neg (Nat.ne_of_lt hq)]
  have hcell : ({ cls := cell.cls, slots := cell.slots } : Cell) = vp_cell (ω.2.1 10) (9, .inl fun j => Int32.ofInt (D' n j)) := by
    rw [vp_cell_i, hcA]
    have h9 : cell.slots = (arrV (ω.2.1 10) 9 (fun j => .int (Int32.ofInt (D' n j)))).slots := by
      apply Array.ext_getElem?
      intro i
      by_cases hi : i < 9
      · rw [c5 i hi, arrV_read _ _ hi, hD2 i hi]
      · rw [Array.getElem?_eq_none (by omega), Array.getElem?_eq_none (by rw [arrV_size]; omega)]
    rw [h9]
    rfl
  have hRD : xRep ω n D' r H := ⟨hR.1, hR.2.1, by
    have h8 : xws ω n D' r = xws ω n D r := by
      unfold xws
      refine List.map_congr_left fun i hi => ?_
      have := List.mem_range.mp hi
      rw [xent_congr ω (hD1 (i + 4) (by omega)) rfl]
    rw [h8]; exact hR.2.2⟩
  have hk := k (by dsimp only; omega) (by dsimp only; omega) (by dsimp only; omega) (by dsimp only; omega) H1 locs ls (hRD.push y1 hn o1 (by
    rw [xent_arr ω hs (by decide)]
    show H1[xad ω n]? = some _
    rw [← hsz, y2, hcell]
    rfl)) ⟨Nat.le_trans hS.1 (by rw [y1]; omega), fun x h1 h2 => (o1 x (Nat.lt_of_lt_of_le h1 hS.1)).trans (hS.2.1 x h1 h2), hS.2.2⟩ hL
  dsimp only at hk
  rw [show n + 1 - n0 = n - n0 + 1 by omega, show z + 9 - z0 = z - z0 + 9 by omega] at hk
  obtain ⟨t, b1, b2⟩ := hk _ (by rw [← hH1, ← hT]; rfl) X'
  refine ⟨t, st9 t ?_, b2⟩
  have e9 : xtr ω (.ref n) = .ref T.heap.size := by rw [hT, hsz]; rfl
  rw [List.map_cons, e9] at b1
  exact b1
theorem v_cast (hX : xX γ cc nL y d) {σ : Nat × Nat} {idx a len : Nat} (hlk : Cond.classLink y.cls idx "[I" ∈ xtb) (hs : xSH a = (10, len)) (ha : 4 ≤ a) (han : a < σ.1) (hd : decode cc pc = .ok (.checkcast idx, 3)) (hq : pc + 3 = q) (k : xV γ q pl (.ref a :: st) σ D r) : xV γ pc pl (.ref a :: st) σ D r := by
  subst hq
  obtain ⟨p, l, e, R, s, m, args, below, meth, c, Q, ω, n0, z0, n1, z1⟩ := γ
  obtain ⟨hx, hb, hml, hown, hts, hKF, hA, hfr, hlo, hce, hsl, hnm⟩ := hX
  intro g1 g2 g3 g4 H locs ls hR hS hL
  obtain ⟨hAr, hRA⟩ := hKF.1.2 0 _ rfl
  have h0 := xws_at ω D r ha han
  rw [xent_arr ω hs (by decide)] at h0
  exact va_castA hx hb hown (hts _ hlk) hR.2.2 (a - 4) h0 hRA hd (k g1 g2 g3 g4 H locs ls hR hS hL)
end XK
end
section
theorem ixX0 : ∀ w ∈ u_ws RX0 TX0 3, w ∈ xtb := by
  have h : u_ws RX0 TX0 3 = ([198, 200, 202] : List Nat).filterMap (fun i => lw_tbl[i]?) := by decide +kernel
  intro w hw
  rw [h] at hw
  obtain ⟨i, -, hi⟩ := List.mem_filterMap.mp hw
  have hg : (([198, 200, 202] : List Nat).filterMap (fun i => lw_tbl[i]?)).all goodWord = true := by decide +kernel
  exact List.mem_filter.mpr ⟨List.mem_of_getElem? hi, List.all_eq_true.mp hg w hw⟩
theorem ffX0 (own : String) (idx j : Nat) (fin : Bool) (hj : j < 3) (h : Cond.fieldLink own idx (TX0 j).1 (TX0 j).2.1 (TX0 j).2.2.1 ∈ xtb) (hf : (TX0 j).2.2.2 = fin) (hc : (TX0 j).1 = RX0) : xFL own idx 0 j fin := ⟨TX0, by decide, rfl, hj, ixX0, tyX0_ok, nmX0, h, hf, hc⟩
theorem ixX1 : ∀ w ∈ u_ws RX1 TX1 7, w ∈ xtb := by
  have h : u_ws RX1 TX1 7 = ([169, 171, 173, 175, 177, 179, 181] : List Nat).filterMap (fun i => lw_tbl[i]?) := by decide +kernel
  intro w hw
  rw [h] at hw
  obtain ⟨i, -, hi⟩ := List.mem_filterMap.mp hw
  have hg : (([169, 171, 173, 175, 177, 179, 181] : List Nat).filterMap (fun i => lw_tbl[i]?)).all goodWord = true := by decide +kernel
  exact List.mem_filter.mpr ⟨List.mem_of_getElem? hi, List.all_eq_true.mp hg w hw⟩
theorem ffX1 (own : String) (idx j : Nat) (fin : Bool) (hj : j < 7) (h : Cond.fieldLink own idx (TX1 j).1 (TX1 j).2.1 (TX1 j).2.2.1 ∈ xtb) (hf : (TX1 j).2.2.2 = fin) (hc : (TX1 j).1 = RX1) : xFL own idx 1 j fin := ⟨TX1, by decide, rfl, hj, ixX1, tyX1_ok, nmX1, h, hf, hc⟩
theorem ixX2 : ∀ w ∈ u_ws RX2 TX2 17, w ∈ xtb := by
  have h : u_ws RX2 TX2 17 = ([88, 90, 92, 94, 96, 98, 100, 102, 104, 106, 108, 110, 112, 114, 116, 118, 120] : List Nat).filterMap (fun i => lw_tbl[i]?) := by decide +kernel
  intro w hw
  rw [h] at hw
  obtain ⟨i, -, hi⟩ := List.mem_filterMap.mp hw
  have hg : (([88, 90, 92, 94, 96, 98, 100, 102, 104, 106, 108, 110, 112, 114, 116, 118, 120] : List Nat).filterMap (fun i => lw_tbl[i]?)).all goodWord = true := by decide +kernel
  exact List.mem_filter.mpr ⟨List.mem_of_getElem? hi, List.all_eq_true.mp hg w hw⟩
theorem ffX2 (own : String) (idx j : Nat) (fin : Bool) (hj : j < 17) (h : Cond.fieldLink own idx (TX2 j).1 (TX2 j).2.1 (TX2 j).2.2.1 ∈ xtb) (hf : (TX2 j).2.2.2 = fin) (hc : (TX2 j).1 = RX2) : xFL own idx 2 j fin := ⟨TX2, by decide, rfl, hj, ixX2, tyX2_ok, nmX2, h, hf, hc⟩
theorem ixX3 : ∀ w ∈ u_ws RX3 TX3 10, w ∈ xtb := by
  have h : u_ws RX3 TX3 10 = ([140, 142, 144, 146, 148, 150, 152, 154, 156, 158] : List Nat).filterMap (fun i => lw_tbl[i]?) := by decide +kernel
  intro w hw
  rw [h] at hw
  obtain ⟨i, -, hi⟩ := List.mem_filterMap.mp hw
  have hg : (([140, 142, 144, 146, 148, 150, 152, 154, 156, 158] : List Nat).filterMap (fun i => lw_tbl[i]?)).all goodWord = true := by decide +kernel
  exact List.mem_filter.mpr ⟨List.mem_of_getElem? hi, List.all_eq_true.mp hg w hw⟩
theorem ffX3 (own : String) (idx j : Nat) (fin : Bool) (hj : j < 10) (h : Cond.fieldLink own idx (TX3 j).1 (TX3 j).2.1 (TX3 j).2.2.1 ∈ xtb) (hf : (TX3 j).2.2.2 = fin) (hc : (TX3 j).1 = RX3) : xFL own idx 3 j fin := ⟨TX3, by decide, rfl, hj, ixX3, tyX3_ok, nmX3, h, hf, hc⟩
theorem ixX4 : ∀ w ∈ u_ws RX4 TX4 6, w ∈ xtb := by
  have h : u_ws RX4 TX4 6 = ([211, 213, 215, 217, 219, 221] : List Nat).filterMap (fun i => lw_tbl[i]?) := by decide +kernel
  intro w hw
  rw [h] at hw
  obtain ⟨i, -, hi⟩ := List.mem_filterMap.mp hw
  have hg : (([211, 213, 215, 217, 219, 221] : List Nat).filterMap (fun i => lw_tbl[i]?)).all goodWord = true := by decide +kernel
  exact List.mem_filter.mpr ⟨List.mem_of_getElem? hi, List.all_eq_true.mp hg w hw⟩
theorem ffX4 (own : String) (idx j : Nat) (fin : Bool) (hj : j < 6) (h : Cond.fieldLink own idx (TX4 j).1 (TX4 j).2.1 (TX4 j).2.2.1 ∈ xtb) (hf : (TX4 j).2.2.2 = fin) (hc : (TX4 j).1 = RX4) : xFL own idx 4 j fin := ⟨TX4, by decide, rfl, hj, ixX4, tyX4_ok, nmX4, h, hf, hc⟩
theorem ii_L : Cond.initialized RL ∈ xtb := xtb_in 6 (by decide +kernel) rfl
theorem ii_X4 : Cond.initialized RX4 ∈ xtb := xtb_in 7 (by decide +kernel) rfl
theorem ii_X3 : Cond.initialized RX3 ∈ xtb := xtb_in 8 (by decide +kernel) rfl
theorem ii_J7 : Cond.initialized RJ7 ∈ xtb := xtb_in 9 (by decide +kernel) rfl
theorem ii_X2 : Cond.initialized RX2 ∈ xtb := xtb_in 10 (by decide +kernel) rfl
theorem ii_X1 : Cond.initialized RX1 ∈ xtb := xtb_in 11 (by decide +kernel) rfl
theorem ii_X0 : Cond.initialized RX0 ∈ xtb := xtb_in 12 (by decide +kernel) rfl
theorem ii_J10 : Cond.initialized RJ10 ∈ xtb := xtb_in 13 (by decide +kernel) rfl
theorem ii_J9 : Cond.initialized RJ9 ∈ xtb := xtb_in 14 (by decide +kernel) rfl
theorem ii_J6 : Cond.initialized RJ6 ∈ xtb := xtb_in 15 (by decide +kernel) rfl
theorem ck_L_14 : Cond.classLink RL 14 RX4 ∈ xtb := xtb_in 16 (by decide +kernel) rfl
theorem in_X4 : Cond.instantiable RX4 6 ∈ xtb := xtb_in 17 (by decide +kernel) rfl
theorem lk_L_95 : Cond.methodLink RL 95 yX4_init ∈ xtb := xtb_in 18 (by decide +kernel) rfl
theorem lk_X4_1 : Cond.methodLink RX4 1 Lib.objectInit ∈ xtb := xtb_in 21 (by decide +kernel) rfl
theorem ck_X4_7 : Cond.classLink RX4 7 RX3 ∈ xtb := xtb_in 24 (by decide +kernel) rfl
theorem in_X3 : Cond.instantiable RX3 10 ∈ xtb := xtb_in 25 (by decide +kernel) rfl
theorem lk_X4_9 : Cond.methodLink RX4 9 yX3_init ∈ xtb := xtb_in 26 (by decide +kernel) rfl
theorem lk_X3_3 : Cond.methodLink RX3 3 Lib.objectInit ∈ xtb := xtb_in 29 (by decide +kernel) rfl
theorem lk_X3_13 : Cond.methodLink RX3 13 ⟨"[I", "clone", "()Ljava/lang/Object;"⟩ ∈ xtb := xtb_in 32 (by decide +kernel) rfl
theorem sm_clone : Cond.sameMethod "[I" "java/lang/Object" "clone" "()Ljava/lang/Object;" ∈ xtb := xtb_in 33 (by decide +kernel) rfl
theorem nat_clone : Cond.native ⟨"java/lang/Object", "clone", "()Ljava/lang/Object;"⟩ ∈ xtb := xtb_in 34 (by decide +kernel) rfl
theorem sl_clone : Cond.selects "[I" ⟨"[I", "clone", "()Ljava/lang/Object;"⟩ ⟨"java/lang/Object", "clone", "()Ljava/lang/Object;"⟩ ∈ xtb := xtb_in 36 (by decide +kernel) rfl
theorem ck_X3_14 : Cond.classLink RX3 14 "[I" ∈ xtb := xtb_in 38 (by decide +kernel) rfl
theorem ck_X3_26 : Cond.classLink RX3 26 RX2 ∈ xtb := xtb_in 39 (by decide +kernel) rfl
theorem lk_X3_32 : Cond.methodLink RX3 32 yJ7_fill_53178 ∈ xtb := xtb_in 41 (by decide +kernel) rfl
theorem in_X2 : Cond.instantiable RX2 17 ∈ xtb := xtb_in 44 (by decide +kernel) rfl
theorem lk_X2_3 : Cond.methodLink RX2 3 Lib.objectInit ∈ xtb := xtb_in 48 (by decide +kernel) rfl
theorem fl_X2_18 : xFL RX2 18 2 0 false := ffX2 _ _ _ _ (by decide) (xtb_in 49 (by decide +kernel) rfl) rfl rfl
theorem fl_X3_87 : xFL RX3 87 2 0 false := ffX2 _ _ _ _ (by decide) (xtb_in 50 (by decide +kernel) rfl) rfl rfl
theorem fl_X4_127 : xFL RX4 127 2 0 false := ffX2 _ _ _ _ (by decide) (xtb_in 51 (by decide +kernel) rfl) rfl rfl
theorem fl_X2_22 : xFL RX2 22 2 1 false := ffX2 _ _ _ _ (by decide) (xtb_in 52 (by decide +kernel) rfl) rfl rfl
theorem fl_X4_130 : xFL RX4 130 2 1 false := ffX2 _ _ _ _ (by decide) (xtb_in 53 (by decide +kernel) rfl) rfl rfl
theorem fl_X2_25 : xFL RX2 25 2 2 false := ffX2 _ _ _ _ (by decide) (xtb_in 54 (by decide +kernel) rfl) rfl rfl
theorem fl_X3_84 : xFL RX3 84 2 2 false := ffX2 _ _ _ _ (by decide) (xtb_in 55 (by decide +kernel) rfl) rfl rfl
theorem fl_X4_133 : xFL RX4 133 2 2 false := ffX2 _ _ _ _ (by decide) (xtb_in 56 (by decide +kernel) rfl) rfl rfl
theorem fl_X2_28 : xFL RX2 28 2 3 false := ffX2 _ _ _ _ (by decide) (xtb_in 57 (by decide +kernel) rfl) rfl rfl
theorem fl_X3_81 : xFL RX3 81 2 3 false := ffX2 _ _ _ _ (by decide) (xtb_in 58 (by decide +kernel) rfl) rfl rfl
theorem fl_X4_136 : xFL RX4 136 2 3 false := ffX2 _ _ _ _ (by decide) (xtb_in 59 (by decide +kernel) rfl) rfl rfl
theorem fl_X2_31 : xFL RX2 31 2 4 false := ffX2 _ _ _ _ (by decide) (xtb_in 60 (by decide +kernel) rfl) rfl rfl
theorem fl_X4_160 : xFL RX4 160 2 4 false := ffX2 _ _ _ _ (by decide) (xtb_in 61 (by decide +kernel) rfl) rfl rfl
theorem fl_X2_34 : xFL RX2 34 2 5 false := ffX2 _ _ _ _ (by decide) (xtb_in 62 (by decide +kernel) rfl) rfl rfl
theorem fl_X4_139 : xFL RX4 139 2 5 false := ffX2 _ _ _ _ (by decide) (xtb_in 63 (by decide +kernel) rfl) rfl rfl
theorem fl_X3_108 : xFL RX3 108 2 5 false := ffX2 _ _ _ _ (by decide) (xtb_in 64 (by decide +kernel) rfl) rfl rfl
theorem fl_X2_37 : xFL RX2 37 2 6 false := ffX2 _ _ _ _ (by decide) (xtb_in 65 (by decide +kernel) rfl) rfl rfl
theorem fl_X4_142 : xFL RX4 142 2 6 false := ffX2 _ _ _ _ (by decide) (xtb_in 66 (by decide +kernel) rfl) rfl rfl
theorem fl_X3_111 : xFL RX3 111 2 6 false := ffX2 _ _ _ _ (by decide) (xtb_in 67 (by decide +kernel) rfl) rfl rfl
theorem fl_X2_40 : xFL RX2 40 2 7 false := ffX2 _ _ _ _ (by decide) (xtb_in 68 (by decide +kernel) rfl) rfl rfl
theorem fl_X4_145 : xFL RX4 145 2 7 false := ffX2 _ _ _ _ (by decide) (xtb_in 69 (by decide +kernel) rfl) rfl rfl
theorem fl_X2_43 : xFL RX2 43 2 8 false := ffX2 _ _ _ _ (by decide) (xtb_in 70 (by decide +kernel) rfl) rfl rfl
theorem fl_X4_95 : xFL RX4 95 2 8 false := ffX2 _ _ _ _ (by decide) (xtb_in 71 (by decide +kernel) rfl) rfl rfl
theorem fl_X3_114 : xFL RX3 114 2 8 false := ffX2 _ _ _ _ (by decide) (xtb_in 72 (by decide +kernel) rfl) rfl rfl
theorem fl_X2_46 : xFL RX2 46 2 9 false := ffX2 _ _ _ _ (by decide) (xtb_in 73 (by decide +kernel) rfl) rfl rfl
theorem fl_X4_151 : xFL RX4 151 2 9 false := ffX2 _ _ _ _ (by decide) (xtb_in 74 (by decide +kernel) rfl) rfl rfl
theorem fl_X2_49 : xFL RX2 49 2 10 false := ffX2 _ _ _ _ (by decide) (xtb_in 75 (by decide +kernel) rfl) rfl rfl
theorem fl_X4_154 : xFL RX4 154 2 10 false := ffX2 _ _ _ _ (by decide) (xtb_in 76 (by decide +kernel) rfl) rfl rfl
theorem fl_X2_52 : xFL RX2 52 2 11 false := ffX2 _ _ _ _ (by decide) (xtb_in 77 (by decide +kernel) rfl) rfl rfl
theorem fl_X4_157 : xFL RX4 157 2 11 false := ffX2 _ _ _ _ (by decide) (xtb_in 78 (by decide +kernel) rfl) rfl rfl
theorem fl_X2_9 : xFL RX2 9 2 12 true := ffX2 _ _ _ _ (by decide) (xtb_in 79 (by decide +kernel) rfl) rfl rfl
theorem fl_X4_92 : xFL RX4 92 2 12 true := ffX2 _ _ _ _ (by decide) (xtb_in 80 (by decide +kernel) rfl) rfl rfl
theorem fl_X2_15 : xFL RX2 15 2 13 true := ffX2 _ _ _ _ (by decide) (xtb_in 81 (by decide +kernel) rfl) rfl rfl
theorem fl_X4_112 : xFL RX4 112 2 13 true := ffX2 _ _ _ _ (by decide) (xtb_in 82 (by decide +kernel) rfl) rfl rfl
theorem fl_X2_71 : xFL RX2 71 2 14 false := ffX2 _ _ _ _ (by decide) (xtb_in 83 (by decide +kernel) rfl) rfl rfl
theorem fl_X3_156 : xFL RX3 156 2 14 false := ffX2 _ _ _ _ (by decide) (xtb_in 84 (by decide +kernel) rfl) rfl rfl
theorem fl_X2_85 : xFL RX2 85 2 15 false := ffX2 _ _ _ _ (by decide) (xtb_in 85 (by decide +kernel) rfl) rfl rfl
theorem fl_X2_88 : xFL RX2 88 2 16 false := ffX2 _ _ _ _ (by decide) (xtb_in 86 (by decide +kernel) rfl) rfl rfl
theorem fl_X3_148 : xFL RX3 148 2 16 false := ffX2 _ _ _ _ (by decide) (xtb_in 87 (by decide +kernel) rfl) rfl rfl
theorem ac_int : Cond.arrayClass .int ∈ xtb := xtb_in 123 (by decide +kernel) rfl
theorem fl_X3_18 : xFL RX3 18 3 0 true := ffX3 _ _ _ _ (by decide) (xtb_in 124 (by decide +kernel) rfl) rfl rfl
theorem fl_X3_23 : xFL RX3 23 3 1 true := ffX3 _ _ _ _ (by decide) (xtb_in 125 (by decide +kernel) rfl) rfl rfl
theorem fl_X4_82 : xFL RX4 82 3 1 true := ffX3 _ _ _ _ (by decide) (xtb_in 126 (by decide +kernel) rfl) rfl rfl
theorem fl_X3_28 : xFL RX3 28 3 2 true := ffX3 _ _ _ _ (by decide) (xtb_in 127 (by decide +kernel) rfl) rfl rfl
theorem fl_X3_45 : xFL RX3 45 3 3 false := ffX3 _ _ _ _ (by decide) (xtb_in 128 (by decide +kernel) rfl) rfl rfl
theorem fl_X4_78 : xFL RX4 78 3 3 false := ffX3 _ _ _ _ (by decide) (xtb_in 129 (by decide +kernel) rfl) rfl rfl
theorem fl_X3_57 : xFL RX3 57 3 4 false := ffX3 _ _ _ _ (by decide) (xtb_in 130 (by decide +kernel) rfl) rfl rfl
theorem fl_X4_124 : xFL RX4 124 3 4 false := ffX3 _ _ _ _ (by decide) (xtb_in 131 (by decide +kernel) rfl) rfl rfl
theorem fl_X3_60 : xFL RX3 60 3 5 false := ffX3 _ _ _ _ (by decide) (xtb_in 132 (by decide +kernel) rfl) rfl rfl
theorem fl_X4_178 : xFL RX4 178 3 5 false := ffX3 _ _ _ _ (by decide) (xtb_in 133 (by decide +kernel) rfl) rfl rfl
theorem fl_X3_64 : xFL RX3 64 3 6 false := ffX3 _ _ _ _ (by decide) (xtb_in 134 (by decide +kernel) rfl) rfl rfl
theorem fl_X4_182 : xFL RX4 182 3 6 false := ffX3 _ _ _ _ (by decide) (xtb_in 135 (by decide +kernel) rfl) rfl rfl
theorem fl_X3_67 : xFL RX3 67 3 7 false := ffX3 _ _ _ _ (by decide) (xtb_in 136 (by decide +kernel) rfl) rfl rfl
theorem fl_X4_185 : xFL RX4 185 3 7 false := ffX3 _ _ _ _ (by decide) (xtb_in 137 (by decide +kernel) rfl) rfl rfl
theorem fl_X3_138 : xFL RX3 138 3 8 false := ffX3 _ _ _ _ (by decide) (xtb_in 138 (by decide +kernel) rfl) rfl rfl
theorem fl_X3_141 : xFL RX3 141 3 9 false := ffX3 _ _ _ _ (by decide) (xtb_in 139 (by decide +kernel) rfl) rfl rfl
theorem ck_X4_19 : Cond.classLink RX4 19 RX1 ∈ xtb := xtb_in 161 (by decide +kernel) rfl
theorem in_X1 : Cond.instantiable RX1 7 ∈ xtb := xtb_in 162 (by decide +kernel) rfl
theorem lk_X1_3 : Cond.methodLink RX1 3 Lib.objectInit ∈ xtb := xtb_in 166 (by decide +kernel) rfl
theorem fl_X1_9 : xFL RX1 9 1 0 true := ffX1 _ _ _ _ (by decide) (xtb_in 167 (by decide +kernel) rfl) rfl rfl
theorem fl_X4_195 : xFL RX4 195 1 1 false := ffX1 _ _ _ _ (by decide) (xtb_in 168 (by decide +kernel) rfl) rfl rfl
theorem ac_char : Cond.arrayClass .char ∈ xtb := xtb_in 184 (by decide +kernel) rfl
theorem ck_X4_26 : Cond.classLink RX4 26 RX0 ∈ xtb := xtb_in 185 (by decide +kernel) rfl
theorem in_X0 : Cond.instantiable RX0 3 ∈ xtb := xtb_in 186 (by decide +kernel) rfl
theorem lk_X4_28 : Cond.methodLink RX4 28 yX0_init ∈ xtb := xtb_in 187 (by decide +kernel) rfl
theorem lk_X0_3 : Cond.methodLink RX0 3 Lib.objectInit ∈ xtb := xtb_in 190 (by decide +kernel) rfl
theorem ck_X0_9 : Cond.classLink RX0 9 RX3 ∈ xtb := xtb_in 191 (by decide +kernel) rfl
theorem lk_X0_17 : Cond.methodLink RX0 17 yX3_init ∈ xtb := xtb_in 193 (by decide +kernel) rfl
theorem fl_X0_11 : xFL RX0 11 0 0 true := ffX0 _ _ _ _ (by decide) (xtb_in 194 (by decide +kernel) rfl) rfl rfl
theorem fl_X0_22 : xFL RX0 22 0 1 false := ffX0 _ _ _ _ (by decide) (xtb_in 195 (by decide +kernel) rfl) rfl rfl
theorem fl_X4_198 : xFL RX4 198 0 1 false := ffX0 _ _ _ _ (by decide) (xtb_in 196 (by decide +kernel) rfl) rfl rfl
theorem fl_X0_18 : xFL RX0 18 0 2 false := ffX0 _ _ _ _ (by decide) (xtb_in 197 (by decide +kernel) rfl) rfl rfl
theorem fl_X4_10 : xFL RX4 10 4 0 true := ffX4 _ _ _ _ (by decide) (xtb_in 205 (by decide +kernel) rfl) rfl rfl
theorem fl_X4_16 : xFL RX4 16 4 1 true := ffX4 _ _ _ _ (by decide) (xtb_in 206 (by decide +kernel) rfl) rfl rfl
theorem fl_X4_22 : xFL RX4 22 4 2 true := ffX4 _ _ _ _ (by decide) (xtb_in 207 (by decide +kernel) rfl) rfl rfl
theorem fl_X4_29 : xFL RX4 29 4 3 true := ffX4 _ _ _ _ (by decide) (xtb_in 208 (by decide +kernel) rfl) rfl rfl
theorem fl_X4_33 : xFL RX4 33 4 4 true := ffX4 _ _ _ _ (by decide) (xtb_in 209 (by decide +kernel) rfl) rfl rfl
theorem fl_X4_37 : xFL RX4 37 4 5 true := ffX4 _ _ _ _ (by decide) (xtb_in 210 (by decide +kernel) rfl) rfl rfl
theorem ac_boolean : Cond.arrayClass .boolean ∈ xtb := xtb_in 224 (by decide +kernel) rfl
theorem lk_L_13 : Cond.methodLink RL 13 yX4_count ∈ xtb := xtb_in 225 (by decide +kernel) rfl
theorem lk_X4_118 : Cond.methodLink RX4 118 yX3_allLots ∈ xtb := xtb_in 229 (by decide +kernel) rfl
theorem lk_X3_49 : Cond.methodLink RX3 49 yX3_productAt ∈ xtb := xtb_in 233 (by decide +kernel) rfl
theorem lk_X3_104 : Cond.methodLink RX3 104 yX2_lotsInAll ∈ xtb := xtb_in 237 (by decide +kernel) rfl
theorem lk_X4_188 : Cond.methodLink RX4 188 yX3_allStock ∈ xtb := xtb_in 241 (by decide +kernel) rfl
theorem lk_X4_192 : Cond.methodLink RX4 192 yX3_allBacklog ∈ xtb := xtb_in 245 (by decide +kernel) rfl
theorem lk_X4_41 : Cond.methodLink RX4 41 yX4_isIn ∈ xtb := xtb_in 249 (by decide +kernel) rfl
theorem lk_X4_56 : Cond.methodLink RX4 56 yX3_setting ∈ xtb := xtb_in 252 (by decide +kernel) rfl
theorem lk_X4_64 : Cond.methodLink RX4 64 yX4_isFamily ∈ xtb := xtb_in 256 (by decide +kernel) rfl
theorem kl_X4_201 : Cond.constantLong RX4 201 (-2) ∈ xtb := xtb_in 259 (by decide +kernel) rfl
theorem lk_L_96 : Cond.methodLink RL 96 yL_cell ∈ xtb := xtb_in 260 (by decide +kernel) rfl
theorem kc_7 : Cond.constant "LotFencesLaw" 7 (763049417) ∈ xtb := xtb_in 263 (by decide +kernel) rfl
theorem lk_L_74 : Cond.methodLink RL 74 yL_view ∈ xtb := xtb_in 264 (by decide +kernel) rfl
theorem kl_L_9 : Cond.constantLong RL 9 (7) ∈ xtb := xtb_in 267 (by decide +kernel) rfl
theorem kl_L_11 : Cond.constantLong RL 11 (31) ∈ xtb := xtb_in 268 (by decide +kernel) rfl
theorem lk_L_19 : Cond.methodLink RL 19 yX4_ofProduct ∈ xtb := xtb_in 269 (by decide +kernel) rfl
theorem lk_X4_85 : Cond.methodLink RX4 85 yX3_productAt ∈ xtb := xtb_in 273 (by decide +kernel) rfl
theorem lk_X4_148 : Cond.methodLink RX4 148 yX2_cover ∈ xtb := xtb_in 274 (by decide +kernel) rfl
theorem lk_L_23 : Cond.methodLink RL 23 yX4_at ∈ xtb := xtb_in 278 (by decide +kernel) rfl
theorem lk_X4_89 : Cond.methodLink RX4 89 yX4_isWeek ∈ xtb := xtb_in 282 (by decide +kernel) rfl
theorem lk_L_100 : Cond.methodLink RL 100 yL_frozen ∈ xtb := xtb_in 285 (by decide +kernel) rfl
theorem lk_L_78 : Cond.methodLink RL 78 yL_turn ∈ xtb := xtb_in 288 (by decide +kernel) rfl
theorem lk_L_53 : Cond.methodLink RL 53 yL_up ∈ xtb := xtb_in 291 (by decide +kernel) rfl
theorem kc_8 : Cond.constant "LotFencesLaw" 8 (2147483647) ∈ xtb := xtb_in 294 (by decide +kernel) rfl
theorem lk_L_30 : Cond.methodLink RL 30 yX4_product ∈ xtb := xtb_in 295 (by decide +kernel) rfl
theorem lk_X4_68 : Cond.methodLink RX4 68 yX3_spareProduct ∈ xtb := xtb_in 299 (by decide +kernel) rfl
theorem lk_X4_52 : Cond.methodLink RX4 52 yX0_remember ∈ xtb := xtb_in 303 (by decide +kernel) rfl
theorem lk_X0_26 : Cond.methodLink RX0 26 yX0_dropOldest ∈ xtb := xtb_in 307 (by decide +kernel) rfl
theorem lk_X0_29 : Cond.methodLink RX0 29 yX3_copyFrom ∈ xtb := xtb_in 311 (by decide +kernel) rfl
theorem lk_X3_39 : Cond.methodLink RX3 39 arraycopyName ∈ xtb := xtb_in 315 (by decide +kernel) rfl
theorem nat_arraycopy : Cond.native arraycopyName ∈ xtb := xtb_in 317 (by decide +kernel) rfl
theorem lk_X3_53 : Cond.methodLink RX3 53 yX2_copyFrom ∈ xtb := xtb_in 318 (by decide +kernel) rfl
theorem lk_X2_61 : Cond.methodLink RX2 61 arraycopyName ∈ xtb := xtb_in 322 (by decide +kernel) rfl
theorem lk_X4_72 : Cond.methodLink RX4 72 yX2_begin ∈ xtb := xtb_in 323 (by decide +kernel) rfl
theorem lk_X2_55 : Cond.methodLink RX2 55 yJ7_fill_53178 ∈ xtb := xtb_in 327 (by decide +kernel) rfl
theorem lk_L_58 : Cond.methodLink RL 58 yL_sets ∈ xtb := xtb_in 328 (by decide +kernel) rfl
theorem lk_L_27 : Cond.methodLink RL 27 yX4_set ∈ xtb := xtb_in 331 (by decide +kernel) rfl
theorem fl_X4_45 : Cond.fieldLink RX4 45 "LotFences" "LEAST_SETTINGS" "[I" ∈ xtb := xtb_in 335 (by decide +kernel) rfl
theorem fl_X4_49 : Cond.fieldLink RX4 49 "LotFences" "MOST_SETTINGS" "[I" ∈ xtb := xtb_in 337 (by decide +kernel) rfl
theorem lk_X4_60 : Cond.methodLink RX4 60 yX3_changeSetting ∈ xtb := xtb_in 339 (by decide +kernel) rfl
theorem lk_L_34 : Cond.methodLink RL 34 yX4_family ∈ xtb := xtb_in 343 (by decide +kernel) rfl
theorem lk_L_37 : Cond.methodLink RL 37 yX4_forecast ∈ xtb := xtb_in 347 (by decide +kernel) rfl
theorem lk_L_40 : Cond.methodLink RL 40 yX4_actual ∈ xtb := xtb_in 351 (by decide +kernel) rfl
theorem lk_L_43 : Cond.methodLink RL 43 yX4_lots ∈ xtb := xtb_in 355 (by decide +kernel) rfl
theorem lk_X4_98 : Cond.methodLink RX4 98 yX3_hoursWith ∈ xtb := xtb_in 359 (by decide +kernel) rfl
theorem lk_X3_78 : Cond.methodLink RX3 78 yX2_lotsIn ∈ xtb := xtb_in 363 (by decide +kernel) rfl
theorem lk_X4_102 : Cond.methodLink RX4 102 yX3_isFrozen ∈ xtb := xtb_in 367 (by decide +kernel) rfl
theorem lk_X3_70 : Cond.methodLink RX3 70 yX3_setting ∈ xtb := xtb_in 371 (by decide +kernel) rfl
theorem lk_X4_105 : Cond.methodLink RX4 105 yX3_capacity ∈ xtb := xtb_in 372 (by decide +kernel) rfl
theorem lk_X4_109 : Cond.methodLink RX4 109 yX3_hoursIn ∈ xtb := xtb_in 376 (by decide +kernel) rfl
theorem lk_X3_74 : Cond.methodLink RX3 74 yX3_hoursWith ∈ xtb := xtb_in 380 (by decide +kernel) rfl
theorem lk_L_62 : Cond.methodLink RL 62 yX4_plan ∈ xtb := xtb_in 381 (by decide +kernel) rfl
theorem lk_X4_115 : Cond.methodLink RX4 115 yX3_planAnew ∈ xtb := xtb_in 385 (by decide +kernel) rfl
theorem lk_X3_117 : Cond.methodLink RX3 117 yX3_openPlans ∈ xtb := xtb_in 389 (by decide +kernel) rfl
theorem lk_X3_128 : Cond.methodLink RX3 128 yX2_openPlan ∈ xtb := xtb_in 393 (by decide +kernel) rfl
theorem lk_X2_67 : Cond.methodLink RX2 67 yX2_projectionBehind ∈ xtb := xtb_in 397 (by decide +kernel) rfl
theorem lk_X2_75 : Cond.methodLink RX2 75 Lib.Math.max.name ∈ xtb := xtb_in 401 (by decide +kernel) rfl
theorem lk_X3_120 : Cond.methodLink RX3 120 yX3_planWeek ∈ xtb := xtb_in 404 (by decide +kernel) rfl
theorem lk_X3_131 : Cond.methodLink RX3 131 yX2_enterWeek ∈ xtb := xtb_in 408 (by decide +kernel) rfl
theorem lk_X2_81 : Cond.methodLink RX2 81 yX2_cover ∈ xtb := xtb_in 412 (by decide +kernel) rfl
theorem lk_X3_135 : Cond.methodLink RX3 135 yX3_capacity ∈ xtb := xtb_in 413 (by decide +kernel) rfl
theorem lk_X3_144 : Cond.methodLink RX3 144 yX3_nextWaiting ∈ xtb := xtb_in 414 (by decide +kernel) rfl
theorem lk_X3_152 : Cond.methodLink RX3 152 yX3_giveLots ∈ xtb := xtb_in 418 (by decide +kernel) rfl
theorem lk_X3_163 : Cond.methodLink RX3 163 yX2_lotsWanted ∈ xtb := xtb_in 423 (by decide +kernel) rfl
theorem lk_X3_167 : Cond.methodLink RX3 167 Lib.Math.min.name ∈ xtb := xtb_in 427 (by decide +kernel) rfl
theorem lk_X3_170 : Cond.methodLink RX3 170 Lib.MathLoose.min_long.x ∈ xtb := xtb_in 430 (by decide +kernel) rfl
theorem lk_X3_173 : Cond.methodLink RX3 173 yX2_planLots ∈ xtb := xtb_in 433 (by decide +kernel) rfl
theorem lk_L_46 : Cond.methodLink RL 46 yX4_weeks ∈ xtb := xtb_in 437 (by decide +kernel) rfl
theorem lk_X4_121 : Cond.methodLink RX4 121 yX3_passWeek ∈ xtb := xtb_in 441 (by decide +kernel) rfl
theorem lk_X3_176 : Cond.methodLink RX3 176 yX3_setupsIn ∈ xtb := xtb_in 445 (by decide +kernel) rfl
theorem lk_X3_90 : Cond.methodLink RX3 90 yX3_familiesIn ∈ xtb := xtb_in 449 (by decide +kernel) rfl
theorem lk_X3_93 : Cond.methodLink RX3 93 yJ6_bitCount_0f7a4 ∈ xtb := xtb_in 453 (by decide +kernel) rfl
theorem kc_265 : Cond.constant "java/lang/Integer" 265 (1431655765) ∈ xtb := xtb_in 456 (by decide +kernel) rfl
theorem kc_266 : Cond.constant "java/lang/Integer" 266 (858993459) ∈ xtb := xtb_in 457 (by decide +kernel) rfl
theorem kc_267 : Cond.constant "java/lang/Integer" 267 (252645135) ∈ xtb := xtb_in 458 (by decide +kernel) rfl
theorem lk_X3_179 : Cond.methodLink RX3 179 yX3_overtimeIn ∈ xtb := xtb_in 459 (by decide +kernel) rfl
theorem lk_X3_98 : Cond.methodLink RX3 98 Lib.Math.max.name ∈ xtb := xtb_in 463 (by decide +kernel) rfl
theorem lk_X3_182 : Cond.methodLink RX3 182 yX2_passWeek ∈ xtb := xtb_in 464 (by decide +kernel) rfl
theorem lk_X2_92 : Cond.methodLink RX2 92 Lib.Math.min.name ∈ xtb := xtb_in 468 (by decide +kernel) rfl
theorem lk_X2_95 : Cond.methodLink RX2 95 Lib.Math.abs.name ∈ xtb := xtb_in 469 (by decide +kernel) rfl
theorem lk_X3_185 : Cond.methodLink RX3 185 yX3_allStock ∈ xtb := xtb_in 472 (by decide +kernel) rfl
theorem lk_X3_189 : Cond.methodLink RX3 189 yX3_allBacklog ∈ xtb := xtb_in 473 (by decide +kernel) rfl
theorem lk_L_66 : Cond.methodLink RL 66 yL_any ∈ xtb := xtb_in 474 (by decide +kernel) rfl
theorem lk_L_50 : Cond.methodLink RL 50 yX4_restore ∈ xtb := xtb_in 477 (by decide +kernel) rfl
theorem lk_X4_203 : Cond.methodLink RX4 203 yX3_copyFrom ∈ xtb := xtb_in 481 (by decide +kernel) rfl
theorem lk_L_109 : Cond.methodLink RL 109 yL_isWeeks ∈ xtb := xtb_in 482 (by decide +kernel) rfl
theorem lk_L_120 : Cond.methodLink RL 120 yL_areRight ∈ xtb := xtb_in 485 (by decide +kernel) rfl
theorem kl_L_69 : Cond.constantLong RL 69 (100) ∈ xtb := xtb_in 488 (by decide +kernel) rfl
theorem lk_L_105 : Cond.methodLink RL 105 yL_isUndone ∈ xtb := xtb_in 489 (by decide +kernel) rfl
theorem lk_L_71 : Cond.methodLink RL 71 yX4_undo ∈ xtb := xtb_in 492 (by decide +kernel) rfl
theorem lk_X4_260 : Cond.methodLink RX4 260 yX0_takeBack ∈ xtb := xtb_in 496 (by decide +kernel) rfl
theorem lk_L_113 : Cond.methodLink RL 113 yL_isSaved ∈ xtb := xtb_in 500 (by decide +kernel) rfl
theorem lk_L_82 : Cond.methodLink RL 82 yX4_save ∈ xtb := xtb_in 503 (by decide +kernel) rfl
theorem lk_L_117 : Cond.methodLink RL 117 yL_asks ∈ xtb := xtb_in 507 (by decide +kernel) rfl
theorem lk_L_85 : Cond.methodLink RL 85 yX4_costs ∈ xtb := xtb_in 510 (by decide +kernel) rfl
theorem lk_X4_210 : Cond.methodLink RX4 210 yX3_forgetTold ∈ xtb := xtb_in 514 (by decide +kernel) rfl
theorem lk_L_89 : Cond.methodLink RL 89 yX4_leastHours ∈ xtb := xtb_in 518 (by decide +kernel) rfl
theorem lk_X4_206 : Cond.methodLink RX4 206 yX3_plansWithoutShortage ∈ xtb := xtb_in 522 (by decide +kernel) rfl
theorem lk_X3_124 : Cond.methodLink RX3 124 yX3_isShort ∈ xtb := xtb_in 526 (by decide +kernel) rfl
theorem lk_L_92 : Cond.methodLink RL 92 yX4_roomFor ∈ xtb := xtb_in 530 (by decide +kernel) rfl
theorem lk_X4_217 : Cond.methodLink RX4 217 Lib.Math.min.name ∈ xtb := xtb_in 534 (by decide +kernel) rfl
theorem kl_L_103 : Cond.constantLong RL 103 (6) ∈ xtb := xtb_in 535 (by decide +kernel) rfl
abbrev mX4_init : xM := (yX4_init, cX4_init, 2, none)
theorem kI_X4_init : xMI mX4_init 0 := ⟨xtb_in 19 (by decide +kernel) rfl, ii_X4, xtb_in (w := .code yX4_init cX4_init 2 none) 20 (by decide +kernel) rfl, ⟨by decide +kernel, by decide⟩, rfl, rfl⟩
abbrev mX3_init : xM := (yX3_init, cX3_init, 2, none)
theorem kI_X3_init : xMI mX3_init 0 := ⟨xtb_in 27 (by decide +kernel) rfl, ii_X3, xtb_in (w := .code yX3_init cX3_init 2 none) 28 (by decide +kernel) rfl, ⟨by decide +kernel, by decide⟩, rfl, rfl⟩
abbrev mJ7_fill_53178 : xM := (yJ7_fill_53178, cJ7_fill_53178, 4, none)
theorem kS_J7_fill_53178 : xMS mJ7_fill_53178 2 := ⟨xtb_in 42 (by decide +kernel) rfl, ii_J7, xtb_in (w := .code yJ7_fill_53178 cJ7_fill_53178 4 none) 43 (by decide +kernel) rfl, ⟨by decide +kernel, by decide⟩⟩
abbrev mX2_init : xM := (yX2_init, cX2_init, 1, none)
theorem kI_X2_init : xMI mX2_init 0 := ⟨xtb_in 46 (by decide +kernel) rfl, ii_X2, xtb_in (w := .code yX2_init cX2_init 1 none) 47 (by decide +kernel) rfl, ⟨by decide +kernel, by decide⟩, rfl, rfl⟩
abbrev mX1_init : xM := (yX1_init, cX1_init, 1, none)
theorem kI_X1_init : xMI mX1_init 0 := ⟨xtb_in 164 (by decide +kernel) rfl, ii_X1, xtb_in (w := .code yX1_init cX1_init 1 none) 165 (by decide +kernel) rfl, ⟨by decide +kernel, by decide⟩, rfl, rfl⟩
abbrev mX0_init : xM := (yX0_init, cX0_init, 2, none)
theorem kI_X0_init : xMI mX0_init 0 := ⟨xtb_in 188 (by decide +kernel) rfl, ii_X0, xtb_in (w := .code yX0_init cX0_init 2 none) 189 (by decide +kernel) rfl, ⟨by decide +kernel, by decide⟩, rfl, rfl⟩
abbrev mX4_count : xM := (yX4_count, cX4_count, 4, (some .long))
theorem kV_X4_count : xMV mX4_count 1 := ⟨xtb_in 226 (by decide +kernel) rfl, xtb_in 227 (by decide +kernel) rfl, ii_X4, xtb_in (w := .code yX4_count cX4_count 4 (some .long)) 228 (by decide +kernel) rfl, ⟨by decide +kernel, by decide⟩⟩
abbrev mX3_allLots : xM := (yX3_allLots, cX3_allLots, 4, (some .int))
theorem kV_X3_allLots : xMV mX3_allLots 0 := ⟨xtb_in 230 (by decide +kernel) rfl, xtb_in 231 (by decide +kernel) rfl, ii_X3, xtb_in (w := .code yX3_allLots cX3_allLots 4 (some .int)) 232 (by decide +kernel) rfl, ⟨by decide +kernel, by decide⟩⟩
abbrev mX3_productAt : xM := (yX3_productAt, cX3_productAt, 2, (some (.object "LotFences$Product")))
theorem kV_X3_productAt : xMV mX3_productAt 1 := ⟨xtb_in 234 (by decide +kernel) rfl, xtb_in 235 (by decide +kernel) rfl, ii_X3, xtb_in (w := .code yX3_productAt cX3_productAt 2 (some (.object "LotFences$Product"))) 236 (by decide +kernel) rfl, ⟨by decide +kernel, by decide⟩⟩
abbrev mX2_lotsInAll : xM := (yX2_lotsInAll, cX2_lotsInAll, 3, (some .int))
theorem kV_X2_lotsInAll : xMV mX2_lotsInAll 0 := ⟨xtb_in 238 (by decide +kernel) rfl, xtb_in 239 (by decide +kernel) rfl, ii_X2, xtb_in (w := .code yX2_lotsInAll cX2_lotsInAll 3 (some .int)) 240 (by decide +kernel) rfl, ⟨by decide +kernel, by decide⟩⟩
abbrev mX3_allStock : xM := (yX3_allStock, cX3_allStock, 5, (some .long))
theorem kV_X3_allStock : xMV mX3_allStock 0 := ⟨xtb_in 242 (by decide +kernel) rfl, xtb_in 243 (by decide +kernel) rfl, ii_X3, xtb_in (w := .code yX3_allStock cX3_allStock 5 (some .long)) 244 (by decide +kernel) rfl, ⟨by decide +kernel, by decide⟩⟩
abbrev mX3_allBacklog : xM := (yX3_allBacklog, cX3_allBacklog, 5, (some .long))
theorem kV_X3_allBacklog : xMV mX3_allBacklog 0 := ⟨xtb_in 246 (by decide +kernel) rfl, xtb_in 247 (by decide +kernel) rfl, ii_X3, xtb_in (w := .code yX3_allBacklog cX3_allBacklog 5 (some .long)) 248 (by decide +kernel) rfl, ⟨by decide +kernel, by decide⟩⟩
abbrev mX4_isIn : xM := (yX4_isIn, cX4_isIn, 3, (some .boolean))
theorem kS_X4_isIn : xMS mX4_isIn 3 := ⟨xtb_in 250 (by decide +kernel) rfl, ii_X4, xtb_in (w := .code yX4_isIn cX4_isIn 3 (some .boolean)) 251 (by decide +kernel) rfl, ⟨by decide +kernel, by decide⟩⟩
abbrev mX3_setting : xM := (yX3_setting, cX3_setting, 2, (some .int))
theorem kV_X3_setting : xMV mX3_setting 1 := ⟨xtb_in 253 (by decide +kernel) rfl, xtb_in 254 (by decide +kernel) rfl, ii_X3, xtb_in (w := .code yX3_setting cX3_setting 2 (some .int)) 255 (by decide +kernel) rfl, ⟨by decide +kernel, by decide⟩⟩
abbrev mX4_isFamily : xM := (yX4_isFamily, cX4_isFamily, 1, (some .boolean))
theorem kS_X4_isFamily : xMS mX4_isFamily 1 := ⟨xtb_in 257 (by decide +kernel) rfl, ii_X4, xtb_in (w := .code yX4_isFamily cX4_isFamily 1 (some .boolean)) 258 (by decide +kernel) rfl, ⟨by decide +kernel, by decide⟩⟩
abbrev mL_cell : xM := (yL_cell, cL_cell, 2, (some .int))
theorem kS_L_cell : xMS mL_cell 2 := ⟨xtb_in 261 (by decide +kernel) rfl, ii_L, xtb_in (w := .code yL_cell cL_cell 2 (some .int)) 262 (by decide +kernel) rfl, ⟨by decide +kernel, by decide⟩⟩
abbrev mL_view : xM := (yL_view, cL_view, 5, (some .long))
theorem kS_L_view : xMS mL_view 1 := ⟨xtb_in 265 (by decide +kernel) rfl, ii_L, xtb_in (w := .code yL_view cL_view 5 (some .long)) 266 (by decide +kernel) rfl, ⟨by decide +kernel, by decide⟩⟩
abbrev mX4_ofProduct : xM := (yX4_ofProduct, cX4_ofProduct, 4, (some .int))
theorem kV_X4_ofProduct : xMV mX4_ofProduct 2 := ⟨xtb_in 270 (by decide +kernel) rfl, xtb_in 271 (by decide +kernel) rfl, ii_X4, xtb_in (w := .code yX4_ofProduct cX4_ofProduct 4 (some .int)) 272 (by decide +kernel) rfl, ⟨by decide +kernel, by decide⟩⟩
abbrev mX2_cover : xM := (yX2_cover, cX2_cover, 2, (some .int))
theorem kV_X2_cover : xMV mX2_cover 1 := ⟨xtb_in 275 (by decide +kernel) rfl, xtb_in 276 (by decide +kernel) rfl, ii_X2, xtb_in (w := .code yX2_cover cX2_cover 2 (some .int)) 277 (by decide +kernel) rfl, ⟨by decide +kernel, by decide⟩⟩
abbrev mX4_at : xM := (yX4_at, cX4_at, 5, (some .int))
theorem kV_X4_at : xMV mX4_at 3 := ⟨xtb_in 279 (by decide +kernel) rfl, xtb_in 280 (by decide +kernel) rfl, ii_X4, xtb_in (w := .code yX4_at cX4_at 5 (some .int)) 281 (by decide +kernel) rfl, ⟨by decide +kernel, by decide⟩⟩
abbrev mX4_isWeek : xM := (yX4_isWeek, cX4_isWeek, 1, (some .boolean))
theorem kS_X4_isWeek : xMS mX4_isWeek 1 := ⟨xtb_in 283 (by decide +kernel) rfl, ii_X4, xtb_in (w := .code yX4_isWeek cX4_isWeek 1 (some .boolean)) 284 (by decide +kernel) rfl, ⟨by decide +kernel, by decide⟩⟩
abbrev mL_frozen : xM := (yL_frozen, cL_frozen, 5, (some .long))
theorem kS_L_frozen : xMS mL_frozen 1 := ⟨xtb_in 286 (by decide +kernel) rfl, ii_L, xtb_in (w := .code yL_frozen cL_frozen 5 (some .long)) 287 (by decide +kernel) rfl, ⟨by decide +kernel, by decide⟩⟩
abbrev mL_turn : xM := (yL_turn, cL_turn, 5, (some .int))
theorem kS_L_turn : xMS mL_turn 4 := ⟨xtb_in 289 (by decide +kernel) rfl, ii_L, xtb_in (w := .code yL_turn cL_turn 5 (some .int)) 290 (by decide +kernel) rfl, ⟨by decide +kernel, by decide⟩⟩
abbrev mL_up : xM := (yL_up, cL_up, 2, (some .int))
theorem kS_L_up : xMS mL_up 2 := ⟨xtb_in 292 (by decide +kernel) rfl, ii_L, xtb_in (w := .code yL_up cL_up 2 (some .int)) 293 (by decide +kernel) rfl, ⟨by decide +kernel, by decide⟩⟩
abbrev mX4_product : xM := (yX4_product, cX4_product, 8, (some .int))
theorem kV_X4_product : xMV mX4_product 5 := ⟨xtb_in 296 (by decide +kernel) rfl, xtb_in 297 (by decide +kernel) rfl, ii_X4, xtb_in (w := .code yX4_product cX4_product 8 (some .int)) 298 (by decide +kernel) rfl, ⟨by decide +kernel, by decide⟩⟩
abbrev mX3_spareProduct : xM := (yX3_spareProduct, cX3_spareProduct, 1, (some (.object "LotFences$Product")))
theorem kV_X3_spareProduct : xMV mX3_spareProduct 0 := ⟨xtb_in 300 (by decide +kernel) rfl, xtb_in 301 (by decide +kernel) rfl, ii_X3, xtb_in (w := .code yX3_spareProduct cX3_spareProduct 1 (some (.object "LotFences$Product"))) 302 (by decide +kernel) rfl, ⟨by decide +kernel, by decide⟩⟩
abbrev mX0_remember : xM := (yX0_remember, cX0_remember, 2, none)
theorem kV_X0_remember : xMV mX0_remember 1 := ⟨xtb_in 304 (by decide +kernel) rfl, xtb_in 305 (by decide +kernel) rfl, ii_X0, xtb_in (w := .code yX0_remember cX0_remember 2 none) 306 (by decide +kernel) rfl, ⟨by decide +kernel, by decide⟩⟩
abbrev mX0_dropOldest : xM := (yX0_dropOldest, cX0_dropOldest, 3, none)
theorem kV_X0_dropOldest : xMV mX0_dropOldest 0 := ⟨xtb_in 309 (by decide +kernel) rfl, xtb_in 0 (by decide +kernel) rfl, ii_X0, xtb_in (w := .code yX0_dropOldest cX0_dropOldest 3 none) 310 (by decide +kernel) rfl, ⟨by decide +kernel, by decide⟩⟩
abbrev mX3_copyFrom : xM := (yX3_copyFrom, cX3_copyFrom, 5, none)
theorem kV_X3_copyFrom : xMV mX3_copyFrom 1 := ⟨xtb_in 312 (by decide +kernel) rfl, xtb_in 313 (by decide +kernel) rfl, ii_X3, xtb_in (w := .code yX3_copyFrom cX3_copyFrom 5 none) 314 (by decide +kernel) rfl, ⟨by decide +kernel, by decide⟩⟩
abbrev mX2_copyFrom : xM := (yX2_copyFrom, cX2_copyFrom, 2, none)
theorem kV_X2_copyFrom : xMV mX2_copyFrom 1 := ⟨xtb_in 319 (by decide +kernel) rfl, xtb_in 320 (by decide +kernel) rfl, ii_X2, xtb_in (w := .code yX2_copyFrom cX2_copyFrom 2 none) 321 (by decide +kernel) rfl, ⟨by decide +kernel, by decide⟩⟩
abbrev mX2_begin : xM := (yX2_begin, cX2_begin, 6, none)
theorem kV_X2_begin : xMV mX2_begin 5 := ⟨xtb_in 324 (by decide +kernel) rfl, xtb_in 325 (by decide +kernel) rfl, ii_X2, xtb_in (w := .code yX2_begin cX2_begin 6 none) 326 (by decide +kernel) rfl, ⟨by decide +kernel, by decide⟩⟩
abbrev mL_sets : xM := (yL_sets, cL_sets, 5, (some .int))
theorem kS_L_sets : xMS mL_sets 3 := ⟨xtb_in 329 (by decide +kernel) rfl, ii_L, xtb_in (w := .code yL_sets cL_sets 5 (some .int)) 330 (by decide +kernel) rfl, ⟨by decide +kernel, by decide⟩⟩
abbrev mX4_set : xM := (yX4_set, cX4_set, 4, (some .int))
theorem kV_X4_set : xMV mX4_set 2 := ⟨xtb_in 332 (by decide +kernel) rfl, xtb_in 333 (by decide +kernel) rfl, ii_X4, xtb_in (w := .code yX4_set cX4_set 4 (some .int)) 334 (by decide +kernel) rfl, ⟨by decide +kernel, by decide⟩⟩
abbrev mX3_changeSetting : xM := (yX3_changeSetting, cX3_changeSetting, 3, none)
theorem kV_X3_changeSetting : xMV mX3_changeSetting 2 := ⟨xtb_in 340 (by decide +kernel) rfl, xtb_in 341 (by decide +kernel) rfl, ii_X3, xtb_in (w := .code yX3_changeSetting cX3_changeSetting 3 none) 342 (by decide +kernel) rfl, ⟨by decide +kernel, by decide⟩⟩
abbrev mX4_family : xM := (yX4_family, cX4_family, 4, (some .int))
theorem kV_X4_family : xMV mX4_family 2 := ⟨xtb_in 344 (by decide +kernel) rfl, xtb_in 345 (by decide +kernel) rfl, ii_X4, xtb_in (w := .code yX4_family cX4_family 4 (some .int)) 346 (by decide +kernel) rfl, ⟨by decide +kernel, by decide⟩⟩
abbrev mX4_forecast : xM := (yX4_forecast, cX4_forecast, 6, (some .int))
theorem kV_X4_forecast : xMV mX4_forecast 3 := ⟨xtb_in 348 (by decide +kernel) rfl, xtb_in 349 (by decide +kernel) rfl, ii_X4, xtb_in (w := .code yX4_forecast cX4_forecast 6 (some .int)) 350 (by decide +kernel) rfl, ⟨by decide +kernel, by decide⟩⟩
abbrev mX4_actual : xM := (yX4_actual, cX4_actual, 5, (some .int))
theorem kV_X4_actual : xMV mX4_actual 2 := ⟨xtb_in 352 (by decide +kernel) rfl, xtb_in 353 (by decide +kernel) rfl, ii_X4, xtb_in (w := .code yX4_actual cX4_actual 5 (some .int)) 354 (by decide +kernel) rfl, ⟨by decide +kernel, by decide⟩⟩
abbrev mX4_lots : xM := (yX4_lots, cX4_lots, 7, (some .int))
theorem kV_X4_lots : xMV mX4_lots 3 := ⟨xtb_in 356 (by decide +kernel) rfl, xtb_in 357 (by decide +kernel) rfl, ii_X4, xtb_in (w := .code yX4_lots cX4_lots 7 (some .int)) 358 (by decide +kernel) rfl, ⟨by decide +kernel, by decide⟩⟩
abbrev mX3_hoursWith : xM := (yX3_hoursWith, cX3_hoursWith, 9, (some .int))
theorem kV_X3_hoursWith : xMV mX3_hoursWith 3 := ⟨xtb_in 360 (by decide +kernel) rfl, xtb_in 361 (by decide +kernel) rfl, ii_X3, xtb_in (w := .code yX3_hoursWith cX3_hoursWith 9 (some .int)) 362 (by decide +kernel) rfl, ⟨by decide +kernel, by decide⟩⟩
abbrev mX2_lotsIn : xM := (yX2_lotsIn, cX2_lotsIn, 2, (some .int))
theorem kV_X2_lotsIn : xMV mX2_lotsIn 1 := ⟨xtb_in 364 (by decide +kernel) rfl, xtb_in 365 (by decide +kernel) rfl, ii_X2, xtb_in (w := .code yX2_lotsIn cX2_lotsIn 2 (some .int)) 366 (by decide +kernel) rfl, ⟨by decide +kernel, by decide⟩⟩
abbrev mX3_isFrozen : xM := (yX3_isFrozen, cX3_isFrozen, 2, (some .boolean))
theorem kV_X3_isFrozen : xMV mX3_isFrozen 1 := ⟨xtb_in 368 (by decide +kernel) rfl, xtb_in 369 (by decide +kernel) rfl, ii_X3, xtb_in (w := .code yX3_isFrozen cX3_isFrozen 2 (some .boolean)) 370 (by decide +kernel) rfl, ⟨by decide +kernel, by decide⟩⟩
abbrev mX3_capacity : xM := (yX3_capacity, cX3_capacity, 1, (some .int))
theorem kV_X3_capacity : xMV mX3_capacity 0 := ⟨xtb_in 373 (by decide +kernel) rfl, xtb_in 374 (by decide +kernel) rfl, ii_X3, xtb_in (w := .code yX3_capacity cX3_capacity 1 (some .int)) 375 (by decide +kernel) rfl, ⟨by decide +kernel, by decide⟩⟩
abbrev mX3_hoursIn : xM := (yX3_hoursIn, cX3_hoursIn, 2, (some .int))
theorem kV_X3_hoursIn : xMV mX3_hoursIn 1 := ⟨xtb_in 377 (by decide +kernel) rfl, xtb_in 378 (by decide +kernel) rfl, ii_X3, xtb_in (w := .code yX3_hoursIn cX3_hoursIn 2 (some .int)) 379 (by decide +kernel) rfl, ⟨by decide +kernel, by decide⟩⟩
abbrev mX4_plan : xM := (yX4_plan, cX4_plan, 1, (some .int))
theorem kV_X4_plan : xMV mX4_plan 0 := ⟨xtb_in 382 (by decide +kernel) rfl, xtb_in 383 (by decide +kernel) rfl, ii_X4, xtb_in (w := .code yX4_plan cX4_plan 1 (some .int)) 384 (by decide +kernel) rfl, ⟨by decide +kernel, by decide⟩⟩
abbrev mX3_planAnew : xM := (yX3_planAnew, cX3_planAnew, 2, none)
theorem kV_X3_planAnew : xMV mX3_planAnew 0 := ⟨xtb_in 386 (by decide +kernel) rfl, xtb_in 387 (by decide +kernel) rfl, ii_X3, xtb_in (w := .code yX3_planAnew cX3_planAnew 2 none) 388 (by decide +kernel) rfl, ⟨by decide +kernel, by decide⟩⟩
abbrev mX3_openPlans : xM := (yX3_openPlans, cX3_openPlans, 4, none)
theorem kV_X3_openPlans : xMV mX3_openPlans 0 := ⟨xtb_in 391 (by decide +kernel) rfl, xtb_in 1 (by decide +kernel) rfl, ii_X3, xtb_in (w := .code yX3_openPlans cX3_openPlans 4 none) 392 (by decide +kernel) rfl, ⟨by decide +kernel, by decide⟩⟩
abbrev mX2_openPlan : xM := (yX2_openPlan, cX2_openPlan, 3, none)
theorem kV_X2_openPlan : xMV mX2_openPlan 1 := ⟨xtb_in 394 (by decide +kernel) rfl, xtb_in 395 (by decide +kernel) rfl, ii_X2, xtb_in (w := .code yX2_openPlan cX2_openPlan 3 none) 396 (by decide +kernel) rfl, ⟨by decide +kernel, by decide⟩⟩
abbrev mX2_projectionBehind : xM := (yX2_projectionBehind, cX2_projectionBehind, 5, (some .long))
theorem kV_X2_projectionBehind : xMV mX2_projectionBehind 1 := ⟨xtb_in 398 (by decide +kernel) rfl, xtb_in 399 (by decide +kernel) rfl, ii_X2, xtb_in (w := .code yX2_projectionBehind cX2_projectionBehind 5 (some .long)) 400 (by decide +kernel) rfl, ⟨by decide +kernel, by decide⟩⟩
abbrev mX3_planWeek : xM := (yX3_planWeek, cX3_planWeek, 5, none)
theorem kV_X3_planWeek : xMV mX3_planWeek 1 := ⟨xtb_in 406 (by decide +kernel) rfl, xtb_in 2 (by decide +kernel) rfl, ii_X3, xtb_in (w := .code yX3_planWeek cX3_planWeek 5 none) 407 (by decide +kernel) rfl, ⟨by decide +kernel, by decide⟩⟩
abbrev mX2_enterWeek : xM := (yX2_enterWeek, cX2_enterWeek, 3, none)
theorem kV_X2_enterWeek : xMV mX2_enterWeek 2 := ⟨xtb_in 409 (by decide +kernel) rfl, xtb_in 410 (by decide +kernel) rfl, ii_X2, xtb_in (w := .code yX2_enterWeek cX2_enterWeek 3 none) 411 (by decide +kernel) rfl, ⟨by decide +kernel, by decide⟩⟩
abbrev mX3_nextWaiting : xM := (yX3_nextWaiting, cX3_nextWaiting, 4, (some (.object "LotFences$Product")))
theorem kV_X3_nextWaiting : xMV mX3_nextWaiting 0 := ⟨xtb_in 416 (by decide +kernel) rfl, xtb_in 3 (by decide +kernel) rfl, ii_X3, xtb_in (w := .code yX3_nextWaiting cX3_nextWaiting 4 (some (.object "LotFences$Product"))) 417 (by decide +kernel) rfl, ⟨by decide +kernel, by decide⟩⟩
abbrev mX3_giveLots : xM := (yX3_giveLots, cX3_giveLots, 8, none)
theorem kV_X3_giveLots : xMV mX3_giveLots 2 := ⟨xtb_in 420 (by decide +kernel) rfl, xtb_in 4 (by decide +kernel) rfl, ii_X3, xtb_in (w := .code yX3_giveLots cX3_giveLots 8 none) 421 (by decide +kernel) rfl, ⟨by decide +kernel, by decide⟩⟩
abbrev mX2_lotsWanted : xM := (yX2_lotsWanted, cX2_lotsWanted, 6, (some .long))
theorem kV_X2_lotsWanted : xMV mX2_lotsWanted 2 := ⟨xtb_in 424 (by decide +kernel) rfl, xtb_in 425 (by decide +kernel) rfl, ii_X2, xtb_in (w := .code yX2_lotsWanted cX2_lotsWanted 6 (some .long)) 426 (by decide +kernel) rfl, ⟨by decide +kernel, by decide⟩⟩
abbrev mX2_planLots : xM := (yX2_planLots, cX2_planLots, 3, none)
theorem kV_X2_planLots : xMV mX2_planLots 2 := ⟨xtb_in 434 (by decide +kernel) rfl, xtb_in 435 (by decide +kernel) rfl, ii_X2, xtb_in (w := .code yX2_planLots cX2_planLots 3 none) 436 (by decide +kernel) rfl, ⟨by decide +kernel, by decide⟩⟩
abbrev mX4_weeks : xM := (yX4_weeks, cX4_weeks, 3, (some .int))
theorem kV_X4_weeks : xMV mX4_weeks 1 := ⟨xtb_in 438 (by decide +kernel) rfl, xtb_in 439 (by decide +kernel) rfl, ii_X4, xtb_in (w := .code yX4_weeks cX4_weeks 3 (some .int)) 440 (by decide +kernel) rfl, ⟨by decide +kernel, by decide⟩⟩
abbrev mX3_passWeek : xM := (yX3_passWeek, cX3_passWeek, 5, none)
theorem kV_X3_passWeek : xMV mX3_passWeek 0 := ⟨xtb_in 442 (by decide +kernel) rfl, xtb_in 443 (by decide +kernel) rfl, ii_X3, xtb_in (w := .code yX3_passWeek cX3_passWeek 5 none) 444 (by decide +kernel) rfl, ⟨by decide +kernel, by decide⟩⟩
abbrev mX3_setupsIn : xM := (yX3_setupsIn, cX3_setupsIn, 5, (some .int))
theorem kV_X3_setupsIn : xMV mX3_setupsIn 1 := ⟨xtb_in 446 (by decide +kernel) rfl, xtb_in 447 (by decide +kernel) rfl, ii_X3, xtb_in (w := .code yX3_setupsIn cX3_setupsIn 5 (some .int)) 448 (by decide +kernel) rfl, ⟨by decide +kernel, by decide⟩⟩
abbrev mX3_familiesIn : xM := (yX3_familiesIn, cX3_familiesIn, 5, (some .int))
theorem kV_X3_familiesIn : xMV mX3_familiesIn 1 := ⟨xtb_in 450 (by decide +kernel) rfl, xtb_in 451 (by decide +kernel) rfl, ii_X3, xtb_in (w := .code yX3_familiesIn cX3_familiesIn 5 (some .int)) 452 (by decide +kernel) rfl, ⟨by decide +kernel, by decide⟩⟩
abbrev mJ6_bitCount_0f7a4 : xM := (yJ6_bitCount_0f7a4, cJ6_bitCount_0f7a4, 1, (some .int))
theorem kS_J6_bitCount_0f7a4 : xMS mJ6_bitCount_0f7a4 1 := ⟨xtb_in 454 (by decide +kernel) rfl, ii_J6, xtb_in (w := .code yJ6_bitCount_0f7a4 cJ6_bitCount_0f7a4 1 (some .int)) 455 (by decide +kernel) rfl, ⟨by decide +kernel, by decide⟩⟩
abbrev mX3_overtimeIn : xM := (yX3_overtimeIn, cX3_overtimeIn, 2, (some .int))
theorem kV_X3_overtimeIn : xMV mX3_overtimeIn 1 := ⟨xtb_in 460 (by decide +kernel) rfl, xtb_in 461 (by decide +kernel) rfl, ii_X3, xtb_in (w := .code yX3_overtimeIn cX3_overtimeIn 2 (some .int)) 462 (by decide +kernel) rfl, ⟨by decide +kernel, by decide⟩⟩
abbrev mX2_passWeek : xM := (yX2_passWeek, cX2_passWeek, 5, none)
theorem kV_X2_passWeek : xMV mX2_passWeek 0 := ⟨xtb_in 465 (by decide +kernel) rfl, xtb_in 466 (by decide +kernel) rfl, ii_X2, xtb_in (w := .code yX2_passWeek cX2_passWeek 5 none) 467 (by decide +kernel) rfl, ⟨by decide +kernel, by decide⟩⟩
abbrev mL_any : xM := (yL_any, cL_any, 3, (some .int))
theorem kS_L_any : xMS mL_any 3 := ⟨xtb_in 475 (by decide +kernel) rfl, ii_L, xtb_in (w := .code yL_any cL_any 3 (some .int)) 476 (by decide +kernel) rfl, ⟨by decide +kernel, by decide⟩⟩
abbrev mX4_restore : xM := (yX4_restore, cX4_restore, 2, (some .int))
theorem kV_X4_restore : xMV mX4_restore 1 := ⟨xtb_in 478 (by decide +kernel) rfl, xtb_in 479 (by decide +kernel) rfl, ii_X4, xtb_in (w := .code yX4_restore cX4_restore 2 (some .int)) 480 (by decide +kernel) rfl, ⟨by decide +kernel, by decide⟩⟩
abbrev mL_isWeeks : xM := (yL_isWeeks, cL_isWeeks, 2, (some .boolean))
theorem kS_L_isWeeks : xMS mL_isWeeks 2 := ⟨xtb_in 483 (by decide +kernel) rfl, ii_L, xtb_in (w := .code yL_isWeeks cL_isWeeks 2 (some .boolean)) 484 (by decide +kernel) rfl, ⟨by decide +kernel, by decide⟩⟩
abbrev mL_areRight : xM := (yL_areRight, cL_areRight, 9, (some .boolean))
theorem kS_L_areRight : xMS mL_areRight 1 := ⟨xtb_in 486 (by decide +kernel) rfl, ii_L, xtb_in (w := .code yL_areRight cL_areRight 9 (some .boolean)) 487 (by decide +kernel) rfl, ⟨by decide +kernel, by decide⟩⟩
abbrev mL_isUndone : xM := (yL_isUndone, cL_isUndone, 9, (some .boolean))
theorem kS_L_isUndone : xMS mL_isUndone 6 := ⟨xtb_in 490 (by decide +kernel) rfl, ii_L, xtb_in (w := .code yL_isUndone cL_isUndone 9 (some .boolean)) 491 (by decide +kernel) rfl, ⟨by decide +kernel, by decide⟩⟩
abbrev mX4_undo : xM := (yX4_undo, cX4_undo, 1, (some .int))
theorem kV_X4_undo : xMV mX4_undo 0 := ⟨xtb_in 493 (by decide +kernel) rfl, xtb_in 494 (by decide +kernel) rfl, ii_X4, xtb_in (w := .code yX4_undo cX4_undo 1 (some .int)) 495 (by decide +kernel) rfl, ⟨by decide +kernel, by decide⟩⟩
abbrev mX0_takeBack : xM := (yX0_takeBack, cX0_takeBack, 2, none)
theorem kV_X0_takeBack : xMV mX0_takeBack 1 := ⟨xtb_in 497 (by decide +kernel) rfl, xtb_in 498 (by decide +kernel) rfl, ii_X0, xtb_in (w := .code yX0_takeBack cX0_takeBack 2 none) 499 (by decide +kernel) rfl, ⟨by decide +kernel, by decide⟩⟩
abbrev mL_isSaved : xM := (yL_isSaved, cL_isSaved, 7, (some .boolean))
theorem kS_L_isSaved : xMS mL_isSaved 3 := ⟨xtb_in 501 (by decide +kernel) rfl, ii_L, xtb_in (w := .code yL_isSaved cL_isSaved 7 (some .boolean)) 502 (by decide +kernel) rfl, ⟨by decide +kernel, by decide⟩⟩
abbrev mX4_save : xM := (yX4_save, cX4_save, 3, (some .int))
theorem kV_X4_save : xMV mX4_save 1 := ⟨xtb_in 504 (by decide +kernel) rfl, xtb_in 505 (by decide +kernel) rfl, ii_X4, xtb_in (w := .code yX4_save cX4_save 3 (some .int)) 506 (by decide +kernel) rfl, ⟨by decide +kernel, by decide⟩⟩
abbrev mL_asks : xM := (yL_asks, cL_asks, 7, (some .boolean))
theorem kS_L_asks : xMS mL_asks 3 := ⟨xtb_in 508 (by decide +kernel) rfl, ii_L, xtb_in (w := .code yL_asks cL_asks 7 (some .boolean)) 509 (by decide +kernel) rfl, ⟨by decide +kernel, by decide⟩⟩
abbrev mX4_costs : xM := (yX4_costs, cX4_costs, 4, (some .long))
theorem kV_X4_costs : xMV mX4_costs 2 := ⟨xtb_in 511 (by decide +kernel) rfl, xtb_in 512 (by decide +kernel) rfl, ii_X4, xtb_in (w := .code yX4_costs cX4_costs 4 (some .long)) 513 (by decide +kernel) rfl, ⟨by decide +kernel, by decide⟩⟩
abbrev mX3_forgetTold : xM := (yX3_forgetTold, cX3_forgetTold, 3, none)
theorem kV_X3_forgetTold : xMV mX3_forgetTold 0 := ⟨xtb_in 515 (by decide +kernel) rfl, xtb_in 516 (by decide +kernel) rfl, ii_X3, xtb_in (w := .code yX3_forgetTold cX3_forgetTold 3 none) 517 (by decide +kernel) rfl, ⟨by decide +kernel, by decide⟩⟩
abbrev mX4_leastHours : xM := (yX4_leastHours, cX4_leastHours, 2, (some .int))
theorem kV_X4_leastHours : xMV mX4_leastHours 0 := ⟨xtb_in 519 (by decide +kernel) rfl, xtb_in 520 (by decide +kernel) rfl, ii_X4, xtb_in (w := .code yX4_leastHours cX4_leastHours 2 (some .int)) 521 (by decide +kernel) rfl, ⟨by decide +kernel, by decide⟩⟩
abbrev mX3_plansWithoutShortage : xM := (yX3_plansWithoutShortage, cX3_plansWithoutShortage, 2, (some .boolean))
theorem kV_X3_plansWithoutShortage : xMV mX3_plansWithoutShortage 0 := ⟨xtb_in 523 (by decide +kernel) rfl, xtb_in 524 (by decide +kernel) rfl, ii_X3, xtb_in (w := .code yX3_plansWithoutShortage cX3_plansWithoutShortage 2 (some .boolean)) 525 (by decide +kernel) rfl, ⟨by decide +kernel, by decide⟩⟩
abbrev mX3_isShort : xM := (yX3_isShort, cX3_isShort, 3, (some .boolean))
theorem kV_X3_isShort : xMV mX3_isShort 0 := ⟨xtb_in 528 (by decide +kernel) rfl, xtb_in 5 (by decide +kernel) rfl, ii_X3, xtb_in (w := .code yX3_isShort cX3_isShort 3 (some .boolean)) 529 (by decide +kernel) rfl, ⟨by decide +kernel, by decide⟩⟩
abbrev mX4_roomFor : xM := (yX4_roomFor, cX4_roomFor, 6, (some .int))
theorem kV_X4_roomFor : xMV mX4_roomFor 2 := ⟨xtb_in 531 (by decide +kernel) rfl, xtb_in 532 (by decide +kernel) rfl, ii_X4, xtb_in (w := .code yX4_roomFor cX4_roomFor 6 (some .int)) 533 (by decide +kernel) rfl, ⟨by decide +kernel, by decide⟩⟩
theorem st_min : Cond.static Lib.Math.min.name ∈ xtb := xtb_in 428 (by decide +kernel) rfl
theorem cd_min : Cond.code Lib.Math.min.name Lib.Math.min.code 2 (some .int) ∈ xtb := xtb_in 429 (by decide +kernel) rfl
theorem st_max : Cond.static Lib.Math.max.name ∈ xtb := xtb_in 402 (by decide +kernel) rfl
theorem cd_max : Cond.code Lib.Math.max.name Lib.Math.max.code 2 (some .int) ∈ xtb := xtb_in 403 (by decide +kernel) rfl
theorem st_abs : Cond.static Lib.Math.abs.name ∈ xtb := xtb_in 470 (by decide +kernel) rfl
theorem cd_abs : Cond.code Lib.Math.abs.name Lib.Math.abs.code 1 (some .int) ∈ xtb := xtb_in 471 (by decide +kernel) rfl
theorem st_minL : Cond.static Lib.MathLoose.min_long.x ∈ xtb := xtb_in 431 (by decide +kernel) rfl
theorem cd_minL : Cond.code Lib.MathLoose.min_long.x Lib.MathLoose.min_long.code 4 (some .long) ∈ xtb := xtb_in 432 (by decide +kernel) rfl
theorem oi_in : Cond.instanceMethod Lib.objectInit ∈ xtb := xtb_in 22 (by decide +kernel) rfl
theorem oi_cd : Cond.code Lib.objectInit ⟨#[0xb1]⟩ 1 none ∈ xtb := xtb_in 23 (by decide +kernel) rfl
theorem st_copy : Cond.static arraycopyName ∈ xtb := xtb_in 316 (by decide +kernel) rfl
theorem in_clone : Cond.instanceMethod ⟨"java/lang/Object", "clone", "()Ljava/lang/Object;"⟩ ∈ xtb := xtb_in 35 (by decide +kernel) rfl
end
section
/-! ===== steady state: rows by shorter facts ===== -/
def xOb (n a ci : Nat) : Prop := xSH a = (ci, 0) ∧ 4 ≤ a ∧ a < n
def xAr (n a c len : Nat) : Prop := xSH a = (c, len) ∧ 4 ≤ a ∧ a < n ∧ len ≤ 100000
abbrev xEs (w : Value) (Q : xD → Prop) (r : xR) : Option Value → xD → xR → Prop := fun v D' r' => v = some w ∧ r' = r ∧ Q D'
abbrev xEn (Q : xD → Prop) (r : xR) : Option Value → xD → xR → Prop := fun v D' r' => v = none ∧ r' = r ∧ Q D'
/-- a boolean as a number -/
abbrev bi (c : Prop) [Decidable c] : Int := if c then 1 else 0
theorem bi_I (c : Prop) [Decidable c] : xI (bi c) := by unfold bi; split <;> decide
theorem bi_nar (c : Prop) [Decidable c] : narrow .boolean (vi (bi c)) = vi (bi c) := by unfold bi; split <;> rfl
theorem bi_eq {c c' : Prop} [Decidable c] [Decidable c'] (h : c ↔ c') : bi c = bi c' := by unfold bi; simp [h]
theorem bi1 {c : Prop} [Decidable c] (h : c) : (1 : Int) = bi c := (if_pos h).symm
theorem bi0 {c : Prop} [Decidable c] (h : ¬ c) : (0 : Int) = bi c := (if_neg h).symm
section XW2
variable {γ : xC} {cc : ByteArray} {nL d : Nat} {y : MethodName} {pc q : Nat} {pl : List (Option Value)} {st : List Value} {n z : Nat} {D : xD} {r : xR}
theorem w_getI (hX : xX γ cc nL y d) {idx ci j a : Nat} {fin : Bool} (hf : xFL y.cls idx ci j fin) (hk : xkd (xty ci j) = 0) (hO : xOb n a ci) (hd : decode cc pc = .ok (.getfield idx, 3)) (hq : pc + 3 = q) (k : xV γ q pl (vi (D a j) :: st) (n, z) D r) : xV γ pc pl (.ref a :: st) (n, z) D r := v_getI hX hf hk hO.1 hO.2.1 hO.2.2 hd hq k
theorem w_getL (hX : xX γ cc nL y d) {idx ci j a : Nat} {fin : Bool} (hf : xFL y.cls idx ci j fin) (hk : xkd (xty ci j) = 1) (hO : xOb n a ci) (hd : decode cc pc = .ok (.getfield idx, 3)) (hq : pc + 3 = q) (k : xV γ q pl (vl (D a j) :: st) (n, z) D r) : xV γ pc pl (.ref a :: st) (n, z) D r := v_getL hX hf hk hO.1 hO.2.1 hO.2.2 hd hq k
theorem w_getR (hX : xX γ cc nL y d) {idx ci j a b : Nat} {fin : Bool} (hf : xFL y.cls idx ci j fin) (hk : xkd (xty ci j) = 2) (hO : xOb n a ci) (hr : r a j = some b) (hd : decode cc pc = .ok (.getfield idx, 3)) (hq : pc + 3 = q) (k : xV γ q pl (.ref b :: st) (n, z) D r) : xV γ pc pl (.ref a :: st) (n, z) D r := v_getR hX hf hk hO.1 hO.2.1 hO.2.2 hr hd hq k
theorem w_putI (hX : xX γ cc nL y d) {idx ci j a : Nat} {e : Int} (hf : xFL y.cls idx ci j false) (hk : xty ci j = .int) (hO : xOb n a ci) (hd : decode cc pc = .ok (.putfield idx, 3)) (hq : pc + 3 = q) (k : xV γ q pl st (n, z) (xu D a j e) r) : xV γ pc pl (vi e :: .ref a :: st) (n, z) D r := v_putI hX hf (by rw [hk]; rfl) (by rw [hk]; rfl) (by rw [hk]; rfl) hO.1 hO.2.1 hO.2.2 hd hq k
theorem w_putZ (hX : xX γ cc nL y d) {idx ci j a : Nat} {e : Int} (hf : xFL y.cls idx ci j false) (hk : xty ci j = .boolean) (he : e = 0 ∨ e = 1) (hO : xOb n a ci) (hd : decode cc pc = .ok (.putfield idx, 3)) (hq : pc + 3 = q) (k : xV γ q pl st (n, z) (xu D a j e) r) : xV γ pc pl (vi e :: .ref a :: st) (n, z) D r := v_putI hX hf (by rw [hk]; rfl) (by rw [hk]; rcases he with rfl | rfl <;> rfl) (by rw [hk]; rcases he with rfl | rfl <;> rfl) hO.1 hO.2.1 hO.2.2 hd hq k
theorem w_putL (hX : xX γ cc nL y d) {idx ci j a : Nat} {e : Int} (hf : xFL y.cls idx ci j false) (hk : xty ci j = .long) (hO : xOb n a ci) (hd : decode cc pc = .ok (.putfield idx, 3)) (hq : pc + 3 = q) (k : xV γ q pl st (n, z) (xu D a j e) r) : xV γ pc pl (vl e :: .ref a :: st) (n, z) D r := v_putL hX hf hk hO.1 hO.2.1 hO.2.2 hd hq k
theorem w_ild (hX : xX γ cc nL y d) {a kk len : Nat} {i : Int} (hi : i = (kk : Int)) (hk : kk < len) (hA : xAr n a 10 len) (hd : decode cc pc = .ok (.iaload, 1)) (hq : pc + 1 = q) (k : xV γ q pl (vi (D a kk) :: st) (n, z) D r) : xV γ pc pl (vi i :: .ref a :: st) (n, z) D r := v_iaload hX hi hk hA.2.2.2 hA.1 hA.2.1 hA.2.2.1 hd hq k
theorem w_lld (hX : xX γ cc nL y d) {a kk len : Nat} {i : Int} (hi : i = (kk : Int)) (hk : kk < len) (hA : xAr n a 11 len) (hd : decode cc pc = .ok (.laload, 1)) (hq : pc + 1 = q) (k : xV γ q pl (vl (D a kk) :: st) (n, z) D r) : xV γ pc pl (vi i :: .ref a :: st) (n, z) D r := v_laload hX hi hk hA.2.2.2 hA.1 hA.2.1 hA.2.2.1 hd hq k
theorem w_cld (hX : xX γ cc nL y d) {a kk len : Nat} {i : Int} (hi : i = (kk : Int)) (hk : kk < len) (hA : xAr n a 12 len) (hd : decode cc pc = .ok (.caload, 1)) (hq : pc + 1 = q) (k : xV γ q pl (vi (D a kk) :: st) (n, z) D r) : xV γ pc pl (vi i :: .ref a :: st) (n, z) D r := v_caload hX hi hk hA.2.2.2 hA.1 hA.2.1 hA.2.2.1 hd hq k
theorem w_bld (hX : xX γ cc nL y d) {a kk len : Nat} {i : Int} (hi : i = (kk : Int)) (hk : kk < len) (hA : xAr n a 13 len) (hd : decode cc pc = .ok (.baload, 1)) (hq : pc + 1 = q) (k : xV γ q pl (vi (D a kk) :: st) (n, z) D r) : xV γ pc pl (vi i :: .ref a :: st) (n, z) D r := v_baload hX hi hk hA.2.2.2 hA.1 hA.2.1 hA.2.2.1 hd hq k
theorem w_ald (hX : xX γ cc nL y d) {a kk len b c0 : Nat} {i : Int} (hi : i = (kk : Int)) (hk : kk < len) (hA : xAr n a c0 len) (hc0 : c0 = 14 ∨ c0 = 15) (hr : r a kk = some b) (hd : decode cc pc = .ok (.aaload, 1)) (hq : pc + 1 = q) (k : xV γ q pl (.ref b :: st) (n, z) D r) : xV γ pc pl (vi i :: .ref a :: st) (n, z) D r := v_aaload hX hi hk hA.2.2.2 hA.1 hc0 hA.2.1 hA.2.2.1 hr hd hq k
theorem w_ist (hX : xX γ cc nL y d) {a kk len : Nat} {i v : Int} (hi : i = (kk : Int)) (hk : kk < len) (hA : xAr n a 10 len) (hd : decode cc pc = .ok (.iastore, 1)) (hq : pc + 1 = q) (k : xV γ q pl st (n, z) (xu D a kk v) r) : xV γ pc pl (vi v :: vi i :: .ref a :: st) (n, z) D r := v_iastore hX hi hk hA.2.2.2 hA.1 hA.2.1 hA.2.2.1 hd hq k
theorem w_lst (hX : xX γ cc nL y d) {a kk len : Nat} {i v : Int} (hi : i = (kk : Int)) (hk : kk < len) (hA : xAr n a 11 len) (hd : decode cc pc = .ok (.lastore, 1)) (hq : pc + 1 = q) (k : xV γ q pl st (n, z) (xu D a kk v) r) : xV γ pc pl (vl v :: vi i :: .ref a :: st) (n, z) D r := v_lastore hX hi hk hA.2.2.2 hA.1 hA.2.1 hA.2.2.1 hd hq k
theorem w_cst (hX : xX γ cc nL y d) {a kk len : Nat} {i v : Int} (hi : i = (kk : Int)) (hk : kk < len) (hn : narrow .char (vi v) = vi v) (hA : xAr n a 12 len) (hd : decode cc pc = .ok (.castore, 1)) (hq : pc + 1 = q) (k : xV γ q pl st (n, z) (xu D a kk v) r) : xV γ pc pl (vi v :: vi i :: .ref a :: st) (n, z) D r := v_castore hX hi hk hA.2.2.2 hn hA.1 hA.2.1 hA.2.2.1 hd hq k
theorem w_bst (hX : xX γ cc nL y d) {a kk len : Nat} {i v : Int} (hi : i = (kk : Int)) (hk : kk < len) (hv : v = 0 ∨ v = 1) (hA : xAr n a 13 len) (hd : decode cc pc = .ok (.bastore, 1)) (hq : pc + 1 = q) (k : xV γ q pl st (n, z) (xu D a kk v) r) : xV γ pc pl (vi v :: vi i :: .ref a :: st) (n, z) D r := v_bastore hX hi hk hA.2.2.2 (by rcases hv with rfl | rfl <;> rfl) hA.1 hA.2.1 hA.2.2.1 hd hq k
theorem w_ifeq (hX : xX γ cc nL y d) {c : Prop} [Decidable c] {off : Int} {tgt : Nat} (hd : decode cc pc = .ok (.ifCond .eq off, 3)) (ht : (pc : Int) + off = (tgt : Int)) (hq : pc + 3 = q) (kt : ¬ c → xV γ tgt pl st (n, z) D r) (kf : c → xV γ q pl st (n, z) D r) : xV γ pc pl (vi (bi c) :: st) (n, z) D r :=
  v_if_eq hX (bi_I c) hd ht hq (fun h => kt (fun hc => by rw [← bi1 hc] at h; omega)) (fun h => kf (Classical.byContradiction fun hc => h (bi0 hc).symm))
theorem w_ifne (hX : xX γ cc nL y d) {c : Prop} [Decidable c] {off : Int} {tgt : Nat} (hd : decode cc pc = .ok (.ifCond .ne off, 3)) (ht : (pc : Int) + off = (tgt : Int)) (hq : pc + 3 = q) (kt : c → xV γ tgt pl st (n, z) D r) (kf : ¬ c → xV γ q pl st (n, z) D r) : xV γ pc pl (vi (bi c) :: st) (n, z) D r :=
  v_if_ne hX (bi_I c) hd ht hq (fun h => kt (Classical.byContradiction fun hc => h (bi0 hc).symm)) (fun h => kf (fun hc => by rw [← bi1 hc] at h; omega))
variable {rest As : List Value} {μ : xM} {d' m a idx : Nat}
theorem w_callV (hX : xX γ cc nL y d) {w : Value} (hM : MX d' μ (.ref a :: As) (n, z) D r (n, z) (xP w D r)) (hst : st = As.reverse ++ .ref a :: rest) (hμ : xMV μ m) (hn : As.length = m) (hdd : d' + 1 ≤ d) (hlk : Cond.methodLink y.cls idx μ.1 ∈ xtb) {ci : Nat} (hci : ci < 5) (hcn : xcn ci = μ.1.cls) (hO : xOb n a ci)
    (hrest : (rest.map Value.category).sum ≤ 8) (hd : decode cc pc = .ok (.invokevirtual idx, 3)) (hq : pc + 3 = q) (k : xV γ q pl (w :: rest) (n, z) D r) : xV γ pc pl st (n, z) D r :=
  v_callV hX hM hst hμ hn hdd hlk hci hcn hO.1 hO.2.1 hO.2.2 hrest hd hq (fun v D' r' h => by obtain ⟨rfl, rfl, rfl⟩ := h; exact k)
theorem w_callVe (hX : xX γ cc nL y d) {w : Value} {Q : xD → Prop} (hM : MX d' μ (.ref a :: As) (n, z) D r (n, z) (xEs w Q r)) (hst : st = As.reverse ++ .ref a :: rest) (hμ : xMV μ m) (hn : As.length = m) (hdd : d' + 1 ≤ d) (hlk : Cond.methodLink y.cls idx μ.1 ∈ xtb) {ci : Nat} (hci : ci < 5) (hcn : xcn ci = μ.1.cls) (hO : xOb n a ci)
    (hrest : (rest.map Value.category).sum ≤ 8) (hd : decode cc pc = .ok (.invokevirtual idx, 3)) (hq : pc + 3 = q) (k : ∀ D', Q D' → xV γ q pl (w :: rest) (n, z) D' r) : xV γ pc pl st (n, z) D r :=
  v_callV hX hM hst hμ hn hdd hlk hci hcn hO.1 hO.2.1 hO.2.2 hrest hd hq (fun v D' r' h => by obtain ⟨rfl, rfl, hQ⟩ := h; exact k D' hQ)
theorem w_callVn (hX : xX γ cc nL y d) {Q : xD → Prop} (hM : MX d' μ (.ref a :: As) (n, z) D r (n, z) (xEn Q r)) (hst : st = As.reverse ++ .ref a :: rest) (hμ : xMV μ m) (hn : As.length = m) (hdd : d' + 1 ≤ d) (hlk : Cond.methodLink y.cls idx μ.1 ∈ xtb) {ci : Nat} (hci : ci < 5) (hcn : xcn ci = μ.1.cls) (hO : xOb n a ci)
    (hrest : (rest.map Value.category).sum ≤ 8) (hd : decode cc pc = .ok (.invokevirtual idx, 3)) (hq : pc + 3 = q) (k : ∀ D', Q D' → xV γ q pl rest (n, z) D' r) : xV γ pc pl st (n, z) D r :=
  v_callV hX hM hst hμ hn hdd hlk hci hcn hO.1 hO.2.1 hO.2.2 hrest hd hq (fun v D' r' h => by obtain ⟨rfl, rfl, hQ⟩ := h; exact k D' hQ)
theorem w_callS (hX : xX γ cc nL y d) {w : Value} (hM : MX d' μ As (n, z) D r (n, z) (xP w D r)) (hst : st = As.reverse ++ rest) (hμ : xMS μ m) (hn : As.length = m) (hdd : d' + 1 ≤ d) (hlk : Cond.methodLink y.cls idx μ.1 ∈ xtb)
    (hrest : (rest.map Value.category).sum ≤ 8) (hd : decode cc pc = .ok (.invokestatic idx, 3)) (hq : pc + 3 = q) (k : xV γ q pl (w :: rest) (n, z) D r) : xV γ pc pl st (n, z) D r :=
  v_callS hX hM hst hμ hn hdd hlk hrest hd hq (fun v D' r' h => by obtain ⟨rfl, rfl, rfl⟩ := h; exact k)
theorem w_callSN (hX : xX γ cc nL y d) {w : Value} (hM : MX d' μ As (n, z) D r (n, z) (xP w D r)) (hst : st = As.reverse ++ rest) (hμ : xMS μ m) (hn : As.length = m) (hdd : d' + 1 ≤ d) (hlk : ∀ ω U H, xKF ω U H → va_Nw (.methodLinkNest y.cls idx μ.1 "LotFences") U)
    (hrest : (rest.map Value.category).sum ≤ 8) (hd : decode cc pc = .ok (.invokestatic idx, 3)) (hq : pc + 3 = q) (k : xV γ q pl (w :: rest) (n, z) D r) : xV γ pc pl st (n, z) D r :=
  v_callSN hX hM hst hμ hn hdd hlk hrest hd hq (fun v D' r' h => by obtain ⟨rfl, rfl, rfl⟩ := h; exact k)
end XW2
/-- a loop that counts up -/
theorem xup {P : Nat → Prop} (N : Nat) (h : ∀ k, k ≤ N → (k < N → P (k + 1)) → P k) : ∀ k, k ≤ N → P k := by
  have key : ∀ m k, k ≤ N → N - k = m → P k := by
    intro m
    induction m with
    | zero => intro k hk hm; exact h k hk (fun hlt => by omega)
    | succ m ih => intro k hk hm; exact h k hk (fun hlt => ih (k + 1) (by omega) (by omega))
  exact fun k hk => key _ k hk rfl
/-- a whole row of the memory becomes another -/
def xw (D : xD) (a : Nat) (f : Nat → Int) : xD := fun q => if q = a then f else D q
theorem xw_at (D : xD) (a : Nat) (f : Nat → Int) : xw D a f a = f := if_pos rfl
theorem xw_ne (D : xD) (a : Nat) (f : Nat → Int) {q : Nat} (h : q ≠ a) : xw D a f q = D q := if_neg h
theorem xw_xw (D : xD) (a : Nat) (f g : Nat → Int) : xw (xw D a f) a g = xw D a g := by funext q; unfold xw; split <;> rfl
theorem xw_self (D : xD) (a : Nat) : xw D a (D a) = D := by funext q; unfold xw; split <;> simp_all
/-- one number of a row becomes another -/
def fu (f : Nat → Int) (j : Nat) (e : Int) : Nat → Int := fun i => if i = j then e else f i
theorem fu_at (f : Nat → Int) (j : Nat) (e : Int) : fu f j e j = e := if_pos rfl
theorem fu_ne (f : Nat → Int) (j : Nat) (e : Int) {i : Nat} (h : i ≠ j) : fu f j e i = f i := if_neg h
theorem xu_xw (D : xD) (a j : Nat) (e : Int) : xu D a j e = xw D a (fu (D a) j e) := by
  funext q; unfold xu xw fu
  by_cases h : q = a
  · subst h; simp
  · simp [h]
theorem xu_xw' (D : xD) (a j : Nat) (e : Int) (f : Nat → Int) : xu (xw D a f) a j e = xw D a (fu f j e) := by rw [xu_xw, xw_xw, xw_at]
/-- fewer locals are known -/
def xle : List (Option Value) → List (Option Value) → Prop
  | [], _ => True
  | none :: xs, _ :: ys => xle xs ys
  | some a :: xs, some b :: ys => b = a ∧ xle xs ys
  | _, _ => False
theorem xle_get : ∀ (pl' pl : List (Option Value)), xle pl' pl → ∀ (k : Nat) (v : Value), xlg pl' k = some v → xlg pl k = some v := by
  intro pl'
  induction pl' with
  | nil => intro pl _ k v h; simp [xlg] at h
  | cons x xs ih =>
    intro pl hle k v h
    cases pl with
    | nil => cases x <;> simp [xle] at hle
    | cons y ys =>
      cases x with
      | none =>
        cases k with
        | zero => simp [xlg] at h
        | succ k => exact ih ys hle k v h
      | some a =>
        cases y with
        | none => simp [xle] at hle
        | some b =>
          obtain ⟨e, hle⟩ := hle
          cases k with
          | zero => rw [show xlg (some b :: ys) 0 = some b from rfl, e]; exact h
          | succ k => exact ih ys hle k v h
theorem xVw {γ : xC} {pc : Nat} {pl pl' : List (Option Value)} {st : List Value} {σ : Nat × Nat} {D : xD} {r : xR} (h : xle pl' pl) (k : xV γ pc pl' st σ D r) : xV γ pc pl st σ D r := by
  obtain ⟨p, l, e, R, s, m, args, below, meth, c, Q, ω, n0, z0, n1, z1⟩ := γ
  intro g1 g2 g3 g4 H locs ls hR hS hL
  refine k g1 g2 g3 g4 H locs ls hR hS ⟨hL.1, hL.2.1, fun q hq => hL.2.2 q ?_⟩
  obtain ⟨j, w, h1, h2, h3⟩ := (xll_mem pl' 0 q).mp hq
  exact (xll_mem pl 0 q).mpr ⟨j, w, h1, xle_get pl' pl h j w h2, h3⟩
end
section
def xRM (_ : xR) : Prop := True
/-- a number of a product in the plain state -/
abbrev pF (N : Nat → Int) (p i : Nat) : Int := N (18 + 36 * p + i)
end
section
/-- a product's numbers are in their ranges (stock and backlog: B at most) -/
def pOk (B : Int) (N : Nat → Int) (p : Nat) : Prop := (0 ≤ pF N p 0 ∧ pF N p 0 ≤ 3) ∧ (1 ≤ pF N p 1 ∧ pF N p 1 ≤ 100) ∧ (1 ≤ pF N p 2 ∧ pF N p 2 ≤ 50) ∧ (0 ≤ pF N p 3 ∧ pF N p 3 ≤ 20) ∧ (0 ≤ pF N p 4 ∧ pF N p 4 ≤ B) ∧ (0 ≤ pF N p 5 ∧ pF N p 5 ≤ B) ∧ (0 ≤ pF N p 6 ∧ pF N p 6 ≤ 2000)
  ∧ (pF N p 7 = -6 ∨ (0 ≤ pF N p 7 ∧ pF N p 7 ≤ 2000)) ∧ (∀ k, k < 12 → 0 ≤ pF N p (12 + k) ∧ pF N p (12 + k) ≤ 1000) ∧ ∀ k, k < 12 → 0 ≤ pF N p (24 + k) ∧ pF N p (24 + k) ≤ 1000
def nOk (B : Int) (np : Nat) (N : Nat → Int) : Prop := (0 ≤ B ∧ B ≤ 2100000000) ∧ N 1 = (np : Int) ∧ np ≤ 10 ∧ ((0 ≤ N 5 ∧ N 5 ≤ 1000) ∧ (0 ≤ N 6 ∧ N 6 ≤ 500) ∧ (0 ≤ N 7 ∧ N 7 ≤ 8) ∧ (1 ≤ N 8 ∧ N 8 ≤ 6) ∧ (0 ≤ N 9 ∧ N 9 ≤ 400) ∧ (0 ≤ N 10 ∧ N 10 ≤ 1000) ∧ (0 ≤ N 11 ∧ N 11 ≤ 100) ∧ (0 ≤ N 12 ∧ N 12 ≤ 100) ∧ (0 ≤ N 13 ∧ N 13 ≤ 100))
  ∧ (∀ f, f < 4 → 0 ≤ N (14 + f) ∧ N (14 + f) ≤ 50) ∧ ∀ p, p < np → pOk B N p
theorem nOk.lots {B : Int} {np : Nat} {N : Nat → Int} (h : nOk B np N) {p k : Nat} (hp : p < np) (hk : k < 12) : 0 ≤ pF N p (24 + k) ∧ pF N p (24 + k) ≤ 1000 := (h.2.2.2.2.2 p hp).2.2.2.2.2.2.2.2.2 k hk
theorem nOk.fc {B : Int} {np : Nat} {N : Nat → Int} (h : nOk B np N) {p k : Nat} (hp : p < np) (hk : k < 12) : 0 ≤ pF N p (12 + k) ∧ pF N p (12 + k) ≤ 1000 := (h.2.2.2.2.2 p hp).2.2.2.2.2.2.2.2.1 k hk
theorem nOk.np {B : Int} {np : Nat} {N : Nat → Int} (h : nOk B np N) : N 1 = (np : Int) ∧ np ≤ 10 := ⟨h.2.1, h.2.2.1⟩
theorem bor16 : ∀ a, a < 16 → ∀ b, b < 16 → Int32.ofInt ((a : Nat) : Int) ||| Int32.ofInt ((b : Nat) : Int) = Int32.ofInt ((a ||| b : Nat) : Int) := by decide +kernel
theorem bshl4 : ∀ f, f < 4 → Int32.ofInt 1 <<< (Int32.ofInt ((f : Nat) : Int) &&& 31) = Int32.ofInt ((2 ^ f : Nat) : Int) := by decide +kernel
theorem bshr4 : ∀ m, m < 16 → ∀ f, f < 4 → Int32.ofInt ((m : Nat) : Int) >>> (Int32.ofInt ((f : Nat) : Int) &&& 31) = Int32.ofInt ((m >>> f : Nat) : Int) := by decide +kernel
theorem band1 : ∀ m, m < 16 → Int32.ofInt ((m : Nat) : Int) &&& Int32.ofInt 1 = Int32.ofInt ((m % 2 : Nat) : Int) := by decide +kernel
theorem or_lt16 {a b : Nat} (ha : a < 16) (hb : b < 16) : a ||| b < 16 := Nat.or_lt_two_pow (n := 4) ha hb
theorem p2_lt16 : ∀ f, f < 4 → 2 ^ f < 16 := by decide
/-- the families of the first k products with lots in a week -/
def nMask (N : Nat → Int) (w : Nat) : Nat → Nat
  | 0 => 0
  | k + 1 => if 0 < pF N k (24 + w) then nMask N w k ||| 2 ^ (pF N k 0).toNat else nMask N w k
theorem nOk.fam {B : Int} {np : Nat} {N : Nat → Int} (h : nOk B np N) {p : Nat} (hp : p < np) : ∃ f : Nat, pF N p 0 = (f : Int) ∧ f < 4 ∧ (pF N p 0).toNat = f := by
  have h1 := (h.2.2.2.2.2 p hp).1
  exact ⟨(pF N p 0).toNat, by omega, by omega, rfl⟩
theorem nMask_lt {B : Int} {np : Nat} {N : Nat → Int} (h : nOk B np N) (w : Nat) : ∀ k, k ≤ np → nMask N w k < 16 := by
  intro k
  induction k with
  | zero => intro _; show (0 : Nat) < 16; decide
  | succ k ih =>
    intro hk
    have h1 := ih (by omega)
    obtain ⟨f, -, h2, h3⟩ := h.fam (p := k) (by omega)
    unfold nMask
    split
    · rw [h3]; exact or_lt16 h1 (p2_lt16 f h2)
    · exact h1
/-- the hours of the first k products in a week -/
def nHrs (N : Nat → Int) (w : Nat) : Nat → Int
  | 0 => 0
  | k + 1 => nHrs N w k + (if 0 < pF N k (24 + w) then pF N k 3 + pF N k (24 + w) * pF N k 2 else 0)
/-- the hours of the first k families of a set -/
def nFh (N : Nat → Int) (m : Nat) : Nat → Int
  | 0 => 0
  | f + 1 => nFh N m f + (if m >>> f % 2 = 1 then N (14 + f) else 0)
def nHours (N : Nat → Int) (np w : Nat) : Int := nHrs N w np + nFh N (nMask N w np) 4
def nMade (N : Nat → Int) (w : Nat) : Nat → Int
  | 0 => 0
  | k + 1 => nMade N w k + (if 0 < pF N k (24 + w) then 1 else 0)
def nBits (m : Nat) : Nat → Nat
  | 0 => 0
  | f + 1 => nBits m f + m >>> f % 2
def nSetups (N : Nat → Int) (np w : Nat) : Int := nMade N w np + ((nBits (nMask N w np) 4 : Nat) : Int)
theorem nHrs_le {B : Int} {np : Nat} {N : Nat → Int} (h : nOk B np N) {w : Nat} (hw : w < 12) : ∀ k, k ≤ np → 0 ≤ nHrs N w k ∧ nHrs N w k ≤ 50020 * k := by
  intro k
  induction k with
  | zero => intro _; unfold nHrs; omega
  | succ k ih =>
    intro hk
    have h1 := ih (by omega)
    obtain ⟨-, -, h2, h3, -⟩ := h.2.2.2.2.2 k (by omega)
    have h4 := h.lots (p := k) (by omega) hw
    have h5 : 0 ≤ pF N k (24 + w) * pF N k 2 := Int.mul_nonneg h4.1 (by omega)
    have h6 : pF N k (24 + w) * pF N k 2 ≤ 1000 * 50 := Int.mul_le_mul h4.2 h2.2 (by omega) (by omega)
    unfold nHrs
    split <;> omega
theorem nFh_le {B : Int} {np : Nat} {N : Nat → Int} (h : nOk B np N) (m : Nat) : ∀ f, f ≤ 4 → 0 ≤ nFh N m f ∧ nFh N m f ≤ 50 * f := by
  intro f
  induction f with
  | zero => intro _; unfold nFh; omega
  | succ f ih =>
    intro hf
    have h1 := ih (by omega)
    have h2 := h.2.2.2.2.1 f (by omega)
    unfold nFh
    split <;> omega
theorem nHours_le {B : Int} {np : Nat} {N : Nat → Int} (h : nOk B np N) {w : Nat} (hw : w < 12) : 0 ≤ nHours N np w ∧ nHours N np w ≤ 500400 := by
  have h1 := nHrs_le h hw np (Nat.le_refl _)
  have h2 := nFh_le h (nMask N w np) 4 (Nat.le_refl _)
  have h3 := h.np.2
  unfold nHours
  omega
theorem nBits_le (m : Nat) : ∀ k, nBits m k ≤ k := by
  intro k
  induction k with
  | zero => exact Nat.le_refl _
  | succ k ih => unfold nBits; omega
end
section
def nOver (N : Nat → Int) (np w : Nat) : Int := if 0 < nHours N np w - N 5 then nHours N np w - N 5 else 0
/-- stock less backlog, and what the first k weeks bring -/
def nPj (N : Nat → Int) (p : Nat) : Nat → Int
  | 0 => pF N p 4 - pF N p 5
  | k + 1 => nPj N p k + (pF N p (24 + k) * pF N p 1 - pF N p (12 + k))
theorem nPj_le {B : Int} {np : Nat} {N : Nat → Int} (h : nOk B np N) {p : Nat} (hp : p < np) : ∀ k, k ≤ 12 → -B - 1000 * k ≤ nPj N p k ∧ nPj N p k ≤ B + 100000 * k := by
  intro k
  obtain ⟨-, h1, -, -, h4, h5, -⟩ := h.2.2.2.2.2 p hp
  induction k with
  | zero => intro _; unfold nPj; omega
  | succ k ih =>
    intro hk
    have e := ih (by omega)
    have h2 := h.lots hp (k := k) (by omega)
    have h3 := h.fc hp (k := k) (by omega)
    have h6 : 0 ≤ pF N p (24 + k) * pF N p 1 := Int.mul_nonneg h2.1 (by omega)
    have h7 : pF N p (24 + k) * pF N p 1 ≤ 1000 * 100 := Int.mul_le_mul h2.2 h1.2 (by omega) (by omega)
    unfold nPj
    omega
def nCov (N : Nat → Int) (p : Nat) : Int := pF N p 6 * N 9 / 100
theorem nCov_le {B : Int} {np : Nat} {N : Nat → Int} (h : nOk B np N) {p : Nat} (hp : p < np) : (0 ≤ pF N p 6 * N 9 ∧ pF N p 6 * N 9 ≤ 800000) ∧ 0 ≤ nCov N p ∧ nCov N p ≤ 8000 := by
  obtain ⟨-, -, -, -, -, -, h6, -⟩ := h.2.2.2.2.2 p hp
  have h9 := h.2.2.2.1.2.2.2.2.1
  have h1 : 0 ≤ pF N p 6 * N 9 := Int.mul_nonneg h6.1 h9.1
  have h2 : pF N p 6 * N 9 ≤ 2000 * 400 := Int.mul_le_mul h6.2 h9.2 h9.1 (by omega)
  unfold nCov
  omega
/-- the hours that are left for one more lot, its setups taken off -/
def nLeft (N : Nat → Int) (np p w : Nat) : Int := N 5 + N 6 - nHours N np w - (if 0 < pF N p (24 + w) then 0 else pF N p 3 + (if nMask N w np >>> (pF N p 0).toNat % 2 = 1 then 0 else N (14 + (pF N p 0).toNat)))
def nRoom (N : Nat → Int) (np p w : Nat) : Int :=
  if (if 0 < nLeft N np p w then nLeft N np p w / pF N p 2 else 0) < 1000 - pF N p (24 + w) then (if 0 < nLeft N np p w then nLeft N np p w / pF N p 2 else 0) else 1000 - pF N p (24 + w)
theorem nLeft_le {B : Int} {np : Nat} {N : Nat → Int} (h : nOk B np N) {p w : Nat} (hp : p < np) (hw : w < 12) : -500600 ≤ nLeft N np p w ∧ nLeft N np p w ≤ 1500 := by
  have h1 := nHours_le h hw
  have hs := h.2.2.2.1
  obtain ⟨f, hf1, hf2, hf3⟩ := h.fam hp
  obtain ⟨-, -, -, h3, -⟩ := h.2.2.2.2.2 p hp
  have h4 := h.2.2.2.2.1 f hf2
  unfold nLeft
  rw [hf3]
  split
  · omega
  · split <;> omega
theorem div_le_self' {a b : Int} (ha : 0 ≤ a) (hb : 1 ≤ b) : 0 ≤ a / b ∧ a / b ≤ a := ⟨Int.ediv_nonneg ha (by omega), Int.ediv_le_self b ha⟩
end
section
/-- the forecasts of the weeks from the a-th on, n of them, as far as there are such weeks -/
def nFcs (N : Nat → Int) (p a : Nat) : Nat → Int
  | 0 => 0
  | n + 1 => nFcs N p a n + (if a + n < 12 then pF N p (12 + (a + n)) else 0)
def nUnits (N : Nat → Int) (p w : Nat) : Int := nCov N p - nPj N p (w + 1) + nFcs N p (w + 1) (N 8 - 1).toNat
def nWant (N : Nat → Int) (p w : Nat) : Int := (nUnits N p w + pF N p 1 - 1) / pF N p 1
theorem nFcs_le {B : Int} {np : Nat} {N : Nat → Int} (h : nOk B np N) {p : Nat} (hp : p < np) (a : Nat) : ∀ n, 0 ≤ nFcs N p a n ∧ nFcs N p a n ≤ 1000 * n := by
  intro n
  induction n with
  | zero => unfold nFcs; omega
  | succ n ih =>
    unfold nFcs
    split
    · rename_i hk
      have := h.fc hp hk
      omega
    · omega
theorem nUnits_le {B : Int} {np : Nat} {N : Nat → Int} (h : nOk B np N) {p w : Nat} (hp : p < np) (hw : w < 12) (hl : nPj N p (w + 1) < nCov N p) : 0 < nUnits N p w ∧ nUnits N p w ≤ B + 40000 := by
  have h1 := nPj_le h hp (w + 1) (by omega)
  have h2 := nCov_le h hp
  have h3 := nFcs_le h hp (w + 1) (N 8 - 1).toNat
  have h4 := h.2.2.2.1.2.2.2.1
  unfold nUnits
  omega
/-- the one that lacks most of the first k, of those that were not asked yet; -6: none -/
def nNext (N : Nat → Int) (w asked : Nat) : Nat → Int
  | 0 => -6
  | k + 1 => if (asked >>> k % 2 = 0 ∧ nPj N k (w + 1) < nCov N k) ∧ (nNext N w asked k = -6 ∨ nPj N k (w + 1) < nPj N (nNext N w asked k).toNat (w + 1)) then (k : Int) else nNext N w asked k
theorem nNext_in (N : Nat → Int) (w asked : Nat) : ∀ k, nNext N w asked k = -6 ∨ ∃ b : Nat, nNext N w asked k = (b : Int) ∧ b < k ∧ asked >>> b % 2 = 0 ∧ nPj N b (w + 1) < nCov N b := by
  intro k
  induction k with
  | zero => exact Or.inl rfl
  | succ k ih =>
    unfold nNext
    split
    · rename_i h; exact Or.inr ⟨k, rfl, by omega, h.1.1, h.1.2⟩
    · rcases ih with h | ⟨b, h1, h2, h3⟩
      · exact Or.inl h
      · exact Or.inr ⟨b, h1, by omega, h3⟩
def nLotsP (N : Nat → Int) (p : Nat) : Nat → Int
  | 0 => 0
  | k + 1 => nLotsP N p k + pF N p (24 + k)
def nLots (N : Nat → Int) : Nat → Int
  | 0 => 0
  | p + 1 => nLots N p + nLotsP N p 12
def nSum (N : Nat → Int) (i : Nat) : Nat → Int
  | 0 => 0
  | p + 1 => nSum N i p + pF N p i
/-- no projection of a product behind a week from the f-th on, ahead of the k-th, is below 0 -/
def nDoW (N : Nat → Int) (p f : Nat) : Nat → Bool
  | 0 => true
  | n + 1 => nDoW N p f n && decide (0 ≤ nPj N p (f + n + 1))
def nDo (N : Nat → Int) (f : Nat) : Nat → Bool
  | 0 => true
  | p + 1 => nDo N f p && nDoW N p f (12 - f)
end
section
/-- the numbers of a product -/
def nRec (N : Nat → Int) (p : Nat) : Nat → Int := fun j => pF N p j
def nUpd (N : Nat → Int) (p : Nat) (f : Nat → Int) : Nat → Int := fun i => if 18 + 36 * p ≤ i ∧ i < 18 + 36 * p + 36 then f (i - (18 + 36 * p)) else N i
def nMap (N : Nat → Int) (k : Nat) (F : (Nat → Int) → Nat → Int) : Nat → Int := fun i => if 18 ≤ i ∧ i < 18 + 36 * k then F (nRec N ((i - 18) / 36)) ((i - 18) % 36) else N i
theorem nUpd_at (N : Nat → Int) (p : Nat) (f : Nat → Int) {j : Nat} (h : j < 36) : pF (nUpd N p f) p j = f j := by
  unfold nUpd pF
  dsimp only
  rw [if_pos (by omega), show 18 + 36 * p + j - (18 + 36 * p) = j by omega]
theorem nUpd_ne (N : Nat → Int) {p q : Nat} (f : Nat → Int) {j : Nat} (h : q ≠ p) (hj : j < 36) : pF (nUpd N p f) q j = pF N q j := if_neg (by omega)
theorem nMap_0 (N : Nat → Int) (F : (Nat → Int) → Nat → Int) : nMap N 0 F = N := by funext i; exact if_neg (by omega)
theorem nMap_at (N : Nat → Int) {k p : Nat} (F : (Nat → Int) → Nat → Int) {j : Nat} (hp : p < k) (hj : j < 36) : pF (nMap N k F) p j = F (nRec N p) j := by
  unfold nMap pF
  dsimp only
  rw [if_pos (by omega), show (18 + 36 * p + j - 18) / 36 = p by omega, show (18 + 36 * p + j - 18) % 36 = j by omega]
theorem nMap_ge (N : Nat → Int) {k p : Nat} (F : (Nat → Int) → Nat → Int) {j : Nat} (hp : k ≤ p) : pF (nMap N k F) p j = pF N p j := if_neg (by omega)
theorem nMap_hd (N : Nat → Int) (k : Nat) (F : (Nat → Int) → Nat → Int) {i : Nat} (h : i < 18) : nMap N k F i = N i := if_neg (by omega)
theorem nMap_succ (N : Nat → Int) (k : Nat) (F : (Nat → Int) → Nat → Int) : nUpd (nMap N k F) k (F (nRec (nMap N k F) k)) = nMap N (k + 1) F := by
  have h0 : nRec (nMap N k F) k = nRec N k := by funext j; exact nMap_ge N F (Nat.le_refl k)
  rw [h0]
  funext i
  unfold nUpd nMap
  by_cases h1 : 18 + 36 * k ≤ i ∧ i < 18 + 36 * k + 36
  · rw [if_pos h1, if_pos (by omega), show (i - 18) / 36 = k by omega, show (i - 18) % 36 = i - (18 + 36 * k) by omega]
  · rw [if_neg h1]
    by_cases h2 : 18 ≤ i ∧ i < 18 + 36 * k
    · rw [if_pos h2, if_pos (by omega)]
    · rw [if_neg h2, if_neg (by omega)]
def rCame (q : Nat → Int) : Int := if q 7 = -6 then q 12 else q 7
def rWant (q : Nat → Int) : Int := rCame q + q 5
def rHave (q : Nat → Int) : Int := q 4 + q 24 * q 1
def rSent (q : Nat → Int) : Int := if rWant q < rHave q then rWant q else rHave q
def rOff (q : Nat → Int) : Int := if q 12 < rCame q then rCame q - q 12 else q 12 - rCame q
def rShip (q : Nat → Int) : Nat → Int := fu (fu (fu (fu (fu (fu q 4 (rHave q - rSent q)) 5 (rWant q - rSent q)) 6 ((7 * q 6 + rOff q + 7) / 8)) 8 (q 8 + q 24 * q 1)) 9 (q 9 + rSent q)) 10 (q 10 + rCame q)
/-- the first k weeks have rolled on -/
def rRl (q : Nat → Int) (k : Nat) : Nat → Int := fun j => if (12 ≤ j ∧ j < 12 + k) ∨ (24 ≤ j ∧ j < 24 + k) then q (j + 1) else q j
def rRoll (q : Nat → Int) : Nat → Int := fu (fu (rRl q 11) 35 0) 7 (-6)
end
section
theorem bit_at (x k : Nat) : x >>> k % 2 = (x.testBit k).toNat := by rw [Nat.toNat_testBit, Nat.shiftRight_eq_div_pow]
theorem bit_or (m b k : Nat) : (m ||| 2 ^ b) >>> k % 2 = if k = b then 1 else m >>> k % 2 := by
  rw [bit_at, bit_at, Nat.testBit_or, Nat.testBit_two_pow]
  by_cases h : k = b
  · subst h; simp
  · rw [if_neg h]; simp [Ne.symm h]
def nFree (asked : Nat) : Nat → Nat
  | 0 => 0
  | k + 1 => nFree asked k + (if asked >>> k % 2 = 0 then 1 else 0)
theorem nFree_hi (asked b : Nat) : ∀ k, k ≤ b → nFree (asked ||| 2 ^ b) k = nFree asked k := by
  intro k
  induction k with
  | zero => intro _; rfl
  | succ k ih => intro h; unfold nFree; rw [ih (by omega), bit_or, if_neg (show ¬ k = b by omega)]
theorem nFree_or (asked b : Nat) (h0 : asked >>> b % 2 = 0) : ∀ k, b < k → nFree (asked ||| 2 ^ b) k + 1 = nFree asked k := by
  intro k
  induction k with
  | zero => intro h; omega
  | succ k ih =>
    intro h
    unfold nFree
    by_cases hk : k = b
    · subst hk
      rw [nFree_hi _ _ _ (Nat.le_refl _), bit_or, if_pos rfl, if_pos h0]; simp
    · have := ih (by omega)
      rw [bit_or, if_neg hk]
      omega
theorem nFree_0 : ∀ k, nFree 0 k = k := by
  intro k
  induction k with
  | zero => rfl
  | succ k ih => unfold nFree; rw [ih, Nat.zero_shiftRight]; rfl
/-- the lots that a product gets in a week -/
def nGive (N : Nat → Int) (np p w : Nat) : Int := if nWant N p w < nRoom N np p w then nWant N p w else nRoom N np p w
/-- a week is planned: m products are still to be asked at most -/
def nPW (np w : Nat) : Nat → Nat → (Nat → Int) → Nat → Int
  | 0, _, N => N
  | m + 1, asked, N => if nNext N w asked np = -6 then N else nPW np w m (asked ||| 2 ^ (nNext N w asked np).toNat) (fu N (18 + 36 * (nNext N w asked np).toNat + (24 + w)) (nGive N np (nNext N w asked np).toNat w))
theorem pF_fuP (N : Nat → Int) (p a : Nat) (e : Int) {q j : Nat} (ha : a < 36) (hj : j < 36) : pF (fu N (18 + 36 * p + a) e) q j = if q = p ∧ j = a then e else pF N q j := by
  show (if 18 + 36 * q + j = 18 + 36 * p + a then e else N (18 + 36 * q + j)) = _
  by_cases h : q = p ∧ j = a
  · rw [if_pos h, if_pos (by omega)]
  · rw [if_neg h, if_neg (by omega)]
theorem nOk.put {B : Int} {np : Nat} {N : Nat → Int} (h : nOk B np N) {p k : Nat} {v : Int} (hp : p < np) (hk : k < 12) (hv : 0 ≤ v ∧ v ≤ 1000) : nOk B np (fu N (18 + 36 * p + (24 + k)) v) := by
  obtain ⟨h1, h2, h3, h4, h5, h6⟩ := h
  have hd : ∀ i, i < 18 → fu N (18 + 36 * p + (24 + k)) v i = N i := fun i hi => fu_ne N _ v (by omega)
  refine ⟨h1, by rw [hd 1 (by decide)]; exact h2, h3, ?_, fun f hf => by rw [hd _ (by omega)]; exact h5 f hf, fun q hq => ?_⟩
  · rw [hd 5 (by decide), hd 6 (by decide), hd 7 (by decide), hd 8 (by decide), hd 9 (by decide), hd 10 (by decide), hd 11 (by decide), hd 12 (by decide), hd 13 (by decide)]
    exact h4
  · have hq0 := h6 q hq
    have e : ∀ j, j < 36 → pF (fu N (18 + 36 * p + (24 + k)) v) q j = if q = p ∧ j = 24 + k then v else pF N q j := fun j hj => pF_fuP N p _ v (by omega) hj
    unfold pOk
    rw [e 0 (by decide), e 1 (by decide), e 2 (by decide), e 3 (by decide), e 4 (by decide), e 5 (by decide), e 6 (by decide), e 7 (by decide)]
    simp only [show ¬ (q = p ∧ 0 = 24 + k) by omega, show ¬ (q = p ∧ 1 = 24 + k) by omega, show ¬ (q = p ∧ 2 = 24 + k) by omega, show ¬ (q = p ∧ 3 = 24 + k) by omega, show ¬ (q = p ∧ 4 = 24 + k) by omega, show ¬ (q = p ∧ 5 = 24 + k) by omega, show ¬ (q = p ∧ 6 = 24 + k) by omega, show ¬ (q = p ∧ 7 = 24 + k) by omega, if_false]
    obtain ⟨a1, a2, a3, a4, a5, a6, a7, a8, a9, a10⟩ := hq0
    refine ⟨a1, a2, a3, a4, a5, a6, a7, a8, fun i hi => ?_, fun i hi => ?_⟩
    · rw [e _ (by omega), if_neg (by omega)]; exact a9 i hi
    · rw [e _ (by omega)]
      split
      · exact hv
      · exact a10 i hi
theorem nRoom_le {B : Int} {np : Nat} {N : Nat → Int} (h : nOk B np N) {p w : Nat} (hp : p < np) (hw : w < 12) : 0 ≤ nRoom N np p w ∧ nRoom N np p w ≤ 1000 := by
  have hl := h.lots hp hw
  obtain ⟨-, -, h2, -⟩ := h.2.2.2.2.2 p hp
  have h0 : 0 ≤ (if 0 < nLeft N np p w then nLeft N np p w / pF N p 2 else 0) := by
    split
    · exact Int.ediv_nonneg (by omega) (by omega)
    · omega
  unfold nRoom
  split <;> omega
theorem nWant_le {B : Int} {np : Nat} {N : Nat → Int} (h : nOk B np N) {p w : Nat} (hp : p < np) (hw : w < 12) (hl : nPj N p (w + 1) < nCov N p) : 0 ≤ nWant N p w ∧ nWant N p w ≤ B + 40100 := by
  have h1 := nUnits_le h hp hw hl
  obtain ⟨-, h2, -⟩ := h.2.2.2.2.2 p hp
  have h3 := div_le_self' (a := nUnits N p w + pF N p 1 - 1) (b := pF N p 1) (by omega) h2.1
  unfold nWant
  omega
theorem nGive_le {B : Int} {np : Nat} {N : Nat → Int} (h : nOk B np N) {p w : Nat} (hp : p < np) (hw : w < 12) (hl : nPj N p (w + 1) < nCov N p) : 0 ≤ nGive N np p w ∧ nGive N np p w ≤ 1000 := by
  have h1 := nRoom_le h hp hw
  have h2 := nWant_le h hp hw hl
  unfold nGive
  split <;> omega
theorem nPW_ok {B : Int} {np w : Nat} (hw : w < 12) : ∀ m asked N, nOk B np N → nOk B np (nPW np w m asked N) := by
  intro m
  induction m with
  | zero => intro asked N h; exact h
  | succ m ih =>
    intro asked N h
    unfold nPW
    split
    · exact h
    · rename_i h6
      obtain ⟨b, h1, h2, h3, h4⟩ := (nNext_in N w asked np).resolve_left h6
      rw [h1]
      exact ih _ _ (h.put h2 hw (nGive_le h h2 hw h4))
/-- weeks f, f + 1 .. are planned, j of them -/
def nPlW (np f : Nat) : Nat → (Nat → Int) → Nat → Int
  | 0, N => N
  | j + 1, N => nPW np (f + j) np 0 (nPlW np f j N)
theorem nPlW_ok {B : Int} {np f : Nat} : ∀ j N, f + j ≤ 12 → nOk B np N → nOk B np (nPlW np f j N) := by
  intro j
  induction j with
  | zero => intro N _ h; exact h
  | succ j ih => intro N hj h; exact nPW_ok (by omega) _ _ _ (ih N (by omega) h)
def rZ (f k : Nat) (q : Nat → Int) : Nat → Int := fun j => if 24 + f ≤ j ∧ j < 24 + k then 0 else q j
def nPlan (np f : Nat) (N : Nat → Int) : Nat → Int := nPlW np f (12 - f) (nMap N np (rZ f 12))
/-- each product's record is in its ranges behind F where it was ahead of it -/
theorem nOk.map {B B' : Int} {np k : Nat} {N : Nat → Int} {F : (Nat → Int) → Nat → Int} (h : nOk B np N) (hB : 0 ≤ B' ∧ B' ≤ 2100000000) (hBB : B ≤ B') (hk : k ≤ np) (hF : ∀ p, p < k → pOk B' (nMap N k F) p) : nOk B' np (nMap N k F) := by
  obtain ⟨h1, h2, h3, h4, h5, h6⟩ := h
  have hd : ∀ i, i < 18 → nMap N k F i = N i := fun i hi => nMap_hd N k F hi
  refine ⟨hB, by rw [hd 1 (by decide)]; exact h2, h3, ?_, fun f hf => by rw [hd _ (by omega)]; exact h5 f hf, fun p hp => ?_⟩
  · rw [hd 5 (by decide), hd 6 (by decide), hd 7 (by decide), hd 8 (by decide), hd 9 (by decide), hd 10 (by decide), hd 11 (by decide), hd 12 (by decide), hd 13 (by decide)]
    exact h4
  · by_cases hpk : p < k
    · exact hF p hpk
    · have e : ∀ j, pF (nMap N k F) p j = pF N p j := fun j => nMap_ge N F (by omega)
      have q := h6 p hp
      unfold pOk at q ⊢
      simp only [e]
      obtain ⟨a1, a2, a3, a4, a5, a6, a7, a8, a9, a10⟩ := q
      exact ⟨a1, a2, a3, a4, ⟨a5.1, by omega⟩, ⟨a6.1, by omega⟩, a7, a8, a9, a10⟩
theorem nOk.zero {B : Int} {np : Nat} {N : Nat → Int} (h : nOk B np N) (f : Nat) {k : Nat} (hk : k ≤ np) : nOk B np (nMap N k (rZ f 12)) := by
  refine h.map h.1 (Int.le_refl _) hk fun p hp => ?_
  have q := h.2.2.2.2.2 p (by omega)
  have e : ∀ j, j < 24 → pF (nMap N k (rZ f 12)) p j = pF N p j := fun j hj => by rw [nMap_at N _ hp (by omega)]; exact if_neg (by omega)
  unfold pOk at q ⊢
  rw [e 0 (by decide), e 1 (by decide), e 2 (by decide), e 3 (by decide), e 4 (by decide), e 5 (by decide), e 6 (by decide), e 7 (by decide)]
  obtain ⟨a1, a2, a3, a4, a5, a6, a7, a8, a9, a10⟩ := q
  refine ⟨a1, a2, a3, a4, a5, a6, a7, a8, fun i hi => by rw [e _ (by omega)]; exact a9 i hi, fun i hi => ?_⟩
  rw [nMap_at N _ hp (by omega)]
  unfold rZ
  split
  · omega
  · exact a10 i hi
theorem nPlan_ok {B : Int} {np f : Nat} {N : Nat → Int} (h : nOk B np N) (hf : f ≤ 8) : nOk B np (nPlan np f N) := nPlW_ok _ _ (by omega) (h.zero f (Nat.le_refl _))
end
section
def nGr (N : Nat → Int) (p : Nat) : Nat → Int
  | 0 => 0
  | k + 1 => nGr N p k + pF N p (24 + k) * pF N p 1
/-- stock and planned lots together, and backlog, stay under B -/
def nG (B : Int) (np : Nat) (N : Nat → Int) : Prop := ∀ p, p < np → pF N p 4 + nGr N p 12 ≤ B ∧ pF N p 5 + 30000 ≤ B
theorem nPj_gr (N : Nat → Int) (p : Nat) : ∀ k, k ≤ 12 → nPj N p k = pF N p 4 - pF N p 5 + nGr N p k - nFcs N p 0 k := by
  intro k
  induction k with
  | zero => intro _; unfold nPj nGr nFcs; omega
  | succ k ih =>
    intro hk
    unfold nPj nGr nFcs
    rw [ih (by omega), if_pos (by omega), Nat.zero_add]
    omega
theorem nGr_congr {N N' : Nat → Int} {p : Nat} (h1 : pF N' p 1 = pF N p 1) : ∀ k, (∀ i, i < k → pF N' p (24 + i) = pF N p (24 + i)) → nGr N' p k = nGr N p k := by
  intro k
  induction k with
  | zero => intro _; rfl
  | succ k ih => intro h; unfold nGr; rw [ih (fun i hi => h i (by omega)), h k (by omega), h1]
theorem nGr_mono {N N' : Nat → Int} {p : Nat} (h1 : pF N' p 1 = pF N p 1) (hs : 0 ≤ pF N p 1) : ∀ k, (∀ i, i < k → pF N' p (24 + i) ≤ pF N p (24 + i)) → nGr N' p k ≤ nGr N p k := by
  intro k
  induction k with
  | zero => intro _; exact Int.le_refl _
  | succ k ih =>
    intro h
    have a := ih (fun i hi => h i (by omega))
    have b := Int.mul_le_mul_of_nonneg_right (h k (by omega)) hs
    unfold nGr; rw [h1]; omega
theorem nGr_up {N : Nat → Int} {p : Nat} (hs : 0 ≤ pF N p 1) (hl : ∀ i, i < 12 → 0 ≤ pF N p (24 + i)) (k : Nat) : ∀ m, k + m ≤ 12 → nGr N p k ≤ nGr N p (k + m) := by
  intro m
  induction m with
  | zero => intro _; exact Int.le_refl _
  | succ m ih =>
    intro h
    have a := ih (by omega)
    have b := Int.mul_nonneg (hl (k + m) (by omega)) hs
    rw [← Nat.add_assoc]; show _ ≤ nGr N p (k + m) + pF N p (24 + (k + m)) * pF N p 1; omega
theorem nGr_end {N : Nat → Int} {p : Nat} (k : Nat) (hz : ∀ i, k ≤ i → i < 12 → pF N p (24 + i) = 0) : ∀ m, k + m ≤ 12 → nGr N p (k + m) = nGr N p k := by
  intro m
  induction m with
  | zero => intro _; rfl
  | succ m ih =>
    intro h
    have a := ih (by omega)
    rw [← Nat.add_assoc]; show nGr N p (k + m) + pF N p (24 + (k + m)) * pF N p 1 = _; rw [hz (k + m) (by omega) (by omega), a]; omega
/-- behind week w no lots are planned -/
def nZr (np w : Nat) (N : Nat → Int) : Prop := ∀ p, p < np → ∀ i, w ≤ i → i < 12 → pF N p (24 + i) = 0
theorem nG.put {B : Int} {np : Nat} {N : Nat → Int} (h : nOk B np N) (hG : nG B np N) {p w : Nat} (hp : p < np) (hw : w < 12) (hl : nPj N p (w + 1) < nCov N p) (hz : nZr np (w + 1) N) : nG B np (fu N (18 + 36 * p + (24 + w)) (nGive N np p w)) ∧ nZr np (w + 1) (fu N (18 + 36 * p + (24 + w)) (nGive N np p w)) := by
  have hgv := nGive_le h hp hw hl
  have e : ∀ q j, j < 36 → pF (fu N (18 + 36 * p + (24 + w)) (nGive N np p w)) q j = if q = p ∧ j = 24 + w then nGive N np p w else pF N q j := fun q j hj => pF_fuP N p _ _ (by omega) hj
  have hz2 : nZr np (w + 1) (fu N (18 + 36 * p + (24 + w)) (nGive N np p w)) := fun q hq i hi1 hi2 => by rw [e q _ (by omega), if_neg (by omega)]; exact hz q hq i hi1 hi2
  refine ⟨fun q hq => ?_, hz2⟩
  rw [e q 4 (by decide), e q 5 (by decide), if_neg (by omega), if_neg (by omega)]
  refine ⟨?_, (hG q hq).2⟩
  have h1 : ∀ q, pF (fu N (18 + 36 * p + (24 + w)) (nGive N np p w)) q 1 = pF N q 1 := fun q => by rw [e q 1 (by decide), if_neg (by omega)]
  by_cases hqp : q = p
  · subst hqp
    obtain ⟨-, a1, -, -, a4, a5, -⟩ := h.2.2.2.2.2 q hq
    have hlo := h.lots hq hw
    have hend := nGr_end (N := fu N (18 + 36 * q + (24 + w)) (nGive N np q w)) (w + 1) (fun i hi1 hi2 => hz2 q hq i hi1 hi2) (12 - (w + 1)) (by omega)
    rw [show w + 1 + (12 - (w + 1)) = 12 by omega] at hend
    rw [hend]
    have hg1 : nGr (fu N (18 + 36 * q + (24 + w)) (nGive N np q w)) q (w + 1) = nGr N q w + nGive N np q w * pF N q 1 := by
      show nGr _ q w + pF _ q (24 + w) * pF _ q 1 = _
      rw [nGr_congr (h1 q) w (fun i hi => by rw [e q _ (by omega), if_neg (by omega)]), e q _ (by omega), if_pos ⟨rfl, rfl⟩, h1 q]
    rw [hg1]
    have hpj := nPj_gr N q (w + 1) (by omega)
    have hg2 : nGr N q (w + 1) = nGr N q w + pF N q (24 + w) * pF N q 1 := rfl
    have hfs := nFcs_le h hq 0 (w + 1)
    have hfs2 := nFcs_le h hq (w + 1) (N 8 - 1).toNat
    have h8 := h.2.2.2.1.2.2.2.1
    have hcv := nCov_le h hq
    have hold := Int.mul_nonneg hlo.1 (show 0 ≤ pF N q 1 by omega)
    have hle : nGive N np q w ≤ nWant N q w := by unfold nGive; split <;> omega
    have hm1 := Int.mul_le_mul_of_nonneg_right hle (show 0 ≤ pF N q 1 by omega)
    have hm2 : nWant N q w * pF N q 1 ≤ nUnits N q w + pF N q 1 - 1 := Int.ediv_mul_le _ (by omega)
    have hun : nUnits N q w = nCov N q - nPj N q (w + 1) + nFcs N q (w + 1) (N 8 - 1).toNat := rfl
    have hb := (hG q hq).2
    omega
  · rw [nGr_congr (h1 q) 12 (fun i hi => by rw [e q _ (by omega), if_neg (by omega)])]
    exact (hG q hq).1
theorem nPW_G {B : Int} {np w : Nat} (hw : w < 12) : ∀ m asked N, nOk B np N → nG B np N → nZr np (w + 1) N → nG B np (nPW np w m asked N) ∧ nZr np (w + 1) (nPW np w m asked N) := by
  intro m
  induction m with
  | zero => intro asked N _ h hz; exact ⟨h, hz⟩
  | succ m ih =>
    intro asked N hO h hz
    unfold nPW
    split
    · exact ⟨h, hz⟩
    · rename_i h6
      obtain ⟨b, h1, h2, h3, h4⟩ := (nNext_in N w asked np).resolve_left h6
      rw [h1]
      have := nG.put hO h h2 hw h4 hz
      exact ih _ _ (hO.put h2 hw (nGive_le hO h2 hw h4)) this.1 this.2
theorem nPlW_G {B : Int} {np f : Nat} : ∀ j N, f + j ≤ 12 → nOk B np N → nG B np N → nZr np f N → nG B np (nPlW np f j N) ∧ nZr np (f + j) (nPlW np f j N) := by
  intro j
  induction j with
  | zero => intro N _ _ h hz; exact ⟨h, hz⟩
  | succ j ih =>
    intro N hj hO h hz
    have a := ih N (by omega) hO h hz
    exact nPW_G (by omega) _ _ _ (nPlW_ok j N (by omega) hO) a.1 (fun p hp i h1 h2 => a.2 p hp i (by omega) h2)
theorem nPlan_G {B : Int} {np f : Nat} {N : Nat → Int} (hO : nOk B np N) (hG : nG B np N) (hf : f ≤ 8) : nG B np (nPlan np f N) := by
  refine (nPlW_G _ _ (by omega) (hO.zero f (Nat.le_refl _)) (fun p hp => ?_) (fun p hp i h1 h2 => ?_)).1
  · have e : ∀ j, j < 24 → pF (nMap N np (rZ f 12)) p j = pF N p j := fun j hj => by rw [nMap_at N _ hp (by omega)]; exact if_neg (by omega)
    rw [e 4 (by decide), e 5 (by decide)]
    obtain ⟨-, a1, -⟩ := hO.2.2.2.2.2 p hp
    have hm := nGr_mono (N := N) (N' := nMap N np (rZ f 12)) (e 1 (by decide)) (by omega) 12 (fun i hi => by
      rw [nMap_at N _ hp (by omega)]
      have := hO.lots hp hi
      unfold rZ
      split
      · omega
      · exact Int.le_refl _)
    have := hG p hp
    omega
  · rw [nMap_at N _ hp (by omega)]
    exact if_pos (by omega)
def nV (B : Int) (np : Nat) (N : Nat → Int) : Prop := nOk B np N ∧ nG B np N
theorem nV.mono {B B' : Int} {np : Nat} {N : Nat → Int} (h : nV B np N) (hB : B ≤ B') (hB' : B' ≤ 2100000000) : nV B' np N := by
  obtain ⟨⟨h1, h2, h3, h4, h5, h6⟩, hG⟩ := h
  refine ⟨⟨⟨by omega, hB'⟩, h2, h3, h4, h5, fun p hp => ?_⟩, fun p hp => ⟨Int.le_trans (hG p hp).1 hB, Int.le_trans (hG p hp).2 hB⟩⟩
  obtain ⟨a1, a2, a3, a4, a5, a6, a7⟩ := h6 p hp
  exact ⟨a1, a2, a3, a4, ⟨a5.1, by omega⟩, ⟨a6.1, by omega⟩, a7⟩
theorem nPlan_I {B : Int} {np f : Nat} {N : Nat → Int} (h : nV B np N) (hf : f ≤ 8) : nV B np (nPlan np f N) := ⟨nPlan_ok h.1 hf, nPlan_G h.1 h.2 hf⟩
theorem rShip_ne (q : Nat → Int) {j : Nat} (h4 : j ≠ 4) (h5 : j ≠ 5) (h6 : j ≠ 6) (h8 : j ≠ 8) (h9 : j ≠ 9) (h10 : j ≠ 10) : rShip q j = q j := by
  unfold rShip
  rw [fu_ne _ _ _ h10, fu_ne _ _ _ h9, fu_ne _ _ _ h8, fu_ne _ _ _ h6, fu_ne _ _ _ h5, fu_ne _ _ _ h4]
theorem rShip_le {B : Int} {np : Nat} {N : Nat → Int} (h : nV B np N) {p : Nat} (hp : p < np) : let q := nRec N p
    (0 ≤ rHave q - rSent q ∧ rHave q ≤ B ∧ 0 ≤ rSent q) ∧ (0 ≤ rWant q - rSent q ∧ rWant q - rSent q + 28000 ≤ B) ∧ 0 ≤ (7 * q 6 + rOff q + 7) / 8 ∧ (7 * q 6 + rOff q + 7) / 8 ≤ 2000 := by
  intro q
  obtain ⟨hO, hG⟩ := h
  obtain ⟨-, a1, -, -, a4, a5, a6, a7, a8, a9⟩ := hO.2.2.2.2.2 p hp
  have hg := hG p hp
  have hq : ∀ j, q j = pF N p j := fun _ => rfl
  have hf0 : 0 ≤ pF N p 12 ∧ pF N p 12 ≤ 1000 := a8 0 (by decide)
  have hl0 : 0 ≤ pF N p 24 ∧ pF N p 24 ≤ 1000 := a9 0 (by decide)
  have hc : 0 ≤ rCame q ∧ rCame q ≤ 2000 := by unfold rCame; simp only [hq]; split <;> omega
  have ho : 0 ≤ rOff q ∧ rOff q ≤ 2000 := by unfold rOff; simp only [hq]; split <;> omega
  have hm : 0 ≤ pF N p 24 * pF N p 1 := Int.mul_nonneg hl0.1 (by omega)
  have hup : nGr N p 1 ≤ nGr N p 12 := nGr_up (N := N) (p := p) (by omega) (fun i hi => (a9 i hi).1) 1 11 (by omega)
  have hg1 : nGr N p 1 = 0 + pF N p 24 * pF N p 1 := rfl
  have hh : rHave q = pF N p 4 + pF N p 24 * pF N p 1 := rfl
  have hw : rWant q = rCame q + pF N p 5 := rfl
  have h6 : q 6 = pF N p 6 := rfl
  rw [h6]
  have hs : (rSent q = rWant q ∧ rWant q < rHave q) ∨ (rSent q = rHave q ∧ rHave q ≤ rWant q) := by
    unfold rSent
    split
    · exact Or.inl ⟨rfl, by assumption⟩
    · exact Or.inr ⟨rfl, by omega⟩
  omega
theorem pOk_ship {B : Int} {np k : Nat} {N : Nat → Int} (h : nV B np N) (hB : B + 2000 ≤ 2100000000) (hk : k ≤ np) : nOk (B + 2000) np (nMap N k rShip) := by
  refine h.1.map ⟨by have := h.1.1; omega, hB⟩ (by omega) hk fun p hp => ?_
  have r1 := rShip_le h (p := p) (by omega)
  obtain ⟨a0, a1, a2, a3, a4, a5, a6, a7, a8, a9⟩ := h.1.2.2.2.2.2 p (by omega)
  have e : ∀ j, j < 36 → pF (nMap N k rShip) p j = rShip (nRec N p) j := fun j hj => nMap_at N _ hp hj
  have e2 : ∀ j, j ≠ 4 → j ≠ 5 → j ≠ 6 → j ≠ 8 → j ≠ 9 → j ≠ 10 → j < 36 → pF (nMap N k rShip) p j = pF N p j := fun j h4 h5 h6 h8 h9 h10 hj => by rw [e j hj, rShip_ne _ h4 h5 h6 h8 h9 h10]; rfl
  unfold pOk
  rw [e2 0 (by decide) (by decide) (by decide) (by decide) (by decide) (by decide) (by decide), e2 1 (by decide) (by decide) (by decide) (by decide) (by decide) (by decide) (by decide), e2 2 (by decide) (by decide) (by decide) (by decide) (by decide) (by decide) (by decide), e2 3 (by decide) (by decide) (by decide) (by decide) (by decide) (by decide) (by decide), e2 7 (by decide) (by decide) (by decide) (by decide) (by decide) (by decide) (by decide),
    e 4 (by decide), e 5 (by decide), e 6 (by decide)]
  have v4 : rShip (nRec N p) 4 = rHave (nRec N p) - rSent (nRec N p) := rfl
  have v5 : rShip (nRec N p) 5 = rWant (nRec N p) - rSent (nRec N p) := rfl
  have v6 : rShip (nRec N p) 6 = (7 * nRec N p 6 + rOff (nRec N p) + 7) / 8 := rfl
  rw [v4, v5, v6]
  refine ⟨a0, a1, a2, a3, by omega, by omega, by omega, a7, fun i hi => ?_, fun i hi => ?_⟩
  · rw [e2 _ (by omega) (by omega) (by omega) (by omega) (by omega) (by omega) (by omega)]; exact a8 i hi
  · rw [e2 _ (by omega) (by omega) (by omega) (by omega) (by omega) (by omega) (by omega)]; exact a9 i hi
theorem nOk.hd {B : Int} {np : Nat} {N : Nat → Int} (h : nOk B np N) {i : Nat} (e : Int) (hi : i = 0 ∨ i = 2 ∨ i = 3 ∨ i = 4) : nOk B np (fu N i e) := by
  obtain ⟨h1, h2, h3, h4, h5, h6⟩ := h
  have hd : ∀ j, (j = 1 ∨ 5 ≤ j) → fu N i e j = N j := fun j hj => fu_ne N _ e (by omega)
  have hp : ∀ p j, pF (fu N i e) p j = pF N p j := fun p j => hd _ (by omega)
  refine ⟨h1, by rw [hd 1 (by decide)]; exact h2, h3, ?_, fun f hf => by rw [hd _ (by omega)]; exact h5 f hf, fun q hq => ?_⟩
  · rw [hd 5 (by decide), hd 6 (by decide), hd 7 (by decide), hd 8 (by decide), hd 9 (by decide), hd 10 (by decide), hd 11 (by decide), hd 12 (by decide), hd 13 (by decide)]
    exact h4
  · have := h6 q hq
    unfold pOk at this ⊢
    simp only [hp]
    exact this
/-- the sums of a week that passes -/
def nHd (N : Nat → Int) (np : Nat) : Nat → Int :=
  let N2 := fu N 2 (N 2 + nSetups N np 0)
  let N3 := fu N2 3 (N2 3 + nOver N np 0)
  fu N3 4 (N3 4 + (nSetups N np 0 * N3 10 + nOver N np 0 * N3 13 + nSum N3 4 np * N3 11 + nSum N3 5 np * N3 12))
def nStep (N : Nat → Int) (np : Nat) : Nat → Int := nMap (nHd (nMap N np rShip) np) np rRoll
def nPass (np f : Nat) (N : Nat → Int) : Nat → Int := nPlan np f (fu (nStep N np) 0 (nStep N np 0 + 1))
theorem nHd_ok {B : Int} {np : Nat} {N : Nat → Int} (h : nOk B np N) : nOk B np (nHd N np) := ((h.hd _ (by omega)).hd _ (by omega)).hd _ (by omega)
theorem nHd_ge (N : Nat → Int) (np : Nat) {i : Nat} (h : i = 0 ∨ i = 1 ∨ 5 ≤ i) : nHd N np i = N i := by
  unfold nHd
  rw [fu_ne _ _ _ (by omega), fu_ne _ _ _ (by omega), fu_ne _ _ _ (by omega)]
theorem rRoll_fc (q : Nat → Int) {k : Nat} (h : k < 12) : rRoll q (12 + k) = q (12 + (if k < 11 then k + 1 else k)) := by
  unfold rRoll
  rw [fu_ne _ _ _ (by omega), fu_ne _ _ _ (by omega)]
  unfold rRl
  split
  · rw [if_pos (by omega)]; rfl
  · rw [if_neg (by omega)]
theorem rRoll_lo (q : Nat → Int) {k : Nat} (h : k < 12) : rRoll q (24 + k) = if k < 11 then q (24 + k + 1) else 0 := by
  unfold rRoll
  rw [fu_ne _ _ _ (by omega)]
  split
  · rw [fu_ne _ _ _ (by omega)]; exact if_pos (by omega)
  · rw [show 24 + k = 35 by omega, fu_at]
theorem rRoll_ne (q : Nat → Int) {j : Nat} (h : j < 12) (h7 : j ≠ 7) : rRoll q j = q j := by
  unfold rRoll
  rw [fu_ne _ _ _ h7, fu_ne _ _ _ (by omega)]
  exact if_neg (by omega)
theorem nOk.roll {B : Int} {np k : Nat} {N : Nat → Int} (h : nOk B np N) (hk : k ≤ np) : nOk B np (nMap N k rRoll) := by
  refine h.map h.1 (Int.le_refl _) hk fun p hp => ?_
  obtain ⟨a0, a1, a2, a3, a4, a5, a6, a7, a8, a9⟩ := h.2.2.2.2.2 p (by omega)
  have e : ∀ j, j < 36 → pF (nMap N k rRoll) p j = rRoll (nRec N p) j := fun j hj => nMap_at N _ hp hj
  unfold pOk
  rw [e 0 (by decide), e 1 (by decide), e 2 (by decide), e 3 (by decide), e 4 (by decide), e 5 (by decide), e 6 (by decide), e 7 (by decide)]
  refine ⟨a0, a1, a2, a3, a4, a5, a6, Or.inl rfl, fun i hi => ?_, fun i hi => ?_⟩
  · rw [e _ (by omega), rRoll_fc _ hi]
    exact a8 _ (by split <;> omega)
  · rw [e _ (by omega), rRoll_lo _ hi]
    split
    · exact a9 (i + 1) (by omega)
    · omega
theorem nGr_roll (N : Nat → Int) {np p : Nat} (hp : p < np) : ∀ k, k ≤ 11 → nGr (nMap N np rRoll) p k = nGr N p (k + 1) - pF N p 24 * pF N p 1 := by
  have e : ∀ j, j < 36 → pF (nMap N np rRoll) p j = rRoll (nRec N p) j := fun j hj => nMap_at N _ hp hj
  intro k
  induction k with
  | zero => intro _; show (0 : Int) = 0 + pF N p 24 * pF N p 1 - pF N p 24 * pF N p 1; omega
  | succ k ih =>
    intro hk
    show nGr (nMap N np rRoll) p k + pF _ p (24 + k) * pF _ p 1 = nGr N p (k + 1) + pF N p (24 + (k + 1)) * pF N p 1 - _
    rw [ih (by omega), e _ (by omega), e 1 (by decide), rRoll_lo _ (by omega), if_pos (by omega)]
    show nGr N p (k + 1) - _ + pF N p (24 + k + 1) * pF N p 1 = _
    rw [Nat.add_assoc]
    omega
theorem nStep_I {B : Int} {np : Nat} {N : Nat → Int} (h : nV B np N) (hB : B + 2000 ≤ 2100000000) : nV (B + 2000) np (fu (nStep N np) 0 (nStep N np 0 + 1)) := by
  have h1 := pOk_ship h hB (Nat.le_refl np)
  have h2 := (nHd_ok h1).roll (Nat.le_refl np)
  refine ⟨h2.hd _ (by omega), fun p hp => ?_⟩
  have e0 : ∀ p j, pF (fu (nStep N np) 0 (nStep N np 0 + 1)) p j = pF (nStep N np) p j := fun p j => fu_ne _ _ _ (by omega)
  have e1 : ∀ j, j < 36 → pF (nStep N np) p j = rRoll (nRec (nHd (nMap N np rShip) np) p) j := fun j hj => nMap_at _ _ hp hj
  have e2 : ∀ j, nRec (nHd (nMap N np rShip) np) p j = pF (nMap N np rShip) p j := fun j => nHd_ge _ _ (by omega)
  have e3 : ∀ j, j < 36 → pF (nMap N np rShip) p j = rShip (nRec N p) j := fun j hj => nMap_at _ _ hp hj
  rw [nGr_congr (N := nStep N np) (e0 p 1) 12 (fun i _ => e0 p _), e0 p 4, e0 p 5, e1 4 (by decide), e1 5 (by decide), rRoll_ne _ (by decide) (by decide), rRoll_ne _ (by decide) (by decide), e2, e2, e3 4 (by decide), e3 5 (by decide)]
  have v4 : rShip (nRec N p) 4 = rHave (nRec N p) - rSent (nRec N p) := rfl
  have v5 : rShip (nRec N p) 5 = rWant (nRec N p) - rSent (nRec N p) := rfl
  rw [v4, v5]
  have r1 := rShip_le h hp
  refine ⟨?_, by omega⟩
  have g1 : nGr (nStep N np) p 12 = nGr (nStep N np) p 11 + pF (nStep N np) p (24 + 11) * pF (nStep N np) p 1 := rfl
  have g2 : pF (nStep N np) p (24 + 11) = 0 := by rw [e1 _ (by decide), rRoll_lo _ (by decide)]; rfl
  rw [g1, g2]
  show _ + (nGr (nMap (nHd (nMap N np rShip) np) np rRoll) p 11 + _) ≤ _
  rw [nGr_roll _ hp 11 (by decide)]
  have e4 : ∀ j, j ≠ 4 → j ≠ 5 → j ≠ 6 → j ≠ 8 → j ≠ 9 → j ≠ 10 → j < 36 → pF (nHd (nMap N np rShip) np) p j = pF N p j := fun j h4 h5 h6 h8 h9 h10 hj => by
    show nRec (nHd (nMap N np rShip) np) p j = _
    rw [e2, e3 j hj, rShip_ne _ h4 h5 h6 h8 h9 h10]; rfl
  rw [nGr_congr (N := N) (e4 1 (by decide) (by decide) (by decide) (by decide) (by decide) (by decide) (by decide)) 12 (fun i hi => e4 _ (by omega) (by omega) (by omega) (by omega) (by omega) (by omega) (by omega)),
    e4 24 (by decide) (by decide) (by decide) (by decide) (by decide) (by decide) (by decide), e4 1 (by decide) (by decide) (by decide) (by decide) (by decide) (by decide) (by decide)]
  have hh : rHave (nRec N p) = pF N p 4 + pF N p 24 * pF N p 1 := rfl
  have hg := (h.2 p hp).1
  rw [Int.zero_mul]
  omega
theorem nPass_I {B : Int} {np f : Nat} {N : Nat → Int} (h : nV B np N) (hB : B + 2000 ≤ 2100000000) (hf : f ≤ 8) : nV (B + 2000) np (nPass np f N) := nPlan_I (nStep_I h hB) hf
theorem nPW_hd (np w : Nat) {i : Nat} (hi : i < 18) : ∀ m asked N, nPW np w m asked N i = N i := by
  intro m
  induction m with
  | zero => intro asked N; rfl
  | succ m ih => intro asked N; unfold nPW; split; rfl; rw [ih, fu_ne _ _ _ (by omega)]
theorem nPlW_hd (np f : Nat) {i : Nat} (hi : i < 18) : ∀ j N, nPlW np f j N i = N i := by
  intro j
  induction j with
  | zero => intro N; rfl
  | succ j ih => intro N; unfold nPlW; rw [nPW_hd np _ hi, ih]
theorem nPlan_hd (np f : Nat) (N : Nat → Int) {i : Nat} (hi : i < 18) : nPlan np f N i = N i := by unfold nPlan; rw [nPlW_hd np f hi, nMap_hd _ _ _ hi]
theorem nPass_hd (np f : Nat) (N : Nat → Int) {i : Nat} (hi : i = 1 ∨ (5 ≤ i ∧ i < 18)) : nPass np f N i = N i := by
  unfold nPass nStep
  rw [nPlan_hd _ _ _ (by omega), fu_ne _ _ _ (by omega), nMap_hd _ _ _ (by omega), nHd_ge _ _ (by omega), nMap_hd _ _ _ (by omega)]
def nPs (np f : Nat) : Nat → (Nat → Int) → Nat → Int
  | 0, N => N
  | k + 1, N => nPass np f (nPs np f k N)
theorem nPs_hd (np f : Nat) {i : Nat} (hi : i = 1 ∨ (5 ≤ i ∧ i < 18)) : ∀ k N, nPs np f k N i = N i := by
  intro k
  induction k with
  | zero => intro N; rfl
  | succ k ih => intro N; unfold nPs; rw [nPass_hd np f _ hi, ih]
theorem nPs_I {B : Int} {np f : Nat} (hf : f ≤ 8) : ∀ (k : Nat) N, nV B np N → B + 2000 * (k : Int) ≤ 2100000000 → nV (B + 2000 * (k : Int)) np (nPs np f k N) := by
  intro k
  induction k with
  | zero => intro N h _; rw [show B + 2000 * ((0 : Nat) : Int) = B by omega]; exact h
  | succ k ih =>
    intro N h hB
    have := nPass_I (ih N h (by omega)) (by omega) hf
    rw [show B + 2000 * ((k + 1 : Nat) : Int) = B + 2000 * (k : Int) + 2000 by omega]
    exact this
end
section
theorem fu_fu (f : Nat → Int) (j : Nat) (a b : Int) : fu (fu f j a) j b = fu f j b := by funext i; unfold fu; split <;> rfl
def leastOf (w : Nat) : Int := if w = 3 then 1 else 0
def mostOf (w : Nat) : Int := if w = 0 then 1000 else if w = 1 then 500 else if w = 2 then 8 else if w = 3 then 6 else if w = 4 then 400 else if w = 5 then 1000 else 100
def eF (np : Nat) (p w u : Int) : Int := if (0 ≤ p ∧ p < np) ∧ 0 ≤ w ∧ w < 12 then (if 0 ≤ u ∧ u ≤ 1000 then 0 else -2) else -1
def eA (np : Nat) (p u : Int) : Int := if 0 ≤ p ∧ p < np then (if u = -6 ∨ (0 ≤ u ∧ u ≤ 2000) then 0 else -2) else -1
def nSet (N : Nat → Int) (p w : Nat) (u : Int) : Nat → Int := fu N (18 + 36 * p + (24 + w)) u
def eL (N : Nat → Int) (np : Nat) (p w u : Int) : Int := if (0 ≤ p ∧ p < np) ∧ 0 ≤ w ∧ w < 12 then (if 0 ≤ u ∧ u ≤ 1000 then
    (if w < N 7 ∨ (N 5 + N 6 < nHours (nSet N p.toNat w.toNat u) np w.toNat ∧ nHours N np w.toNat < nHours (nSet N p.toNat w.toNat u) np w.toNat) then -5 else 0) else -2) else -1
end
section
theorem nLots_le {B : Int} {np : Nat} {N : Nat → Int} (h : nOk B np N) : ∀ p, p ≤ np → 0 ≤ nLots N p ∧ nLots N p ≤ 12000 * p := by
  intro p
  induction p with
  | zero => intro _; unfold nLots; omega
  | succ p ih =>
    intro hp
    have a := ih (by omega)
    have b : ∀ k, k ≤ 12 → 0 ≤ nLotsP N p k ∧ nLotsP N p k ≤ 1000 * k := by
      intro k
      induction k with
      | zero => intro _; unfold nLotsP; omega
      | succ k ihk =>
        intro hk
        have := ihk (by omega)
        have := h.lots (p := p) (k := k) (by omega) (by omega)
        unfold nLotsP; omega
    have := b 12 (by omega)
    unfold nLots; omega
def nOf (N : Nat → Int) (p w : Nat) : Int := if w < 7 then pF N p w else if w = 7 then nCov N p else pF N p (w - 1)
def nCnt (F N : Nat → Int) (np u : Nat) : Int := if u < 5 then N u else if 10 ≤ u then N (u - 5) else if u = 5 then nLots N np else if u = 6 then nSum N 4 np else if u = 7 then nSum N 5 np else if u = 8 then F 5 else F 3
end
