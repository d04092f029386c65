/-! ===== BEGIN words of one list among another's, by their places ===== -/
theorem goodIn_r {big : List Cond} (ws : List Cond) (ps : List Nat) (hp : ws = ps.filterMap (fun i => big[i]?)) (h : ws.all goodWord = true) : GoodIn big ws := by
  intro w hw
  have h1 := List.all_eq_true.mp h w hw
  rw [hp] at hw
  obtain ⟨i, -, hi⟩ := List.mem_filterMap.mp hw
  have hm : w ∈ big := by first | exact List.mem_of_getElem? hi | exact List.getElem?_mem hi
  exact ⟨hm, good_of_word h1⟩
theorem goodIn_app {big a b : List Cond} (ha : GoodIn big a) (hb : GoodIn big b) : GoodIn big (a ++ b) := fun w h => (List.mem_append.mp h).elim (ha w) (hb w)
theorem goodIn_ca {big a b : List Cond} {c : Cond} (ha : GoodIn big (c :: a)) (hb : GoodIn big b) : GoodIn big (c :: (a ++ b)) := fun w h => (List.mem_cons.mp h).elim (fun e => ha w (List.mem_cons.mpr (Or.inl e))) (fun h => (List.mem_append.mp h).elim (fun h => ha w (List.mem_cons.mpr (Or.inr h))) (hb w))
theorem goodIn_sub {big ws : List Cond} (hm : ∀ w ∈ ws, w ∈ big) (h : ws.all goodWord = true) : GoodIn big ws := fun w hw => ⟨hm w hw, good_of_word (List.all_eq_true.mp h w hw)⟩
/-! ===== END ===== -/

/-! ===== BEGIN printed: names, fields, word lists, decode rows ===== -/
def RX0 : String := "OnlineHull"
def TX0 : u_T := fun k => match k with
  | 0 => ("OnlineHull", "cap", "I", true)
  | 1 => ("OnlineHull", "cornerX", "[I", true)
  | 2 => ("OnlineHull", "cornerY", "[I", true)
  | 3 => ("OnlineHull", "ringX", "[I", true)
  | 4 => ("OnlineHull", "ringY", "[I", true)
  | 5 => ("OnlineHull", "corners", "I", false)
  | _ => ("OnlineHull", "came", "I", false)
def tyX0 : Nat → FieldType := fun k => match k with
  | 0 => .int
  | 1 => .array .int
  | 2 => .array .int
  | 3 => .array .int
  | 4 => .array .int
  | 5 => .int
  | _ => .int
abbrev wsX00 : List Cond := u_ws RX0 TX0 7
theorem nmX0 : ∀ a, a < 7 → ∀ b, b < 7 → a ≠ b → (TX0 a).2.1 ≠ (TX0 b).2.1 := by decide +kernel
theorem tyX0_ok : ∀ k, k < 7 → parseFieldDescriptor (TX0 k).2.2.1 = some (tyX0 k) := by decide +kernel
abbrev cX0_init : ByteArray := prog_1_method_1_code
def yX0_init : MethodName := ⟨RX0, "<init>", "(I)V"⟩
abbrev cX0_add : ByteArray := prog_1_method_2_code
def yX0_add : MethodName := ⟨RX0, "add", "(II)I"⟩
abbrev cX0_size : ByteArray := prog_1_method_3_code
def yX0_size : MethodName := ⟨RX0, "size", "()I"⟩
abbrev cX0_xOf : ByteArray := prog_1_method_4_code
def yX0_xOf : MethodName := ⟨RX0, "xOf", "(I)I"⟩
abbrev cX0_yOf : ByteArray := prog_1_method_5_code
def yX0_yOf : MethodName := ⟨RX0, "yOf", "(I)I"⟩
abbrev cX0_inside : ByteArray := prog_1_method_6_code
def yX0_inside : MethodName := ⟨RX0, "inside", "(II)I"⟩
abbrev cX0_twiceArea : ByteArray := prog_1_method_7_code
def yX0_twiceArea : MethodName := ⟨RX0, "twiceArea", "()I"⟩
abbrev cX0_farthest : ByteArray := prog_1_method_8_code
def yX0_farthest : MethodName := ⟨RX0, "farthest", "(II)I"⟩
abbrev cX0_tangent : ByteArray := prog_1_method_9_code
def yX0_tangent : MethodName := ⟨RX0, "tangent", "(III)I"⟩
abbrev cX0_diameter : ByteArray := prog_1_method_10_code
def yX0_diameter : MethodName := ⟨RX0, "diameter", "()I"⟩
abbrev cX0_points : ByteArray := prog_1_method_11_code
def yX0_points : MethodName := ⟨RX0, "points", "()I"⟩
abbrev cX0_inRange : ByteArray := prog_1_method_12_code
def yX0_inRange : MethodName := ⟨RX0, "inRange", "(II)Z"⟩
abbrev cX0_comesBefore : ByteArray := prog_1_method_13_code
def yX0_comesBefore : MethodName := ⟨RX0, "comesBefore", "(IIII)Z"⟩
abbrev cX0_isCorner : ByteArray := prog_1_method_14_code
def yX0_isCorner : MethodName := ⟨RX0, "isCorner", "(I)Z"⟩
abbrev cX0_next : ByteArray := prog_1_method_15_code
def yX0_next : MethodName := ⟨RX0, "next", "(I)I"⟩
abbrev cX0_previous : ByteArray := prog_1_method_16_code
def yX0_previous : MethodName := ⟨RX0, "previous", "(I)I"⟩
abbrev cX0_turn : ByteArray := prog_1_method_17_code
def yX0_turn : MethodName := ⟨RX0, "turn", "(III)I"⟩
abbrev cX0_reach : ByteArray := prog_1_method_18_code
def yX0_reach : MethodName := ⟨RX0, "reach", "(III)I"⟩
abbrev cX0_squaredDistance : ByteArray := prog_1_method_19_code
def yX0_squaredDistance : MethodName := ⟨RX0, "squaredDistance", "(II)I"⟩
abbrev cX0_placeOf : ByteArray := prog_1_method_20_code
def yX0_placeOf : MethodName := ⟨RX0, "placeOf", "(II)I"⟩
abbrev cX0_placeInLine : ByteArray := prog_1_method_21_code
def yX0_placeInLine : MethodName := ⟨RX0, "placeInLine", "(II)I"⟩
abbrev cX0_placeInRing : ByteArray := prog_1_method_22_code
def yX0_placeInRing : MethodName := ⟨RX0, "placeInRing", "(II)I"⟩
abbrev cX0_staysInLine : ByteArray := prog_1_method_23_code
def yX0_staysInLine : MethodName := ⟨RX0, "staysInLine", "(II)Z"⟩
abbrev cX0_growLine : ByteArray := prog_1_method_24_code
def yX0_growLine : MethodName := ⟨RX0, "growLine", "(II)I"⟩
abbrev cX0_growRing : ByteArray := prog_1_method_25_code
def yX0_growRing : MethodName := ⟨RX0, "growRing", "(II)I"⟩
abbrev cX0_firstSeen : ByteArray := prog_1_method_26_code
def yX0_firstSeen : MethodName := ⟨RX0, "firstSeen", "(III)I"⟩
abbrev cX0_lastSeen : ByteArray := prog_1_method_27_code
def yX0_lastSeen : MethodName := ⟨RX0, "lastSeen", "(III)I"⟩
abbrev cX0_setCorner : ByteArray := prog_1_method_28_code
def yX0_setCorner : MethodName := ⟨RX0, "setCorner", "(III)V"⟩
abbrev cX0_fillRing : ByteArray := prog_1_method_29_code
def yX0_fillRing : MethodName := ⟨RX0, "fillRing", "(IIII)V"⟩
abbrev cX0_takeRing : ByteArray := prog_1_method_30_code
def yX0_takeRing : MethodName := ⟨RX0, "takeRing", "()V"⟩
abbrev cX0_leastOfRing : ByteArray := prog_1_method_31_code
def yX0_leastOfRing : MethodName := ⟨RX0, "leastOfRing", "()I"⟩
def RX1 : String := "OnlineHullModel"
def TX1 : u_T := fun k => match k with
  | 0 => ("OnlineHullModel", "cap", "I", true)
  | 1 => ("OnlineHullModel", "corners", "I", false)
  | 2 => ("OnlineHullModel", "points", "I", false)
  | 3 => ("OnlineHullModel", "xs", "[I", true)
  | 4 => ("OnlineHullModel", "ys", "[I", true)
  | 5 => ("OnlineHullModel", "px", "[I", true)
  | 6 => ("OnlineHullModel", "py", "[I", true)
  | _ => ("OnlineHullModel", "round", "[I", true)
def tyX1 : Nat → FieldType := fun k => match k with
  | 0 => .int
  | 1 => .int
  | 2 => .int
  | 3 => .array .int
  | 4 => .array .int
  | 5 => .array .int
  | 6 => .array .int
  | _ => .array .int
abbrev wsX10 : List Cond := u_ws RX1 TX1 8
theorem nmX1 : ∀ a, a < 8 → ∀ b, b < 8 → a ≠ b → (TX1 a).2.1 ≠ (TX1 b).2.1 := by decide +kernel
theorem tyX1_ok : ∀ k, k < 8 → parseFieldDescriptor (TX1 k).2.2.1 = some (tyX1 k) := by decide +kernel
abbrev cX1_init : ByteArray := prog_3_method_1_code
def yX1_init : MethodName := ⟨RX1, "<init>", "(I)V"⟩
abbrev cX1_inRange : ByteArray := prog_3_method_2_code
def yX1_inRange : MethodName := ⟨RX1, "inRange", "(II)Z"⟩
abbrev cX1_turn : ByteArray := prog_3_method_3_code
def yX1_turn : MethodName := ⟨RX1, "turn", "(JJJJJJ)J"⟩
abbrev cX1_between : ByteArray := prog_3_method_4_code
def yX1_between : MethodName := ⟨RX1, "between", "(III)Z"⟩
abbrev cX1_side : ByteArray := prog_3_method_5_code
def yX1_side : MethodName := ⟨RX1, "side", "(III)J"⟩
abbrev cX1_inside : ByteArray := prog_3_method_6_code
def yX1_inside : MethodName := ⟨RX1, "inside", "(II)I"⟩
abbrev cX1_isNext : ByteArray := prog_3_method_7_code
def yX1_isNext : MethodName := ⟨RX1, "isNext", "(III)Z"⟩
abbrev cX1_goRound : ByteArray := prog_3_method_8_code
def yX1_goRound : MethodName := ⟨RX1, "goRound", "(I)I"⟩
abbrev cX1_add : ByteArray := prog_3_method_9_code
def yX1_add : MethodName := ⟨RX1, "add", "(II)I"⟩
abbrev cX1_size : ByteArray := prog_3_method_10_code
def yX1_size : MethodName := ⟨RX1, "size", "()I"⟩
abbrev cX1_xOf : ByteArray := prog_3_method_11_code
def yX1_xOf : MethodName := ⟨RX1, "xOf", "(I)I"⟩
abbrev cX1_yOf : ByteArray := prog_3_method_12_code
def yX1_yOf : MethodName := ⟨RX1, "yOf", "(I)I"⟩
abbrev cX1_twiceArea : ByteArray := prog_3_method_13_code
def yX1_twiceArea : MethodName := ⟨RX1, "twiceArea", "()I"⟩
abbrev cX1_farthest : ByteArray := prog_3_method_14_code
def yX1_farthest : MethodName := ⟨RX1, "farthest", "(II)I"⟩
abbrev cX1_tangent : ByteArray := prog_3_method_15_code
def yX1_tangent : MethodName := ⟨RX1, "tangent", "(III)I"⟩
abbrev cX1_diameter : ByteArray := prog_3_method_16_code
def yX1_diameter : MethodName := ⟨RX1, "diameter", "()I"⟩
abbrev cX1_points : ByteArray := prog_3_method_17_code
def yX1_points : MethodName := ⟨RX1, "points", "()I"⟩
def RJ9 : String := "java/lang/Math"
def TJ9 : u_T := fun k => match k with
  | _ => ("", "", "", false)
def tyJ9 : Nat → FieldType := fun k => match k with
  | _ => .int
abbrev wsJ90 : List Cond := u_ws RJ9 TJ9 0
theorem nmJ9 : ∀ a, a < 0 → ∀ b, b < 0 → a ≠ b → (TJ9 a).2.1 ≠ (TJ9 b).2.1 := by decide +kernel
theorem tyJ9_ok : ∀ k, k < 0 → parseFieldDescriptor (TJ9 k).2.2.1 = some (tyJ9 k) := by decide +kernel
abbrev cJ9_floorMod_7cf53 : ByteArray := prog_4_method_50_code
def yJ9_floorMod_7cf53 : MethodName := ⟨RJ9, "floorMod", "(II)I"⟩
abbrev cJ9_max_7cf53 : ByteArray := prog_4_method_65_code
def yJ9_max_7cf53 : MethodName := ⟨RJ9, "max", "(II)I"⟩
def RL : String := "OnlineHullLaw"
abbrev cL_cell : ByteArray := method_2_code
def yL_cell : MethodName := ⟨RL, "cell", "([II)I"⟩
abbrev cL_law : ByteArray := code
def yL_law : MethodName := ⟨RL, "law", "([I)Z"⟩
def wsJ9_floorMod_7cf53 : List Cond := .code yJ9_floorMod_7cf53 cJ9_floorMod_7cf53 3 (some .int) :: ([])
def wsX0_init : List Cond := .code yX0_init cX0_init 2 none :: ([.methodLink RX0 1 objectInit, .instanceMethod objectInit, .code objectInit ⟨#[0xb1]⟩ 1 none, .fieldLink RX0 15 "OnlineHull" "cap" "I", .arrayClass .int, .fieldLink RX0 19 "OnlineHull" "cornerX" "[I", .fieldLink RX0 23 "OnlineHull" "cornerY" "[I", .fieldLink RX0 26 "OnlineHull" "ringX" "[I", .fieldLink RX0 29 "OnlineHull" "ringY" "[I", .fieldLink RX0 32 "OnlineHull" "corners" "I", .fieldLink RX0 35 "OnlineHull" "came" "I", .methodLink RX0 9 yJ9_floorMod_7cf53, .static yJ9_floorMod_7cf53, .initialized RJ9, .code yJ9_floorMod_7cf53 cJ9_floorMod_7cf53 3 (some .int)] ++ wsX00)
def wsX0_inRange : List Cond := .code yX0_inRange cX0_inRange 2 (some .boolean) :: ([])
def wsX0_next : List Cond := .code yX0_next cX0_next 2 (some .int) :: ([.fieldLink RX0 32 "OnlineHull" "corners" "I"] ++ wsX00)
def wsX0_turn : List Cond := .code yX0_turn cX0_turn 7 (some .int) :: ([.fieldLink RX0 19 "OnlineHull" "cornerX" "[I", .fieldLink RX0 23 "OnlineHull" "cornerY" "[I", .methodLink RX0 77 yX0_next, .instanceMethod yX0_next, .selects RX0 yX0_next yX0_next, .initialized RX0, .code yX0_next cX0_next 2 (some .int), .fieldLink RX0 32 "OnlineHull" "corners" "I"] ++ wsX00)
def wsX0_comesBefore : List Cond := .code yX0_comesBefore cX0_comesBefore 4 (some .boolean) :: ([])
def wsX0_placeInLine : List Cond := .code yX0_placeInLine cX0_placeInLine 5 (some .int) :: ([.fieldLink RX0 32 "OnlineHull" "corners" "I", .fieldLink RX0 19 "OnlineHull" "cornerX" "[I", .fieldLink RX0 23 "OnlineHull" "cornerY" "[I", .methodLink RX0 58 yX0_turn, .instanceMethod yX0_turn, .selects RX0 yX0_turn yX0_turn, .initialized RX0, .code yX0_turn cX0_turn 7 (some .int), .methodLink RX0 77 yX0_next, .instanceMethod yX0_next, .selects RX0 yX0_next yX0_next, .code yX0_next cX0_next 2 (some .int), .methodLink RX0 87 yX0_comesBefore, .static yX0_comesBefore, .code yX0_comesBefore cX0_comesBefore 4 (some .boolean)] ++ wsX00)
def wsX0_placeInRing : List Cond := .code yX0_placeInRing cX0_placeInRing 6 (some .int) :: ([.fieldLink RX0 32 "OnlineHull" "corners" "I", .methodLink RX0 58 yX0_turn, .instanceMethod yX0_turn, .selects RX0 yX0_turn yX0_turn, .initialized RX0, .code yX0_turn cX0_turn 7 (some .int), .fieldLink RX0 19 "OnlineHull" "cornerX" "[I", .fieldLink RX0 23 "OnlineHull" "cornerY" "[I", .methodLink RX0 77 yX0_next, .instanceMethod yX0_next, .selects RX0 yX0_next yX0_next, .code yX0_next cX0_next 2 (some .int)] ++ wsX00)
def wsX0_placeOf : List Cond := .code yX0_placeOf cX0_placeOf 3 (some .int) :: ([.fieldLink RX0 32 "OnlineHull" "corners" "I", .methodLink RX0 81 yX0_placeInLine, .instanceMethod yX0_placeInLine, .selects RX0 yX0_placeInLine yX0_placeInLine, .initialized RX0, .code yX0_placeInLine cX0_placeInLine 5 (some .int), .fieldLink RX0 19 "OnlineHull" "cornerX" "[I", .fieldLink RX0 23 "OnlineHull" "cornerY" "[I", .methodLink RX0 58 yX0_turn, .instanceMethod yX0_turn, .selects RX0 yX0_turn yX0_turn, .code yX0_turn cX0_turn 7 (some .int), .methodLink RX0 77 yX0_next, .instanceMethod yX0_next, .selects RX0 yX0_next yX0_next, .code yX0_next cX0_next 2 (some .int), .methodLink RX0 87 yX0_comesBefore, .static yX0_comesBefore, .code yX0_comesBefore cX0_comesBefore 4 (some .boolean), .methodLink RX0 84 yX0_placeInRing, .instanceMethod yX0_placeInRing, .selects RX0 yX0_placeInRing yX0_placeInRing, .code yX0_placeInRing cX0_placeInRing 6 (some .int)] ++ wsX00)
def wsX0_staysInLine : List Cond := .code yX0_staysInLine cX0_staysInLine 3 (some .boolean) :: ([.fieldLink RX0 32 "OnlineHull" "corners" "I", .methodLink RX0 58 yX0_turn, .instanceMethod yX0_turn, .selects RX0 yX0_turn yX0_turn, .initialized RX0, .code yX0_turn cX0_turn 7 (some .int), .fieldLink RX0 19 "OnlineHull" "cornerX" "[I", .fieldLink RX0 23 "OnlineHull" "cornerY" "[I", .methodLink RX0 77 yX0_next, .instanceMethod yX0_next, .selects RX0 yX0_next yX0_next, .code yX0_next cX0_next 2 (some .int)] ++ wsX00)
def wsX0_setCorner : List Cond := .code yX0_setCorner cX0_setCorner 4 none :: ([.fieldLink RX0 19 "OnlineHull" "cornerX" "[I", .fieldLink RX0 23 "OnlineHull" "cornerY" "[I"] ++ wsX00)
def wsX0_growLine : List Cond := .code yX0_growLine cX0_growLine 5 (some .int) :: ([.fieldLink RX0 32 "OnlineHull" "corners" "I", .fieldLink RX0 19 "OnlineHull" "cornerX" "[I", .fieldLink RX0 23 "OnlineHull" "cornerY" "[I", .methodLink RX0 91 yX0_setCorner, .instanceMethod yX0_setCorner, .selects RX0 yX0_setCorner yX0_setCorner, .initialized RX0, .code yX0_setCorner cX0_setCorner 4 none, .methodLink RX0 87 yX0_comesBefore, .static yX0_comesBefore, .code yX0_comesBefore cX0_comesBefore 4 (some .boolean)] ++ wsX00)
def wsX0_previous : List Cond := .code yX0_previous cX0_previous 2 (some .int) :: ([.fieldLink RX0 32 "OnlineHull" "corners" "I"] ++ wsX00)
def wsX0_firstSeen : List Cond := .code yX0_firstSeen cX0_firstSeen 5 (some .int) :: ([.fieldLink RX0 32 "OnlineHull" "corners" "I", .methodLink RX0 58 yX0_turn, .instanceMethod yX0_turn, .selects RX0 yX0_turn yX0_turn, .initialized RX0, .code yX0_turn cX0_turn 7 (some .int), .fieldLink RX0 19 "OnlineHull" "cornerX" "[I", .fieldLink RX0 23 "OnlineHull" "cornerY" "[I", .methodLink RX0 77 yX0_next, .instanceMethod yX0_next, .selects RX0 yX0_next yX0_next, .code yX0_next cX0_next 2 (some .int), .methodLink RX0 102 yX0_previous, .instanceMethod yX0_previous, .selects RX0 yX0_previous yX0_previous, .code yX0_previous cX0_previous 2 (some .int)] ++ wsX00)
def wsX0_lastSeen : List Cond := .code yX0_lastSeen cX0_lastSeen 5 (some .int) :: ([.fieldLink RX0 32 "OnlineHull" "corners" "I", .methodLink RX0 58 yX0_turn, .instanceMethod yX0_turn, .selects RX0 yX0_turn yX0_turn, .initialized RX0, .code yX0_turn cX0_turn 7 (some .int), .fieldLink RX0 19 "OnlineHull" "cornerX" "[I", .fieldLink RX0 23 "OnlineHull" "cornerY" "[I", .methodLink RX0 77 yX0_next, .instanceMethod yX0_next, .selects RX0 yX0_next yX0_next, .code yX0_next cX0_next 2 (some .int), .methodLink RX0 102 yX0_previous, .instanceMethod yX0_previous, .selects RX0 yX0_previous yX0_previous, .code yX0_previous cX0_previous 2 (some .int)] ++ wsX00)
def wsX0_isCorner : List Cond := .code yX0_isCorner cX0_isCorner 2 (some .boolean) :: ([.fieldLink RX0 32 "OnlineHull" "corners" "I"] ++ wsX00)
def wsX0_fillRing : List Cond := .code yX0_fillRing cX0_fillRing 7 none :: ([.fieldLink RX0 26 "OnlineHull" "ringX" "[I", .fieldLink RX0 29 "OnlineHull" "ringY" "[I", .fieldLink RX0 19 "OnlineHull" "cornerX" "[I", .fieldLink RX0 23 "OnlineHull" "cornerY" "[I", .methodLink RX0 77 yX0_next, .instanceMethod yX0_next, .selects RX0 yX0_next yX0_next, .initialized RX0, .code yX0_next cX0_next 2 (some .int), .fieldLink RX0 32 "OnlineHull" "corners" "I"] ++ wsX00)
def wsX0_leastOfRing : List Cond := .code yX0_leastOfRing cX0_leastOfRing 3 (some .int) :: ([.fieldLink RX0 32 "OnlineHull" "corners" "I", .fieldLink RX0 26 "OnlineHull" "ringX" "[I", .fieldLink RX0 29 "OnlineHull" "ringY" "[I", .methodLink RX0 87 yX0_comesBefore, .static yX0_comesBefore, .initialized RX0, .code yX0_comesBefore cX0_comesBefore 4 (some .boolean)] ++ wsX00)
def wsX0_takeRing : List Cond := .code yX0_takeRing cX0_takeRing 3 none :: ([.fieldLink RX0 32 "OnlineHull" "corners" "I", .fieldLink RX0 26 "OnlineHull" "ringX" "[I", .fieldLink RX0 29 "OnlineHull" "ringY" "[I", .methodLink RX0 105 yX0_leastOfRing, .instanceMethod yX0_leastOfRing, .selects RX0 yX0_leastOfRing yX0_leastOfRing, .initialized RX0, .code yX0_leastOfRing cX0_leastOfRing 3 (some .int), .methodLink RX0 87 yX0_comesBefore, .static yX0_comesBefore, .code yX0_comesBefore cX0_comesBefore 4 (some .boolean), .methodLink RX0 91 yX0_setCorner, .instanceMethod yX0_setCorner, .selects RX0 yX0_setCorner yX0_setCorner, .code yX0_setCorner cX0_setCorner 4 none, .fieldLink RX0 19 "OnlineHull" "cornerX" "[I", .fieldLink RX0 23 "OnlineHull" "cornerY" "[I", .methodLink RX0 77 yX0_next, .instanceMethod yX0_next, .selects RX0 yX0_next yX0_next, .code yX0_next cX0_next 2 (some .int)] ++ wsX00)
def wsX0_growRing_r1 : List Cond := [Cond.fieldLink RX0 32 "OnlineHull" "corners" "I", Cond.fieldLink RX0 15 "OnlineHull" "cap" "I", Cond.methodLink RX0 65 yX0_firstSeen, Cond.instanceMethod yX0_firstSeen, Cond.selects RX0 yX0_firstSeen yX0_firstSeen, Cond.initialized RX0, Cond.code yX0_firstSeen cX0_firstSeen 5 (some .int), Cond.methodLink RX0 58 yX0_turn, Cond.instanceMethod yX0_turn, Cond.selects RX0 yX0_turn yX0_turn, Cond.code yX0_turn cX0_turn 7 (some .int), Cond.fieldLink RX0 19 "OnlineHull" "cornerX" "[I", Cond.fieldLink RX0 23 "OnlineHull" "cornerY" "[I", Cond.methodLink RX0 77 yX0_next, Cond.instanceMethod yX0_next, Cond.selects RX0 yX0_next yX0_next, Cond.code yX0_next cX0_next 2 (some .int), Cond.methodLink RX0 102 yX0_previous, Cond.instanceMethod yX0_previous, Cond.selects RX0 yX0_previous yX0_previous, Cond.code yX0_previous cX0_previous 2 (some .int), Cond.methodLink RX0 68 yX0_lastSeen, Cond.instanceMethod yX0_lastSeen, Cond.selects RX0 yX0_lastSeen yX0_lastSeen]
def wsX0_growRing_r2 : List Cond := [Cond.code yX0_lastSeen cX0_lastSeen 5 (some .int), Cond.methodLink RX0 54 yX0_isCorner, Cond.instanceMethod yX0_isCorner, Cond.selects RX0 yX0_isCorner yX0_isCorner, Cond.code yX0_isCorner cX0_isCorner 2 (some .boolean), Cond.methodLink RX0 95 yX0_fillRing, Cond.instanceMethod yX0_fillRing, Cond.selects RX0 yX0_fillRing yX0_fillRing, Cond.code yX0_fillRing cX0_fillRing 7 none, Cond.fieldLink RX0 26 "OnlineHull" "ringX" "[I", Cond.fieldLink RX0 29 "OnlineHull" "ringY" "[I", Cond.methodLink RX0 99 yX0_takeRing, Cond.instanceMethod yX0_takeRing, Cond.selects RX0 yX0_takeRing yX0_takeRing, Cond.code yX0_takeRing cX0_takeRing 3 none, Cond.methodLink RX0 105 yX0_leastOfRing, Cond.instanceMethod yX0_leastOfRing, Cond.selects RX0 yX0_leastOfRing yX0_leastOfRing, Cond.code yX0_leastOfRing cX0_leastOfRing 3 (some .int), Cond.methodLink RX0 87 yX0_comesBefore, Cond.static yX0_comesBefore, Cond.code yX0_comesBefore cX0_comesBefore 4 (some .boolean), Cond.methodLink RX0 91 yX0_setCorner, Cond.instanceMethod yX0_setCorner]
def wsX0_growRing_r3 : List Cond := [Cond.selects RX0 yX0_setCorner yX0_setCorner, Cond.code yX0_setCorner cX0_setCorner 4 none]
def wsX0_growRing : List Cond := .code yX0_growRing cX0_growRing 7 (some .int) :: ((wsX0_growRing_r1 ++ (wsX0_growRing_r2 ++ wsX0_growRing_r3)) ++ wsX00)
def wsX0_add_r1 : List Cond := [Cond.fieldLink RX0 35 "OnlineHull" "came" "I", Cond.methodLink RX0 38 yX0_inRange, Cond.static yX0_inRange, Cond.initialized RX0, Cond.code yX0_inRange cX0_inRange 2 (some .boolean), Cond.methodLink RX0 42 yX0_placeOf, Cond.instanceMethod yX0_placeOf, Cond.selects RX0 yX0_placeOf yX0_placeOf, Cond.code yX0_placeOf cX0_placeOf 3 (some .int), Cond.fieldLink RX0 32 "OnlineHull" "corners" "I", Cond.methodLink RX0 81 yX0_placeInLine, Cond.instanceMethod yX0_placeInLine, Cond.selects RX0 yX0_placeInLine yX0_placeInLine, Cond.code yX0_placeInLine cX0_placeInLine 5 (some .int), Cond.fieldLink RX0 19 "OnlineHull" "cornerX" "[I", Cond.fieldLink RX0 23 "OnlineHull" "cornerY" "[I", Cond.methodLink RX0 58 yX0_turn, Cond.instanceMethod yX0_turn, Cond.selects RX0 yX0_turn yX0_turn, Cond.code yX0_turn cX0_turn 7 (some .int), Cond.methodLink RX0 77 yX0_next, Cond.instanceMethod yX0_next, Cond.selects RX0 yX0_next yX0_next, Cond.code yX0_next cX0_next 2 (some .int)]
def wsX0_add_r2 : List Cond := [Cond.methodLink RX0 87 yX0_comesBefore, Cond.static yX0_comesBefore, Cond.code yX0_comesBefore cX0_comesBefore 4 (some .boolean), Cond.methodLink RX0 84 yX0_placeInRing, Cond.instanceMethod yX0_placeInRing, Cond.selects RX0 yX0_placeInRing yX0_placeInRing, Cond.code yX0_placeInRing cX0_placeInRing 6 (some .int), Cond.methodLink RX0 45 yX0_staysInLine, Cond.instanceMethod yX0_staysInLine, Cond.selects RX0 yX0_staysInLine yX0_staysInLine, Cond.code yX0_staysInLine cX0_staysInLine 3 (some .boolean), Cond.methodLink RX0 48 yX0_growLine, Cond.instanceMethod yX0_growLine, Cond.selects RX0 yX0_growLine yX0_growLine, Cond.code yX0_growLine cX0_growLine 5 (some .int), Cond.methodLink RX0 91 yX0_setCorner, Cond.instanceMethod yX0_setCorner, Cond.selects RX0 yX0_setCorner yX0_setCorner, Cond.code yX0_setCorner cX0_setCorner 4 none, Cond.methodLink RX0 51 yX0_growRing, Cond.instanceMethod yX0_growRing, Cond.selects RX0 yX0_growRing yX0_growRing, Cond.code yX0_growRing cX0_growRing 7 (some .int), Cond.fieldLink RX0 15 "OnlineHull" "cap" "I"]
def wsX0_add_r3 : List Cond := [Cond.methodLink RX0 65 yX0_firstSeen, Cond.instanceMethod yX0_firstSeen, Cond.selects RX0 yX0_firstSeen yX0_firstSeen, Cond.code yX0_firstSeen cX0_firstSeen 5 (some .int), Cond.methodLink RX0 102 yX0_previous, Cond.instanceMethod yX0_previous, Cond.selects RX0 yX0_previous yX0_previous, Cond.code yX0_previous cX0_previous 2 (some .int), Cond.methodLink RX0 68 yX0_lastSeen, Cond.instanceMethod yX0_lastSeen, Cond.selects RX0 yX0_lastSeen yX0_lastSeen, Cond.code yX0_lastSeen cX0_lastSeen 5 (some .int), Cond.methodLink RX0 54 yX0_isCorner, Cond.instanceMethod yX0_isCorner, Cond.selects RX0 yX0_isCorner yX0_isCorner, Cond.code yX0_isCorner cX0_isCorner 2 (some .boolean), Cond.methodLink RX0 95 yX0_fillRing, Cond.instanceMethod yX0_fillRing, Cond.selects RX0 yX0_fillRing yX0_fillRing, Cond.code yX0_fillRing cX0_fillRing 7 none, Cond.fieldLink RX0 26 "OnlineHull" "ringX" "[I", Cond.fieldLink RX0 29 "OnlineHull" "ringY" "[I", Cond.methodLink RX0 99 yX0_takeRing, Cond.instanceMethod yX0_takeRing]
def wsX0_add_r4 : List Cond := [Cond.selects RX0 yX0_takeRing yX0_takeRing, Cond.code yX0_takeRing cX0_takeRing 3 none, Cond.methodLink RX0 105 yX0_leastOfRing, Cond.instanceMethod yX0_leastOfRing, Cond.selects RX0 yX0_leastOfRing yX0_leastOfRing, Cond.code yX0_leastOfRing cX0_leastOfRing 3 (some .int)]
def wsX0_add : List Cond := .code yX0_add cX0_add 4 (some .int) :: ((wsX0_add_r1 ++ (wsX0_add_r2 ++ (wsX0_add_r3 ++ wsX0_add_r4))) ++ wsX00)
def wsX0_size : List Cond := .code yX0_size cX0_size 1 (some .int) :: ([.fieldLink RX0 32 "OnlineHull" "corners" "I"] ++ wsX00)
def wsX0_xOf : List Cond := .code yX0_xOf cX0_xOf 2 (some .int) :: ([.fieldLink RX0 19 "OnlineHull" "cornerX" "[I", .methodLink RX0 54 yX0_isCorner, .instanceMethod yX0_isCorner, .selects RX0 yX0_isCorner yX0_isCorner, .initialized RX0, .code yX0_isCorner cX0_isCorner 2 (some .boolean), .fieldLink RX0 32 "OnlineHull" "corners" "I"] ++ wsX00)
def wsX0_yOf : List Cond := .code yX0_yOf cX0_yOf 2 (some .int) :: ([.fieldLink RX0 23 "OnlineHull" "cornerY" "[I", .methodLink RX0 54 yX0_isCorner, .instanceMethod yX0_isCorner, .selects RX0 yX0_isCorner yX0_isCorner, .initialized RX0, .code yX0_isCorner cX0_isCorner 2 (some .boolean), .fieldLink RX0 32 "OnlineHull" "corners" "I"] ++ wsX00)
def wsX0_inside_r1 : List Cond := [Cond.methodLink RX0 38 yX0_inRange, Cond.static yX0_inRange, Cond.initialized RX0, Cond.code yX0_inRange cX0_inRange 2 (some .boolean), Cond.methodLink RX0 42 yX0_placeOf, Cond.instanceMethod yX0_placeOf, Cond.selects RX0 yX0_placeOf yX0_placeOf, Cond.code yX0_placeOf cX0_placeOf 3 (some .int), Cond.fieldLink RX0 32 "OnlineHull" "corners" "I", Cond.methodLink RX0 81 yX0_placeInLine, Cond.instanceMethod yX0_placeInLine, Cond.selects RX0 yX0_placeInLine yX0_placeInLine, Cond.code yX0_placeInLine cX0_placeInLine 5 (some .int), Cond.fieldLink RX0 19 "OnlineHull" "cornerX" "[I", Cond.fieldLink RX0 23 "OnlineHull" "cornerY" "[I", Cond.methodLink RX0 58 yX0_turn, Cond.instanceMethod yX0_turn, Cond.selects RX0 yX0_turn yX0_turn, Cond.code yX0_turn cX0_turn 7 (some .int), Cond.methodLink RX0 77 yX0_next, Cond.instanceMethod yX0_next, Cond.selects RX0 yX0_next yX0_next, Cond.code yX0_next cX0_next 2 (some .int), Cond.methodLink RX0 87 yX0_comesBefore]
def wsX0_inside_r2 : List Cond := [Cond.static yX0_comesBefore, Cond.code yX0_comesBefore cX0_comesBefore 4 (some .boolean), Cond.methodLink RX0 84 yX0_placeInRing, Cond.instanceMethod yX0_placeInRing, Cond.selects RX0 yX0_placeInRing yX0_placeInRing, Cond.code yX0_placeInRing cX0_placeInRing 6 (some .int)]
def wsX0_inside : List Cond := .code yX0_inside cX0_inside 3 (some .int) :: ((wsX0_inside_r1 ++ wsX0_inside_r2) ++ wsX00)
def wsX0_twiceArea : List Cond := .code yX0_twiceArea cX0_twiceArea 3 (some .int) :: ([.fieldLink RX0 32 "OnlineHull" "corners" "I", .fieldLink RX0 19 "OnlineHull" "cornerX" "[I", .fieldLink RX0 23 "OnlineHull" "cornerY" "[I", .methodLink RX0 58 yX0_turn, .instanceMethod yX0_turn, .selects RX0 yX0_turn yX0_turn, .initialized RX0, .code yX0_turn cX0_turn 7 (some .int), .methodLink RX0 77 yX0_next, .instanceMethod yX0_next, .selects RX0 yX0_next yX0_next, .code yX0_next cX0_next 2 (some .int)] ++ wsX00)
def wsX0_reach : List Cond := .code yX0_reach cX0_reach 4 (some .int) :: ([.fieldLink RX0 19 "OnlineHull" "cornerX" "[I", .fieldLink RX0 23 "OnlineHull" "cornerY" "[I"] ++ wsX00)
def wsX0_farthest : List Cond := .code yX0_farthest cX0_farthest 5 (some .int) :: ([.fieldLink RX0 32 "OnlineHull" "corners" "I", .methodLink RX0 38 yX0_inRange, .static yX0_inRange, .initialized RX0, .code yX0_inRange cX0_inRange 2 (some .boolean), .methodLink RX0 62 yX0_reach, .instanceMethod yX0_reach, .selects RX0 yX0_reach yX0_reach, .code yX0_reach cX0_reach 4 (some .int), .fieldLink RX0 19 "OnlineHull" "cornerX" "[I", .fieldLink RX0 23 "OnlineHull" "cornerY" "[I"] ++ wsX00)
def wsX0_tangent_r1 : List Cond := [Cond.fieldLink RX0 32 "OnlineHull" "corners" "I", Cond.methodLink RX0 38 yX0_inRange, Cond.static yX0_inRange, Cond.initialized RX0, Cond.code yX0_inRange cX0_inRange 2 (some .boolean), Cond.methodLink RX0 42 yX0_placeOf, Cond.instanceMethod yX0_placeOf, Cond.selects RX0 yX0_placeOf yX0_placeOf, Cond.code yX0_placeOf cX0_placeOf 3 (some .int), Cond.methodLink RX0 81 yX0_placeInLine, Cond.instanceMethod yX0_placeInLine, Cond.selects RX0 yX0_placeInLine yX0_placeInLine, Cond.code yX0_placeInLine cX0_placeInLine 5 (some .int), Cond.fieldLink RX0 19 "OnlineHull" "cornerX" "[I", Cond.fieldLink RX0 23 "OnlineHull" "cornerY" "[I", Cond.methodLink RX0 58 yX0_turn, Cond.instanceMethod yX0_turn, Cond.selects RX0 yX0_turn yX0_turn, Cond.code yX0_turn cX0_turn 7 (some .int), Cond.methodLink RX0 77 yX0_next, Cond.instanceMethod yX0_next, Cond.selects RX0 yX0_next yX0_next, Cond.code yX0_next cX0_next 2 (some .int), Cond.methodLink RX0 87 yX0_comesBefore]
def wsX0_tangent_r2 : List Cond := [Cond.static yX0_comesBefore, Cond.code yX0_comesBefore cX0_comesBefore 4 (some .boolean), Cond.methodLink RX0 84 yX0_placeInRing, Cond.instanceMethod yX0_placeInRing, Cond.selects RX0 yX0_placeInRing yX0_placeInRing, Cond.code yX0_placeInRing cX0_placeInRing 6 (some .int), Cond.methodLink RX0 65 yX0_firstSeen, Cond.instanceMethod yX0_firstSeen, Cond.selects RX0 yX0_firstSeen yX0_firstSeen, Cond.code yX0_firstSeen cX0_firstSeen 5 (some .int), Cond.methodLink RX0 102 yX0_previous, Cond.instanceMethod yX0_previous, Cond.selects RX0 yX0_previous yX0_previous, Cond.code yX0_previous cX0_previous 2 (some .int), Cond.methodLink RX0 68 yX0_lastSeen, Cond.instanceMethod yX0_lastSeen, Cond.selects RX0 yX0_lastSeen yX0_lastSeen, Cond.code yX0_lastSeen cX0_lastSeen 5 (some .int)]
def wsX0_tangent : List Cond := .code yX0_tangent cX0_tangent 4 (some .int) :: ((wsX0_tangent_r1 ++ wsX0_tangent_r2) ++ wsX00)
def wsX0_squaredDistance : List Cond := .code yX0_squaredDistance cX0_squaredDistance 5 (some .int) :: ([.fieldLink RX0 19 "OnlineHull" "cornerX" "[I", .fieldLink RX0 23 "OnlineHull" "cornerY" "[I"] ++ wsX00)
def wsX0_diameter : List Cond := .code yX0_diameter cX0_diameter 4 (some .int) :: ([.fieldLink RX0 32 "OnlineHull" "corners" "I", .methodLink RX0 74 Lib.Math.max.name, .static Lib.Math.max.name, .initialized "java/lang/Math", .code Lib.Math.max.name Lib.Math.max.code 2 (some .int), .methodLink RX0 71 yX0_squaredDistance, .instanceMethod yX0_squaredDistance, .selects RX0 yX0_squaredDistance yX0_squaredDistance, .initialized RX0, .code yX0_squaredDistance cX0_squaredDistance 5 (some .int), .fieldLink RX0 19 "OnlineHull" "cornerX" "[I", .fieldLink RX0 23 "OnlineHull" "cornerY" "[I"] ++ wsX00)
def wsX0_points : List Cond := .code yX0_points cX0_points 1 (some .int) :: ([.fieldLink RX0 35 "OnlineHull" "came" "I"] ++ wsX00)
def wsX1_init : List Cond := .code yX1_init cX1_init 3 none :: ([.methodLink RX1 1 objectInit, .instanceMethod objectInit, .code objectInit ⟨#[0xb1]⟩ 1 none, .arrayClass .int, .fieldLink RX1 7 "OnlineHullModel" "xs" "[I", .fieldLink RX1 13 "OnlineHullModel" "ys" "[I", .fieldLink RX1 16 "OnlineHullModel" "px" "[I", .fieldLink RX1 19 "OnlineHullModel" "py" "[I", .fieldLink RX1 22 "OnlineHullModel" "round" "[I", .fieldLink RX1 25 "OnlineHullModel" "cap" "I"] ++ wsX10)
def wsX1_inRange : List Cond := .code yX1_inRange cX1_inRange 2 (some .boolean) :: ([])
def wsX1_turn : List Cond := .code yX1_turn cX1_turn 12 (some .long) :: ([])
def wsX1_between : List Cond := .code yX1_between cX1_between 3 (some .boolean) :: ([])
def wsX1_side : List Cond := .code yX1_side cX1_side 5 (some .long) :: ([.fieldLink RX1 29 "OnlineHullModel" "corners" "I", .fieldLink RX1 7 "OnlineHullModel" "xs" "[I", .fieldLink RX1 13 "OnlineHullModel" "ys" "[I", .methodLink RX1 32 yX1_turn, .static yX1_turn, .initialized RX1, .code yX1_turn cX1_turn 12 (some .long)] ++ wsX10)
def wsX1_inside : List Cond := .code yX1_inside cX1_inside 7 (some .int) :: ([.fieldLink RX1 29 "OnlineHullModel" "corners" "I", .fieldLink RX1 7 "OnlineHullModel" "xs" "[I", .fieldLink RX1 13 "OnlineHullModel" "ys" "[I", .methodLink RX1 36 yX1_inRange, .static yX1_inRange, .initialized RX1, .code yX1_inRange cX1_inRange 2 (some .boolean), .methodLink RX1 32 yX1_turn, .static yX1_turn, .code yX1_turn cX1_turn 12 (some .long), .methodLink RX1 40 yX1_between, .static yX1_between, .code yX1_between cX1_between 3 (some .boolean), .methodLink RX1 44 yX1_side, .instanceMethod yX1_side, .selects RX1 yX1_side yX1_side, .code yX1_side cX1_side 5 (some .long)] ++ wsX10)
def wsX1_isNext : List Cond := .code yX1_isNext cX1_isNext 14 (some .boolean) :: ([.fieldLink RX1 16 "OnlineHullModel" "px" "[I", .fieldLink RX1 19 "OnlineHullModel" "py" "[I", .methodLink RX1 32 yX1_turn, .static yX1_turn, .initialized RX1, .code yX1_turn cX1_turn 12 (some .long)] ++ wsX10)
def wsX1_goRound : List Cond := .code yX1_goRound cX1_goRound 8 (some .int) :: ([.fieldLink RX1 16 "OnlineHullModel" "px" "[I", .fieldLink RX1 19 "OnlineHullModel" "py" "[I", .fieldLink RX1 22 "OnlineHullModel" "round" "[I", .methodLink RX1 48 yX1_isNext, .instanceMethod yX1_isNext, .selects RX1 yX1_isNext yX1_isNext, .initialized RX1, .code yX1_isNext cX1_isNext 14 (some .boolean), .methodLink RX1 32 yX1_turn, .static yX1_turn, .code yX1_turn cX1_turn 12 (some .long)] ++ wsX10)
def wsX1_add_r1 : List Cond := [Cond.fieldLink RX1 55 "OnlineHullModel" "points" "I", Cond.fieldLink RX1 29 "OnlineHullModel" "corners" "I", Cond.fieldLink RX1 16 "OnlineHullModel" "px" "[I", Cond.fieldLink RX1 7 "OnlineHullModel" "xs" "[I", Cond.fieldLink RX1 19 "OnlineHullModel" "py" "[I", Cond.fieldLink RX1 13 "OnlineHullModel" "ys" "[I", Cond.fieldLink RX1 25 "OnlineHullModel" "cap" "I", Cond.fieldLink RX1 22 "OnlineHullModel" "round" "[I", Cond.methodLink RX1 36 yX1_inRange, Cond.static yX1_inRange, Cond.initialized RX1, Cond.code yX1_inRange cX1_inRange 2 (some .boolean), Cond.methodLink RX1 51 yX1_inside, Cond.instanceMethod yX1_inside, Cond.selects RX1 yX1_inside yX1_inside, Cond.code yX1_inside cX1_inside 7 (some .int), Cond.methodLink RX1 32 yX1_turn, Cond.static yX1_turn, Cond.code yX1_turn cX1_turn 12 (some .long), Cond.methodLink RX1 40 yX1_between, Cond.static yX1_between, Cond.code yX1_between cX1_between 3 (some .boolean), Cond.methodLink RX1 44 yX1_side, Cond.instanceMethod yX1_side]
def wsX1_add_r2 : List Cond := [Cond.selects RX1 yX1_side yX1_side, Cond.code yX1_side cX1_side 5 (some .long), Cond.methodLink RX1 58 yX1_goRound, Cond.instanceMethod yX1_goRound, Cond.selects RX1 yX1_goRound yX1_goRound, Cond.code yX1_goRound cX1_goRound 8 (some .int), Cond.methodLink RX1 48 yX1_isNext, Cond.instanceMethod yX1_isNext, Cond.selects RX1 yX1_isNext yX1_isNext, Cond.code yX1_isNext cX1_isNext 14 (some .boolean)]
def wsX1_add : List Cond := .code yX1_add cX1_add 6 (some .int) :: ((wsX1_add_r1 ++ wsX1_add_r2) ++ wsX10)
def wsX1_size : List Cond := .code yX1_size cX1_size 1 (some .int) :: ([.fieldLink RX1 29 "OnlineHullModel" "corners" "I"] ++ wsX10)
def wsX1_xOf : List Cond := .code yX1_xOf cX1_xOf 2 (some .int) :: ([.fieldLink RX1 29 "OnlineHullModel" "corners" "I", .fieldLink RX1 7 "OnlineHullModel" "xs" "[I"] ++ wsX10)
def wsX1_yOf : List Cond := .code yX1_yOf cX1_yOf 2 (some .int) :: ([.fieldLink RX1 29 "OnlineHullModel" "corners" "I", .fieldLink RX1 13 "OnlineHullModel" "ys" "[I"] ++ wsX10)
def wsX1_twiceArea : List Cond := .code yX1_twiceArea cX1_twiceArea 4 (some .int) :: ([.fieldLink RX1 29 "OnlineHullModel" "corners" "I", .fieldLink RX1 7 "OnlineHullModel" "xs" "[I", .fieldLink RX1 13 "OnlineHullModel" "ys" "[I", .methodLink RX1 32 yX1_turn, .static yX1_turn, .initialized RX1, .code yX1_turn cX1_turn 12 (some .long)] ++ wsX10)
def wsX1_farthest : List Cond := .code yX1_farthest cX1_farthest 5 (some .int) :: ([.fieldLink RX1 29 "OnlineHullModel" "corners" "I", .fieldLink RX1 7 "OnlineHullModel" "xs" "[I", .fieldLink RX1 13 "OnlineHullModel" "ys" "[I", .methodLink RX1 36 yX1_inRange, .static yX1_inRange, .initialized RX1, .code yX1_inRange cX1_inRange 2 (some .boolean)] ++ wsX10)
def wsX1_tangent : List Cond := .code yX1_tangent cX1_tangent 10 (some .int) :: ([.fieldLink RX1 29 "OnlineHullModel" "corners" "I", .methodLink RX1 36 yX1_inRange, .static yX1_inRange, .initialized RX1, .code yX1_inRange cX1_inRange 2 (some .boolean), .methodLink RX1 51 yX1_inside, .instanceMethod yX1_inside, .selects RX1 yX1_inside yX1_inside, .code yX1_inside cX1_inside 7 (some .int), .fieldLink RX1 7 "OnlineHullModel" "xs" "[I", .fieldLink RX1 13 "OnlineHullModel" "ys" "[I", .methodLink RX1 32 yX1_turn, .static yX1_turn, .code yX1_turn cX1_turn 12 (some .long), .methodLink RX1 40 yX1_between, .static yX1_between, .code yX1_between cX1_between 3 (some .boolean), .methodLink RX1 44 yX1_side, .instanceMethod yX1_side, .selects RX1 yX1_side yX1_side, .code yX1_side cX1_side 5 (some .long)] ++ wsX10)
def wsX1_diameter : List Cond := .code yX1_diameter cX1_diameter 9 (some .int) :: ([.fieldLink RX1 29 "OnlineHullModel" "corners" "I", .fieldLink RX1 7 "OnlineHullModel" "xs" "[I", .fieldLink RX1 13 "OnlineHullModel" "ys" "[I"] ++ wsX10)
def wsX1_points : List Cond := .code yX1_points cX1_points 1 (some .int) :: ([.fieldLink RX1 55 "OnlineHullModel" "points" "I"] ++ wsX10)
def wsJ9_max_7cf53 : List Cond := .code yJ9_max_7cf53 cJ9_max_7cf53 2 (some .int) :: ([])
def wsL_cell : List Cond := .code yL_cell cL_cell 2 (some .int) :: ([])
def wsL_law_r1 : List Cond := [Cond.classLink RL 7 RX0, Cond.instantiable RX0 7, Cond.initialized RX0, Cond.classLink RL 18 RX1, Cond.instantiable RX1 8, Cond.initialized RX1, Cond.methodLink RL 9 yL_cell, Cond.static yL_cell, Cond.initialized RL, Cond.code yL_cell cL_cell 2 (some .int), Cond.methodLink RL 15 yX0_init, Cond.instanceMethod yX0_init, Cond.code yX0_init cX0_init 2 none, Cond.methodLink RX0 1 objectInit, Cond.instanceMethod objectInit, Cond.code objectInit ⟨#[0xb1]⟩ 1 none, Cond.fieldLink RX0 15 "OnlineHull" "cap" "I", Cond.arrayClass .int, Cond.fieldLink RX0 19 "OnlineHull" "cornerX" "[I", Cond.fieldLink RX0 23 "OnlineHull" "cornerY" "[I", Cond.fieldLink RX0 26 "OnlineHull" "ringX" "[I", Cond.fieldLink RX0 29 "OnlineHull" "ringY" "[I", Cond.fieldLink RX0 32 "OnlineHull" "corners" "I", Cond.fieldLink RX0 35 "OnlineHull" "came" "I"]
def wsL_law_r2 : List Cond := [Cond.methodLink RX0 9 yJ9_floorMod_7cf53, Cond.static yJ9_floorMod_7cf53, Cond.initialized RJ9, Cond.code yJ9_floorMod_7cf53 cJ9_floorMod_7cf53 3 (some .int), Cond.methodLink RL 20 yX1_init, Cond.instanceMethod yX1_init, Cond.code yX1_init cX1_init 3 none, Cond.methodLink RX1 1 objectInit, Cond.fieldLink RX1 7 "OnlineHullModel" "xs" "[I", Cond.fieldLink RX1 13 "OnlineHullModel" "ys" "[I", Cond.fieldLink RX1 16 "OnlineHullModel" "px" "[I", Cond.fieldLink RX1 19 "OnlineHullModel" "py" "[I", Cond.fieldLink RX1 22 "OnlineHullModel" "round" "[I", Cond.fieldLink RX1 25 "OnlineHullModel" "cap" "I", Cond.methodLink RL 21 yX0_add, Cond.instanceMethod yX0_add, Cond.selects RX0 yX0_add yX0_add, Cond.code yX0_add cX0_add 4 (some .int), Cond.methodLink RX0 38 yX0_inRange, Cond.static yX0_inRange, Cond.code yX0_inRange cX0_inRange 2 (some .boolean), Cond.methodLink RX0 42 yX0_placeOf, Cond.instanceMethod yX0_placeOf, Cond.selects RX0 yX0_placeOf yX0_placeOf]
def wsL_law_r3 : List Cond := [Cond.code yX0_placeOf cX0_placeOf 3 (some .int), Cond.methodLink RX0 81 yX0_placeInLine, Cond.instanceMethod yX0_placeInLine, Cond.selects RX0 yX0_placeInLine yX0_placeInLine, Cond.code yX0_placeInLine cX0_placeInLine 5 (some .int), Cond.methodLink RX0 58 yX0_turn, Cond.instanceMethod yX0_turn, Cond.selects RX0 yX0_turn yX0_turn, Cond.code yX0_turn cX0_turn 7 (some .int), Cond.methodLink RX0 77 yX0_next, Cond.instanceMethod yX0_next, Cond.selects RX0 yX0_next yX0_next, Cond.code yX0_next cX0_next 2 (some .int), Cond.methodLink RX0 87 yX0_comesBefore, Cond.static yX0_comesBefore, Cond.code yX0_comesBefore cX0_comesBefore 4 (some .boolean), Cond.methodLink RX0 84 yX0_placeInRing, Cond.instanceMethod yX0_placeInRing, Cond.selects RX0 yX0_placeInRing yX0_placeInRing, Cond.code yX0_placeInRing cX0_placeInRing 6 (some .int), Cond.methodLink RX0 45 yX0_staysInLine, Cond.instanceMethod yX0_staysInLine, Cond.selects RX0 yX0_staysInLine yX0_staysInLine, Cond.code yX0_staysInLine cX0_staysInLine 3 (some .boolean)]
def wsL_law_r4 : List Cond := [Cond.methodLink RX0 48 yX0_growLine, Cond.instanceMethod yX0_growLine, Cond.selects RX0 yX0_growLine yX0_growLine, Cond.code yX0_growLine cX0_growLine 5 (some .int), Cond.methodLink RX0 91 yX0_setCorner, Cond.instanceMethod yX0_setCorner, Cond.selects RX0 yX0_setCorner yX0_setCorner, Cond.code yX0_setCorner cX0_setCorner 4 none, Cond.methodLink RX0 51 yX0_growRing, Cond.instanceMethod yX0_growRing, Cond.selects RX0 yX0_growRing yX0_growRing, Cond.code yX0_growRing cX0_growRing 7 (some .int), Cond.methodLink RX0 65 yX0_firstSeen, Cond.instanceMethod yX0_firstSeen, Cond.selects RX0 yX0_firstSeen yX0_firstSeen, Cond.code yX0_firstSeen cX0_firstSeen 5 (some .int), Cond.methodLink RX0 102 yX0_previous, Cond.instanceMethod yX0_previous, Cond.selects RX0 yX0_previous yX0_previous, Cond.code yX0_previous cX0_previous 2 (some .int), Cond.methodLink RX0 68 yX0_lastSeen, Cond.instanceMethod yX0_lastSeen, Cond.selects RX0 yX0_lastSeen yX0_lastSeen, Cond.code yX0_lastSeen cX0_lastSeen 5 (some .int)]
def wsL_law_r5 : List Cond := [Cond.methodLink RX0 54 yX0_isCorner, Cond.instanceMethod yX0_isCorner, Cond.selects RX0 yX0_isCorner yX0_isCorner, Cond.code yX0_isCorner cX0_isCorner 2 (some .boolean), Cond.methodLink RX0 95 yX0_fillRing, Cond.instanceMethod yX0_fillRing, Cond.selects RX0 yX0_fillRing yX0_fillRing, Cond.code yX0_fillRing cX0_fillRing 7 none, Cond.methodLink RX0 99 yX0_takeRing, Cond.instanceMethod yX0_takeRing, Cond.selects RX0 yX0_takeRing yX0_takeRing, Cond.code yX0_takeRing cX0_takeRing 3 none, Cond.methodLink RX0 105 yX0_leastOfRing, Cond.instanceMethod yX0_leastOfRing, Cond.selects RX0 yX0_leastOfRing yX0_leastOfRing, Cond.code yX0_leastOfRing cX0_leastOfRing 3 (some .int), Cond.methodLink RL 25 yX1_add, Cond.instanceMethod yX1_add, Cond.selects RX1 yX1_add yX1_add, Cond.code yX1_add cX1_add 6 (some .int), Cond.fieldLink RX1 55 "OnlineHullModel" "points" "I", Cond.fieldLink RX1 29 "OnlineHullModel" "corners" "I", Cond.methodLink RX1 36 yX1_inRange, Cond.static yX1_inRange]
def wsL_law_r6 : List Cond := [Cond.code yX1_inRange cX1_inRange 2 (some .boolean), Cond.methodLink RX1 51 yX1_inside, Cond.instanceMethod yX1_inside, Cond.selects RX1 yX1_inside yX1_inside, Cond.code yX1_inside cX1_inside 7 (some .int), Cond.methodLink RX1 32 yX1_turn, Cond.static yX1_turn, Cond.code yX1_turn cX1_turn 12 (some .long), Cond.methodLink RX1 40 yX1_between, Cond.static yX1_between, Cond.code yX1_between cX1_between 3 (some .boolean), Cond.methodLink RX1 44 yX1_side, Cond.instanceMethod yX1_side, Cond.selects RX1 yX1_side yX1_side, Cond.code yX1_side cX1_side 5 (some .long), Cond.methodLink RX1 58 yX1_goRound, Cond.instanceMethod yX1_goRound, Cond.selects RX1 yX1_goRound yX1_goRound, Cond.code yX1_goRound cX1_goRound 8 (some .int), Cond.methodLink RX1 48 yX1_isNext, Cond.instanceMethod yX1_isNext, Cond.selects RX1 yX1_isNext yX1_isNext, Cond.code yX1_isNext cX1_isNext 14 (some .boolean), Cond.methodLink RL 26 yX0_size]
def wsL_law_r7 : List Cond := [Cond.instanceMethod yX0_size, Cond.selects RX0 yX0_size yX0_size, Cond.code yX0_size cX0_size 1 (some .int), Cond.methodLink RL 30 yX1_size, Cond.instanceMethod yX1_size, Cond.selects RX1 yX1_size yX1_size, Cond.code yX1_size cX1_size 1 (some .int), Cond.methodLink RL 31 yX0_xOf, Cond.instanceMethod yX0_xOf, Cond.selects RX0 yX0_xOf yX0_xOf, Cond.code yX0_xOf cX0_xOf 2 (some .int), Cond.methodLink RL 35 yX1_xOf, Cond.instanceMethod yX1_xOf, Cond.selects RX1 yX1_xOf yX1_xOf, Cond.code yX1_xOf cX1_xOf 2 (some .int), Cond.methodLink RL 36 yX0_yOf, Cond.instanceMethod yX0_yOf, Cond.selects RX0 yX0_yOf yX0_yOf, Cond.code yX0_yOf cX0_yOf 2 (some .int), Cond.methodLink RL 39 yX1_yOf, Cond.instanceMethod yX1_yOf, Cond.selects RX1 yX1_yOf yX1_yOf, Cond.code yX1_yOf cX1_yOf 2 (some .int), Cond.methodLink RL 40 yX0_inside]
def wsL_law_r8 : List Cond := [Cond.instanceMethod yX0_inside, Cond.selects RX0 yX0_inside yX0_inside, Cond.code yX0_inside cX0_inside 3 (some .int), Cond.methodLink RL 43 yX1_inside, Cond.methodLink RL 44 yX0_twiceArea, Cond.instanceMethod yX0_twiceArea, Cond.selects RX0 yX0_twiceArea yX0_twiceArea, Cond.code yX0_twiceArea cX0_twiceArea 3 (some .int), Cond.methodLink RL 47 yX1_twiceArea, Cond.instanceMethod yX1_twiceArea, Cond.selects RX1 yX1_twiceArea yX1_twiceArea, Cond.code yX1_twiceArea cX1_twiceArea 4 (some .int), Cond.methodLink RL 48 yX0_farthest, Cond.instanceMethod yX0_farthest, Cond.selects RX0 yX0_farthest yX0_farthest, Cond.code yX0_farthest cX0_farthest 5 (some .int), Cond.methodLink RX0 62 yX0_reach, Cond.instanceMethod yX0_reach, Cond.selects RX0 yX0_reach yX0_reach, Cond.code yX0_reach cX0_reach 4 (some .int), Cond.methodLink RL 51 yX1_farthest, Cond.instanceMethod yX1_farthest, Cond.selects RX1 yX1_farthest yX1_farthest, Cond.code yX1_farthest cX1_farthest 5 (some .int)]
def wsL_law_r9 : List Cond := [Cond.methodLink RL 52 yX0_tangent, Cond.instanceMethod yX0_tangent, Cond.selects RX0 yX0_tangent yX0_tangent, Cond.code yX0_tangent cX0_tangent 4 (some .int), Cond.methodLink RL 56 yX1_tangent, Cond.instanceMethod yX1_tangent, Cond.selects RX1 yX1_tangent yX1_tangent, Cond.code yX1_tangent cX1_tangent 10 (some .int), Cond.methodLink RL 57 yX0_diameter, Cond.instanceMethod yX0_diameter, Cond.selects RX0 yX0_diameter yX0_diameter, Cond.code yX0_diameter cX0_diameter 4 (some .int), Cond.methodLink RX0 74 Lib.Math.max.name, Cond.static Lib.Math.max.name, Cond.initialized "java/lang/Math", Cond.code Lib.Math.max.name Lib.Math.max.code 2 (some .int), Cond.methodLink RX0 71 yX0_squaredDistance, Cond.instanceMethod yX0_squaredDistance, Cond.selects RX0 yX0_squaredDistance yX0_squaredDistance, Cond.code yX0_squaredDistance cX0_squaredDistance 5 (some .int), Cond.methodLink RL 60 yX1_diameter, Cond.instanceMethod yX1_diameter, Cond.selects RX1 yX1_diameter yX1_diameter, Cond.code yX1_diameter cX1_diameter 9 (some .int)]
def wsL_law_r10 : List Cond := [Cond.methodLink RL 61 yX0_points, Cond.instanceMethod yX0_points, Cond.selects RX0 yX0_points yX0_points, Cond.code yX0_points cX0_points 1 (some .int), Cond.methodLink RL 64 yX1_points, Cond.instanceMethod yX1_points, Cond.selects RX1 yX1_points yX1_points, Cond.code yX1_points cX1_points 1 (some .int)]
def wsL_law : List Cond := (wsL_law_r1 ++ (wsL_law_r2 ++ (wsL_law_r3 ++ (wsL_law_r4 ++ (wsL_law_r5 ++ (wsL_law_r6 ++ (wsL_law_r7 ++ (wsL_law_r8 ++ (wsL_law_r9 ++ wsL_law_r10))))))))) ++ wsX00 ++ wsX10 ++ ([] : List Cond)
set_option maxRecDepth 20000 in
theorem wsL_law_in : ∀ w ∈ wsL_law, w ∈ lw_tbl := fun w h => (goodIn_p wsL_law [182, 29, 32, 35, 187, 62, 65, 69, 73, 77, 81, 84, 88, 92, 96, 100, 104, 108, 112, 116, 120, 124, 128, 132, 234, 220, 217, 223, 226, 230, 239, 243, 136, 247, 140, 251, 144, 255, 148, 152, 259, 156, 160, 263, 164, 267, 168, 175, 172, 271, 179, 275] (by decide +kernel) (by decide +kernel) w h).1
theorem inlX0 : ∀ w ∈ wsX00, w ∈ wsL_law := fun _ h => List.mem_append_left _ (List.mem_append_left _ (List.mem_append_right _ h))
theorem inX0 : ∀ w ∈ wsX00, w ∈ lw_tbl := fun w h => wsL_law_in w (inlX0 w h)
theorem inlX1 : ∀ w ∈ wsX10, w ∈ wsL_law := fun _ h => List.mem_append_left _ (List.mem_append_right _ h)
theorem inX1 : ∀ w ∈ wsX10, w ∈ lw_tbl := fun w h => wsL_law_in w (inlX1 w h)
theorem inJ9 : ∀ w ∈ wsJ90, w ∈ lw_tbl := by decide +kernel
set_option maxRecDepth 20000 in
theorem ggX0_init_J9_floorMod_7cf53 : GoodIn wsX0_init wsJ9_floorMod_7cf53 := goodIn_r _ [15] (by decide +kernel) (by decide +kernel)
set_option maxRecDepth 20000 in
theorem gX0_init_J9_floorMod_7cf53 : GoodIn wsX0_init (va_wsS RX0 9 yJ9_floorMod_7cf53 wsJ9_floorMod_7cf53) := goodIn_app (goodIn_of _ (by decide +kernel)) ggX0_init_J9_floorMod_7cf53
