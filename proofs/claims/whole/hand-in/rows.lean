section
-- the tables' words (a starting text of the kit)
-- by its rows of tables_1
def lw_okq (q : MethodName × Nat) : Prop := (q.1.cls ≠ "java/lang/invoke/MethodHandle" ∧ q.1.cls ≠ "java/lang/invoke/VarHandle") ∧ Cond.instantiable q.1.cls q.2 ∈ tables_1 ∧ Cond.privateMethod q.1 ∈ tables_1 ∧ Cond.instanceMethod q.1 ∈ tables_1
theorem lw_p0 : lw_okq (⟨"OnlineHull", "placeOf", "(II)I"⟩, 7) := ⟨⟨by decide +kernel, by decide +kernel⟩, List.mem_of_getElem? (i := 5) (by decide +kernel), List.mem_of_getElem? (i := 46) (by decide +kernel), List.mem_of_getElem? (i := 47) (by decide +kernel)⟩
theorem lw_p1 : lw_okq (⟨"OnlineHull", "placeInLine", "(II)I"⟩, 7) := ⟨⟨by decide +kernel, by decide +kernel⟩, List.mem_of_getElem? (i := 5) (by decide +kernel), List.mem_of_getElem? (i := 50) (by decide +kernel), List.mem_of_getElem? (i := 51) (by decide +kernel)⟩
theorem lw_p2 : lw_okq (⟨"OnlineHull", "turn", "(III)I"⟩, 7) := ⟨⟨by decide +kernel, by decide +kernel⟩, List.mem_of_getElem? (i := 5) (by decide +kernel), List.mem_of_getElem? (i := 54) (by decide +kernel), List.mem_of_getElem? (i := 55) (by decide +kernel)⟩
theorem lw_p3 : lw_okq (⟨"OnlineHull", "next", "(I)I"⟩, 7) := ⟨⟨by decide +kernel, by decide +kernel⟩, List.mem_of_getElem? (i := 5) (by decide +kernel), List.mem_of_getElem? (i := 58) (by decide +kernel), List.mem_of_getElem? (i := 59) (by decide +kernel)⟩
theorem lw_p4 : lw_okq (⟨"OnlineHull", "placeInRing", "(II)I"⟩, 7) := ⟨⟨by decide +kernel, by decide +kernel⟩, List.mem_of_getElem? (i := 5) (by decide +kernel), List.mem_of_getElem? (i := 65) (by decide +kernel), List.mem_of_getElem? (i := 66) (by decide +kernel)⟩
theorem lw_p5 : lw_okq (⟨"OnlineHull", "staysInLine", "(II)Z"⟩, 7) := ⟨⟨by decide +kernel, by decide +kernel⟩, List.mem_of_getElem? (i := 5) (by decide +kernel), List.mem_of_getElem? (i := 69) (by decide +kernel), List.mem_of_getElem? (i := 70) (by decide +kernel)⟩
theorem lw_p6 : lw_okq (⟨"OnlineHull", "growLine", "(II)I"⟩, 7) := ⟨⟨by decide +kernel, by decide +kernel⟩, List.mem_of_getElem? (i := 5) (by decide +kernel), List.mem_of_getElem? (i := 73) (by decide +kernel), List.mem_of_getElem? (i := 74) (by decide +kernel)⟩
theorem lw_p7 : lw_okq (⟨"OnlineHull", "setCorner", "(III)V"⟩, 7) := ⟨⟨by decide +kernel, by decide +kernel⟩, List.mem_of_getElem? (i := 5) (by decide +kernel), List.mem_of_getElem? (i := 77) (by decide +kernel), List.mem_of_getElem? (i := 78) (by decide +kernel)⟩
theorem lw_p8 : lw_okq (⟨"OnlineHull", "growRing", "(II)I"⟩, 7) := ⟨⟨by decide +kernel, by decide +kernel⟩, List.mem_of_getElem? (i := 5) (by decide +kernel), List.mem_of_getElem? (i := 81) (by decide +kernel), List.mem_of_getElem? (i := 82) (by decide +kernel)⟩
theorem lw_p9 : lw_okq (⟨"OnlineHull", "firstSeen", "(III)I"⟩, 7) := ⟨⟨by decide +kernel, by decide +kernel⟩, List.mem_of_getElem? (i := 5) (by decide +kernel), List.mem_of_getElem? (i := 85) (by decide +kernel), List.mem_of_getElem? (i := 86) (by decide +kernel)⟩
theorem lw_p10 : lw_okq (⟨"OnlineHull", "previous", "(I)I"⟩, 7) := ⟨⟨by decide +kernel, by decide +kernel⟩, List.mem_of_getElem? (i := 5) (by decide +kernel), List.mem_of_getElem? (i := 89) (by decide +kernel), List.mem_of_getElem? (i := 90) (by decide +kernel)⟩
theorem lw_p11 : lw_okq (⟨"OnlineHull", "lastSeen", "(III)I"⟩, 7) := ⟨⟨by decide +kernel, by decide +kernel⟩, List.mem_of_getElem? (i := 5) (by decide +kernel), List.mem_of_getElem? (i := 93) (by decide +kernel), List.mem_of_getElem? (i := 94) (by decide +kernel)⟩
theorem lw_p12 : lw_okq (⟨"OnlineHull", "isCorner", "(I)Z"⟩, 7) := ⟨⟨by decide +kernel, by decide +kernel⟩, List.mem_of_getElem? (i := 5) (by decide +kernel), List.mem_of_getElem? (i := 97) (by decide +kernel), List.mem_of_getElem? (i := 98) (by decide +kernel)⟩
theorem lw_p13 : lw_okq (⟨"OnlineHull", "fillRing", "(IIII)V"⟩, 7) := ⟨⟨by decide +kernel, by decide +kernel⟩, List.mem_of_getElem? (i := 5) (by decide +kernel), List.mem_of_getElem? (i := 101) (by decide +kernel), List.mem_of_getElem? (i := 102) (by decide +kernel)⟩
theorem lw_p14 : lw_okq (⟨"OnlineHull", "takeRing", "()V"⟩, 7) := ⟨⟨by decide +kernel, by decide +kernel⟩, List.mem_of_getElem? (i := 5) (by decide +kernel), List.mem_of_getElem? (i := 105) (by decide +kernel), List.mem_of_getElem? (i := 106) (by decide +kernel)⟩
theorem lw_p15 : lw_okq (⟨"OnlineHull", "leastOfRing", "()I"⟩, 7) := ⟨⟨by decide +kernel, by decide +kernel⟩, List.mem_of_getElem? (i := 5) (by decide +kernel), List.mem_of_getElem? (i := 109) (by decide +kernel), List.mem_of_getElem? (i := 110) (by decide +kernel)⟩
def lw_privs_1 : List (MethodName × Nat) := [(⟨"OnlineHull", "placeOf", "(II)I"⟩, 7), (⟨"OnlineHull", "placeInLine", "(II)I"⟩, 7), (⟨"OnlineHull", "turn", "(III)I"⟩, 7), (⟨"OnlineHull", "next", "(I)I"⟩, 7), (⟨"OnlineHull", "placeInRing", "(II)I"⟩, 7), (⟨"OnlineHull", "staysInLine", "(II)Z"⟩, 7), (⟨"OnlineHull", "growLine", "(II)I"⟩, 7), (⟨"OnlineHull", "setCorner", "(III)V"⟩, 7), (⟨"OnlineHull", "growRing", "(II)I"⟩, 7), (⟨"OnlineHull", "firstSeen", "(III)I"⟩, 7), (⟨"OnlineHull", "previous", "(I)I"⟩, 7), (⟨"OnlineHull", "lastSeen", "(III)I"⟩, 7), (⟨"OnlineHull", "isCorner", "(I)Z"⟩, 7), (⟨"OnlineHull", "fillRing", "(IIII)V"⟩, 7), (⟨"OnlineHull", "takeRing", "()V"⟩, 7), (⟨"OnlineHull", "leastOfRing", "()I"⟩, 7)]
theorem lw_r1 : ∀ q ∈ lw_privs_1, lw_okq q := List.forall_mem_cons.mpr ⟨lw_p0, List.forall_mem_cons.mpr ⟨lw_p1, List.forall_mem_cons.mpr ⟨lw_p2, List.forall_mem_cons.mpr ⟨lw_p3, List.forall_mem_cons.mpr ⟨lw_p4, List.forall_mem_cons.mpr ⟨lw_p5, List.forall_mem_cons.mpr ⟨lw_p6, List.forall_mem_cons.mpr ⟨lw_p7, List.forall_mem_cons.mpr ⟨lw_p8, List.forall_mem_cons.mpr ⟨lw_p9, List.forall_mem_cons.mpr ⟨lw_p10, List.forall_mem_cons.mpr ⟨lw_p11, List.forall_mem_cons.mpr ⟨lw_p12, List.forall_mem_cons.mpr ⟨lw_p13, List.forall_mem_cons.mpr ⟨lw_p14, List.forall_mem_cons.mpr ⟨lw_p15, fun _ h => absurd h List.not_mem_nil⟩⟩⟩⟩⟩⟩⟩⟩⟩⟩⟩⟩⟩⟩⟩⟩
theorem lw_p16 : lw_okq (⟨"OnlineHull", "reach", "(III)I"⟩, 7) := ⟨⟨by decide +kernel, by decide +kernel⟩, List.mem_of_getElem? (i := 5) (by decide +kernel), List.mem_of_getElem? (i := 137) (by decide +kernel), List.mem_of_getElem? (i := 138) (by decide +kernel)⟩
theorem lw_p17 : lw_okq (⟨"OnlineHull", "squaredDistance", "(II)I"⟩, 7) := ⟨⟨by decide +kernel, by decide +kernel⟩, List.mem_of_getElem? (i := 5) (by decide +kernel), List.mem_of_getElem? (i := 149) (by decide +kernel), List.mem_of_getElem? (i := 150) (by decide +kernel)⟩
theorem lw_p18 : lw_okq (⟨"OnlineHullModel", "side", "(III)J"⟩, 8) := ⟨⟨by decide +kernel, by decide +kernel⟩, List.mem_of_getElem? (i := 163) (by decide +kernel), List.mem_of_getElem? (i := 207) (by decide +kernel), List.mem_of_getElem? (i := 208) (by decide +kernel)⟩
theorem lw_p19 : lw_okq (⟨"OnlineHullModel", "goRound", "(I)I"⟩, 8) := ⟨⟨by decide +kernel, by decide +kernel⟩, List.mem_of_getElem? (i := 163) (by decide +kernel), List.mem_of_getElem? (i := 216) (by decide +kernel), List.mem_of_getElem? (i := 217) (by decide +kernel)⟩
theorem lw_p20 : lw_okq (⟨"OnlineHullModel", "isNext", "(III)Z"⟩, 8) := ⟨⟨by decide +kernel, by decide +kernel⟩, List.mem_of_getElem? (i := 163) (by decide +kernel), List.mem_of_getElem? (i := 220) (by decide +kernel), List.mem_of_getElem? (i := 221) (by decide +kernel)⟩
def lw_privs_2 : List (MethodName × Nat) := [(⟨"OnlineHull", "reach", "(III)I"⟩, 7), (⟨"OnlineHull", "squaredDistance", "(II)I"⟩, 7), (⟨"OnlineHullModel", "side", "(III)J"⟩, 8), (⟨"OnlineHullModel", "goRound", "(I)I"⟩, 8), (⟨"OnlineHullModel", "isNext", "(III)Z"⟩, 8)]
theorem lw_r2 : ∀ q ∈ lw_privs_2, lw_okq q := List.forall_mem_cons.mpr ⟨lw_p16, List.forall_mem_cons.mpr ⟨lw_p17, List.forall_mem_cons.mpr ⟨lw_p18, List.forall_mem_cons.mpr ⟨lw_p19, List.forall_mem_cons.mpr ⟨lw_p20, fun _ h => absurd h List.not_mem_nil⟩⟩⟩⟩⟩
def lw_privs : List (MethodName × Nat) := lw_privs_1 ++ (lw_privs_2)
def lw_tbl : List Cond := k2_sels lw_privs ++ tables_1
theorem lw_privs_ok : ∀ q ∈ lw_privs, lw_okq q := by
  show ∀ q ∈ lw_privs_1 ++ (lw_privs_2), lw_okq q
  exact List.forall_mem_append.mpr ⟨lw_r1, lw_r2⟩
-- ===== end of PART A; then your names; then what follows =====
end
section
/-! ===== BEGIN words of one list among another's, by their places ===== -/
theorem goodIn_r {big : List Cond} (ws : List Cond) (ps : List Nat) (hp : ws = ps.filterMap (fun i => big[i]?)) (h : ws.all goodWord = true) : GoodIn big ws := by
  intro w hw
  have h1 := List.all_eq_true.mp h w hw
  rw [hp] at hw
  obtain ⟨i, -, hi⟩ := List.mem_filterMap.mp hw
  have hm : w ∈ big := by first | exact List.mem_of_getElem? hi | exact List.getElem?_mem hi
  exact ⟨hm, good_of_word h1⟩
theorem goodIn_app {big a b : List Cond} (ha : GoodIn big a) (hb : GoodIn big b) : GoodIn big (a ++ b) := fun w h => (List.mem_append.mp h).elim (ha w) (hb w)
theorem goodIn_ca {big a b : List Cond} {c : Cond} (ha : GoodIn big (c :: a)) (hb : GoodIn big b) : GoodIn big (c :: (a ++ b)) := fun w h => (List.mem_cons.mp h).elim (fun e => ha w (List.mem_cons.mpr (Or.inl e))) (fun h => (List.mem_append.mp h).elim (fun h => ha w (List.mem_cons.mpr (Or.inr h))) (hb w))
theorem goodIn_sub {big ws : List Cond} (hm : ∀ w ∈ ws, w ∈ big) (h : ws.all goodWord = true) : GoodIn big ws := fun w hw => ⟨hm w hw, good_of_word (List.all_eq_true.mp h w hw)⟩
/-! ===== END ===== -/

/-! ===== BEGIN printed: names, fields, word lists, decode rows ===== -/
def RX0 : String := "OnlineHull"
def TX0 : u_T := fun k => match k with
  | 0 => ("OnlineHull", "cap", "I", true)
  | 1 => ("OnlineHull", "cornerX", "[I", true)
  | 2 => ("OnlineHull", "cornerY", "[I", true)
  | 3 => ("OnlineHull", "ringX", "[I", true)
  | 4 => ("OnlineHull", "ringY", "[I", true)
  | 5 => ("OnlineHull", "corners", "I", false)
  | _ => ("OnlineHull", "came", "I", false)
def tyX0 : Nat → FieldType := fun k => match k with
  | 0 => .int
  | 1 => .array .int
  | 2 => .array .int
  | 3 => .array .int
  | 4 => .array .int
  | 5 => .int
  | _ => .int
abbrev wsX00 : List Cond := u_ws RX0 TX0 7
theorem nmX0 : ∀ a, a < 7 → ∀ b, b < 7 → a ≠ b → (TX0 a).2.1 ≠ (TX0 b).2.1 := by decide +kernel
theorem tyX0_ok : ∀ k, k < 7 → parseFieldDescriptor (TX0 k).2.2.1 = some (tyX0 k) := by decide +kernel
abbrev cX0_init : ByteArray := prog_1_method_1_code
def yX0_init : MethodName := ⟨RX0, "<init>", "(I)V"⟩
abbrev cX0_add : ByteArray := prog_1_method_2_code
def yX0_add : MethodName := ⟨RX0, "add", "(II)I"⟩
abbrev cX0_size : ByteArray := prog_1_method_3_code
def yX0_size : MethodName := ⟨RX0, "size", "()I"⟩
abbrev cX0_xOf : ByteArray := prog_1_method_4_code
def yX0_xOf : MethodName := ⟨RX0, "xOf", "(I)I"⟩
abbrev cX0_yOf : ByteArray := prog_1_method_5_code
def yX0_yOf : MethodName := ⟨RX0, "yOf", "(I)I"⟩
abbrev cX0_inside : ByteArray := prog_1_method_6_code
def yX0_inside : MethodName := ⟨RX0, "inside", "(II)I"⟩
abbrev cX0_twiceArea : ByteArray := prog_1_method_7_code
def yX0_twiceArea : MethodName := ⟨RX0, "twiceArea", "()I"⟩
abbrev cX0_farthest : ByteArray := prog_1_method_8_code
def yX0_farthest : MethodName := ⟨RX0, "farthest", "(II)I"⟩
abbrev cX0_tangent : ByteArray := prog_1_method_9_code
def yX0_tangent : MethodName := ⟨RX0, "tangent", "(III)I"⟩
abbrev cX0_diameter : ByteArray := prog_1_method_10_code
def yX0_diameter : MethodName := ⟨RX0, "diameter", "()I"⟩
abbrev cX0_points : ByteArray := prog_1_method_11_code
def yX0_points : MethodName := ⟨RX0, "points", "()I"⟩
abbrev cX0_inRange : ByteArray := prog_1_method_12_code
def yX0_inRange : MethodName := ⟨RX0, "inRange", "(II)Z"⟩
abbrev cX0_comesBefore : ByteArray := prog_1_method_13_code
def yX0_comesBefore : MethodName := ⟨RX0, "comesBefore", "(IIII)Z"⟩
abbrev cX0_isCorner : ByteArray := prog_1_method_14_code
def yX0_isCorner : MethodName := ⟨RX0, "isCorner", "(I)Z"⟩
abbrev cX0_next : ByteArray := prog_1_method_15_code
def yX0_next : MethodName := ⟨RX0, "next", "(I)I"⟩
abbrev cX0_previous : ByteArray := prog_1_method_16_code
def yX0_previous : MethodName := ⟨RX0, "previous", "(I)I"⟩
abbrev cX0_turn : ByteArray := prog_1_method_17_code
def yX0_turn : MethodName := ⟨RX0, "turn", "(III)I"⟩
abbrev cX0_reach : ByteArray := prog_1_method_18_code
def yX0_reach : MethodName := ⟨RX0, "reach", "(III)I"⟩
abbrev cX0_squaredDistance : ByteArray := prog_1_method_19_code
def yX0_squaredDistance : MethodName := ⟨RX0, "squaredDistance", "(II)I"⟩
abbrev cX0_placeOf : ByteArray := prog_1_method_20_code
def yX0_placeOf : MethodName := ⟨RX0, "placeOf", "(II)I"⟩
abbrev cX0_placeInLine : ByteArray := prog_1_method_21_code
def yX0_placeInLine : MethodName := ⟨RX0, "placeInLine", "(II)I"⟩
abbrev cX0_placeInRing : ByteArray := prog_1_method_22_code
def yX0_placeInRing : MethodName := ⟨RX0, "placeInRing", "(II)I"⟩
abbrev cX0_staysInLine : ByteArray := prog_1_method_23_code
def yX0_staysInLine : MethodName := ⟨RX0, "staysInLine", "(II)Z"⟩
abbrev cX0_growLine : ByteArray := prog_1_method_24_code
def yX0_growLine : MethodName := ⟨RX0, "growLine", "(II)I"⟩
abbrev cX0_growRing : ByteArray := prog_1_method_25_code
def yX0_growRing : MethodName := ⟨RX0, "growRing", "(II)I"⟩
abbrev cX0_firstSeen : ByteArray := prog_1_method_26_code
def yX0_firstSeen : MethodName := ⟨RX0, "firstSeen", "(III)I"⟩
abbrev cX0_lastSeen : ByteArray := prog_1_method_27_code
def yX0_lastSeen : MethodName := ⟨RX0, "lastSeen", "(III)I"⟩
abbrev cX0_setCorner : ByteArray := prog_1_method_28_code
def yX0_setCorner : MethodName := ⟨RX0, "setCorner", "(III)V"⟩
abbrev cX0_fillRing : ByteArray := prog_1_method_29_code
def yX0_fillRing : MethodName := ⟨RX0, "fillRing", "(IIII)V"⟩
abbrev cX0_takeRing : ByteArray := prog_1_method_30_code
def yX0_takeRing : MethodName := ⟨RX0, "takeRing", "()V"⟩
abbrev cX0_leastOfRing : ByteArray := prog_1_method_31_code
def yX0_leastOfRing : MethodName := ⟨RX0, "leastOfRing", "()I"⟩
def RX1 : String := "OnlineHullModel"
def TX1 : u_T := fun k => match k with
  | 0 => ("OnlineHullModel", "cap", "I", true)
  | 1 => ("OnlineHullModel", "corners", "I", false)
  | 2 => ("OnlineHullModel", "points", "I", false)
  | 3 => ("OnlineHullModel", "xs", "[I", true)
  | 4 => ("OnlineHullModel", "ys", "[I", true)
  | 5 => ("OnlineHullModel", "px", "[I", true)
  | 6 => ("OnlineHullModel", "py", "[I", true)
  | _ => ("OnlineHullModel", "round", "[I", true)
def tyX1 : Nat → FieldType := fun k => match k with
  | 0 => .int
  | 1 => .int
  | 2 => .int
  | 3 => .array .int
  | 4 => .array .int
  | 5 => .array .int
  | 6 => .array .int
  | _ => .array .int
abbrev wsX10 : List Cond := u_ws RX1 TX1 8
theorem nmX1 : ∀ a, a < 8 → ∀ b, b < 8 → a ≠ b → (TX1 a).2.1 ≠ (TX1 b).2.1 := by decide +kernel
theorem tyX1_ok : ∀ k, k < 8 → parseFieldDescriptor (TX1 k).2.2.1 = some (tyX1 k) := by decide +kernel
abbrev cX1_init : ByteArray := prog_3_method_1_code
def yX1_init : MethodName := ⟨RX1, "<init>", "(I)V"⟩
abbrev cX1_inRange : ByteArray := prog_3_method_2_code
def yX1_inRange : MethodName := ⟨RX1, "inRange", "(II)Z"⟩
abbrev cX1_turn : ByteArray := prog_3_method_3_code
def yX1_turn : MethodName := ⟨RX1, "turn", "(JJJJJJ)J"⟩
abbrev cX1_between : ByteArray := prog_3_method_4_code
def yX1_between : MethodName := ⟨RX1, "between", "(III)Z"⟩
abbrev cX1_side : ByteArray := prog_3_method_5_code
def yX1_side : MethodName := ⟨RX1, "side", "(III)J"⟩
abbrev cX1_inside : ByteArray := prog_3_method_6_code
def yX1_inside : MethodName := ⟨RX1, "inside", "(II)I"⟩
abbrev cX1_isNext : ByteArray := prog_3_method_7_code
def yX1_isNext : MethodName := ⟨RX1, "isNext", "(III)Z"⟩
abbrev cX1_goRound : ByteArray := prog_3_method_8_code
def yX1_goRound : MethodName := ⟨RX1, "goRound", "(I)I"⟩
abbrev cX1_add : ByteArray := prog_3_method_9_code
def yX1_add : MethodName := ⟨RX1, "add", "(II)I"⟩
abbrev cX1_size : ByteArray := prog_3_method_10_code
def yX1_size : MethodName := ⟨RX1, "size", "()I"⟩
abbrev cX1_xOf : ByteArray := prog_3_method_11_code
def yX1_xOf : MethodName := ⟨RX1, "xOf", "(I)I"⟩
abbrev cX1_yOf : ByteArray := prog_3_method_12_code
def yX1_yOf : MethodName := ⟨RX1, "yOf", "(I)I"⟩
abbrev cX1_twiceArea : ByteArray := prog_3_method_13_code
def yX1_twiceArea : MethodName := ⟨RX1, "twiceArea", "()I"⟩
abbrev cX1_farthest : ByteArray := prog_3_method_14_code
def yX1_farthest : MethodName := ⟨RX1, "farthest", "(II)I"⟩
abbrev cX1_tangent : ByteArray := prog_3_method_15_code
def yX1_tangent : MethodName := ⟨RX1, "tangent", "(III)I"⟩
abbrev cX1_diameter : ByteArray := prog_3_method_16_code
def yX1_diameter : MethodName := ⟨RX1, "diameter", "()I"⟩
abbrev cX1_points : ByteArray := prog_3_method_17_code
def yX1_points : MethodName := ⟨RX1, "points", "()I"⟩
def RJ9 : String := "java/lang/Math"
def TJ9 : u_T := fun k => match k with
  | _ => ("", "", "", false)
def tyJ9 : Nat → FieldType := fun k => match k with
  | _ => .int
abbrev wsJ90 : List Cond := u_ws RJ9 TJ9 0
theorem nmJ9 : ∀ a, a < 0 → ∀ b, b < 0 → a ≠ b → (TJ9 a).2.1 ≠ (TJ9 b).2.1 := by decide +kernel
theorem tyJ9_ok : ∀ k, k < 0 → parseFieldDescriptor (TJ9 k).2.2.1 = some (tyJ9 k) := by decide +kernel
abbrev cJ9_floorMod_7cf53 : ByteArray := prog_4_method_50_code
def yJ9_floorMod_7cf53 : MethodName := ⟨RJ9, "floorMod", "(II)I"⟩
abbrev cJ9_max_7cf53 : ByteArray := prog_4_method_65_code
def yJ9_max_7cf53 : MethodName := ⟨RJ9, "max", "(II)I"⟩
def RL : String := "OnlineHullLaw"
abbrev cL_cell : ByteArray := method_2_code
def yL_cell : MethodName := ⟨RL, "cell", "([II)I"⟩
abbrev cL_law : ByteArray := code
def yL_law : MethodName := ⟨RL, "law", "([I)Z"⟩
def wsJ9_floorMod_7cf53 : List Cond := .code yJ9_floorMod_7cf53 cJ9_floorMod_7cf53 3 (some .int) :: ([])
def wsX0_init : List Cond := .code yX0_init cX0_init 2 none :: ([.methodLink RX0 1 objectInit, .instanceMethod objectInit, .code objectInit ⟨#[0xb1]⟩ 1 none, .fieldLink RX0 15 "OnlineHull" "cap" "I", .arrayClass .int, .fieldLink RX0 19 "OnlineHull" "cornerX" "[I", .fieldLink RX0 23 "OnlineHull" "cornerY" "[I", .fieldLink RX0 26 "OnlineHull" "ringX" "[I", .fieldLink RX0 29 "OnlineHull" "ringY" "[I", .fieldLink RX0 32 "OnlineHull" "corners" "I", .fieldLink RX0 35 "OnlineHull" "came" "I", .methodLink RX0 9 yJ9_floorMod_7cf53, .static yJ9_floorMod_7cf53, .initialized RJ9, .code yJ9_floorMod_7cf53 cJ9_floorMod_7cf53 3 (some .int)] ++ wsX00)
def wsX0_inRange : List Cond := .code yX0_inRange cX0_inRange 2 (some .boolean) :: ([])
def wsX0_next : List Cond := .code yX0_next cX0_next 2 (some .int) :: ([.fieldLink RX0 32 "OnlineHull" "corners" "I"] ++ wsX00)
def wsX0_turn : List Cond := .code yX0_turn cX0_turn 7 (some .int) :: ([.fieldLink RX0 19 "OnlineHull" "cornerX" "[I", .fieldLink RX0 23 "OnlineHull" "cornerY" "[I", .methodLink RX0 77 yX0_next, .instanceMethod yX0_next, .selects RX0 yX0_next yX0_next, .initialized RX0, .code yX0_next cX0_next 2 (some .int), .fieldLink RX0 32 "OnlineHull" "corners" "I"] ++ wsX00)
def wsX0_comesBefore : List Cond := .code yX0_comesBefore cX0_comesBefore 4 (some .boolean) :: ([])
def wsX0_placeInLine : List Cond := .code yX0_placeInLine cX0_placeInLine 5 (some .int) :: ([.fieldLink RX0 32 "OnlineHull" "corners" "I", .fieldLink RX0 19 "OnlineHull" "cornerX" "[I", .fieldLink RX0 23 "OnlineHull" "cornerY" "[I", .methodLink RX0 58 yX0_turn, .instanceMethod yX0_turn, .selects RX0 yX0_turn yX0_turn, .initialized RX0, .code yX0_turn cX0_turn 7 (some .int), .methodLink RX0 77 yX0_next, .instanceMethod yX0_next, .selects RX0 yX0_next yX0_next, .code yX0_next cX0_next 2 (some .int), .methodLink RX0 87 yX0_comesBefore, .static yX0_comesBefore, .code yX0_comesBefore cX0_comesBefore 4 (some .boolean)] ++ wsX00)
def wsX0_placeInRing : List Cond := .code yX0_placeInRing cX0_placeInRing 6 (some .int) :: ([.fieldLink RX0 32 "OnlineHull" "corners" "I", .methodLink RX0 58 yX0_turn, .instanceMethod yX0_turn, .selects RX0 yX0_turn yX0_turn, .initialized RX0, .code yX0_turn cX0_turn 7 (some .int), .fieldLink RX0 19 "OnlineHull" "cornerX" "[I", .fieldLink RX0 23 "OnlineHull" "cornerY" "[I", .methodLink RX0 77 yX0_next, .instanceMethod yX0_next, .selects RX0 yX0_next yX0_next, .code yX0_next cX0_next 2 (some .int)] ++ wsX00)
def wsX0_placeOf : List Cond := .code yX0_placeOf cX0_placeOf 3 (some .int) :: ([.fieldLink RX0 32 "OnlineHull" "corners" "I", .methodLink RX0 81 yX0_placeInLine, .instanceMethod yX0_placeInLine, .selects RX0 yX0_placeInLine yX0_placeInLine, .initialized RX0, .code yX0_placeInLine cX0_placeInLine 5 (some .int), .fieldLink RX0 19 "OnlineHull" "cornerX" "[I", .fieldLink RX0 23 "OnlineHull" "cornerY" "[I", .methodLink RX0 58 yX0_turn, .instanceMethod yX0_turn, .selects RX0 yX0_turn yX0_turn, .code yX0_turn cX0_turn 7 (some .int), .methodLink RX0 77 yX0_next, .instanceMethod yX0_next, .selects RX0 yX0_next yX0_next, .code yX0_next cX0_next 2 (some .int), .methodLink RX0 87 yX0_comesBefore, .static yX0_comesBefore, .code yX0_comesBefore cX0_comesBefore 4 (some .boolean), .methodLink RX0 84 yX0_placeInRing, .instanceMethod yX0_placeInRing, .selects RX0 yX0_placeInRing yX0_placeInRing, .code yX0_placeInRing cX0_placeInRing 6 (some .int)] ++ wsX00)
def wsX0_staysInLine : List Cond := .code yX0_staysInLine cX0_staysInLine 3 (some .boolean) :: ([.fieldLink RX0 32 "OnlineHull" "corners" "I", .methodLink RX0 58 yX0_turn, .instanceMethod yX0_turn, .selects RX0 yX0_turn yX0_turn, .initialized RX0, .code yX0_turn cX0_turn 7 (some .int), .fieldLink RX0 19 "OnlineHull" "cornerX" "[I", .fieldLink RX0 23 "OnlineHull" "cornerY" "[I", .methodLink RX0 77 yX0_next, .instanceMethod yX0_next, .selects RX0 yX0_next yX0_next, .code yX0_next cX0_next 2 (some .int)] ++ wsX00)
def wsX0_setCorner : List Cond := .code yX0_setCorner cX0_setCorner 4 none :: ([.fieldLink RX0 19 "OnlineHull" "cornerX" "[I", .fieldLink RX0 23 "OnlineHull" "cornerY" "[I"] ++ wsX00)
def wsX0_growLine : List Cond := .code yX0_growLine cX0_growLine 5 (some .int) :: ([.fieldLink RX0 32 "OnlineHull" "corners" "I", .fieldLink RX0 19 "OnlineHull" "cornerX" "[I", .fieldLink RX0 23 "OnlineHull" "cornerY" "[I", .methodLink RX0 91 yX0_setCorner, .instanceMethod yX0_setCorner, .selects RX0 yX0_setCorner yX0_setCorner, .initialized RX0, .code yX0_setCorner cX0_setCorner 4 none, .methodLink RX0 87 yX0_comesBefore, .static yX0_comesBefore, .code yX0_comesBefore cX0_comesBefore 4 (some .boolean)] ++ wsX00)
def wsX0_previous : List Cond := .code yX0_previous cX0_previous 2 (some .int) :: ([.fieldLink RX0 32 "OnlineHull" "corners" "I"] ++ wsX00)
def wsX0_firstSeen : List Cond := .code yX0_firstSeen cX0_firstSeen 5 (some .int) :: ([.fieldLink RX0 32 "OnlineHull" "corners" "I", .methodLink RX0 58 yX0_turn, .instanceMethod yX0_turn, .selects RX0 yX0_turn yX0_turn, .initialized RX0, .code yX0_turn cX0_turn 7 (some .int), .fieldLink RX0 19 "OnlineHull" "cornerX" "[I", .fieldLink RX0 23 "OnlineHull" "cornerY" "[I", .methodLink RX0 77 yX0_next, .instanceMethod yX0_next, .selects RX0 yX0_next yX0_next, .code yX0_next cX0_next 2 (some .int), .methodLink RX0 102 yX0_previous, .instanceMethod yX0_previous, .selects RX0 yX0_previous yX0_previous, .code yX0_previous cX0_previous 2 (some .int)] ++ wsX00)
def wsX0_lastSeen : List Cond := .code yX0_lastSeen cX0_lastSeen 5 (some .int) :: ([.fieldLink RX0 32 "OnlineHull" "corners" "I", .methodLink RX0 58 yX0_turn, .instanceMethod yX0_turn, .selects RX0 yX0_turn yX0_turn, .initialized RX0, .code yX0_turn cX0_turn 7 (some .int), .fieldLink RX0 19 "OnlineHull" "cornerX" "[I", .fieldLink RX0 23 "OnlineHull" "cornerY" "[I", .methodLink RX0 77 yX0_next, .instanceMethod yX0_next, .selects RX0 yX0_next yX0_next, .code yX0_next cX0_next 2 (some .int), .methodLink RX0 102 yX0_previous, .instanceMethod yX0_previous, .selects RX0 yX0_previous yX0_previous, .code yX0_previous cX0_previous 2 (some .int)] ++ wsX00)
def wsX0_isCorner : List Cond := .code yX0_isCorner cX0_isCorner 2 (some .boolean) :: ([.fieldLink RX0 32 "OnlineHull" "corners" "I"] ++ wsX00)
def wsX0_fillRing : List Cond := .code yX0_fillRing cX0_fillRing 7 none :: ([.fieldLink RX0 26 "OnlineHull" "ringX" "[I", .fieldLink RX0 29 "OnlineHull" "ringY" "[I", .fieldLink RX0 19 "OnlineHull" "cornerX" "[I", .fieldLink RX0 23 "OnlineHull" "cornerY" "[I", .methodLink RX0 77 yX0_next, .instanceMethod yX0_next, .selects RX0 yX0_next yX0_next, .initialized RX0, .code yX0_next cX0_next 2 (some .int), .fieldLink RX0 32 "OnlineHull" "corners" "I"] ++ wsX00)
def wsX0_leastOfRing : List Cond := .code yX0_leastOfRing cX0_leastOfRing 3 (some .int) :: ([.fieldLink RX0 32 "OnlineHull" "corners" "I", .fieldLink RX0 26 "OnlineHull" "ringX" "[I", .fieldLink RX0 29 "OnlineHull" "ringY" "[I", .methodLink RX0 87 yX0_comesBefore, .static yX0_comesBefore, .initialized RX0, .code yX0_comesBefore cX0_comesBefore 4 (some .boolean)] ++ wsX00)
def wsX0_takeRing : List Cond := .code yX0_takeRing cX0_takeRing 3 none :: ([.fieldLink RX0 32 "OnlineHull" "corners" "I", .fieldLink RX0 26 "OnlineHull" "ringX" "[I", .fieldLink RX0 29 "OnlineHull" "ringY" "[I", .methodLink RX0 105 yX0_leastOfRing, .instanceMethod yX0_leastOfRing, .selects RX0 yX0_leastOfRing yX0_leastOfRing, .initialized RX0, .code yX0_leastOfRing cX0_leastOfRing 3 (some .int), .methodLink RX0 87 yX0_comesBefore, .static yX0_comesBefore, .code yX0_comesBefore cX0_comesBefore 4 (some .boolean), .methodLink RX0 91 yX0_setCorner, .instanceMethod yX0_setCorner, .selects RX0 yX0_setCorner yX0_setCorner, .code yX0_setCorner cX0_setCorner 4 none, .fieldLink RX0 19 "OnlineHull" "cornerX" "[I", .fieldLink RX0 23 "OnlineHull" "cornerY" "[I", .methodLink RX0 77 yX0_next, .instanceMethod yX0_next, .selects RX0 yX0_next yX0_next, .code yX0_next cX0_next 2 (some .int)] ++ wsX00)
def wsX0_growRing_r1 : List Cond := [Cond.fieldLink RX0 32 "OnlineHull" "corners" "I", Cond.fieldLink RX0 15 "OnlineHull" "cap" "I", Cond.methodLink RX0 65 yX0_firstSeen, Cond.instanceMethod yX0_firstSeen, Cond.selects RX0 yX0_firstSeen yX0_firstSeen, Cond.initialized RX0, Cond.code yX0_firstSeen cX0_firstSeen 5 (some .int), Cond.methodLink RX0 58 yX0_turn, Cond.instanceMethod yX0_turn, Cond.selects RX0 yX0_turn yX0_turn, Cond.code yX0_turn cX0_turn 7 (some .int), Cond.fieldLink RX0 19 "OnlineHull" "cornerX" "[I", Cond.fieldLink RX0 23 "OnlineHull" "cornerY" "[I", Cond.methodLink RX0 77 yX0_next, Cond.instanceMethod yX0_next, Cond.selects RX0 yX0_next yX0_next, Cond.code yX0_next cX0_next 2 (some .int), Cond.methodLink RX0 102 yX0_previous, Cond.instanceMethod yX0_previous, Cond.selects RX0 yX0_previous yX0_previous, Cond.code yX0_previous cX0_previous 2 (some .int), Cond.methodLink RX0 68 yX0_lastSeen, Cond.instanceMethod yX0_lastSeen, Cond.selects RX0 yX0_lastSeen yX0_lastSeen]
def wsX0_growRing_r2 : List Cond := [Cond.code yX0_lastSeen cX0_lastSeen 5 (some .int), Cond.methodLink RX0 54 yX0_isCorner, Cond.instanceMethod yX0_isCorner, Cond.selects RX0 yX0_isCorner yX0_isCorner, Cond.code yX0_isCorner cX0_isCorner 2 (some .boolean), Cond.methodLink RX0 95 yX0_fillRing, Cond.instanceMethod yX0_fillRing, Cond.selects RX0 yX0_fillRing yX0_fillRing, Cond.code yX0_fillRing cX0_fillRing 7 none, Cond.fieldLink RX0 26 "OnlineHull" "ringX" "[I", Cond.fieldLink RX0 29 "OnlineHull" "ringY" "[I", Cond.methodLink RX0 99 yX0_takeRing, Cond.instanceMethod yX0_takeRing, Cond.selects RX0 yX0_takeRing yX0_takeRing, Cond.code yX0_takeRing cX0_takeRing 3 none, Cond.methodLink RX0 105 yX0_leastOfRing, Cond.instanceMethod yX0_leastOfRing, Cond.selects RX0 yX0_leastOfRing yX0_leastOfRing, Cond.code yX0_leastOfRing cX0_leastOfRing 3 (some .int), Cond.methodLink RX0 87 yX0_comesBefore, Cond.static yX0_comesBefore, Cond.code yX0_comesBefore cX0_comesBefore 4 (some .boolean), Cond.methodLink RX0 91 yX0_setCorner, Cond.instanceMethod yX0_setCorner]
def wsX0_growRing_r3 : List Cond := [Cond.selects RX0 yX0_setCorner yX0_setCorner, Cond.code yX0_setCorner cX0_setCorner 4 none]
def wsX0_growRing : List Cond := .code yX0_growRing cX0_growRing 7 (some .int) :: ((wsX0_growRing_r1 ++ (wsX0_growRing_r2 ++ wsX0_growRing_r3)) ++ wsX00)
def wsX0_add_r1 : List Cond := [Cond.fieldLink RX0 35 "OnlineHull" "came" "I", Cond.methodLink RX0 38 yX0_inRange, Cond.static yX0_inRange, Cond.initialized RX0, Cond.code yX0_inRange cX0_inRange 2 (some .boolean), Cond.methodLink RX0 42 yX0_placeOf, Cond.instanceMethod yX0_placeOf, Cond.selects RX0 yX0_placeOf yX0_placeOf, Cond.code yX0_placeOf cX0_placeOf 3 (some .int), Cond.fieldLink RX0 32 "OnlineHull" "corners" "I", Cond.methodLink RX0 81 yX0_placeInLine, Cond.instanceMethod yX0_placeInLine, Cond.selects RX0 yX0_placeInLine yX0_placeInLine, Cond.code yX0_placeInLine cX0_placeInLine 5 (some .int), Cond.fieldLink RX0 19 "OnlineHull" "cornerX" "[I", Cond.fieldLink RX0 23 "OnlineHull" "cornerY" "[I", Cond.methodLink RX0 58 yX0_turn, Cond.instanceMethod yX0_turn, Cond.selects RX0 yX0_turn yX0_turn, Cond.code yX0_turn cX0_turn 7 (some .int), Cond.methodLink RX0 77 yX0_next, Cond.instanceMethod yX0_next, Cond.selects RX0 yX0_next yX0_next, Cond.code yX0_next cX0_next 2 (some .int)]
def wsX0_add_r2 : List Cond := [Cond.methodLink RX0 87 yX0_comesBefore, Cond.static yX0_comesBefore, Cond.code yX0_comesBefore cX0_comesBefore 4 (some .boolean), Cond.methodLink RX0 84 yX0_placeInRing, Cond.instanceMethod yX0_placeInRing, Cond.selects RX0 yX0_placeInRing yX0_placeInRing, Cond.code yX0_placeInRing cX0_placeInRing 6 (some .int), Cond.methodLink RX0 45 yX0_staysInLine, Cond.instanceMethod yX0_staysInLine, Cond.selects RX0 yX0_staysInLine yX0_staysInLine, Cond.code yX0_staysInLine cX0_staysInLine 3 (some .boolean), Cond.methodLink RX0 48 yX0_growLine, Cond.instanceMethod yX0_growLine, Cond.selects RX0 yX0_growLine yX0_growLine, Cond.code yX0_growLine cX0_growLine 5 (some .int), Cond.methodLink RX0 91 yX0_setCorner, Cond.instanceMethod yX0_setCorner, Cond.selects RX0 yX0_setCorner yX0_setCorner, Cond.code yX0_setCorner cX0_setCorner 4 none, Cond.methodLink RX0 51 yX0_growRing, Cond.instanceMethod yX0_growRing, Cond.selects RX0 yX0_growRing yX0_growRing, Cond.code yX0_growRing cX0_growRing 7 (some .int), Cond.fieldLink RX0 15 "OnlineHull" "cap" "I"]
def wsX0_add_r3 : List Cond := [Cond.methodLink RX0 65 yX0_firstSeen, Cond.instanceMethod yX0_firstSeen, Cond.selects RX0 yX0_firstSeen yX0_firstSeen, Cond.code yX0_firstSeen cX0_firstSeen 5 (some .int), Cond.methodLink RX0 102 yX0_previous, Cond.instanceMethod yX0_previous, Cond.selects RX0 yX0_previous yX0_previous, Cond.code yX0_previous cX0_previous 2 (some .int), Cond.methodLink RX0 68 yX0_lastSeen, Cond.instanceMethod yX0_lastSeen, Cond.selects RX0 yX0_lastSeen yX0_lastSeen, Cond.code yX0_lastSeen cX0_lastSeen 5 (some .int), Cond.methodLink RX0 54 yX0_isCorner, Cond.instanceMethod yX0_isCorner, Cond.selects RX0 yX0_isCorner yX0_isCorner, Cond.code yX0_isCorner cX0_isCorner 2 (some .boolean), Cond.methodLink RX0 95 yX0_fillRing, Cond.instanceMethod yX0_fillRing, Cond.selects RX0 yX0_fillRing yX0_fillRing, Cond.code yX0_fillRing cX0_fillRing 7 none, Cond.fieldLink RX0 26 "OnlineHull" "ringX" "[I", Cond.fieldLink RX0 29 "OnlineHull" "ringY" "[I", Cond.methodLink RX0 99 yX0_takeRing, Cond.instanceMethod yX0_takeRing]
def wsX0_add_r4 : List Cond := [Cond.selects RX0 yX0_takeRing yX0_takeRing, Cond.code yX0_takeRing cX0_takeRing 3 none, Cond.methodLink RX0 105 yX0_leastOfRing, Cond.instanceMethod yX0_leastOfRing, Cond.selects RX0 yX0_leastOfRing yX0_leastOfRing, Cond.code yX0_leastOfRing cX0_leastOfRing 3 (some .int)]
def wsX0_add : List Cond := .code yX0_add cX0_add 4 (some .int) :: ((wsX0_add_r1 ++ (wsX0_add_r2 ++ (wsX0_add_r3 ++ wsX0_add_r4))) ++ wsX00)
def wsX0_size : List Cond := .code yX0_size cX0_size 1 (some .int) :: ([.fieldLink RX0 32 "OnlineHull" "corners" "I"] ++ wsX00)
def wsX0_xOf : List Cond := .code yX0_xOf cX0_xOf 2 (some .int) :: ([.fieldLink RX0 19 "OnlineHull" "cornerX" "[I", .methodLink RX0 54 yX0_isCorner, .instanceMethod yX0_isCorner, .selects RX0 yX0_isCorner yX0_isCorner, .initialized RX0, .code yX0_isCorner cX0_isCorner 2 (some .boolean), .fieldLink RX0 32 "OnlineHull" "corners" "I"] ++ wsX00)
def wsX0_yOf : List Cond := .code yX0_yOf cX0_yOf 2 (some .int) :: ([.fieldLink RX0 23 "OnlineHull" "cornerY" "[I", .methodLink RX0 54 yX0_isCorner, .instanceMethod yX0_isCorner, .selects RX0 yX0_isCorner yX0_isCorner, .initialized RX0, .code yX0_isCorner cX0_isCorner 2 (some .boolean), .fieldLink RX0 32 "OnlineHull" "corners" "I"] ++ wsX00)
def wsX0_inside_r1 : List Cond := [Cond.methodLink RX0 38 yX0_inRange, Cond.static yX0_inRange, Cond.initialized RX0, Cond.code yX0_inRange cX0_inRange 2 (some .boolean), Cond.methodLink RX0 42 yX0_placeOf, Cond.instanceMethod yX0_placeOf, Cond.selects RX0 yX0_placeOf yX0_placeOf, Cond.code yX0_placeOf cX0_placeOf 3 (some .int), Cond.fieldLink RX0 32 "OnlineHull" "corners" "I", Cond.methodLink RX0 81 yX0_placeInLine, Cond.instanceMethod yX0_placeInLine, Cond.selects RX0 yX0_placeInLine yX0_placeInLine, Cond.code yX0_placeInLine cX0_placeInLine 5 (some .int), Cond.fieldLink RX0 19 "OnlineHull" "cornerX" "[I", Cond.fieldLink RX0 23 "OnlineHull" "cornerY" "[I", Cond.methodLink RX0 58 yX0_turn, Cond.instanceMethod yX0_turn, Cond.selects RX0 yX0_turn yX0_turn, Cond.code yX0_turn cX0_turn 7 (some .int), Cond.methodLink RX0 77 yX0_next, Cond.instanceMethod yX0_next, Cond.selects RX0 yX0_next yX0_next, Cond.code yX0_next cX0_next 2 (some .int), Cond.methodLink RX0 87 yX0_comesBefore]
def wsX0_inside_r2 : List Cond := [Cond.static yX0_comesBefore, Cond.code yX0_comesBefore cX0_comesBefore 4 (some .boolean), Cond.methodLink RX0 84 yX0_placeInRing, Cond.instanceMethod yX0_placeInRing, Cond.selects RX0 yX0_placeInRing yX0_placeInRing, Cond.code yX0_placeInRing cX0_placeInRing 6 (some .int)]
def wsX0_inside : List Cond := .code yX0_inside cX0_inside 3 (some .int) :: ((wsX0_inside_r1 ++ wsX0_inside_r2) ++ wsX00)
def wsX0_twiceArea : List Cond := .code yX0_twiceArea cX0_twiceArea 3 (some .int) :: ([.fieldLink RX0 32 "OnlineHull" "corners" "I", .fieldLink RX0 19 "OnlineHull" "cornerX" "[I", .fieldLink RX0 23 "OnlineHull" "cornerY" "[I", .methodLink RX0 58 yX0_turn, .instanceMethod yX0_turn, .selects RX0 yX0_turn yX0_turn, .initialized RX0, .code yX0_turn cX0_turn 7 (some .int), .methodLink RX0 77 yX0_next, .instanceMethod yX0_next, .selects RX0 yX0_next yX0_next, .code yX0_next cX0_next 2 (some .int)] ++ wsX00)
def wsX0_reach : List Cond := .code yX0_reach cX0_reach 4 (some .int) :: ([.fieldLink RX0 19 "OnlineHull" "cornerX" "[I", .fieldLink RX0 23 "OnlineHull" "cornerY" "[I"] ++ wsX00)
def wsX0_farthest : List Cond := .code yX0_farthest cX0_farthest 5 (some .int) :: ([.fieldLink RX0 32 "OnlineHull" "corners" "I", .methodLink RX0 38 yX0_inRange, .static yX0_inRange, .initialized RX0, .code yX0_inRange cX0_inRange 2 (some .boolean), .methodLink RX0 62 yX0_reach, .instanceMethod yX0_reach, .selects RX0 yX0_reach yX0_reach, .code yX0_reach cX0_reach 4 (some .int), .fieldLink RX0 19 "OnlineHull" "cornerX" "[I", .fieldLink RX0 23 "OnlineHull" "cornerY" "[I"] ++ wsX00)
def wsX0_tangent_r1 : List Cond := [Cond.fieldLink RX0 32 "OnlineHull" "corners" "I", Cond.methodLink RX0 38 yX0_inRange, Cond.static yX0_inRange, Cond.initialized RX0, Cond.code yX0_inRange cX0_inRange 2 (some .boolean), Cond.methodLink RX0 42 yX0_placeOf, Cond.instanceMethod yX0_placeOf, Cond.selects RX0 yX0_placeOf yX0_placeOf, Cond.code yX0_placeOf cX0_placeOf 3 (some .int), Cond.methodLink RX0 81 yX0_placeInLine, Cond.instanceMethod yX0_placeInLine, Cond.selects RX0 yX0_placeInLine yX0_placeInLine, Cond.code yX0_placeInLine cX0_placeInLine 5 (some .int), Cond.fieldLink RX0 19 "OnlineHull" "cornerX" "[I", Cond.fieldLink RX0 23 "OnlineHull" "cornerY" "[I", Cond.methodLink RX0 58 yX0_turn, Cond.instanceMethod yX0_turn, Cond.selects RX0 yX0_turn yX0_turn, Cond.code yX0_turn cX0_turn 7 (some .int), Cond.methodLink RX0 77 yX0_next, Cond.instanceMethod yX0_next, Cond.selects RX0 yX0_next yX0_next, Cond.code yX0_next cX0_next 2 (some .int), Cond.methodLink RX0 87 yX0_comesBefore]
def wsX0_tangent_r2 : List Cond := [Cond.static yX0_comesBefore, Cond.code yX0_comesBefore cX0_comesBefore 4 (some .boolean), Cond.methodLink RX0 84 yX0_placeInRing, Cond.instanceMethod yX0_placeInRing, Cond.selects RX0 yX0_placeInRing yX0_placeInRing, Cond.code yX0_placeInRing cX0_placeInRing 6 (some .int), Cond.methodLink RX0 65 yX0_firstSeen, Cond.instanceMethod yX0_firstSeen, Cond.selects RX0 yX0_firstSeen yX0_firstSeen, Cond.code yX0_firstSeen cX0_firstSeen 5 (some .int), Cond.methodLink RX0 102 yX0_previous, Cond.instanceMethod yX0_previous, Cond.selects RX0 yX0_previous yX0_previous, Cond.code yX0_previous cX0_previous 2 (some .int), Cond.methodLink RX0 68 yX0_lastSeen, Cond.instanceMethod yX0_lastSeen, Cond.selects RX0 yX0_lastSeen yX0_lastSeen, Cond.code yX0_lastSeen cX0_lastSeen 5 (some .int)]
def wsX0_tangent : List Cond := .code yX0_tangent cX0_tangent 4 (some .int) :: ((wsX0_tangent_r1 ++ wsX0_tangent_r2) ++ wsX00)
def wsX0_squaredDistance : List Cond := .code yX0_squaredDistance cX0_squaredDistance 5 (some .int) :: ([.fieldLink RX0 19 "OnlineHull" "cornerX" "[I", .fieldLink RX0 23 "OnlineHull" "cornerY" "[I"] ++ wsX00)
def wsX0_diameter : List Cond := .code yX0_diameter cX0_diameter 4 (some .int) :: ([.fieldLink RX0 32 "OnlineHull" "corners" "I", .methodLink RX0 74 Lib.Math.max.name, .static Lib.Math.max.name, .initialized "java/lang/Math", .code Lib.Math.max.name Lib.Math.max.code 2 (some .int), .methodLink RX0 71 yX0_squaredDistance, .instanceMethod yX0_squaredDistance, .selects RX0 yX0_squaredDistance yX0_squaredDistance, .initialized RX0, .code yX0_squaredDistance cX0_squaredDistance 5 (some .int), .fieldLink RX0 19 "OnlineHull" "cornerX" "[I", .fieldLink RX0 23 "OnlineHull" "cornerY" "[I"] ++ wsX00)
def wsX0_points : List Cond := .code yX0_points cX0_points 1 (some .int) :: ([.fieldLink RX0 35 "OnlineHull" "came" "I"] ++ wsX00)
def wsX1_init : List Cond := .code yX1_init cX1_init 3 none :: ([.methodLink RX1 1 objectInit, .instanceMethod objectInit, .code objectInit ⟨#[0xb1]⟩ 1 none, .arrayClass .int, .fieldLink RX1 7 "OnlineHullModel" "xs" "[I", .fieldLink RX1 13 "OnlineHullModel" "ys" "[I", .fieldLink RX1 16 "OnlineHullModel" "px" "[I", .fieldLink RX1 19 "OnlineHullModel" "py" "[I", .fieldLink RX1 22 "OnlineHullModel" "round" "[I", .fieldLink RX1 25 "OnlineHullModel" "cap" "I"] ++ wsX10)
def wsX1_inRange : List Cond := .code yX1_inRange cX1_inRange 2 (some .boolean) :: ([])
def wsX1_turn : List Cond := .code yX1_turn cX1_turn 12 (some .long) :: ([])
def wsX1_between : List Cond := .code yX1_between cX1_between 3 (some .boolean) :: ([])
def wsX1_side : List Cond := .code yX1_side cX1_side 5 (some .long) :: ([.fieldLink RX1 29 "OnlineHullModel" "corners" "I", .fieldLink RX1 7 "OnlineHullModel" "xs" "[I", .fieldLink RX1 13 "OnlineHullModel" "ys" "[I", .methodLink RX1 32 yX1_turn, .static yX1_turn, .initialized RX1, .code yX1_turn cX1_turn 12 (some .long)] ++ wsX10)
def wsX1_inside : List Cond := .code yX1_inside cX1_inside 7 (some .int) :: ([.fieldLink RX1 29 "OnlineHullModel" "corners" "I", .fieldLink RX1 7 "OnlineHullModel" "xs" "[I", .fieldLink RX1 13 "OnlineHullModel" "ys" "[I", .methodLink RX1 36 yX1_inRange, .static yX1_inRange, .initialized RX1, .code yX1_inRange cX1_inRange 2 (some .boolean), .methodLink RX1 32 yX1_turn, .static yX1_turn, .code yX1_turn cX1_turn 12 (some .long), .methodLink RX1 40 yX1_between, .static yX1_between, .code yX1_between cX1_between 3 (some .boolean), .methodLink RX1 44 yX1_side, .instanceMethod yX1_side, .selects RX1 yX1_side yX1_side, .code yX1_side cX1_side 5 (some .long)] ++ wsX10)
def wsX1_isNext : List Cond := .code yX1_isNext cX1_isNext 14 (some .boolean) :: ([.fieldLink RX1 16 "OnlineHullModel" "px" "[I", .fieldLink RX1 19 "OnlineHullModel" "py" "[I", .methodLink RX1 32 yX1_turn, .static yX1_turn, .initialized RX1, .code yX1_turn cX1_turn 12 (some .long)] ++ wsX10)
def wsX1_goRound : List Cond := .code yX1_goRound cX1_goRound 8 (some .int) :: ([.fieldLink RX1 16 "OnlineHullModel" "px" "[I", .fieldLink RX1 19 "OnlineHullModel" "py" "[I", .fieldLink RX1 22 "OnlineHullModel" "round" "[I", .methodLink RX1 48 yX1_isNext, .instanceMethod yX1_isNext, .selects RX1 yX1_isNext yX1_isNext, .initialized RX1, .code yX1_isNext cX1_isNext 14 (some .boolean), .methodLink RX1 32 yX1_turn, .static yX1_turn, .code yX1_turn cX1_turn 12 (some .long)] ++ wsX10)
def wsX1_add_r1 : List Cond := [Cond.fieldLink RX1 55 "OnlineHullModel" "points" "I", Cond.fieldLink RX1 29 "OnlineHullModel" "corners" "I", Cond.fieldLink RX1 16 "OnlineHullModel" "px" "[I", Cond.fieldLink RX1 7 "OnlineHullModel" "xs" "[I", Cond.fieldLink RX1 19 "OnlineHullModel" "py" "[I", Cond.fieldLink RX1 13 "OnlineHullModel" "ys" "[I", Cond.fieldLink RX1 25 "OnlineHullModel" "cap" "I", Cond.fieldLink RX1 22 "OnlineHullModel" "round" "[I", Cond.methodLink RX1 36 yX1_inRange, Cond.static yX1_inRange, Cond.initialized RX1, Cond.code yX1_inRange cX1_inRange 2 (some .boolean), Cond.methodLink RX1 51 yX1_inside, Cond.instanceMethod yX1_inside, Cond.selects RX1 yX1_inside yX1_inside, Cond.code yX1_inside cX1_inside 7 (some .int), Cond.methodLink RX1 32 yX1_turn, Cond.static yX1_turn, Cond.code yX1_turn cX1_turn 12 (some .long), Cond.methodLink RX1 40 yX1_between, Cond.static yX1_between, Cond.code yX1_between cX1_between 3 (some .boolean), Cond.methodLink RX1 44 yX1_side, Cond.instanceMethod yX1_side]
def wsX1_add_r2 : List Cond := [Cond.selects RX1 yX1_side yX1_side, Cond.code yX1_side cX1_side 5 (some .long), Cond.methodLink RX1 58 yX1_goRound, Cond.instanceMethod yX1_goRound, Cond.selects RX1 yX1_goRound yX1_goRound, Cond.code yX1_goRound cX1_goRound 8 (some .int), Cond.methodLink RX1 48 yX1_isNext, Cond.instanceMethod yX1_isNext, Cond.selects RX1 yX1_isNext yX1_isNext, Cond.code yX1_isNext cX1_isNext 14 (some .boolean)]
def wsX1_add : List Cond := .code yX1_add cX1_add 6 (some .int) :: ((wsX1_add_r1 ++ wsX1_add_r2) ++ wsX10)
def wsX1_size : List Cond := .code yX1_size cX1_size 1 (some .int) :: ([.fieldLink RX1 29 "OnlineHullModel" "corners" "I"] ++ wsX10)
def wsX1_xOf : List Cond := .code yX1_xOf cX1_xOf 2 (some .int) :: ([.fieldLink RX1 29 "OnlineHullModel" "corners" "I", .fieldLink RX1 7 "OnlineHullModel" "xs" "[I"] ++ wsX10)
def wsX1_yOf : List Cond := .code yX1_yOf cX1_yOf 2 (some .int) :: ([.fieldLink RX1 29 "OnlineHullModel" "corners" "I", .fieldLink RX1 13 "OnlineHullModel" "ys" "[I"] ++ wsX10)
def wsX1_twiceArea : List Cond := .code yX1_twiceArea cX1_twiceArea 4 (some .int) :: ([.fieldLink RX1 29 "OnlineHullModel" "corners" "I", .fieldLink RX1 7 "OnlineHullModel" "xs" "[I", .fieldLink RX1 13 "OnlineHullModel" "ys" "[I", .methodLink RX1 32 yX1_turn, .static yX1_turn, .initialized RX1, .code yX1_turn cX1_turn 12 (some .long)] ++ wsX10)
def wsX1_farthest : List Cond := .code yX1_farthest cX1_farthest 5 (some .int) :: ([.fieldLink RX1 29 "OnlineHullModel" "corners" "I", .fieldLink RX1 7 "OnlineHullModel" "xs" "[I", .fieldLink RX1 13 "OnlineHullModel" "ys" "[I", .methodLink RX1 36 yX1_inRange, .static yX1_inRange, .initialized RX1, .code yX1_inRange cX1_inRange 2 (some .boolean)] ++ wsX10)
def wsX1_tangent : List Cond := .code yX1_tangent cX1_tangent 10 (some .int) :: ([.fieldLink RX1 29 "OnlineHullModel" "corners" "I", .methodLink RX1 36 yX1_inRange, .static yX1_inRange, .initialized RX1, .code yX1_inRange cX1_inRange 2 (some .boolean), .methodLink RX1 51 yX1_inside, .instanceMethod yX1_inside, .selects RX1 yX1_inside yX1_inside, .code yX1_inside cX1_inside 7 (some .int), .fieldLink RX1 7 "OnlineHullModel" "xs" "[I", .fieldLink RX1 13 "OnlineHullModel" "ys" "[I", .methodLink RX1 32 yX1_turn, .static yX1_turn, .code yX1_turn cX1_turn 12 (some .long), .methodLink RX1 40 yX1_between, .static yX1_between, .code yX1_between cX1_between 3 (some .boolean), .methodLink RX1 44 yX1_side, .instanceMethod yX1_side, .selects RX1 yX1_side yX1_side, .code yX1_side cX1_side 5 (some .long)] ++ wsX10)
def wsX1_diameter : List Cond := .code yX1_diameter cX1_diameter 9 (some .int) :: ([.fieldLink RX1 29 "OnlineHullModel" "corners" "I", .fieldLink RX1 7 "OnlineHullModel" "xs" "[I", .fieldLink RX1 13 "OnlineHullModel" "ys" "[I"] ++ wsX10)
def wsX1_points : List Cond := .code yX1_points cX1_points 1 (some .int) :: ([.fieldLink RX1 55 "OnlineHullModel" "points" "I"] ++ wsX10)
def wsJ9_max_7cf53 : List Cond := .code yJ9_max_7cf53 cJ9_max_7cf53 2 (some .int) :: ([])
def wsL_cell : List Cond := .code yL_cell cL_cell 2 (some .int) :: ([])
def wsL_law_r1 : List Cond := [Cond.classLink RL 7 RX0, Cond.instantiable RX0 7, Cond.initialized RX0, Cond.classLink RL 18 RX1, Cond.instantiable RX1 8, Cond.initialized RX1, Cond.methodLink RL 9 yL_cell, Cond.static yL_cell, Cond.initialized RL, Cond.code yL_cell cL_cell 2 (some .int), Cond.methodLink RL 15 yX0_init, Cond.instanceMethod yX0_init, Cond.code yX0_init cX0_init 2 none, Cond.methodLink RX0 1 objectInit, Cond.instanceMethod objectInit, Cond.code objectInit ⟨#[0xb1]⟩ 1 none, Cond.fieldLink RX0 15 "OnlineHull" "cap" "I", Cond.arrayClass .int, Cond.fieldLink RX0 19 "OnlineHull" "cornerX" "[I", Cond.fieldLink RX0 23 "OnlineHull" "cornerY" "[I", Cond.fieldLink RX0 26 "OnlineHull" "ringX" "[I", Cond.fieldLink RX0 29 "OnlineHull" "ringY" "[I", Cond.fieldLink RX0 32 "OnlineHull" "corners" "I", Cond.fieldLink RX0 35 "OnlineHull" "came" "I"]
def wsL_law_r2 : List Cond := [Cond.methodLink RX0 9 yJ9_floorMod_7cf53, Cond.static yJ9_floorMod_7cf53, Cond.initialized RJ9, Cond.code yJ9_floorMod_7cf53 cJ9_floorMod_7cf53 3 (some .int), Cond.methodLink RL 20 yX1_init, Cond.instanceMethod yX1_init, Cond.code yX1_init cX1_init 3 none, Cond.methodLink RX1 1 objectInit, Cond.fieldLink RX1 7 "OnlineHullModel" "xs" "[I", Cond.fieldLink RX1 13 "OnlineHullModel" "ys" "[I", Cond.fieldLink RX1 16 "OnlineHullModel" "px" "[I", Cond.fieldLink RX1 19 "OnlineHullModel" "py" "[I", Cond.fieldLink RX1 22 "OnlineHullModel" "round" "[I", Cond.fieldLink RX1 25 "OnlineHullModel" "cap" "I", Cond.methodLink RL 21 yX0_add, Cond.instanceMethod yX0_add, Cond.selects RX0 yX0_add yX0_add, Cond.code yX0_add cX0_add 4 (some .int), Cond.methodLink RX0 38 yX0_inRange, Cond.static yX0_inRange, Cond.code yX0_inRange cX0_inRange 2 (some .boolean), Cond.methodLink RX0 42 yX0_placeOf, Cond.instanceMethod yX0_placeOf, Cond.selects RX0 yX0_placeOf yX0_placeOf]
def wsL_law_r3 : List Cond := [Cond.code yX0_placeOf cX0_placeOf 3 (some .int), Cond.methodLink RX0 81 yX0_placeInLine, Cond.instanceMethod yX0_placeInLine, Cond.selects RX0 yX0_placeInLine yX0_placeInLine, Cond.code yX0_placeInLine cX0_placeInLine 5 (some .int), Cond.methodLink RX0 58 yX0_turn, Cond.instanceMethod yX0_turn, Cond.selects RX0 yX0_turn yX0_turn, Cond.code yX0_turn cX0_turn 7 (some .int), Cond.methodLink RX0 77 yX0_next, Cond.instanceMethod yX0_next, Cond.selects RX0 yX0_next yX0_next, Cond.code yX0_next cX0_next 2 (some .int), Cond.methodLink RX0 87 yX0_comesBefore, Cond.static yX0_comesBefore, Cond.code yX0_comesBefore cX0_comesBefore 4 (some .boolean), Cond.methodLink RX0 84 yX0_placeInRing, Cond.instanceMethod yX0_placeInRing, Cond.selects RX0 yX0_placeInRing yX0_placeInRing, Cond.code yX0_placeInRing cX0_placeInRing 6 (some .int), Cond.methodLink RX0 45 yX0_staysInLine, Cond.instanceMethod yX0_staysInLine, Cond.selects RX0 yX0_staysInLine yX0_staysInLine, Cond.code yX0_staysInLine cX0_staysInLine 3 (some .boolean)]
def wsL_law_r4 : List Cond := [Cond.methodLink RX0 48 yX0_growLine, Cond.instanceMethod yX0_growLine, Cond.selects RX0 yX0_growLine yX0_growLine, Cond.code yX0_growLine cX0_growLine 5 (some .int), Cond.methodLink RX0 91 yX0_setCorner, Cond.instanceMethod yX0_setCorner, Cond.selects RX0 yX0_setCorner yX0_setCorner, Cond.code yX0_setCorner cX0_setCorner 4 none, Cond.methodLink RX0 51 yX0_growRing, Cond.instanceMethod yX0_growRing, Cond.selects RX0 yX0_growRing yX0_growRing, Cond.code yX0_growRing cX0_growRing 7 (some .int), Cond.methodLink RX0 65 yX0_firstSeen, Cond.instanceMethod yX0_firstSeen, Cond.selects RX0 yX0_firstSeen yX0_firstSeen, Cond.code yX0_firstSeen cX0_firstSeen 5 (some .int), Cond.methodLink RX0 102 yX0_previous, Cond.instanceMethod yX0_previous, Cond.selects RX0 yX0_previous yX0_previous, Cond.code yX0_previous cX0_previous 2 (some .int), Cond.methodLink RX0 68 yX0_lastSeen, Cond.instanceMethod yX0_lastSeen, Cond.selects RX0 yX0_lastSeen yX0_lastSeen, Cond.code yX0_lastSeen cX0_lastSeen 5 (some .int)]
def wsL_law_r5 : List Cond := [Cond.methodLink RX0 54 yX0_isCorner, Cond.instanceMethod yX0_isCorner, Cond.selects RX0 yX0_isCorner yX0_isCorner, Cond.code yX0_isCorner cX0_isCorner 2 (some .boolean), Cond.methodLink RX0 95 yX0_fillRing, Cond.instanceMethod yX0_fillRing, Cond.selects RX0 yX0_fillRing yX0_fillRing, Cond.code yX0_fillRing cX0_fillRing 7 none, Cond.methodLink RX0 99 yX0_takeRing, Cond.instanceMethod yX0_takeRing, Cond.selects RX0 yX0_takeRing yX0_takeRing, Cond.code yX0_takeRing cX0_takeRing 3 none, Cond.methodLink RX0 105 yX0_leastOfRing, Cond.instanceMethod yX0_leastOfRing, Cond.selects RX0 yX0_leastOfRing yX0_leastOfRing, Cond.code yX0_leastOfRing cX0_leastOfRing 3 (some .int), Cond.methodLink RL 25 yX1_add, Cond.instanceMethod yX1_add, Cond.selects RX1 yX1_add yX1_add, Cond.code yX1_add cX1_add 6 (some .int), Cond.fieldLink RX1 55 "OnlineHullModel" "points" "I", Cond.fieldLink RX1 29 "OnlineHullModel" "corners" "I", Cond.methodLink RX1 36 yX1_inRange, Cond.static yX1_inRange]
def wsL_law_r6 : List Cond := [Cond.code yX1_inRange cX1_inRange 2 (some .boolean), Cond.methodLink RX1 51 yX1_inside, Cond.instanceMethod yX1_inside, Cond.selects RX1 yX1_inside yX1_inside, Cond.code yX1_inside cX1_inside 7 (some .int), Cond.methodLink RX1 32 yX1_turn, Cond.static yX1_turn, Cond.code yX1_turn cX1_turn 12 (some .long), Cond.methodLink RX1 40 yX1_between, Cond.static yX1_between, Cond.code yX1_between cX1_between 3 (some .boolean), Cond.methodLink RX1 44 yX1_side, Cond.instanceMethod yX1_side, Cond.selects RX1 yX1_side yX1_side, Cond.code yX1_side cX1_side 5 (some .long), Cond.methodLink RX1 58 yX1_goRound, Cond.instanceMethod yX1_goRound, Cond.selects RX1 yX1_goRound yX1_goRound, Cond.code yX1_goRound cX1_goRound 8 (some .int), Cond.methodLink RX1 48 yX1_isNext, Cond.instanceMethod yX1_isNext, Cond.selects RX1 yX1_isNext yX1_isNext, Cond.code yX1_isNext cX1_isNext 14 (some .boolean), Cond.methodLink RL 26 yX0_size]
def wsL_law_r7 : List Cond := [Cond.instanceMethod yX0_size, Cond.selects RX0 yX0_size yX0_size, Cond.code yX0_size cX0_size 1 (some .int), Cond.methodLink RL 30 yX1_size, Cond.instanceMethod yX1_size, Cond.selects RX1 yX1_size yX1_size, Cond.code yX1_size cX1_size 1 (some .int), Cond.methodLink RL 31 yX0_xOf, Cond.instanceMethod yX0_xOf, Cond.selects RX0 yX0_xOf yX0_xOf, Cond.code yX0_xOf cX0_xOf 2 (some .int), Cond.methodLink RL 35 yX1_xOf, Cond.instanceMethod yX1_xOf, Cond.selects RX1 yX1_xOf yX1_xOf, Cond.code yX1_xOf cX1_xOf 2 (some .int), Cond.methodLink RL 36 yX0_yOf, Cond.instanceMethod yX0_yOf, Cond.selects RX0 yX0_yOf yX0_yOf, Cond.code yX0_yOf cX0_yOf 2 (some .int), Cond.methodLink RL 39 yX1_yOf, Cond.instanceMethod yX1_yOf, Cond.selects RX1 yX1_yOf yX1_yOf, Cond.code yX1_yOf cX1_yOf 2 (some .int), Cond.methodLink RL 40 yX0_inside]
def wsL_law_r8 : List Cond := [Cond.instanceMethod yX0_inside, Cond.selects RX0 yX0_inside yX0_inside, Cond.code yX0_inside cX0_inside 3 (some .int), Cond.methodLink RL 43 yX1_inside, Cond.methodLink RL 44 yX0_twiceArea, Cond.instanceMethod yX0_twiceArea, Cond.selects RX0 yX0_twiceArea yX0_twiceArea, Cond.code yX0_twiceArea cX0_twiceArea 3 (some .int), Cond.methodLink RL 47 yX1_twiceArea, Cond.instanceMethod yX1_twiceArea, Cond.selects RX1 yX1_twiceArea yX1_twiceArea, Cond.code yX1_twiceArea cX1_twiceArea 4 (some .int), Cond.methodLink RL 48 yX0_farthest, Cond.instanceMethod yX0_farthest, Cond.selects RX0 yX0_farthest yX0_farthest, Cond.code yX0_farthest cX0_farthest 5 (some .int), Cond.methodLink RX0 62 yX0_reach, Cond.instanceMethod yX0_reach, Cond.selects RX0 yX0_reach yX0_reach, Cond.code yX0_reach cX0_reach 4 (some .int), Cond.methodLink RL 51 yX1_farthest, Cond.instanceMethod yX1_farthest, Cond.selects RX1 yX1_farthest yX1_farthest, Cond.code yX1_farthest cX1_farthest 5 (some .int)]
def wsL_law_r9 : List Cond := [Cond.methodLink RL 52 yX0_tangent, Cond.instanceMethod yX0_tangent, Cond.selects RX0 yX0_tangent yX0_tangent, Cond.code yX0_tangent cX0_tangent 4 (some .int), Cond.methodLink RL 56 yX1_tangent, Cond.instanceMethod yX1_tangent, Cond.selects RX1 yX1_tangent yX1_tangent, Cond.code yX1_tangent cX1_tangent 10 (some .int), Cond.methodLink RL 57 yX0_diameter, Cond.instanceMethod yX0_diameter, Cond.selects RX0 yX0_diameter yX0_diameter, Cond.code yX0_diameter cX0_diameter 4 (some .int), Cond.methodLink RX0 74 Lib.Math.max.name, Cond.static Lib.Math.max.name, Cond.initialized "java/lang/Math", Cond.code Lib.Math.max.name Lib.Math.max.code 2 (some .int), Cond.methodLink RX0 71 yX0_squaredDistance, Cond.instanceMethod yX0_squaredDistance, Cond.selects RX0 yX0_squaredDistance yX0_squaredDistance, Cond.code yX0_squaredDistance cX0_squaredDistance 5 (some .int), Cond.methodLink RL 60 yX1_diameter, Cond.instanceMethod yX1_diameter, Cond.selects RX1 yX1_diameter yX1_diameter, Cond.code yX1_diameter cX1_diameter 9 (some .int)]
def wsL_law_r10 : List Cond := [Cond.methodLink RL 61 yX0_points, Cond.instanceMethod yX0_points, Cond.selects RX0 yX0_points yX0_points, Cond.code yX0_points cX0_points 1 (some .int), Cond.methodLink RL 64 yX1_points, Cond.instanceMethod yX1_points, Cond.selects RX1 yX1_points yX1_points, Cond.code yX1_points cX1_points 1 (some .int)]
def wsL_law : List Cond := (wsL_law_r1 ++ (wsL_law_r2 ++ (wsL_law_r3 ++ (wsL_law_r4 ++ (wsL_law_r5 ++ (wsL_law_r6 ++ (wsL_law_r7 ++ (wsL_law_r8 ++ (wsL_law_r9 ++ wsL_law_r10))))))))) ++ wsX00 ++ wsX10 ++ ([] : List Cond)
set_option maxRecDepth 20000 in
theorem wsL_law_in : ∀ w ∈ wsL_law, w ∈ lw_tbl := fun w h => (goodIn_p wsL_law [182, 29, 32, 35, 187, 62, 65, 69, 73, 77, 81, 84, 88, 92, 96, 100, 104, 108, 112, 116, 120, 124, 128, 132, 234, 220, 217, 223, 226, 230, 239, 243, 136, 247, 140, 251, 144, 255, 148, 152, 259, 156, 160, 263, 164, 267, 168, 175, 172, 271, 179, 275] (by decide +kernel) (by decide +kernel) w h).1
theorem inlX0 : ∀ w ∈ wsX00, w ∈ wsL_law := fun _ h => List.mem_append_left _ (List.mem_append_left _ (List.mem_append_right _ h))
theorem inX0 : ∀ w ∈ wsX00, w ∈ lw_tbl := fun w h => wsL_law_in w (inlX0 w h)
theorem inlX1 : ∀ w ∈ wsX10, w ∈ wsL_law := fun _ h => List.mem_append_left _ (List.mem_append_right _ h)
theorem inX1 : ∀ w ∈ wsX10, w ∈ lw_tbl := fun w h => wsL_law_in w (inlX1 w h)
theorem inJ9 : ∀ w ∈ wsJ90, w ∈ lw_tbl := by decide +kernel
set_option maxRecDepth 20000 in
theorem ggX0_init_J9_floorMod_7cf53 : GoodIn wsX0_init wsJ9_floorMod_7cf53 := goodIn_r _ [15] (by decide +kernel) (by decide +kernel)
set_option maxRecDepth 20000 in
theorem gX0_init_J9_floorMod_7cf53 : GoodIn wsX0_init (va_wsS RX0 9 yJ9_floorMod_7cf53 wsJ9_floorMod_7cf53) := goodIn_app (goodIn_of _ (by decide +kernel)) ggX0_init_J9_floorMod_7cf53
end
section
theorem dX0_init_0 : decode cX0_init 0 = .ok (.aload_n 0, 1) := by decide +kernel
theorem dX0_init_1 : decode cX0_init 1 = .ok (.invokespecial 1, 3) := by decide +kernel
theorem dX0_init_4 : decode cX0_init 4 = .ok (.aload_n 0, 1) := by decide +kernel
theorem dX0_init_5 : decode cX0_init 5 = .ok (.iconst 3, 1) := by decide +kernel
theorem dX0_init_6 : decode cX0_init 6 = .ok (.iload_n 1, 1) := by decide +kernel
theorem dX0_init_7 : decode cX0_init 7 = .ok (.bipush 62, 2) := by decide +kernel
theorem dX0_init_9 : decode cX0_init 9 = .ok (.invokestatic 9, 3) := by decide +kernel
theorem dX0_init_12 : decode cX0_init 12 = .ok (.iadd, 1) := by decide +kernel
theorem dX0_init_13 : decode cX0_init 13 = .ok (.putfield 15, 3) := by decide +kernel
theorem dX0_init_16 : decode cX0_init 16 = .ok (.aload_n 0, 1) := by decide +kernel
theorem dX0_init_17 : decode cX0_init 17 = .ok (.aload_n 0, 1) := by decide +kernel
theorem dX0_init_18 : decode cX0_init 18 = .ok (.getfield 15, 3) := by decide +kernel
theorem dX0_init_21 : decode cX0_init 21 = .ok (.newarray .int, 2) := by decide +kernel
theorem dX0_init_23 : decode cX0_init 23 = .ok (.putfield 19, 3) := by decide +kernel
theorem dX0_init_26 : decode cX0_init 26 = .ok (.aload_n 0, 1) := by decide +kernel
theorem dX0_init_27 : decode cX0_init 27 = .ok (.aload_n 0, 1) := by decide +kernel
theorem dX0_init_28 : decode cX0_init 28 = .ok (.getfield 15, 3) := by decide +kernel
theorem dX0_init_31 : decode cX0_init 31 = .ok (.newarray .int, 2) := by decide +kernel
theorem dX0_init_33 : decode cX0_init 33 = .ok (.putfield 23, 3) := by decide +kernel
theorem dX0_init_36 : decode cX0_init 36 = .ok (.aload_n 0, 1) := by decide +kernel
theorem dX0_init_37 : decode cX0_init 37 = .ok (.aload_n 0, 1) := by decide +kernel
theorem dX0_init_38 : decode cX0_init 38 = .ok (.getfield 15, 3) := by decide +kernel
theorem dX0_init_41 : decode cX0_init 41 = .ok (.newarray .int, 2) := by decide +kernel
theorem dX0_init_43 : decode cX0_init 43 = .ok (.putfield 26, 3) := by decide +kernel
theorem dX0_init_46 : decode cX0_init 46 = .ok (.aload_n 0, 1) := by decide +kernel
theorem dX0_init_47 : decode cX0_init 47 = .ok (.aload_n 0, 1) := by decide +kernel
theorem dX0_init_48 : decode cX0_init 48 = .ok (.getfield 15, 3) := by decide +kernel
theorem dX0_init_51 : decode cX0_init 51 = .ok (.newarray .int, 2) := by decide +kernel
theorem dX0_init_53 : decode cX0_init 53 = .ok (.putfield 29, 3) := by decide +kernel
theorem dX0_init_56 : decode cX0_init 56 = .ok (.aload_n 0, 1) := by decide +kernel
theorem dX0_init_57 : decode cX0_init 57 = .ok (.iconst 0, 1) := by decide +kernel
theorem dX0_init_58 : decode cX0_init 58 = .ok (.putfield 32, 3) := by decide +kernel
theorem dX0_init_61 : decode cX0_init 61 = .ok (.aload_n 0, 1) := by decide +kernel
theorem dX0_init_62 : decode cX0_init 62 = .ok (.iconst 0, 1) := by decide +kernel
theorem dX0_init_63 : decode cX0_init 63 = .ok (.putfield 35, 3) := by decide +kernel
theorem dX0_init_66 : decode cX0_init 66 = .ok (.return_, 1) := by decide +kernel
set_option maxRecDepth 20000 in
theorem ggX0_add_X0_inRange : GoodIn wsX0_add wsX0_inRange := goodIn_r _ [5] (by decide +kernel) (by decide +kernel)
set_option maxRecDepth 20000 in
theorem gX0_add_X0_inRange : GoodIn wsX0_add (va_wsS RX0 38 yX0_inRange wsX0_inRange) := goodIn_app (goodIn_of _ (by decide +kernel)) ggX0_add_X0_inRange
set_option maxRecDepth 20000 in
theorem ggX0_add_X0_placeOf : GoodIn wsX0_add wsX0_placeOf := goodIn_r _ [9, 10, 11, 12, 13, 4, 14, 15, 16, 17, 18, 19, 20, 21, 22, 23, 24, 25, 26, 27, 28, 29, 30, 31, 79, 80, 81, 82, 83, 84, 85] (by decide +kernel) (by decide +kernel)
set_option maxRecDepth 20000 in
theorem gX0_add_X0_placeOf : GoodIn wsX0_add (wsV RX0 42 RX0 yX0_placeOf wsX0_placeOf) := goodIn_app (goodIn_of _ (by decide +kernel)) ggX0_add_X0_placeOf
set_option maxRecDepth 20000 in
theorem ggX0_add_X0_staysInLine : GoodIn wsX0_add wsX0_staysInLine := goodIn_r _ [35, 10, 17, 18, 19, 4, 20, 15, 16, 21, 22, 23, 24, 79, 80, 81, 82, 83, 84, 85] (by decide +kernel) (by decide +kernel)
set_option maxRecDepth 20000 in
theorem gX0_add_X0_staysInLine : GoodIn wsX0_add (wsV RX0 45 RX0 yX0_staysInLine wsX0_staysInLine) := goodIn_app (goodIn_of _ (by decide +kernel)) ggX0_add_X0_staysInLine
set_option maxRecDepth 20000 in
theorem ggX0_add_X0_growLine : GoodIn wsX0_add wsX0_growLine := goodIn_r _ [39, 10, 15, 16, 40, 41, 42, 4, 43, 25, 26, 27, 79, 80, 81, 82, 83, 84, 85] (by decide +kernel) (by decide +kernel)
set_option maxRecDepth 20000 in
theorem gX0_add_X0_growLine : GoodIn wsX0_add (wsV RX0 48 RX0 yX0_growLine wsX0_growLine) := goodIn_app (goodIn_of _ (by decide +kernel)) ggX0_add_X0_growLine
set_option maxRecDepth 20000 in
theorem ggX0_add_X0_growRing : GoodIn wsX0_add wsX0_growRing := goodIn_r _ [47, 10, 48, 49, 50, 51, 4, 52, 17, 18, 19, 20, 15, 16, 21, 22, 23, 24, 53, 54, 55, 56, 57, 58, 59, 60, 61, 62, 63, 64, 65, 66, 67, 68, 69, 70, 71, 72, 73, 74, 75, 76, 77, 78, 25, 26, 27, 40, 41, 42, 43, 79, 80, 81, 82, 83, 84, 85] (by decide +kernel) (by decide +kernel)
set_option maxRecDepth 20000 in
theorem gX0_add_X0_growRing : GoodIn wsX0_add (wsV RX0 51 RX0 yX0_growRing wsX0_growRing) := goodIn_app (goodIn_of _ (by decide +kernel)) ggX0_add_X0_growRing
theorem dX0_add_0 : decode cX0_add 0 = .ok (.iload_n 1, 1) := by decide +kernel
theorem dX0_add_1 : decode cX0_add 1 = .ok (.iload_n 2, 1) := by decide +kernel
theorem dX0_add_2 : decode cX0_add 2 = .ok (.invokestatic 38, 3) := by decide +kernel
theorem dX0_add_5 : decode cX0_add 5 = .ok (.ifCond .ne 5, 3) := by decide +kernel
theorem dX0_add_8 : decode cX0_add 8 = .ok (.iconst (-1), 1) := by decide +kernel
theorem dX0_add_9 : decode cX0_add 9 = .ok (.ireturn, 1) := by decide +kernel
theorem dX0_add_10 : decode cX0_add 10 = .ok (.iconst 0, 1) := by decide +kernel
theorem dX0_add_11 : decode cX0_add 11 = .ok (.istore_n 3, 1) := by decide +kernel
theorem dX0_add_12 : decode cX0_add 12 = .ok (.aload_n 0, 1) := by decide +kernel
theorem dX0_add_13 : decode cX0_add 13 = .ok (.iload_n 1, 1) := by decide +kernel
theorem dX0_add_14 : decode cX0_add 14 = .ok (.iload_n 2, 1) := by decide +kernel
theorem dX0_add_15 : decode cX0_add 15 = .ok (.invokevirtual 42, 3) := by decide +kernel
theorem dX0_add_18 : decode cX0_add 18 = .ok (.ifCond .ne 28, 3) := by decide +kernel
theorem dX0_add_21 : decode cX0_add 21 = .ok (.aload_n 0, 1) := by decide +kernel
theorem dX0_add_22 : decode cX0_add 22 = .ok (.iload_n 1, 1) := by decide +kernel
theorem dX0_add_23 : decode cX0_add 23 = .ok (.iload_n 2, 1) := by decide +kernel
theorem dX0_add_24 : decode cX0_add 24 = .ok (.invokevirtual 45, 3) := by decide +kernel
theorem dX0_add_27 : decode cX0_add 27 = .ok (.ifCond .eq 12, 3) := by decide +kernel
theorem dX0_add_30 : decode cX0_add 30 = .ok (.aload_n 0, 1) := by decide +kernel
theorem dX0_add_31 : decode cX0_add 31 = .ok (.iload_n 1, 1) := by decide +kernel
theorem dX0_add_32 : decode cX0_add 32 = .ok (.iload_n 2, 1) := by decide +kernel
theorem dX0_add_33 : decode cX0_add 33 = .ok (.invokevirtual 48, 3) := by decide +kernel
theorem dX0_add_36 : decode cX0_add 36 = .ok (.goto 9, 3) := by decide +kernel
theorem dX0_add_39 : decode cX0_add 39 = .ok (.aload_n 0, 1) := by decide +kernel
theorem dX0_add_40 : decode cX0_add 40 = .ok (.iload_n 1, 1) := by decide +kernel
theorem dX0_add_41 : decode cX0_add 41 = .ok (.iload_n 2, 1) := by decide +kernel
theorem dX0_add_42 : decode cX0_add 42 = .ok (.invokevirtual 51, 3) := by decide +kernel
theorem dX0_add_45 : decode cX0_add 45 = .ok (.istore_n 3, 1) := by decide +kernel
theorem dX0_add_46 : decode cX0_add 46 = .ok (.iload_n 3, 1) := by decide +kernel
theorem dX0_add_47 : decode cX0_add 47 = .ok (.bipush (-2), 2) := by decide +kernel
theorem dX0_add_49 : decode cX0_add 49 = .ok (.if_icmp .eq 13, 3) := by decide +kernel
theorem dX0_add_52 : decode cX0_add 52 = .ok (.aload_n 0, 1) := by decide +kernel
theorem dX0_add_53 : decode cX0_add 53 = .ok (.dup, 1) := by decide +kernel
theorem dX0_add_54 : decode cX0_add 54 = .ok (.getfield 35, 3) := by decide +kernel
theorem dX0_add_57 : decode cX0_add 57 = .ok (.iconst 1, 1) := by decide +kernel
theorem dX0_add_58 : decode cX0_add 58 = .ok (.iadd, 1) := by decide +kernel
theorem dX0_add_59 : decode cX0_add 59 = .ok (.putfield 35, 3) := by decide +kernel
theorem dX0_add_62 : decode cX0_add 62 = .ok (.iload_n 3, 1) := by decide +kernel
theorem dX0_add_63 : decode cX0_add 63 = .ok (.ireturn, 1) := by decide +kernel
theorem dX0_size_0 : decode cX0_size 0 = .ok (.aload_n 0, 1) := by decide +kernel
theorem dX0_size_1 : decode cX0_size 1 = .ok (.getfield 32, 3) := by decide +kernel
theorem dX0_size_4 : decode cX0_size 4 = .ok (.ireturn, 1) := by decide +kernel
set_option maxRecDepth 20000 in
theorem ggX0_xOf_X0_isCorner : GoodIn wsX0_xOf wsX0_isCorner := goodIn_r _ [6, 7, 8, 9, 10, 11, 12, 13, 14] (by decide +kernel) (by decide +kernel)
set_option maxRecDepth 20000 in
theorem gX0_xOf_X0_isCorner : GoodIn wsX0_xOf (wsV RX0 54 RX0 yX0_isCorner wsX0_isCorner) := goodIn_app (goodIn_of _ (by decide +kernel)) ggX0_xOf_X0_isCorner
theorem dX0_xOf_0 : decode cX0_xOf 0 = .ok (.aload_n 0, 1) := by decide +kernel
theorem dX0_xOf_1 : decode cX0_xOf 1 = .ok (.iload_n 1, 1) := by decide +kernel
theorem dX0_xOf_2 : decode cX0_xOf 2 = .ok (.invokevirtual 54, 3) := by decide +kernel
theorem dX0_xOf_5 : decode cX0_xOf 5 = .ok (.ifCond .eq 12, 3) := by decide +kernel
theorem dX0_xOf_8 : decode cX0_xOf 8 = .ok (.aload_n 0, 1) := by decide +kernel
theorem dX0_xOf_9 : decode cX0_xOf 9 = .ok (.getfield 19, 3) := by decide +kernel
theorem dX0_xOf_12 : decode cX0_xOf 12 = .ok (.iload_n 1, 1) := by decide +kernel
theorem dX0_xOf_13 : decode cX0_xOf 13 = .ok (.iaload, 1) := by decide +kernel
theorem dX0_xOf_14 : decode cX0_xOf 14 = .ok (.goto 4, 3) := by decide +kernel
theorem dX0_xOf_17 : decode cX0_xOf 17 = .ok (.iconst 0, 1) := by decide +kernel
theorem dX0_xOf_18 : decode cX0_xOf 18 = .ok (.ireturn, 1) := by decide +kernel
set_option maxRecDepth 20000 in
theorem ggX0_yOf_X0_isCorner : GoodIn wsX0_yOf wsX0_isCorner := goodIn_r _ [6, 7, 8, 9, 10, 11, 12, 13, 14] (by decide +kernel) (by decide +kernel)
set_option maxRecDepth 20000 in
theorem gX0_yOf_X0_isCorner : GoodIn wsX0_yOf (wsV RX0 54 RX0 yX0_isCorner wsX0_isCorner) := goodIn_app (goodIn_of _ (by decide +kernel)) ggX0_yOf_X0_isCorner
theorem dX0_yOf_0 : decode cX0_yOf 0 = .ok (.aload_n 0, 1) := by decide +kernel
theorem dX0_yOf_1 : decode cX0_yOf 1 = .ok (.iload_n 1, 1) := by decide +kernel
theorem dX0_yOf_2 : decode cX0_yOf 2 = .ok (.invokevirtual 54, 3) := by decide +kernel
theorem dX0_yOf_5 : decode cX0_yOf 5 = .ok (.ifCond .eq 12, 3) := by decide +kernel
theorem dX0_yOf_8 : decode cX0_yOf 8 = .ok (.aload_n 0, 1) := by decide +kernel
theorem dX0_yOf_9 : decode cX0_yOf 9 = .ok (.getfield 23, 3) := by decide +kernel
theorem dX0_yOf_12 : decode cX0_yOf 12 = .ok (.iload_n 1, 1) := by decide +kernel
theorem dX0_yOf_13 : decode cX0_yOf 13 = .ok (.iaload, 1) := by decide +kernel
theorem dX0_yOf_14 : decode cX0_yOf 14 = .ok (.goto 4, 3) := by decide +kernel
theorem dX0_yOf_17 : decode cX0_yOf 17 = .ok (.iconst 0, 1) := by decide +kernel
theorem dX0_yOf_18 : decode cX0_yOf 18 = .ok (.ireturn, 1) := by decide +kernel
set_option maxRecDepth 20000 in
theorem ggX0_inside_X0_inRange : GoodIn wsX0_inside wsX0_inRange := goodIn_r _ [4] (by decide +kernel) (by decide +kernel)
set_option maxRecDepth 20000 in
theorem gX0_inside_X0_inRange : GoodIn wsX0_inside (va_wsS RX0 38 yX0_inRange wsX0_inRange) := goodIn_app (goodIn_of _ (by decide +kernel)) ggX0_inside_X0_inRange
set_option maxRecDepth 20000 in
theorem ggX0_inside_X0_placeOf : GoodIn wsX0_inside wsX0_placeOf := goodIn_r _ [8, 9, 10, 11, 12, 3, 13, 14, 15, 16, 17, 18, 19, 20, 21, 22, 23, 24, 25, 26, 27, 28, 29, 30, 31, 32, 33, 34, 35, 36, 37] (by decide +kernel) (by decide +kernel)
set_option maxRecDepth 20000 in
theorem gX0_inside_X0_placeOf : GoodIn wsX0_inside (wsV RX0 42 RX0 yX0_placeOf wsX0_placeOf) := goodIn_app (goodIn_of _ (by decide +kernel)) ggX0_inside_X0_placeOf
theorem dX0_inside_0 : decode cX0_inside 0 = .ok (.iload_n 1, 1) := by decide +kernel
theorem dX0_inside_1 : decode cX0_inside 1 = .ok (.iload_n 2, 1) := by decide +kernel
theorem dX0_inside_2 : decode cX0_inside 2 = .ok (.invokestatic 38, 3) := by decide +kernel
theorem dX0_inside_5 : decode cX0_inside 5 = .ok (.ifCond .eq 12, 3) := by decide +kernel
theorem dX0_inside_8 : decode cX0_inside 8 = .ok (.aload_n 0, 1) := by decide +kernel
theorem dX0_inside_9 : decode cX0_inside 9 = .ok (.iload_n 1, 1) := by decide +kernel
theorem dX0_inside_10 : decode cX0_inside 10 = .ok (.iload_n 2, 1) := by decide +kernel
theorem dX0_inside_11 : decode cX0_inside 11 = .ok (.invokevirtual 42, 3) := by decide +kernel
theorem dX0_inside_14 : decode cX0_inside 14 = .ok (.goto 4, 3) := by decide +kernel
theorem dX0_inside_17 : decode cX0_inside 17 = .ok (.iconst 0, 1) := by decide +kernel
theorem dX0_inside_18 : decode cX0_inside 18 = .ok (.ireturn, 1) := by decide +kernel
set_option maxRecDepth 20000 in
theorem ggX0_twiceArea_X0_turn : GoodIn wsX0_twiceArea wsX0_turn := goodIn_r _ [8, 2, 3, 9, 10, 11, 7, 12, 1, 13, 14, 15, 16, 17, 18, 19] (by decide +kernel) (by decide +kernel)
set_option maxRecDepth 20000 in
theorem gX0_twiceArea_X0_turn : GoodIn wsX0_twiceArea (wsV RX0 58 RX0 yX0_turn wsX0_turn) := goodIn_app (goodIn_of _ (by decide +kernel)) ggX0_twiceArea_X0_turn
theorem dX0_twiceArea_0 : decode cX0_twiceArea 0 = .ok (.iconst 0, 1) := by decide +kernel
theorem dX0_twiceArea_1 : decode cX0_twiceArea 1 = .ok (.istore_n 1, 1) := by decide +kernel
theorem dX0_twiceArea_2 : decode cX0_twiceArea 2 = .ok (.iconst 1, 1) := by decide +kernel
theorem dX0_twiceArea_3 : decode cX0_twiceArea 3 = .ok (.istore_n 2, 1) := by decide +kernel
theorem dX0_twiceArea_4 : decode cX0_twiceArea 4 = .ok (.iload_n 2, 1) := by decide +kernel
theorem dX0_twiceArea_5 : decode cX0_twiceArea 5 = .ok (.aload_n 0, 1) := by decide +kernel
theorem dX0_twiceArea_6 : decode cX0_twiceArea 6 = .ok (.getfield 32, 3) := by decide +kernel
theorem dX0_twiceArea_9 : decode cX0_twiceArea 9 = .ok (.if_icmp .ge 29, 3) := by decide +kernel
theorem dX0_twiceArea_12 : decode cX0_twiceArea 12 = .ok (.iload_n 1, 1) := by decide +kernel
theorem dX0_twiceArea_13 : decode cX0_twiceArea 13 = .ok (.aload_n 0, 1) := by decide +kernel
theorem dX0_twiceArea_14 : decode cX0_twiceArea 14 = .ok (.iload_n 2, 1) := by decide +kernel
theorem dX0_twiceArea_15 : decode cX0_twiceArea 15 = .ok (.aload_n 0, 1) := by decide +kernel
theorem dX0_twiceArea_16 : decode cX0_twiceArea 16 = .ok (.getfield 19, 3) := by decide +kernel
theorem dX0_twiceArea_19 : decode cX0_twiceArea 19 = .ok (.iconst 0, 1) := by decide +kernel
theorem dX0_twiceArea_20 : decode cX0_twiceArea 20 = .ok (.iaload, 1) := by decide +kernel
theorem dX0_twiceArea_21 : decode cX0_twiceArea 21 = .ok (.aload_n 0, 1) := by decide +kernel
theorem dX0_twiceArea_22 : decode cX0_twiceArea 22 = .ok (.getfield 23, 3) := by decide +kernel
theorem dX0_twiceArea_25 : decode cX0_twiceArea 25 = .ok (.iconst 0, 1) := by decide +kernel
theorem dX0_twiceArea_26 : decode cX0_twiceArea 26 = .ok (.iaload, 1) := by decide +kernel
theorem dX0_twiceArea_27 : decode cX0_twiceArea 27 = .ok (.invokevirtual 58, 3) := by decide +kernel
theorem dX0_twiceArea_30 : decode cX0_twiceArea 30 = .ok (.iadd, 1) := by decide +kernel
theorem dX0_twiceArea_31 : decode cX0_twiceArea 31 = .ok (.istore_n 1, 1) := by decide +kernel
theorem dX0_twiceArea_32 : decode cX0_twiceArea 32 = .ok (.iinc 2 1, 3) := by decide +kernel
theorem dX0_twiceArea_35 : decode cX0_twiceArea 35 = .ok (.goto (-31), 3) := by decide +kernel
theorem dX0_twiceArea_38 : decode cX0_twiceArea 38 = .ok (.iload_n 1, 1) := by decide +kernel
theorem dX0_twiceArea_39 : decode cX0_twiceArea 39 = .ok (.ireturn, 1) := by decide +kernel
set_option maxRecDepth 20000 in
theorem ggX0_farthest_X0_inRange : GoodIn wsX0_farthest wsX0_inRange := goodIn_r _ [5] (by decide +kernel) (by decide +kernel)
set_option maxRecDepth 20000 in
theorem gX0_farthest_X0_inRange : GoodIn wsX0_farthest (va_wsS RX0 38 yX0_inRange wsX0_inRange) := goodIn_app (goodIn_of _ (by decide +kernel)) ggX0_farthest_X0_inRange
set_option maxRecDepth 20000 in
theorem ggX0_farthest_X0_reach : GoodIn wsX0_farthest wsX0_reach := goodIn_r _ [9, 10, 11, 12, 13, 14, 15, 16, 17, 18] (by decide +kernel) (by decide +kernel)
set_option maxRecDepth 20000 in
theorem gX0_farthest_X0_reach : GoodIn wsX0_farthest (wsV RX0 62 RX0 yX0_reach wsX0_reach) := goodIn_app (goodIn_of _ (by decide +kernel)) ggX0_farthest_X0_reach
theorem dX0_farthest_0 : decode cX0_farthest 0 = .ok (.aload_n 0, 1) := by decide +kernel
theorem dX0_farthest_1 : decode cX0_farthest 1 = .ok (.getfield 32, 3) := by decide +kernel
theorem dX0_farthest_4 : decode cX0_farthest 4 = .ok (.ifCond .eq 11, 3) := by decide +kernel
theorem dX0_farthest_7 : decode cX0_farthest 7 = .ok (.iload_n 1, 1) := by decide +kernel
theorem dX0_farthest_8 : decode cX0_farthest 8 = .ok (.iload_n 2, 1) := by decide +kernel
theorem dX0_farthest_9 : decode cX0_farthest 9 = .ok (.invokestatic 38, 3) := by decide +kernel
theorem dX0_farthest_12 : decode cX0_farthest 12 = .ok (.ifCond .ne 5, 3) := by decide +kernel
theorem dX0_farthest_15 : decode cX0_farthest 15 = .ok (.iconst (-1), 1) := by decide +kernel
theorem dX0_farthest_16 : decode cX0_farthest 16 = .ok (.ireturn, 1) := by decide +kernel
theorem dX0_farthest_17 : decode cX0_farthest 17 = .ok (.iconst 0, 1) := by decide +kernel
theorem dX0_farthest_18 : decode cX0_farthest 18 = .ok (.istore_n 3, 1) := by decide +kernel
theorem dX0_farthest_19 : decode cX0_farthest 19 = .ok (.iconst 1, 1) := by decide +kernel
theorem dX0_farthest_20 : decode cX0_farthest 20 = .ok (.istore 4, 2) := by decide +kernel
theorem dX0_farthest_22 : decode cX0_farthest 22 = .ok (.iload 4, 2) := by decide +kernel
theorem dX0_farthest_24 : decode cX0_farthest 24 = .ok (.aload_n 0, 1) := by decide +kernel
theorem dX0_farthest_25 : decode cX0_farthest 25 = .ok (.getfield 32, 3) := by decide +kernel
theorem dX0_farthest_28 : decode cX0_farthest 28 = .ok (.if_icmp .ge 30, 3) := by decide +kernel
theorem dX0_farthest_31 : decode cX0_farthest 31 = .ok (.aload_n 0, 1) := by decide +kernel
theorem dX0_farthest_32 : decode cX0_farthest 32 = .ok (.iload 4, 2) := by decide +kernel
theorem dX0_farthest_34 : decode cX0_farthest 34 = .ok (.iload_n 1, 1) := by decide +kernel
theorem dX0_farthest_35 : decode cX0_farthest 35 = .ok (.iload_n 2, 1) := by decide +kernel
theorem dX0_farthest_36 : decode cX0_farthest 36 = .ok (.invokevirtual 62, 3) := by decide +kernel
theorem dX0_farthest_39 : decode cX0_farthest 39 = .ok (.aload_n 0, 1) := by decide +kernel
theorem dX0_farthest_40 : decode cX0_farthest 40 = .ok (.iload_n 3, 1) := by decide +kernel
theorem dX0_farthest_41 : decode cX0_farthest 41 = .ok (.iload_n 1, 1) := by decide +kernel
theorem dX0_farthest_42 : decode cX0_farthest 42 = .ok (.iload_n 2, 1) := by decide +kernel
theorem dX0_farthest_43 : decode cX0_farthest 43 = .ok (.invokevirtual 62, 3) := by decide +kernel
theorem dX0_farthest_46 : decode cX0_farthest 46 = .ok (.if_icmp .le 6, 3) := by decide +kernel
theorem dX0_farthest_49 : decode cX0_farthest 49 = .ok (.iload 4, 2) := by decide +kernel
theorem dX0_farthest_51 : decode cX0_farthest 51 = .ok (.istore_n 3, 1) := by decide +kernel
theorem dX0_farthest_52 : decode cX0_farthest 52 = .ok (.iinc 4 1, 3) := by decide +kernel
theorem dX0_farthest_55 : decode cX0_farthest 55 = .ok (.goto (-33), 3) := by decide +kernel
theorem dX0_farthest_58 : decode cX0_farthest 58 = .ok (.iload_n 3, 1) := by decide +kernel
theorem dX0_farthest_59 : decode cX0_farthest 59 = .ok (.ireturn, 1) := by decide +kernel
set_option maxRecDepth 20000 in
theorem ggX0_tangent_X0_inRange : GoodIn wsX0_tangent wsX0_inRange := goodIn_r _ [5] (by decide +kernel) (by decide +kernel)
set_option maxRecDepth 20000 in
theorem gX0_tangent_X0_inRange : GoodIn wsX0_tangent (va_wsS RX0 38 yX0_inRange wsX0_inRange) := goodIn_app (goodIn_of _ (by decide +kernel)) ggX0_tangent_X0_inRange
set_option maxRecDepth 20000 in
theorem ggX0_tangent_X0_placeOf : GoodIn wsX0_tangent wsX0_placeOf := goodIn_r _ [9, 1, 10, 11, 12, 4, 13, 14, 15, 16, 17, 18, 19, 20, 21, 22, 23, 24, 25, 26, 27, 28, 29, 30, 43, 44, 45, 46, 47, 48, 49] (by decide +kernel) (by decide +kernel)
set_option maxRecDepth 20000 in
theorem gX0_tangent_X0_placeOf : GoodIn wsX0_tangent (wsV RX0 42 RX0 yX0_placeOf wsX0_placeOf) := goodIn_app (goodIn_of _ (by decide +kernel)) ggX0_tangent_X0_placeOf
set_option maxRecDepth 20000 in
theorem ggX0_tangent_X0_firstSeen : GoodIn wsX0_tangent wsX0_firstSeen := goodIn_r _ [34, 1, 16, 17, 18, 4, 19, 14, 15, 20, 21, 22, 23, 35, 36, 37, 38, 43, 44, 45, 46, 47, 48, 49] (by decide +kernel) (by decide +kernel)
set_option maxRecDepth 20000 in
theorem gX0_tangent_X0_firstSeen : GoodIn wsX0_tangent (wsV RX0 65 RX0 yX0_firstSeen wsX0_firstSeen) := goodIn_app (goodIn_of _ (by decide +kernel)) ggX0_tangent_X0_firstSeen
set_option maxRecDepth 20000 in
theorem ggX0_tangent_X0_lastSeen : GoodIn wsX0_tangent wsX0_lastSeen := goodIn_r _ [42, 1, 16, 17, 18, 4, 19, 14, 15, 20, 21, 22, 23, 35, 36, 37, 38, 43, 44, 45, 46, 47, 48, 49] (by decide +kernel) (by decide +kernel)
set_option maxRecDepth 20000 in
theorem gX0_tangent_X0_lastSeen : GoodIn wsX0_tangent (wsV RX0 68 RX0 yX0_lastSeen wsX0_lastSeen) := goodIn_app (goodIn_of _ (by decide +kernel)) ggX0_tangent_X0_lastSeen
theorem dX0_tangent_0 : decode cX0_tangent 0 = .ok (.aload_n 0, 1) := by decide +kernel
theorem dX0_tangent_1 : decode cX0_tangent 1 = .ok (.getfield 32, 3) := by decide +kernel
theorem dX0_tangent_4 : decode cX0_tangent 4 = .ok (.iconst 3, 1) := by decide +kernel
theorem dX0_tangent_5 : decode cX0_tangent 5 = .ok (.if_icmp .lt 20, 3) := by decide +kernel
theorem dX0_tangent_8 : decode cX0_tangent 8 = .ok (.iload_n 1, 1) := by decide +kernel
theorem dX0_tangent_9 : decode cX0_tangent 9 = .ok (.iload_n 2, 1) := by decide +kernel
theorem dX0_tangent_10 : decode cX0_tangent 10 = .ok (.invokestatic 38, 3) := by decide +kernel
theorem dX0_tangent_13 : decode cX0_tangent 13 = .ok (.ifCond .eq 12, 3) := by decide +kernel
theorem dX0_tangent_16 : decode cX0_tangent 16 = .ok (.aload_n 0, 1) := by decide +kernel
theorem dX0_tangent_17 : decode cX0_tangent 17 = .ok (.iload_n 1, 1) := by decide +kernel
theorem dX0_tangent_18 : decode cX0_tangent 18 = .ok (.iload_n 2, 1) := by decide +kernel
theorem dX0_tangent_19 : decode cX0_tangent 19 = .ok (.invokevirtual 42, 3) := by decide +kernel
theorem dX0_tangent_22 : decode cX0_tangent 22 = .ok (.ifCond .eq 5, 3) := by decide +kernel
theorem dX0_tangent_25 : decode cX0_tangent 25 = .ok (.iconst (-1), 1) := by decide +kernel
theorem dX0_tangent_26 : decode cX0_tangent 26 = .ok (.ireturn, 1) := by decide +kernel
theorem dX0_tangent_27 : decode cX0_tangent 27 = .ok (.iload_n 3, 1) := by decide +kernel
theorem dX0_tangent_28 : decode cX0_tangent 28 = .ok (.ifCond .ne 11, 3) := by decide +kernel
theorem dX0_tangent_31 : decode cX0_tangent 31 = .ok (.aload_n 0, 1) := by decide +kernel
theorem dX0_tangent_32 : decode cX0_tangent 32 = .ok (.iload_n 1, 1) := by decide +kernel
theorem dX0_tangent_33 : decode cX0_tangent 33 = .ok (.iload_n 2, 1) := by decide +kernel
theorem dX0_tangent_34 : decode cX0_tangent 34 = .ok (.iconst 0, 1) := by decide +kernel
theorem dX0_tangent_35 : decode cX0_tangent 35 = .ok (.invokevirtual 65, 3) := by decide +kernel
theorem dX0_tangent_38 : decode cX0_tangent 38 = .ok (.ireturn, 1) := by decide +kernel
theorem dX0_tangent_39 : decode cX0_tangent 39 = .ok (.iload_n 3, 1) := by decide +kernel
theorem dX0_tangent_40 : decode cX0_tangent 40 = .ok (.iconst 1, 1) := by decide +kernel
theorem dX0_tangent_41 : decode cX0_tangent 41 = .ok (.if_icmp .ne 13, 3) := by decide +kernel
theorem dX0_tangent_44 : decode cX0_tangent 44 = .ok (.aload_n 0, 1) := by decide +kernel
theorem dX0_tangent_45 : decode cX0_tangent 45 = .ok (.iload_n 1, 1) := by decide +kernel
theorem dX0_tangent_46 : decode cX0_tangent 46 = .ok (.iload_n 2, 1) := by decide +kernel
theorem dX0_tangent_47 : decode cX0_tangent 47 = .ok (.iconst 0, 1) := by decide +kernel
theorem dX0_tangent_48 : decode cX0_tangent 48 = .ok (.invokevirtual 68, 3) := by decide +kernel
theorem dX0_tangent_51 : decode cX0_tangent 51 = .ok (.goto 4, 3) := by decide +kernel
theorem dX0_tangent_54 : decode cX0_tangent 54 = .ok (.iconst (-1), 1) := by decide +kernel
theorem dX0_tangent_55 : decode cX0_tangent 55 = .ok (.ireturn, 1) := by decide +kernel
set_option maxRecDepth 20000 in
theorem ggX0_diameter_X0_squaredDistance : GoodIn wsX0_diameter wsX0_squaredDistance := goodIn_r _ [10, 11, 12, 13, 14, 15, 16, 17, 18, 19] (by decide +kernel) (by decide +kernel)
set_option maxRecDepth 20000 in
theorem gX0_diameter_X0_squaredDistance : GoodIn wsX0_diameter (wsV RX0 71 RX0 yX0_squaredDistance wsX0_squaredDistance) := goodIn_app (goodIn_of _ (by decide +kernel)) ggX0_diameter_X0_squaredDistance
theorem dX0_diameter_0 : decode cX0_diameter 0 = .ok (.iconst 0, 1) := by decide +kernel
theorem dX0_diameter_1 : decode cX0_diameter 1 = .ok (.istore_n 1, 1) := by decide +kernel
theorem dX0_diameter_2 : decode cX0_diameter 2 = .ok (.iconst 0, 1) := by decide +kernel
theorem dX0_diameter_3 : decode cX0_diameter 3 = .ok (.istore_n 2, 1) := by decide +kernel
theorem dX0_diameter_4 : decode cX0_diameter 4 = .ok (.iload_n 2, 1) := by decide +kernel
theorem dX0_diameter_5 : decode cX0_diameter 5 = .ok (.aload_n 0, 1) := by decide +kernel
theorem dX0_diameter_6 : decode cX0_diameter 6 = .ok (.getfield 32, 3) := by decide +kernel
theorem dX0_diameter_9 : decode cX0_diameter 9 = .ok (.if_icmp .ge 33, 3) := by decide +kernel
theorem dX0_diameter_12 : decode cX0_diameter 12 = .ok (.iconst 0, 1) := by decide +kernel
theorem dX0_diameter_13 : decode cX0_diameter 13 = .ok (.istore_n 3, 1) := by decide +kernel
theorem dX0_diameter_14 : decode cX0_diameter 14 = .ok (.iload_n 3, 1) := by decide +kernel
theorem dX0_diameter_15 : decode cX0_diameter 15 = .ok (.iload_n 2, 1) := by decide +kernel
theorem dX0_diameter_16 : decode cX0_diameter 16 = .ok (.if_icmp .ge 20, 3) := by decide +kernel
theorem dX0_diameter_19 : decode cX0_diameter 19 = .ok (.iload_n 1, 1) := by decide +kernel
theorem dX0_diameter_20 : decode cX0_diameter 20 = .ok (.aload_n 0, 1) := by decide +kernel
theorem dX0_diameter_21 : decode cX0_diameter 21 = .ok (.iload_n 2, 1) := by decide +kernel
theorem dX0_diameter_22 : decode cX0_diameter 22 = .ok (.iload_n 3, 1) := by decide +kernel
theorem dX0_diameter_23 : decode cX0_diameter 23 = .ok (.invokevirtual 71, 3) := by decide +kernel
theorem dX0_diameter_26 : decode cX0_diameter 26 = .ok (.invokestatic 74, 3) := by decide +kernel
theorem dX0_diameter_29 : decode cX0_diameter 29 = .ok (.istore_n 1, 1) := by decide +kernel
theorem dX0_diameter_30 : decode cX0_diameter 30 = .ok (.iinc 3 1, 3) := by decide +kernel
theorem dX0_diameter_33 : decode cX0_diameter 33 = .ok (.goto (-19), 3) := by decide +kernel
theorem dX0_diameter_36 : decode cX0_diameter 36 = .ok (.iinc 2 1, 3) := by decide +kernel
theorem dX0_diameter_39 : decode cX0_diameter 39 = .ok (.goto (-35), 3) := by decide +kernel
theorem dX0_diameter_42 : decode cX0_diameter 42 = .ok (.iload_n 1, 1) := by decide +kernel
theorem dX0_diameter_43 : decode cX0_diameter 43 = .ok (.ireturn, 1) := by decide +kernel
theorem dX0_points_0 : decode cX0_points 0 = .ok (.aload_n 0, 1) := by decide +kernel
theorem dX0_points_1 : decode cX0_points 1 = .ok (.getfield 35, 3) := by decide +kernel
theorem dX0_points_4 : decode cX0_points 4 = .ok (.ireturn, 1) := by decide +kernel
theorem dX0_inRange_0 : decode cX0_inRange 0 = .ok (.sipush (-16383), 3) := by decide +kernel
theorem dX0_inRange_3 : decode cX0_inRange 3 = .ok (.iload_n 0, 1) := by decide +kernel
theorem dX0_inRange_4 : decode cX0_inRange 4 = .ok (.if_icmp .gt 28, 3) := by decide +kernel
theorem dX0_inRange_7 : decode cX0_inRange 7 = .ok (.iload_n 0, 1) := by decide +kernel
theorem dX0_inRange_8 : decode cX0_inRange 8 = .ok (.sipush 16383, 3) := by decide +kernel
theorem dX0_inRange_11 : decode cX0_inRange 11 = .ok (.if_icmp .gt 21, 3) := by decide +kernel
theorem dX0_inRange_14 : decode cX0_inRange 14 = .ok (.sipush (-16383), 3) := by decide +kernel
theorem dX0_inRange_17 : decode cX0_inRange 17 = .ok (.iload_n 1, 1) := by decide +kernel
theorem dX0_inRange_18 : decode cX0_inRange 18 = .ok (.if_icmp .gt 14, 3) := by decide +kernel
theorem dX0_inRange_21 : decode cX0_inRange 21 = .ok (.iload_n 1, 1) := by decide +kernel
theorem dX0_inRange_22 : decode cX0_inRange 22 = .ok (.sipush 16383, 3) := by decide +kernel
theorem dX0_inRange_25 : decode cX0_inRange 25 = .ok (.if_icmp .gt 7, 3) := by decide +kernel
theorem dX0_inRange_28 : decode cX0_inRange 28 = .ok (.iconst 1, 1) := by decide +kernel
theorem dX0_inRange_29 : decode cX0_inRange 29 = .ok (.goto 4, 3) := by decide +kernel
theorem dX0_inRange_32 : decode cX0_inRange 32 = .ok (.iconst 0, 1) := by decide +kernel
theorem dX0_inRange_33 : decode cX0_inRange 33 = .ok (.ireturn, 1) := by decide +kernel
theorem dX0_comesBefore_0 : decode cX0_comesBefore 0 = .ok (.iload_n 0, 1) := by decide +kernel
theorem dX0_comesBefore_1 : decode cX0_comesBefore 1 = .ok (.iload_n 2, 1) := by decide +kernel
theorem dX0_comesBefore_2 : decode cX0_comesBefore 2 = .ok (.if_icmp .lt 13, 3) := by decide +kernel
theorem dX0_comesBefore_5 : decode cX0_comesBefore 5 = .ok (.iload_n 0, 1) := by decide +kernel
theorem dX0_comesBefore_6 : decode cX0_comesBefore 6 = .ok (.iload_n 2, 1) := by decide +kernel
theorem dX0_comesBefore_7 : decode cX0_comesBefore 7 = .ok (.if_icmp .ne 12, 3) := by decide +kernel
theorem dX0_comesBefore_10 : decode cX0_comesBefore 10 = .ok (.iload_n 1, 1) := by decide +kernel
theorem dX0_comesBefore_11 : decode cX0_comesBefore 11 = .ok (.iload_n 3, 1) := by decide +kernel
theorem dX0_comesBefore_12 : decode cX0_comesBefore 12 = .ok (.if_icmp .ge 7, 3) := by decide +kernel
theorem dX0_comesBefore_15 : decode cX0_comesBefore 15 = .ok (.iconst 1, 1) := by decide +kernel
theorem dX0_comesBefore_16 : decode cX0_comesBefore 16 = .ok (.goto 4, 3) := by decide +kernel
theorem dX0_comesBefore_19 : decode cX0_comesBefore 19 = .ok (.iconst 0, 1) := by decide +kernel
theorem dX0_comesBefore_20 : decode cX0_comesBefore 20 = .ok (.ireturn, 1) := by decide +kernel
theorem dX0_isCorner_0 : decode cX0_isCorner 0 = .ok (.iconst 0, 1) := by decide +kernel
theorem dX0_isCorner_1 : decode cX0_isCorner 1 = .ok (.iload_n 1, 1) := by decide +kernel
theorem dX0_isCorner_2 : decode cX0_isCorner 2 = .ok (.if_icmp .gt 15, 3) := by decide +kernel
theorem dX0_isCorner_5 : decode cX0_isCorner 5 = .ok (.iload_n 1, 1) := by decide +kernel
theorem dX0_isCorner_6 : decode cX0_isCorner 6 = .ok (.aload_n 0, 1) := by decide +kernel
theorem dX0_isCorner_7 : decode cX0_isCorner 7 = .ok (.getfield 32, 3) := by decide +kernel
theorem dX0_isCorner_10 : decode cX0_isCorner 10 = .ok (.if_icmp .ge 7, 3) := by decide +kernel
theorem dX0_isCorner_13 : decode cX0_isCorner 13 = .ok (.iconst 1, 1) := by decide +kernel
theorem dX0_isCorner_14 : decode cX0_isCorner 14 = .ok (.goto 4, 3) := by decide +kernel
theorem dX0_isCorner_17 : decode cX0_isCorner 17 = .ok (.iconst 0, 1) := by decide +kernel
theorem dX0_isCorner_18 : decode cX0_isCorner 18 = .ok (.ireturn, 1) := by decide +kernel
theorem dX0_next_0 : decode cX0_next 0 = .ok (.iload_n 1, 1) := by decide +kernel
theorem dX0_next_1 : decode cX0_next 1 = .ok (.iconst 1, 1) := by decide +kernel
theorem dX0_next_2 : decode cX0_next 2 = .ok (.iadd, 1) := by decide +kernel
theorem dX0_next_3 : decode cX0_next 3 = .ok (.aload_n 0, 1) := by decide +kernel
theorem dX0_next_4 : decode cX0_next 4 = .ok (.getfield 32, 3) := by decide +kernel
theorem dX0_next_7 : decode cX0_next 7 = .ok (.if_icmp .ge 9, 3) := by decide +kernel
theorem dX0_next_10 : decode cX0_next 10 = .ok (.iload_n 1, 1) := by decide +kernel
theorem dX0_next_11 : decode cX0_next 11 = .ok (.iconst 1, 1) := by decide +kernel
theorem dX0_next_12 : decode cX0_next 12 = .ok (.iadd, 1) := by decide +kernel
theorem dX0_next_13 : decode cX0_next 13 = .ok (.goto 4, 3) := by decide +kernel
theorem dX0_next_16 : decode cX0_next 16 = .ok (.iconst 0, 1) := by decide +kernel
theorem dX0_next_17 : decode cX0_next 17 = .ok (.ireturn, 1) := by decide +kernel
theorem dX0_previous_0 : decode cX0_previous 0 = .ok (.iload_n 1, 1) := by decide +kernel
theorem dX0_previous_1 : decode cX0_previous 1 = .ok (.ifCond .le 9, 3) := by decide +kernel
theorem dX0_previous_4 : decode cX0_previous 4 = .ok (.iload_n 1, 1) := by decide +kernel
theorem dX0_previous_5 : decode cX0_previous 5 = .ok (.iconst 1, 1) := by decide +kernel
theorem dX0_previous_6 : decode cX0_previous 6 = .ok (.isub, 1) := by decide +kernel
theorem dX0_previous_7 : decode cX0_previous 7 = .ok (.goto 9, 3) := by decide +kernel
theorem dX0_previous_10 : decode cX0_previous 10 = .ok (.aload_n 0, 1) := by decide +kernel
theorem dX0_previous_11 : decode cX0_previous 11 = .ok (.getfield 32, 3) := by decide +kernel
theorem dX0_previous_14 : decode cX0_previous 14 = .ok (.iconst 1, 1) := by decide +kernel
theorem dX0_previous_15 : decode cX0_previous 15 = .ok (.isub, 1) := by decide +kernel
theorem dX0_previous_16 : decode cX0_previous 16 = .ok (.ireturn, 1) := by decide +kernel
set_option maxRecDepth 20000 in
theorem ggX0_turn_X0_next : GoodIn wsX0_turn wsX0_next := goodIn_r _ [7, 8, 9, 10, 11, 12, 13, 14, 15] (by decide +kernel) (by decide +kernel)
set_option maxRecDepth 20000 in
theorem gX0_turn_X0_next : GoodIn wsX0_turn (wsV RX0 77 RX0 yX0_next wsX0_next) := goodIn_app (goodIn_of _ (by decide +kernel)) ggX0_turn_X0_next
theorem dX0_turn_0 : decode cX0_turn 0 = .ok (.aload_n 0, 1) := by decide +kernel
theorem dX0_turn_1 : decode cX0_turn 1 = .ok (.iload_n 1, 1) := by decide +kernel
theorem dX0_turn_2 : decode cX0_turn 2 = .ok (.invokevirtual 77, 3) := by decide +kernel
theorem dX0_turn_5 : decode cX0_turn 5 = .ok (.istore 4, 2) := by decide +kernel
theorem dX0_turn_7 : decode cX0_turn 7 = .ok (.aload_n 0, 1) := by decide +kernel
theorem dX0_turn_8 : decode cX0_turn 8 = .ok (.getfield 19, 3) := by decide +kernel
theorem dX0_turn_11 : decode cX0_turn 11 = .ok (.iload 4, 2) := by decide +kernel
theorem dX0_turn_13 : decode cX0_turn 13 = .ok (.iaload, 1) := by decide +kernel
theorem dX0_turn_14 : decode cX0_turn 14 = .ok (.aload_n 0, 1) := by decide +kernel
theorem dX0_turn_15 : decode cX0_turn 15 = .ok (.getfield 19, 3) := by decide +kernel
theorem dX0_turn_18 : decode cX0_turn 18 = .ok (.iload_n 1, 1) := by decide +kernel
theorem dX0_turn_19 : decode cX0_turn 19 = .ok (.iaload, 1) := by decide +kernel
theorem dX0_turn_20 : decode cX0_turn 20 = .ok (.isub, 1) := by decide +kernel
theorem dX0_turn_21 : decode cX0_turn 21 = .ok (.istore 5, 2) := by decide +kernel
theorem dX0_turn_23 : decode cX0_turn 23 = .ok (.aload_n 0, 1) := by decide +kernel
theorem dX0_turn_24 : decode cX0_turn 24 = .ok (.getfield 23, 3) := by decide +kernel
theorem dX0_turn_27 : decode cX0_turn 27 = .ok (.iload 4, 2) := by decide +kernel
theorem dX0_turn_29 : decode cX0_turn 29 = .ok (.iaload, 1) := by decide +kernel
theorem dX0_turn_30 : decode cX0_turn 30 = .ok (.aload_n 0, 1) := by decide +kernel
theorem dX0_turn_31 : decode cX0_turn 31 = .ok (.getfield 23, 3) := by decide +kernel
theorem dX0_turn_34 : decode cX0_turn 34 = .ok (.iload_n 1, 1) := by decide +kernel
theorem dX0_turn_35 : decode cX0_turn 35 = .ok (.iaload, 1) := by decide +kernel
theorem dX0_turn_36 : decode cX0_turn 36 = .ok (.isub, 1) := by decide +kernel
theorem dX0_turn_37 : decode cX0_turn 37 = .ok (.istore 6, 2) := by decide +kernel
theorem dX0_turn_39 : decode cX0_turn 39 = .ok (.iload 5, 2) := by decide +kernel
theorem dX0_turn_41 : decode cX0_turn 41 = .ok (.iload_n 3, 1) := by decide +kernel
theorem dX0_turn_42 : decode cX0_turn 42 = .ok (.aload_n 0, 1) := by decide +kernel
theorem dX0_turn_43 : decode cX0_turn 43 = .ok (.getfield 23, 3) := by decide +kernel
theorem dX0_turn_46 : decode cX0_turn 46 = .ok (.iload_n 1, 1) := by decide +kernel
theorem dX0_turn_47 : decode cX0_turn 47 = .ok (.iaload, 1) := by decide +kernel
theorem dX0_turn_48 : decode cX0_turn 48 = .ok (.isub, 1) := by decide +kernel
theorem dX0_turn_49 : decode cX0_turn 49 = .ok (.imul, 1) := by decide +kernel
theorem dX0_turn_50 : decode cX0_turn 50 = .ok (.iload 6, 2) := by decide +kernel
theorem dX0_turn_52 : decode cX0_turn 52 = .ok (.iload_n 2, 1) := by decide +kernel
theorem dX0_turn_53 : decode cX0_turn 53 = .ok (.aload_n 0, 1) := by decide +kernel
theorem dX0_turn_54 : decode cX0_turn 54 = .ok (.getfield 19, 3) := by decide +kernel
theorem dX0_turn_57 : decode cX0_turn 57 = .ok (.iload_n 1, 1) := by decide +kernel
theorem dX0_turn_58 : decode cX0_turn 58 = .ok (.iaload, 1) := by decide +kernel
theorem dX0_turn_59 : decode cX0_turn 59 = .ok (.isub, 1) := by decide +kernel
theorem dX0_turn_60 : decode cX0_turn 60 = .ok (.imul, 1) := by decide +kernel
theorem dX0_turn_61 : decode cX0_turn 61 = .ok (.isub, 1) := by decide +kernel
theorem dX0_turn_62 : decode cX0_turn 62 = .ok (.ireturn, 1) := by decide +kernel
theorem dX0_reach_0 : decode cX0_reach 0 = .ok (.iload_n 2, 1) := by decide +kernel
theorem dX0_reach_1 : decode cX0_reach 1 = .ok (.aload_n 0, 1) := by decide +kernel
theorem dX0_reach_2 : decode cX0_reach 2 = .ok (.getfield 19, 3) := by decide +kernel
theorem dX0_reach_5 : decode cX0_reach 5 = .ok (.iload_n 1, 1) := by decide +kernel
theorem dX0_reach_6 : decode cX0_reach 6 = .ok (.iaload, 1) := by decide +kernel
theorem dX0_reach_7 : decode cX0_reach 7 = .ok (.imul, 1) := by decide +kernel
theorem dX0_reach_8 : decode cX0_reach 8 = .ok (.iload_n 3, 1) := by decide +kernel
theorem dX0_reach_9 : decode cX0_reach 9 = .ok (.aload_n 0, 1) := by decide +kernel
theorem dX0_reach_10 : decode cX0_reach 10 = .ok (.getfield 23, 3) := by decide +kernel
theorem dX0_reach_13 : decode cX0_reach 13 = .ok (.iload_n 1, 1) := by decide +kernel
theorem dX0_reach_14 : decode cX0_reach 14 = .ok (.iaload, 1) := by decide +kernel
theorem dX0_reach_15 : decode cX0_reach 15 = .ok (.imul, 1) := by decide +kernel
theorem dX0_reach_16 : decode cX0_reach 16 = .ok (.iadd, 1) := by decide +kernel
theorem dX0_reach_17 : decode cX0_reach 17 = .ok (.ireturn, 1) := by decide +kernel
theorem dX0_squaredDistance_0 : decode cX0_squaredDistance 0 = .ok (.aload_n 0, 1) := by decide +kernel
theorem dX0_squaredDistance_1 : decode cX0_squaredDistance 1 = .ok (.getfield 19, 3) := by decide +kernel
theorem dX0_squaredDistance_4 : decode cX0_squaredDistance 4 = .ok (.iload_n 1, 1) := by decide +kernel
theorem dX0_squaredDistance_5 : decode cX0_squaredDistance 5 = .ok (.iaload, 1) := by decide +kernel
theorem dX0_squaredDistance_6 : decode cX0_squaredDistance 6 = .ok (.aload_n 0, 1) := by decide +kernel
theorem dX0_squaredDistance_7 : decode cX0_squaredDistance 7 = .ok (.getfield 19, 3) := by decide +kernel
theorem dX0_squaredDistance_10 : decode cX0_squaredDistance 10 = .ok (.iload_n 2, 1) := by decide +kernel
theorem dX0_squaredDistance_11 : decode cX0_squaredDistance 11 = .ok (.iaload, 1) := by decide +kernel
theorem dX0_squaredDistance_12 : decode cX0_squaredDistance 12 = .ok (.isub, 1) := by decide +kernel
theorem dX0_squaredDistance_13 : decode cX0_squaredDistance 13 = .ok (.istore_n 3, 1) := by decide +kernel
theorem dX0_squaredDistance_14 : decode cX0_squaredDistance 14 = .ok (.aload_n 0, 1) := by decide +kernel
theorem dX0_squaredDistance_15 : decode cX0_squaredDistance 15 = .ok (.getfield 23, 3) := by decide +kernel
theorem dX0_squaredDistance_18 : decode cX0_squaredDistance 18 = .ok (.iload_n 1, 1) := by decide +kernel
theorem dX0_squaredDistance_19 : decode cX0_squaredDistance 19 = .ok (.iaload, 1) := by decide +kernel
theorem dX0_squaredDistance_20 : decode cX0_squaredDistance 20 = .ok (.aload_n 0, 1) := by decide +kernel
theorem dX0_squaredDistance_21 : decode cX0_squaredDistance 21 = .ok (.getfield 23, 3) := by decide +kernel
theorem dX0_squaredDistance_24 : decode cX0_squaredDistance 24 = .ok (.iload_n 2, 1) := by decide +kernel
theorem dX0_squaredDistance_25 : decode cX0_squaredDistance 25 = .ok (.iaload, 1) := by decide +kernel
theorem dX0_squaredDistance_26 : decode cX0_squaredDistance 26 = .ok (.isub, 1) := by decide +kernel
theorem dX0_squaredDistance_27 : decode cX0_squaredDistance 27 = .ok (.istore 4, 2) := by decide +kernel
theorem dX0_squaredDistance_29 : decode cX0_squaredDistance 29 = .ok (.iload_n 3, 1) := by decide +kernel
theorem dX0_squaredDistance_30 : decode cX0_squaredDistance 30 = .ok (.iload_n 3, 1) := by decide +kernel
theorem dX0_squaredDistance_31 : decode cX0_squaredDistance 31 = .ok (.imul, 1) := by decide +kernel
theorem dX0_squaredDistance_32 : decode cX0_squaredDistance 32 = .ok (.iload 4, 2) := by decide +kernel
theorem dX0_squaredDistance_34 : decode cX0_squaredDistance 34 = .ok (.iload 4, 2) := by decide +kernel
theorem dX0_squaredDistance_36 : decode cX0_squaredDistance 36 = .ok (.imul, 1) := by decide +kernel
theorem dX0_squaredDistance_37 : decode cX0_squaredDistance 37 = .ok (.iadd, 1) := by decide +kernel
theorem dX0_squaredDistance_38 : decode cX0_squaredDistance 38 = .ok (.ireturn, 1) := by decide +kernel
set_option maxRecDepth 20000 in
theorem ggX0_placeOf_X0_placeInLine : GoodIn wsX0_placeOf wsX0_placeInLine := goodIn_r _ [6, 1, 7, 8, 9, 10, 11, 5, 12, 13, 14, 15, 16, 17, 18, 19, 24, 25, 26, 27, 28, 29, 30] (by decide +kernel) (by decide +kernel)
set_option maxRecDepth 20000 in
theorem gX0_placeOf_X0_placeInLine : GoodIn wsX0_placeOf (wsV RX0 81 RX0 yX0_placeInLine wsX0_placeInLine) := goodIn_app (goodIn_of _ (by decide +kernel)) ggX0_placeOf_X0_placeInLine
set_option maxRecDepth 20000 in
theorem ggX0_placeOf_X0_placeInRing : GoodIn wsX0_placeOf wsX0_placeInRing := goodIn_r _ [23, 1, 9, 10, 11, 5, 12, 7, 8, 13, 14, 15, 16, 24, 25, 26, 27, 28, 29, 30] (by decide +kernel) (by decide +kernel)
set_option maxRecDepth 20000 in
theorem gX0_placeOf_X0_placeInRing : GoodIn wsX0_placeOf (wsV RX0 84 RX0 yX0_placeInRing wsX0_placeInRing) := goodIn_app (goodIn_of _ (by decide +kernel)) ggX0_placeOf_X0_placeInRing
theorem dX0_placeOf_0 : decode cX0_placeOf 0 = .ok (.aload_n 0, 1) := by decide +kernel
theorem dX0_placeOf_1 : decode cX0_placeOf 1 = .ok (.getfield 32, 3) := by decide +kernel
theorem dX0_placeOf_4 : decode cX0_placeOf 4 = .ok (.ifCond .ne 5, 3) := by decide +kernel
theorem dX0_placeOf_7 : decode cX0_placeOf 7 = .ok (.iconst 0, 1) := by decide +kernel
theorem dX0_placeOf_8 : decode cX0_placeOf 8 = .ok (.ireturn, 1) := by decide +kernel
theorem dX0_placeOf_9 : decode cX0_placeOf 9 = .ok (.aload_n 0, 1) := by decide +kernel
theorem dX0_placeOf_10 : decode cX0_placeOf 10 = .ok (.getfield 32, 3) := by decide +kernel
theorem dX0_placeOf_13 : decode cX0_placeOf 13 = .ok (.iconst 3, 1) := by decide +kernel
theorem dX0_placeOf_14 : decode cX0_placeOf 14 = .ok (.if_icmp .ge 12, 3) := by decide +kernel
theorem dX0_placeOf_17 : decode cX0_placeOf 17 = .ok (.aload_n 0, 1) := by decide +kernel
theorem dX0_placeOf_18 : decode cX0_placeOf 18 = .ok (.iload_n 1, 1) := by decide +kernel
theorem dX0_placeOf_19 : decode cX0_placeOf 19 = .ok (.iload_n 2, 1) := by decide +kernel
theorem dX0_placeOf_20 : decode cX0_placeOf 20 = .ok (.invokevirtual 81, 3) := by decide +kernel
theorem dX0_placeOf_23 : decode cX0_placeOf 23 = .ok (.goto 9, 3) := by decide +kernel
theorem dX0_placeOf_26 : decode cX0_placeOf 26 = .ok (.aload_n 0, 1) := by decide +kernel
theorem dX0_placeOf_27 : decode cX0_placeOf 27 = .ok (.iload_n 1, 1) := by decide +kernel
theorem dX0_placeOf_28 : decode cX0_placeOf 28 = .ok (.iload_n 2, 1) := by decide +kernel
theorem dX0_placeOf_29 : decode cX0_placeOf 29 = .ok (.invokevirtual 84, 3) := by decide +kernel
theorem dX0_placeOf_32 : decode cX0_placeOf 32 = .ok (.ireturn, 1) := by decide +kernel
set_option maxRecDepth 20000 in
theorem ggX0_placeInLine_X0_turn : GoodIn wsX0_placeInLine wsX0_turn := goodIn_r _ [8, 2, 3, 9, 10, 11, 7, 12, 1, 16, 17, 18, 19, 20, 21, 22] (by decide +kernel) (by decide +kernel)
set_option maxRecDepth 20000 in
theorem gX0_placeInLine_X0_turn : GoodIn wsX0_placeInLine (wsV RX0 58 RX0 yX0_turn wsX0_turn) := goodIn_app (goodIn_of _ (by decide +kernel)) ggX0_placeInLine_X0_turn
set_option maxRecDepth 20000 in
theorem ggX0_placeInLine_X0_comesBefore : GoodIn wsX0_placeInLine wsX0_comesBefore := goodIn_r _ [15] (by decide +kernel) (by decide +kernel)
set_option maxRecDepth 20000 in
theorem gX0_placeInLine_X0_comesBefore : GoodIn wsX0_placeInLine (va_wsS RX0 87 yX0_comesBefore wsX0_comesBefore) := goodIn_app (goodIn_of _ (by decide +kernel)) ggX0_placeInLine_X0_comesBefore
theorem dX0_placeInLine_0 : decode cX0_placeInLine 0 = .ok (.aload_n 0, 1) := by decide +kernel
theorem dX0_placeInLine_1 : decode cX0_placeInLine 1 = .ok (.getfield 32, 3) := by decide +kernel
theorem dX0_placeInLine_4 : decode cX0_placeInLine 4 = .ok (.iconst 1, 1) := by decide +kernel
theorem dX0_placeInLine_5 : decode cX0_placeInLine 5 = .ok (.isub, 1) := by decide +kernel
theorem dX0_placeInLine_6 : decode cX0_placeInLine 6 = .ok (.istore_n 3, 1) := by decide +kernel
theorem dX0_placeInLine_7 : decode cX0_placeInLine 7 = .ok (.aload_n 0, 1) := by decide +kernel
theorem dX0_placeInLine_8 : decode cX0_placeInLine 8 = .ok (.iconst 0, 1) := by decide +kernel
theorem dX0_placeInLine_9 : decode cX0_placeInLine 9 = .ok (.iload_n 1, 1) := by decide +kernel
theorem dX0_placeInLine_10 : decode cX0_placeInLine 10 = .ok (.iload_n 2, 1) := by decide +kernel
theorem dX0_placeInLine_11 : decode cX0_placeInLine 11 = .ok (.invokevirtual 58, 3) := by decide +kernel
theorem dX0_placeInLine_14 : decode cX0_placeInLine 14 = .ok (.ifCond .ne 47, 3) := by decide +kernel
theorem dX0_placeInLine_17 : decode cX0_placeInLine 17 = .ok (.iload_n 1, 1) := by decide +kernel
theorem dX0_placeInLine_18 : decode cX0_placeInLine 18 = .ok (.iload_n 2, 1) := by decide +kernel
theorem dX0_placeInLine_19 : decode cX0_placeInLine 19 = .ok (.aload_n 0, 1) := by decide +kernel
theorem dX0_placeInLine_20 : decode cX0_placeInLine 20 = .ok (.getfield 19, 3) := by decide +kernel
theorem dX0_placeInLine_23 : decode cX0_placeInLine 23 = .ok (.iconst 0, 1) := by decide +kernel
theorem dX0_placeInLine_24 : decode cX0_placeInLine 24 = .ok (.iaload, 1) := by decide +kernel
theorem dX0_placeInLine_25 : decode cX0_placeInLine 25 = .ok (.aload_n 0, 1) := by decide +kernel
theorem dX0_placeInLine_26 : decode cX0_placeInLine 26 = .ok (.getfield 23, 3) := by decide +kernel
theorem dX0_placeInLine_29 : decode cX0_placeInLine 29 = .ok (.iconst 0, 1) := by decide +kernel
theorem dX0_placeInLine_30 : decode cX0_placeInLine 30 = .ok (.iaload, 1) := by decide +kernel
theorem dX0_placeInLine_31 : decode cX0_placeInLine 31 = .ok (.invokestatic 87, 3) := by decide +kernel
theorem dX0_placeInLine_34 : decode cX0_placeInLine 34 = .ok (.ifCond .ne 27, 3) := by decide +kernel
theorem dX0_placeInLine_37 : decode cX0_placeInLine 37 = .ok (.aload_n 0, 1) := by decide +kernel
theorem dX0_placeInLine_38 : decode cX0_placeInLine 38 = .ok (.getfield 19, 3) := by decide +kernel
theorem dX0_placeInLine_41 : decode cX0_placeInLine 41 = .ok (.iload_n 3, 1) := by decide +kernel
theorem dX0_placeInLine_42 : decode cX0_placeInLine 42 = .ok (.iaload, 1) := by decide +kernel
theorem dX0_placeInLine_43 : decode cX0_placeInLine 43 = .ok (.aload_n 0, 1) := by decide +kernel
theorem dX0_placeInLine_44 : decode cX0_placeInLine 44 = .ok (.getfield 23, 3) := by decide +kernel
theorem dX0_placeInLine_47 : decode cX0_placeInLine 47 = .ok (.iload_n 3, 1) := by decide +kernel
theorem dX0_placeInLine_48 : decode cX0_placeInLine 48 = .ok (.iaload, 1) := by decide +kernel
theorem dX0_placeInLine_49 : decode cX0_placeInLine 49 = .ok (.iload_n 1, 1) := by decide +kernel
theorem dX0_placeInLine_50 : decode cX0_placeInLine 50 = .ok (.iload_n 2, 1) := by decide +kernel
theorem dX0_placeInLine_51 : decode cX0_placeInLine 51 = .ok (.invokestatic 87, 3) := by decide +kernel
theorem dX0_placeInLine_54 : decode cX0_placeInLine 54 = .ok (.ifCond .ne 7, 3) := by decide +kernel
theorem dX0_placeInLine_57 : decode cX0_placeInLine 57 = .ok (.iconst 1, 1) := by decide +kernel
theorem dX0_placeInLine_58 : decode cX0_placeInLine 58 = .ok (.goto 4, 3) := by decide +kernel
theorem dX0_placeInLine_61 : decode cX0_placeInLine 61 = .ok (.iconst 0, 1) := by decide +kernel
theorem dX0_placeInLine_62 : decode cX0_placeInLine 62 = .ok (.istore 4, 2) := by decide +kernel
theorem dX0_placeInLine_64 : decode cX0_placeInLine 64 = .ok (.iload 4, 2) := by decide +kernel
theorem dX0_placeInLine_66 : decode cX0_placeInLine 66 = .ok (.ifCond .eq 7, 3) := by decide +kernel
theorem dX0_placeInLine_69 : decode cX0_placeInLine 69 = .ok (.iconst 1, 1) := by decide +kernel
theorem dX0_placeInLine_70 : decode cX0_placeInLine 70 = .ok (.goto 4, 3) := by decide +kernel
theorem dX0_placeInLine_73 : decode cX0_placeInLine 73 = .ok (.iconst 0, 1) := by decide +kernel
theorem dX0_placeInLine_74 : decode cX0_placeInLine 74 = .ok (.ireturn, 1) := by decide +kernel
set_option maxRecDepth 20000 in
theorem ggX0_placeInRing_X0_turn : GoodIn wsX0_placeInRing wsX0_turn := goodIn_r _ [6, 7, 8, 9, 10, 11, 5, 12, 1, 13, 14, 15, 16, 17, 18, 19] (by decide +kernel) (by decide +kernel)
set_option maxRecDepth 20000 in
theorem gX0_placeInRing_X0_turn : GoodIn wsX0_placeInRing (wsV RX0 58 RX0 yX0_turn wsX0_turn) := goodIn_app (goodIn_of _ (by decide +kernel)) ggX0_placeInRing_X0_turn
theorem dX0_placeInRing_0 : decode cX0_placeInRing 0 = .ok (.iconst 2, 1) := by decide +kernel
theorem dX0_placeInRing_1 : decode cX0_placeInRing 1 = .ok (.istore_n 3, 1) := by decide +kernel
theorem dX0_placeInRing_2 : decode cX0_placeInRing 2 = .ok (.iconst 0, 1) := by decide +kernel
theorem dX0_placeInRing_3 : decode cX0_placeInRing 3 = .ok (.istore 4, 2) := by decide +kernel
theorem dX0_placeInRing_5 : decode cX0_placeInRing 5 = .ok (.iload 4, 2) := by decide +kernel
theorem dX0_placeInRing_7 : decode cX0_placeInRing 7 = .ok (.aload_n 0, 1) := by decide +kernel
theorem dX0_placeInRing_8 : decode cX0_placeInRing 8 = .ok (.getfield 32, 3) := by decide +kernel
theorem dX0_placeInRing_11 : decode cX0_placeInRing 11 = .ok (.if_icmp .ge 33, 3) := by decide +kernel
theorem dX0_placeInRing_14 : decode cX0_placeInRing 14 = .ok (.aload_n 0, 1) := by decide +kernel
theorem dX0_placeInRing_15 : decode cX0_placeInRing 15 = .ok (.iload 4, 2) := by decide +kernel
theorem dX0_placeInRing_17 : decode cX0_placeInRing 17 = .ok (.iload_n 1, 1) := by decide +kernel
theorem dX0_placeInRing_18 : decode cX0_placeInRing 18 = .ok (.iload_n 2, 1) := by decide +kernel
theorem dX0_placeInRing_19 : decode cX0_placeInRing 19 = .ok (.invokevirtual 58, 3) := by decide +kernel
theorem dX0_placeInRing_22 : decode cX0_placeInRing 22 = .ok (.istore 5, 2) := by decide +kernel
theorem dX0_placeInRing_24 : decode cX0_placeInRing 24 = .ok (.iload 5, 2) := by decide +kernel
theorem dX0_placeInRing_26 : decode cX0_placeInRing 26 = .ok (.ifCond .ge 5, 3) := by decide +kernel
theorem dX0_placeInRing_29 : decode cX0_placeInRing 29 = .ok (.iconst 0, 1) := by decide +kernel
theorem dX0_placeInRing_30 : decode cX0_placeInRing 30 = .ok (.ireturn, 1) := by decide +kernel
theorem dX0_placeInRing_31 : decode cX0_placeInRing 31 = .ok (.iload 5, 2) := by decide +kernel
theorem dX0_placeInRing_33 : decode cX0_placeInRing 33 = .ok (.ifCond .ne 5, 3) := by decide +kernel
theorem dX0_placeInRing_36 : decode cX0_placeInRing 36 = .ok (.iconst 1, 1) := by decide +kernel
theorem dX0_placeInRing_37 : decode cX0_placeInRing 37 = .ok (.istore_n 3, 1) := by decide +kernel
theorem dX0_placeInRing_38 : decode cX0_placeInRing 38 = .ok (.iinc 4 1, 3) := by decide +kernel
theorem dX0_placeInRing_41 : decode cX0_placeInRing 41 = .ok (.goto (-36), 3) := by decide +kernel
theorem dX0_placeInRing_44 : decode cX0_placeInRing 44 = .ok (.iload_n 3, 1) := by decide +kernel
theorem dX0_placeInRing_45 : decode cX0_placeInRing 45 = .ok (.ireturn, 1) := by decide +kernel
set_option maxRecDepth 20000 in
theorem ggX0_staysInLine_X0_turn : GoodIn wsX0_staysInLine wsX0_turn := goodIn_r _ [6, 7, 8, 9, 10, 11, 5, 12, 1, 13, 14, 15, 16, 17, 18, 19] (by decide +kernel) (by decide +kernel)
set_option maxRecDepth 20000 in
theorem gX0_staysInLine_X0_turn : GoodIn wsX0_staysInLine (wsV RX0 58 RX0 yX0_turn wsX0_turn) := goodIn_app (goodIn_of _ (by decide +kernel)) ggX0_staysInLine_X0_turn
theorem dX0_staysInLine_0 : decode cX0_staysInLine 0 = .ok (.aload_n 0, 1) := by decide +kernel
theorem dX0_staysInLine_1 : decode cX0_staysInLine 1 = .ok (.getfield 32, 3) := by decide +kernel
theorem dX0_staysInLine_4 : decode cX0_staysInLine 4 = .ok (.iconst 2, 1) := by decide +kernel
theorem dX0_staysInLine_5 : decode cX0_staysInLine 5 = .ok (.if_icmp .lt 21, 3) := by decide +kernel
theorem dX0_staysInLine_8 : decode cX0_staysInLine 8 = .ok (.aload_n 0, 1) := by decide +kernel
theorem dX0_staysInLine_9 : decode cX0_staysInLine 9 = .ok (.getfield 32, 3) := by decide +kernel
theorem dX0_staysInLine_12 : decode cX0_staysInLine 12 = .ok (.iconst 2, 1) := by decide +kernel
theorem dX0_staysInLine_13 : decode cX0_staysInLine 13 = .ok (.if_icmp .ne 17, 3) := by decide +kernel
theorem dX0_staysInLine_16 : decode cX0_staysInLine 16 = .ok (.aload_n 0, 1) := by decide +kernel
theorem dX0_staysInLine_17 : decode cX0_staysInLine 17 = .ok (.iconst 0, 1) := by decide +kernel
theorem dX0_staysInLine_18 : decode cX0_staysInLine 18 = .ok (.iload_n 1, 1) := by decide +kernel
theorem dX0_staysInLine_19 : decode cX0_staysInLine 19 = .ok (.iload_n 2, 1) := by decide +kernel
theorem dX0_staysInLine_20 : decode cX0_staysInLine 20 = .ok (.invokevirtual 58, 3) := by decide +kernel
theorem dX0_staysInLine_23 : decode cX0_staysInLine 23 = .ok (.ifCond .ne 7, 3) := by decide +kernel
theorem dX0_staysInLine_26 : decode cX0_staysInLine 26 = .ok (.iconst 1, 1) := by decide +kernel
theorem dX0_staysInLine_27 : decode cX0_staysInLine 27 = .ok (.goto 4, 3) := by decide +kernel
theorem dX0_staysInLine_30 : decode cX0_staysInLine 30 = .ok (.iconst 0, 1) := by decide +kernel
theorem dX0_staysInLine_31 : decode cX0_staysInLine 31 = .ok (.ireturn, 1) := by decide +kernel
set_option maxRecDepth 20000 in
theorem ggX0_growLine_X0_setCorner : GoodIn wsX0_growLine wsX0_setCorner := goodIn_r _ [8, 2, 3, 12, 13, 14, 15, 16, 17, 18] (by decide +kernel) (by decide +kernel)
set_option maxRecDepth 20000 in
theorem gX0_growLine_X0_setCorner : GoodIn wsX0_growLine (wsV RX0 91 RX0 yX0_setCorner wsX0_setCorner) := goodIn_app (goodIn_of _ (by decide +kernel)) ggX0_growLine_X0_setCorner
set_option maxRecDepth 20000 in
theorem ggX0_growLine_X0_comesBefore : GoodIn wsX0_growLine wsX0_comesBefore := goodIn_r _ [11] (by decide +kernel) (by decide +kernel)
set_option maxRecDepth 20000 in
theorem gX0_growLine_X0_comesBefore : GoodIn wsX0_growLine (va_wsS RX0 87 yX0_comesBefore wsX0_comesBefore) := goodIn_app (goodIn_of _ (by decide +kernel)) ggX0_growLine_X0_comesBefore
theorem dX0_growLine_0 : decode cX0_growLine 0 = .ok (.aload_n 0, 1) := by decide +kernel
theorem dX0_growLine_1 : decode cX0_growLine 1 = .ok (.getfield 32, 3) := by decide +kernel
theorem dX0_growLine_4 : decode cX0_growLine 4 = .ok (.ifCond .ne 17, 3) := by decide +kernel
theorem dX0_growLine_7 : decode cX0_growLine 7 = .ok (.aload_n 0, 1) := by decide +kernel
theorem dX0_growLine_8 : decode cX0_growLine 8 = .ok (.iconst 0, 1) := by decide +kernel
theorem dX0_growLine_9 : decode cX0_growLine 9 = .ok (.iload_n 1, 1) := by decide +kernel
theorem dX0_growLine_10 : decode cX0_growLine 10 = .ok (.iload_n 2, 1) := by decide +kernel
theorem dX0_growLine_11 : decode cX0_growLine 11 = .ok (.invokevirtual 91, 3) := by decide +kernel
theorem dX0_growLine_14 : decode cX0_growLine 14 = .ok (.aload_n 0, 1) := by decide +kernel
theorem dX0_growLine_15 : decode cX0_growLine 15 = .ok (.iconst 1, 1) := by decide +kernel
theorem dX0_growLine_16 : decode cX0_growLine 16 = .ok (.putfield 32, 3) := by decide +kernel
theorem dX0_growLine_19 : decode cX0_growLine 19 = .ok (.iconst 1, 1) := by decide +kernel
theorem dX0_growLine_20 : decode cX0_growLine 20 = .ok (.ireturn, 1) := by decide +kernel
theorem dX0_growLine_21 : decode cX0_growLine 21 = .ok (.aload_n 0, 1) := by decide +kernel
theorem dX0_growLine_22 : decode cX0_growLine 22 = .ok (.getfield 32, 3) := by decide +kernel
theorem dX0_growLine_25 : decode cX0_growLine 25 = .ok (.iconst 1, 1) := by decide +kernel
theorem dX0_growLine_26 : decode cX0_growLine 26 = .ok (.isub, 1) := by decide +kernel
theorem dX0_growLine_27 : decode cX0_growLine 27 = .ok (.istore_n 3, 1) := by decide +kernel
theorem dX0_growLine_28 : decode cX0_growLine 28 = .ok (.iload_n 1, 1) := by decide +kernel
theorem dX0_growLine_29 : decode cX0_growLine 29 = .ok (.iload_n 2, 1) := by decide +kernel
theorem dX0_growLine_30 : decode cX0_growLine 30 = .ok (.aload_n 0, 1) := by decide +kernel
theorem dX0_growLine_31 : decode cX0_growLine 31 = .ok (.getfield 19, 3) := by decide +kernel
theorem dX0_growLine_34 : decode cX0_growLine 34 = .ok (.iconst 0, 1) := by decide +kernel
theorem dX0_growLine_35 : decode cX0_growLine 35 = .ok (.iaload, 1) := by decide +kernel
theorem dX0_growLine_36 : decode cX0_growLine 36 = .ok (.aload_n 0, 1) := by decide +kernel
theorem dX0_growLine_37 : decode cX0_growLine 37 = .ok (.getfield 23, 3) := by decide +kernel
theorem dX0_growLine_40 : decode cX0_growLine 40 = .ok (.iconst 0, 1) := by decide +kernel
theorem dX0_growLine_41 : decode cX0_growLine 41 = .ok (.iaload, 1) := by decide +kernel
theorem dX0_growLine_42 : decode cX0_growLine 42 = .ok (.invokestatic 87, 3) := by decide +kernel
theorem dX0_growLine_45 : decode cX0_growLine 45 = .ok (.ifCond .eq 30, 3) := by decide +kernel
theorem dX0_growLine_48 : decode cX0_growLine 48 = .ok (.aload_n 0, 1) := by decide +kernel
theorem dX0_growLine_49 : decode cX0_growLine 49 = .ok (.iconst 1, 1) := by decide +kernel
theorem dX0_growLine_50 : decode cX0_growLine 50 = .ok (.aload_n 0, 1) := by decide +kernel
theorem dX0_growLine_51 : decode cX0_growLine 51 = .ok (.getfield 19, 3) := by decide +kernel
theorem dX0_growLine_54 : decode cX0_growLine 54 = .ok (.iload_n 3, 1) := by decide +kernel
theorem dX0_growLine_55 : decode cX0_growLine 55 = .ok (.iaload, 1) := by decide +kernel
theorem dX0_growLine_56 : decode cX0_growLine 56 = .ok (.aload_n 0, 1) := by decide +kernel
theorem dX0_growLine_57 : decode cX0_growLine 57 = .ok (.getfield 23, 3) := by decide +kernel
theorem dX0_growLine_60 : decode cX0_growLine 60 = .ok (.iload_n 3, 1) := by decide +kernel
theorem dX0_growLine_61 : decode cX0_growLine 61 = .ok (.iaload, 1) := by decide +kernel
theorem dX0_growLine_62 : decode cX0_growLine 62 = .ok (.invokevirtual 91, 3) := by decide +kernel
theorem dX0_growLine_65 : decode cX0_growLine 65 = .ok (.aload_n 0, 1) := by decide +kernel
theorem dX0_growLine_66 : decode cX0_growLine 66 = .ok (.iconst 0, 1) := by decide +kernel
theorem dX0_growLine_67 : decode cX0_growLine 67 = .ok (.iload_n 1, 1) := by decide +kernel
theorem dX0_growLine_68 : decode cX0_growLine 68 = .ok (.iload_n 2, 1) := by decide +kernel
theorem dX0_growLine_69 : decode cX0_growLine 69 = .ok (.invokevirtual 91, 3) := by decide +kernel
theorem dX0_growLine_72 : decode cX0_growLine 72 = .ok (.goto 10, 3) := by decide +kernel
theorem dX0_growLine_75 : decode cX0_growLine 75 = .ok (.aload_n 0, 1) := by decide +kernel
theorem dX0_growLine_76 : decode cX0_growLine 76 = .ok (.iconst 1, 1) := by decide +kernel
theorem dX0_growLine_77 : decode cX0_growLine 77 = .ok (.iload_n 1, 1) := by decide +kernel
theorem dX0_growLine_78 : decode cX0_growLine 78 = .ok (.iload_n 2, 1) := by decide +kernel
theorem dX0_growLine_79 : decode cX0_growLine 79 = .ok (.invokevirtual 91, 3) := by decide +kernel
theorem dX0_growLine_82 : decode cX0_growLine 82 = .ok (.aload_n 0, 1) := by decide +kernel
theorem dX0_growLine_83 : decode cX0_growLine 83 = .ok (.getfield 32, 3) := by decide +kernel
theorem dX0_growLine_86 : decode cX0_growLine 86 = .ok (.iconst 1, 1) := by decide +kernel
theorem dX0_growLine_87 : decode cX0_growLine 87 = .ok (.isub, 1) := by decide +kernel
theorem dX0_growLine_88 : decode cX0_growLine 88 = .ok (.istore 4, 2) := by decide +kernel
theorem dX0_growLine_90 : decode cX0_growLine 90 = .ok (.aload_n 0, 1) := by decide +kernel
theorem dX0_growLine_91 : decode cX0_growLine 91 = .ok (.iconst 2, 1) := by decide +kernel
theorem dX0_growLine_92 : decode cX0_growLine 92 = .ok (.putfield 32, 3) := by decide +kernel
theorem dX0_growLine_95 : decode cX0_growLine 95 = .ok (.iconst 1, 1) := by decide +kernel
theorem dX0_growLine_96 : decode cX0_growLine 96 = .ok (.iload 4, 2) := by decide +kernel
theorem dX0_growLine_98 : decode cX0_growLine 98 = .ok (.iadd, 1) := by decide +kernel
theorem dX0_growLine_99 : decode cX0_growLine 99 = .ok (.ireturn, 1) := by decide +kernel
set_option maxRecDepth 20000 in
theorem ggX0_growRing_X0_firstSeen : GoodIn wsX0_growRing wsX0_firstSeen := goodIn_r _ [7, 1, 8, 9, 10, 6, 11, 12, 13, 14, 15, 16, 17, 18, 19, 20, 21, 51, 52, 53, 54, 55, 56, 57] (by decide +kernel) (by decide +kernel)
set_option maxRecDepth 20000 in
theorem gX0_growRing_X0_firstSeen : GoodIn wsX0_growRing (wsV RX0 65 RX0 yX0_firstSeen wsX0_firstSeen) := goodIn_app (goodIn_of _ (by decide +kernel)) ggX0_growRing_X0_firstSeen
set_option maxRecDepth 20000 in
theorem ggX0_growRing_X0_lastSeen : GoodIn wsX0_growRing wsX0_lastSeen := goodIn_r _ [25, 1, 8, 9, 10, 6, 11, 12, 13, 14, 15, 16, 17, 18, 19, 20, 21, 51, 52, 53, 54, 55, 56, 57] (by decide +kernel) (by decide +kernel)
set_option maxRecDepth 20000 in
theorem gX0_growRing_X0_lastSeen : GoodIn wsX0_growRing (wsV RX0 68 RX0 yX0_lastSeen wsX0_lastSeen) := goodIn_app (goodIn_of _ (by decide +kernel)) ggX0_growRing_X0_lastSeen
set_option maxRecDepth 20000 in
theorem ggX0_growRing_X0_isCorner : GoodIn wsX0_growRing wsX0_isCorner := goodIn_r _ [29, 1, 51, 52, 53, 54, 55, 56, 57] (by decide +kernel) (by decide +kernel)
set_option maxRecDepth 20000 in
theorem gX0_growRing_X0_isCorner : GoodIn wsX0_growRing (wsV RX0 54 RX0 yX0_isCorner wsX0_isCorner) := goodIn_app (goodIn_of _ (by decide +kernel)) ggX0_growRing_X0_isCorner
set_option maxRecDepth 20000 in
theorem ggX0_growRing_X0_fillRing : GoodIn wsX0_growRing wsX0_fillRing := goodIn_r _ [33, 34, 35, 12, 13, 14, 15, 16, 6, 17, 1, 51, 52, 53, 54, 55, 56, 57] (by decide +kernel) (by decide +kernel)
set_option maxRecDepth 20000 in
theorem gX0_growRing_X0_fillRing : GoodIn wsX0_growRing (wsV RX0 95 RX0 yX0_fillRing wsX0_fillRing) := goodIn_app (goodIn_of _ (by decide +kernel)) ggX0_growRing_X0_fillRing
set_option maxRecDepth 20000 in
theorem ggX0_growRing_X0_takeRing : GoodIn wsX0_growRing wsX0_takeRing := goodIn_r _ [39, 1, 34, 35, 40, 41, 42, 6, 43, 44, 45, 46, 47, 48, 49, 50, 12, 13, 14, 15, 16, 17, 51, 52, 53, 54, 55, 56, 57] (by decide +kernel) (by decide +kernel)
set_option maxRecDepth 20000 in
theorem gX0_growRing_X0_takeRing : GoodIn wsX0_growRing (wsV RX0 99 RX0 yX0_takeRing wsX0_takeRing) := goodIn_app (goodIn_of _ (by decide +kernel)) ggX0_growRing_X0_takeRing
theorem dX0_growRing_0 : decode cX0_growRing 0 = .ok (.aload_n 0, 1) := by decide +kernel
theorem dX0_growRing_1 : decode cX0_growRing 1 = .ok (.iload_n 1, 1) := by decide +kernel
theorem dX0_growRing_2 : decode cX0_growRing 2 = .ok (.iload_n 2, 1) := by decide +kernel
theorem dX0_growRing_3 : decode cX0_growRing 3 = .ok (.iconst 1, 1) := by decide +kernel
theorem dX0_growRing_4 : decode cX0_growRing 4 = .ok (.invokevirtual 65, 3) := by decide +kernel
theorem dX0_growRing_7 : decode cX0_growRing 7 = .ok (.istore_n 3, 1) := by decide +kernel
theorem dX0_growRing_8 : decode cX0_growRing 8 = .ok (.aload_n 0, 1) := by decide +kernel
theorem dX0_growRing_9 : decode cX0_growRing 9 = .ok (.iload_n 1, 1) := by decide +kernel
theorem dX0_growRing_10 : decode cX0_growRing 10 = .ok (.iload_n 2, 1) := by decide +kernel
theorem dX0_growRing_11 : decode cX0_growRing 11 = .ok (.iconst 1, 1) := by decide +kernel
theorem dX0_growRing_12 : decode cX0_growRing 12 = .ok (.invokevirtual 68, 3) := by decide +kernel
theorem dX0_growRing_15 : decode cX0_growRing 15 = .ok (.istore 4, 2) := by decide +kernel
theorem dX0_growRing_17 : decode cX0_growRing 17 = .ok (.aload_n 0, 1) := by decide +kernel
theorem dX0_growRing_18 : decode cX0_growRing 18 = .ok (.iload_n 3, 1) := by decide +kernel
theorem dX0_growRing_19 : decode cX0_growRing 19 = .ok (.invokevirtual 54, 3) := by decide +kernel
theorem dX0_growRing_22 : decode cX0_growRing 22 = .ok (.ifCond .eq 12, 3) := by decide +kernel
theorem dX0_growRing_25 : decode cX0_growRing 25 = .ok (.aload_n 0, 1) := by decide +kernel
theorem dX0_growRing_26 : decode cX0_growRing 26 = .ok (.iload 4, 2) := by decide +kernel
theorem dX0_growRing_28 : decode cX0_growRing 28 = .ok (.invokevirtual 54, 3) := by decide +kernel
theorem dX0_growRing_31 : decode cX0_growRing 31 = .ok (.ifCond .ne 5, 3) := by decide +kernel
theorem dX0_growRing_34 : decode cX0_growRing 34 = .ok (.iconst 0, 1) := by decide +kernel
theorem dX0_growRing_35 : decode cX0_growRing 35 = .ok (.ireturn, 1) := by decide +kernel
theorem dX0_growRing_36 : decode cX0_growRing 36 = .ok (.iload_n 3, 1) := by decide +kernel
theorem dX0_growRing_37 : decode cX0_growRing 37 = .ok (.iload 4, 2) := by decide +kernel
theorem dX0_growRing_39 : decode cX0_growRing 39 = .ok (.isub, 1) := by decide +kernel
theorem dX0_growRing_40 : decode cX0_growRing 40 = .ok (.iconst 1, 1) := by decide +kernel
theorem dX0_growRing_41 : decode cX0_growRing 41 = .ok (.iadd, 1) := by decide +kernel
theorem dX0_growRing_42 : decode cX0_growRing 42 = .ok (.istore 5, 2) := by decide +kernel
theorem dX0_growRing_44 : decode cX0_growRing 44 = .ok (.iload_n 3, 1) := by decide +kernel
theorem dX0_growRing_45 : decode cX0_growRing 45 = .ok (.iload 4, 2) := by decide +kernel
theorem dX0_growRing_47 : decode cX0_growRing 47 = .ok (.if_icmp .ge 12, 3) := by decide +kernel
theorem dX0_growRing_50 : decode cX0_growRing 50 = .ok (.iload 5, 2) := by decide +kernel
theorem dX0_growRing_52 : decode cX0_growRing 52 = .ok (.aload_n 0, 1) := by decide +kernel
theorem dX0_growRing_53 : decode cX0_growRing 53 = .ok (.getfield 32, 3) := by decide +kernel
theorem dX0_growRing_56 : decode cX0_growRing 56 = .ok (.iadd, 1) := by decide +kernel
theorem dX0_growRing_57 : decode cX0_growRing 57 = .ok (.istore 5, 2) := by decide +kernel
theorem dX0_growRing_59 : decode cX0_growRing 59 = .ok (.iload 5, 2) := by decide +kernel
theorem dX0_growRing_61 : decode cX0_growRing 61 = .ok (.iconst 1, 1) := by decide +kernel
theorem dX0_growRing_62 : decode cX0_growRing 62 = .ok (.iadd, 1) := by decide +kernel
theorem dX0_growRing_63 : decode cX0_growRing 63 = .ok (.aload_n 0, 1) := by decide +kernel
theorem dX0_growRing_64 : decode cX0_growRing 64 = .ok (.getfield 15, 3) := by decide +kernel
theorem dX0_growRing_67 : decode cX0_growRing 67 = .ok (.if_icmp .le 6, 3) := by decide +kernel
theorem dX0_growRing_70 : decode cX0_growRing 70 = .ok (.bipush (-2), 2) := by decide +kernel
theorem dX0_growRing_72 : decode cX0_growRing 72 = .ok (.ireturn, 1) := by decide +kernel
theorem dX0_growRing_73 : decode cX0_growRing 73 = .ok (.aload_n 0, 1) := by decide +kernel
theorem dX0_growRing_74 : decode cX0_growRing 74 = .ok (.getfield 32, 3) := by decide +kernel
theorem dX0_growRing_77 : decode cX0_growRing 77 = .ok (.iload 5, 2) := by decide +kernel
theorem dX0_growRing_79 : decode cX0_growRing 79 = .ok (.isub, 1) := by decide +kernel
theorem dX0_growRing_80 : decode cX0_growRing 80 = .ok (.istore 6, 2) := by decide +kernel
theorem dX0_growRing_82 : decode cX0_growRing 82 = .ok (.aload_n 0, 1) := by decide +kernel
theorem dX0_growRing_83 : decode cX0_growRing 83 = .ok (.iload_n 1, 1) := by decide +kernel
theorem dX0_growRing_84 : decode cX0_growRing 84 = .ok (.iload_n 2, 1) := by decide +kernel
theorem dX0_growRing_85 : decode cX0_growRing 85 = .ok (.iload 4, 2) := by decide +kernel
theorem dX0_growRing_87 : decode cX0_growRing 87 = .ok (.iload 5, 2) := by decide +kernel
theorem dX0_growRing_89 : decode cX0_growRing 89 = .ok (.invokevirtual 95, 3) := by decide +kernel
theorem dX0_growRing_92 : decode cX0_growRing 92 = .ok (.aload_n 0, 1) := by decide +kernel
theorem dX0_growRing_93 : decode cX0_growRing 93 = .ok (.iload 5, 2) := by decide +kernel
theorem dX0_growRing_95 : decode cX0_growRing 95 = .ok (.iconst 1, 1) := by decide +kernel
theorem dX0_growRing_96 : decode cX0_growRing 96 = .ok (.iadd, 1) := by decide +kernel
theorem dX0_growRing_97 : decode cX0_growRing 97 = .ok (.putfield 32, 3) := by decide +kernel
theorem dX0_growRing_100 : decode cX0_growRing 100 = .ok (.aload_n 0, 1) := by decide +kernel
theorem dX0_growRing_101 : decode cX0_growRing 101 = .ok (.invokevirtual 99, 3) := by decide +kernel
theorem dX0_growRing_104 : decode cX0_growRing 104 = .ok (.iconst 1, 1) := by decide +kernel
theorem dX0_growRing_105 : decode cX0_growRing 105 = .ok (.iload 6, 2) := by decide +kernel
theorem dX0_growRing_107 : decode cX0_growRing 107 = .ok (.iadd, 1) := by decide +kernel
theorem dX0_growRing_108 : decode cX0_growRing 108 = .ok (.ireturn, 1) := by decide +kernel
set_option maxRecDepth 20000 in
theorem ggX0_firstSeen_X0_turn : GoodIn wsX0_firstSeen wsX0_turn := goodIn_r _ [6, 7, 8, 9, 10, 11, 5, 12, 1, 17, 18, 19, 20, 21, 22, 23] (by decide +kernel) (by decide +kernel)
set_option maxRecDepth 20000 in
theorem gX0_firstSeen_X0_turn : GoodIn wsX0_firstSeen (wsV RX0 58 RX0 yX0_turn wsX0_turn) := goodIn_app (goodIn_of _ (by decide +kernel)) ggX0_firstSeen_X0_turn
set_option maxRecDepth 20000 in
theorem ggX0_firstSeen_X0_previous : GoodIn wsX0_firstSeen wsX0_previous := goodIn_r _ [16, 1, 17, 18, 19, 20, 21, 22, 23] (by decide +kernel) (by decide +kernel)
set_option maxRecDepth 20000 in
theorem gX0_firstSeen_X0_previous : GoodIn wsX0_firstSeen (wsV RX0 102 RX0 yX0_previous wsX0_previous) := goodIn_app (goodIn_of _ (by decide +kernel)) ggX0_firstSeen_X0_previous
theorem dX0_firstSeen_0 : decode cX0_firstSeen 0 = .ok (.iconst 0, 1) := by decide +kernel
theorem dX0_firstSeen_1 : decode cX0_firstSeen 1 = .ok (.istore 4, 2) := by decide +kernel
theorem dX0_firstSeen_3 : decode cX0_firstSeen 3 = .ok (.iload 4, 2) := by decide +kernel
theorem dX0_firstSeen_5 : decode cX0_firstSeen 5 = .ok (.aload_n 0, 1) := by decide +kernel
theorem dX0_firstSeen_6 : decode cX0_firstSeen 6 = .ok (.getfield 32, 3) := by decide +kernel
theorem dX0_firstSeen_9 : decode cX0_firstSeen 9 = .ok (.if_icmp .ge 40, 3) := by decide +kernel
theorem dX0_firstSeen_12 : decode cX0_firstSeen 12 = .ok (.aload_n 0, 1) := by decide +kernel
theorem dX0_firstSeen_13 : decode cX0_firstSeen 13 = .ok (.iload 4, 2) := by decide +kernel
theorem dX0_firstSeen_15 : decode cX0_firstSeen 15 = .ok (.iload_n 1, 1) := by decide +kernel
theorem dX0_firstSeen_16 : decode cX0_firstSeen 16 = .ok (.iload_n 2, 1) := by decide +kernel
theorem dX0_firstSeen_17 : decode cX0_firstSeen 17 = .ok (.invokevirtual 58, 3) := by decide +kernel
theorem dX0_firstSeen_20 : decode cX0_firstSeen 20 = .ok (.iload_n 3, 1) := by decide +kernel
theorem dX0_firstSeen_21 : decode cX0_firstSeen 21 = .ok (.if_icmp .ge 22, 3) := by decide +kernel
theorem dX0_firstSeen_24 : decode cX0_firstSeen 24 = .ok (.aload_n 0, 1) := by decide +kernel
theorem dX0_firstSeen_25 : decode cX0_firstSeen 25 = .ok (.aload_n 0, 1) := by decide +kernel
theorem dX0_firstSeen_26 : decode cX0_firstSeen 26 = .ok (.iload 4, 2) := by decide +kernel
theorem dX0_firstSeen_28 : decode cX0_firstSeen 28 = .ok (.invokevirtual 102, 3) := by decide +kernel
theorem dX0_firstSeen_31 : decode cX0_firstSeen 31 = .ok (.iload_n 1, 1) := by decide +kernel
theorem dX0_firstSeen_32 : decode cX0_firstSeen 32 = .ok (.iload_n 2, 1) := by decide +kernel
theorem dX0_firstSeen_33 : decode cX0_firstSeen 33 = .ok (.invokevirtual 58, 3) := by decide +kernel
theorem dX0_firstSeen_36 : decode cX0_firstSeen 36 = .ok (.iload_n 3, 1) := by decide +kernel
theorem dX0_firstSeen_37 : decode cX0_firstSeen 37 = .ok (.if_icmp .lt 6, 3) := by decide +kernel
theorem dX0_firstSeen_40 : decode cX0_firstSeen 40 = .ok (.iload 4, 2) := by decide +kernel
theorem dX0_firstSeen_42 : decode cX0_firstSeen 42 = .ok (.ireturn, 1) := by decide +kernel
theorem dX0_firstSeen_43 : decode cX0_firstSeen 43 = .ok (.iinc 4 1, 3) := by decide +kernel
theorem dX0_firstSeen_46 : decode cX0_firstSeen 46 = .ok (.goto (-43), 3) := by decide +kernel
theorem dX0_firstSeen_49 : decode cX0_firstSeen 49 = .ok (.iconst (-1), 1) := by decide +kernel
theorem dX0_firstSeen_50 : decode cX0_firstSeen 50 = .ok (.ireturn, 1) := by decide +kernel
set_option maxRecDepth 20000 in
theorem ggX0_lastSeen_X0_turn : GoodIn wsX0_lastSeen wsX0_turn := goodIn_r _ [6, 7, 8, 9, 10, 11, 5, 12, 1, 17, 18, 19, 20, 21, 22, 23] (by decide +kernel) (by decide +kernel)
set_option maxRecDepth 20000 in
theorem gX0_lastSeen_X0_turn : GoodIn wsX0_lastSeen (wsV RX0 58 RX0 yX0_turn wsX0_turn) := goodIn_app (goodIn_of _ (by decide +kernel)) ggX0_lastSeen_X0_turn
set_option maxRecDepth 20000 in
theorem ggX0_lastSeen_X0_previous : GoodIn wsX0_lastSeen wsX0_previous := goodIn_r _ [16, 1, 17, 18, 19, 20, 21, 22, 23] (by decide +kernel) (by decide +kernel)
set_option maxRecDepth 20000 in
theorem gX0_lastSeen_X0_previous : GoodIn wsX0_lastSeen (wsV RX0 102 RX0 yX0_previous wsX0_previous) := goodIn_app (goodIn_of _ (by decide +kernel)) ggX0_lastSeen_X0_previous
theorem dX0_lastSeen_0 : decode cX0_lastSeen 0 = .ok (.iconst 0, 1) := by decide +kernel
theorem dX0_lastSeen_1 : decode cX0_lastSeen 1 = .ok (.istore 4, 2) := by decide +kernel
theorem dX0_lastSeen_3 : decode cX0_lastSeen 3 = .ok (.iload 4, 2) := by decide +kernel
theorem dX0_lastSeen_5 : decode cX0_lastSeen 5 = .ok (.aload_n 0, 1) := by decide +kernel
theorem dX0_lastSeen_6 : decode cX0_lastSeen 6 = .ok (.getfield 32, 3) := by decide +kernel
theorem dX0_lastSeen_9 : decode cX0_lastSeen 9 = .ok (.if_icmp .ge 40, 3) := by decide +kernel
theorem dX0_lastSeen_12 : decode cX0_lastSeen 12 = .ok (.aload_n 0, 1) := by decide +kernel
theorem dX0_lastSeen_13 : decode cX0_lastSeen 13 = .ok (.iload 4, 2) := by decide +kernel
theorem dX0_lastSeen_15 : decode cX0_lastSeen 15 = .ok (.iload_n 1, 1) := by decide +kernel
theorem dX0_lastSeen_16 : decode cX0_lastSeen 16 = .ok (.iload_n 2, 1) := by decide +kernel
theorem dX0_lastSeen_17 : decode cX0_lastSeen 17 = .ok (.invokevirtual 58, 3) := by decide +kernel
theorem dX0_lastSeen_20 : decode cX0_lastSeen 20 = .ok (.iload_n 3, 1) := by decide +kernel
theorem dX0_lastSeen_21 : decode cX0_lastSeen 21 = .ok (.if_icmp .lt 22, 3) := by decide +kernel
theorem dX0_lastSeen_24 : decode cX0_lastSeen 24 = .ok (.aload_n 0, 1) := by decide +kernel
theorem dX0_lastSeen_25 : decode cX0_lastSeen 25 = .ok (.aload_n 0, 1) := by decide +kernel
theorem dX0_lastSeen_26 : decode cX0_lastSeen 26 = .ok (.iload 4, 2) := by decide +kernel
theorem dX0_lastSeen_28 : decode cX0_lastSeen 28 = .ok (.invokevirtual 102, 3) := by decide +kernel
theorem dX0_lastSeen_31 : decode cX0_lastSeen 31 = .ok (.iload_n 1, 1) := by decide +kernel
theorem dX0_lastSeen_32 : decode cX0_lastSeen 32 = .ok (.iload_n 2, 1) := by decide +kernel
theorem dX0_lastSeen_33 : decode cX0_lastSeen 33 = .ok (.invokevirtual 58, 3) := by decide +kernel
theorem dX0_lastSeen_36 : decode cX0_lastSeen 36 = .ok (.iload_n 3, 1) := by decide +kernel
theorem dX0_lastSeen_37 : decode cX0_lastSeen 37 = .ok (.if_icmp .ge 6, 3) := by decide +kernel
theorem dX0_lastSeen_40 : decode cX0_lastSeen 40 = .ok (.iload 4, 2) := by decide +kernel
theorem dX0_lastSeen_42 : decode cX0_lastSeen 42 = .ok (.ireturn, 1) := by decide +kernel
theorem dX0_lastSeen_43 : decode cX0_lastSeen 43 = .ok (.iinc 4 1, 3) := by decide +kernel
theorem dX0_lastSeen_46 : decode cX0_lastSeen 46 = .ok (.goto (-43), 3) := by decide +kernel
theorem dX0_lastSeen_49 : decode cX0_lastSeen 49 = .ok (.iconst (-1), 1) := by decide +kernel
theorem dX0_lastSeen_50 : decode cX0_lastSeen 50 = .ok (.ireturn, 1) := by decide +kernel
theorem dX0_setCorner_0 : decode cX0_setCorner 0 = .ok (.aload_n 0, 1) := by decide +kernel
theorem dX0_setCorner_1 : decode cX0_setCorner 1 = .ok (.getfield 19, 3) := by decide +kernel
theorem dX0_setCorner_4 : decode cX0_setCorner 4 = .ok (.iload_n 1, 1) := by decide +kernel
theorem dX0_setCorner_5 : decode cX0_setCorner 5 = .ok (.iload_n 2, 1) := by decide +kernel
theorem dX0_setCorner_6 : decode cX0_setCorner 6 = .ok (.iastore, 1) := by decide +kernel
theorem dX0_setCorner_7 : decode cX0_setCorner 7 = .ok (.aload_n 0, 1) := by decide +kernel
theorem dX0_setCorner_8 : decode cX0_setCorner 8 = .ok (.getfield 23, 3) := by decide +kernel
theorem dX0_setCorner_11 : decode cX0_setCorner 11 = .ok (.iload_n 1, 1) := by decide +kernel
theorem dX0_setCorner_12 : decode cX0_setCorner 12 = .ok (.iload_n 3, 1) := by decide +kernel
theorem dX0_setCorner_13 : decode cX0_setCorner 13 = .ok (.iastore, 1) := by decide +kernel
theorem dX0_setCorner_14 : decode cX0_setCorner 14 = .ok (.return_, 1) := by decide +kernel
set_option maxRecDepth 20000 in
theorem ggX0_fillRing_X0_next : GoodIn wsX0_fillRing wsX0_next := goodIn_r _ [9, 10, 11, 12, 13, 14, 15, 16, 17] (by decide +kernel) (by decide +kernel)
set_option maxRecDepth 20000 in
theorem gX0_fillRing_X0_next : GoodIn wsX0_fillRing (wsV RX0 77 RX0 yX0_next wsX0_next) := goodIn_app (goodIn_of _ (by decide +kernel)) ggX0_fillRing_X0_next
theorem dX0_fillRing_0 : decode cX0_fillRing 0 = .ok (.aload_n 0, 1) := by decide +kernel
theorem dX0_fillRing_1 : decode cX0_fillRing 1 = .ok (.getfield 26, 3) := by decide +kernel
theorem dX0_fillRing_4 : decode cX0_fillRing 4 = .ok (.iconst 0, 1) := by decide +kernel
theorem dX0_fillRing_5 : decode cX0_fillRing 5 = .ok (.iload_n 1, 1) := by decide +kernel
theorem dX0_fillRing_6 : decode cX0_fillRing 6 = .ok (.iastore, 1) := by decide +kernel
theorem dX0_fillRing_7 : decode cX0_fillRing 7 = .ok (.aload_n 0, 1) := by decide +kernel
theorem dX0_fillRing_8 : decode cX0_fillRing 8 = .ok (.getfield 29, 3) := by decide +kernel
theorem dX0_fillRing_11 : decode cX0_fillRing 11 = .ok (.iconst 0, 1) := by decide +kernel
theorem dX0_fillRing_12 : decode cX0_fillRing 12 = .ok (.iload_n 2, 1) := by decide +kernel
theorem dX0_fillRing_13 : decode cX0_fillRing 13 = .ok (.iastore, 1) := by decide +kernel
theorem dX0_fillRing_14 : decode cX0_fillRing 14 = .ok (.iload_n 3, 1) := by decide +kernel
theorem dX0_fillRing_15 : decode cX0_fillRing 15 = .ok (.istore 5, 2) := by decide +kernel
theorem dX0_fillRing_17 : decode cX0_fillRing 17 = .ok (.iconst 1, 1) := by decide +kernel
theorem dX0_fillRing_18 : decode cX0_fillRing 18 = .ok (.istore 6, 2) := by decide +kernel
theorem dX0_fillRing_20 : decode cX0_fillRing 20 = .ok (.iload 6, 2) := by decide +kernel
theorem dX0_fillRing_22 : decode cX0_fillRing 22 = .ok (.iload 4, 2) := by decide +kernel
theorem dX0_fillRing_24 : decode cX0_fillRing 24 = .ok (.if_icmp .gt 45, 3) := by decide +kernel
theorem dX0_fillRing_27 : decode cX0_fillRing 27 = .ok (.aload_n 0, 1) := by decide +kernel
theorem dX0_fillRing_28 : decode cX0_fillRing 28 = .ok (.getfield 26, 3) := by decide +kernel
theorem dX0_fillRing_31 : decode cX0_fillRing 31 = .ok (.iload 6, 2) := by decide +kernel
theorem dX0_fillRing_33 : decode cX0_fillRing 33 = .ok (.aload_n 0, 1) := by decide +kernel
theorem dX0_fillRing_34 : decode cX0_fillRing 34 = .ok (.getfield 19, 3) := by decide +kernel
theorem dX0_fillRing_37 : decode cX0_fillRing 37 = .ok (.iload 5, 2) := by decide +kernel
theorem dX0_fillRing_39 : decode cX0_fillRing 39 = .ok (.iaload, 1) := by decide +kernel
theorem dX0_fillRing_40 : decode cX0_fillRing 40 = .ok (.iastore, 1) := by decide +kernel
theorem dX0_fillRing_41 : decode cX0_fillRing 41 = .ok (.aload_n 0, 1) := by decide +kernel
theorem dX0_fillRing_42 : decode cX0_fillRing 42 = .ok (.getfield 29, 3) := by decide +kernel
theorem dX0_fillRing_45 : decode cX0_fillRing 45 = .ok (.iload 6, 2) := by decide +kernel
theorem dX0_fillRing_47 : decode cX0_fillRing 47 = .ok (.aload_n 0, 1) := by decide +kernel
theorem dX0_fillRing_48 : decode cX0_fillRing 48 = .ok (.getfield 23, 3) := by decide +kernel
theorem dX0_fillRing_51 : decode cX0_fillRing 51 = .ok (.iload 5, 2) := by decide +kernel
theorem dX0_fillRing_53 : decode cX0_fillRing 53 = .ok (.iaload, 1) := by decide +kernel
theorem dX0_fillRing_54 : decode cX0_fillRing 54 = .ok (.iastore, 1) := by decide +kernel
theorem dX0_fillRing_55 : decode cX0_fillRing 55 = .ok (.aload_n 0, 1) := by decide +kernel
theorem dX0_fillRing_56 : decode cX0_fillRing 56 = .ok (.iload 5, 2) := by decide +kernel
theorem dX0_fillRing_58 : decode cX0_fillRing 58 = .ok (.invokevirtual 77, 3) := by decide +kernel
theorem dX0_fillRing_61 : decode cX0_fillRing 61 = .ok (.istore 5, 2) := by decide +kernel
theorem dX0_fillRing_63 : decode cX0_fillRing 63 = .ok (.iinc 6 1, 3) := by decide +kernel
theorem dX0_fillRing_66 : decode cX0_fillRing 66 = .ok (.goto (-46), 3) := by decide +kernel
theorem dX0_fillRing_69 : decode cX0_fillRing 69 = .ok (.return_, 1) := by decide +kernel
set_option maxRecDepth 20000 in
theorem ggX0_takeRing_X0_leastOfRing : GoodIn wsX0_takeRing wsX0_leastOfRing := goodIn_r _ [8, 1, 2, 3, 9, 10, 7, 11, 22, 23, 24, 25, 26, 27, 28] (by decide +kernel) (by decide +kernel)
set_option maxRecDepth 20000 in
theorem gX0_takeRing_X0_leastOfRing : GoodIn wsX0_takeRing (wsV RX0 105 RX0 yX0_leastOfRing wsX0_leastOfRing) := goodIn_app (goodIn_of _ (by decide +kernel)) ggX0_takeRing_X0_leastOfRing
set_option maxRecDepth 20000 in
theorem ggX0_takeRing_X0_setCorner : GoodIn wsX0_takeRing wsX0_setCorner := goodIn_r _ [15, 16, 17, 22, 23, 24, 25, 26, 27, 28] (by decide +kernel) (by decide +kernel)
set_option maxRecDepth 20000 in
theorem gX0_takeRing_X0_setCorner : GoodIn wsX0_takeRing (wsV RX0 91 RX0 yX0_setCorner wsX0_setCorner) := goodIn_app (goodIn_of _ (by decide +kernel)) ggX0_takeRing_X0_setCorner
set_option maxRecDepth 20000 in
theorem ggX0_takeRing_X0_next : GoodIn wsX0_takeRing wsX0_next := goodIn_r _ [21, 1, 22, 23, 24, 25, 26, 27, 28] (by decide +kernel) (by decide +kernel)
set_option maxRecDepth 20000 in
theorem gX0_takeRing_X0_next : GoodIn wsX0_takeRing (wsV RX0 77 RX0 yX0_next wsX0_next) := goodIn_app (goodIn_of _ (by decide +kernel)) ggX0_takeRing_X0_next
theorem dX0_takeRing_0 : decode cX0_takeRing 0 = .ok (.aload_n 0, 1) := by decide +kernel
theorem dX0_takeRing_1 : decode cX0_takeRing 1 = .ok (.invokevirtual 105, 3) := by decide +kernel
theorem dX0_takeRing_4 : decode cX0_takeRing 4 = .ok (.istore_n 1, 1) := by decide +kernel
theorem dX0_takeRing_5 : decode cX0_takeRing 5 = .ok (.iconst 0, 1) := by decide +kernel
theorem dX0_takeRing_6 : decode cX0_takeRing 6 = .ok (.istore_n 2, 1) := by decide +kernel
theorem dX0_takeRing_7 : decode cX0_takeRing 7 = .ok (.iload_n 2, 1) := by decide +kernel
theorem dX0_takeRing_8 : decode cX0_takeRing 8 = .ok (.aload_n 0, 1) := by decide +kernel
theorem dX0_takeRing_9 : decode cX0_takeRing 9 = .ok (.getfield 32, 3) := by decide +kernel
theorem dX0_takeRing_12 : decode cX0_takeRing 12 = .ok (.if_icmp .ge 32, 3) := by decide +kernel
theorem dX0_takeRing_15 : decode cX0_takeRing 15 = .ok (.aload_n 0, 1) := by decide +kernel
theorem dX0_takeRing_16 : decode cX0_takeRing 16 = .ok (.iload_n 2, 1) := by decide +kernel
theorem dX0_takeRing_17 : decode cX0_takeRing 17 = .ok (.aload_n 0, 1) := by decide +kernel
theorem dX0_takeRing_18 : decode cX0_takeRing 18 = .ok (.getfield 26, 3) := by decide +kernel
theorem dX0_takeRing_21 : decode cX0_takeRing 21 = .ok (.iload_n 1, 1) := by decide +kernel
theorem dX0_takeRing_22 : decode cX0_takeRing 22 = .ok (.iaload, 1) := by decide +kernel
theorem dX0_takeRing_23 : decode cX0_takeRing 23 = .ok (.aload_n 0, 1) := by decide +kernel
theorem dX0_takeRing_24 : decode cX0_takeRing 24 = .ok (.getfield 29, 3) := by decide +kernel
theorem dX0_takeRing_27 : decode cX0_takeRing 27 = .ok (.iload_n 1, 1) := by decide +kernel
theorem dX0_takeRing_28 : decode cX0_takeRing 28 = .ok (.iaload, 1) := by decide +kernel
theorem dX0_takeRing_29 : decode cX0_takeRing 29 = .ok (.invokevirtual 91, 3) := by decide +kernel
theorem dX0_takeRing_32 : decode cX0_takeRing 32 = .ok (.aload_n 0, 1) := by decide +kernel
theorem dX0_takeRing_33 : decode cX0_takeRing 33 = .ok (.iload_n 1, 1) := by decide +kernel
theorem dX0_takeRing_34 : decode cX0_takeRing 34 = .ok (.invokevirtual 77, 3) := by decide +kernel
theorem dX0_takeRing_37 : decode cX0_takeRing 37 = .ok (.istore_n 1, 1) := by decide +kernel
theorem dX0_takeRing_38 : decode cX0_takeRing 38 = .ok (.iinc 2 1, 3) := by decide +kernel
theorem dX0_takeRing_41 : decode cX0_takeRing 41 = .ok (.goto (-34), 3) := by decide +kernel
theorem dX0_takeRing_44 : decode cX0_takeRing 44 = .ok (.return_, 1) := by decide +kernel
set_option maxRecDepth 20000 in
theorem ggX0_leastOfRing_X0_comesBefore : GoodIn wsX0_leastOfRing wsX0_comesBefore := goodIn_r _ [7] (by decide +kernel) (by decide +kernel)
set_option maxRecDepth 20000 in
theorem gX0_leastOfRing_X0_comesBefore : GoodIn wsX0_leastOfRing (va_wsS RX0 87 yX0_comesBefore wsX0_comesBefore) := goodIn_app (goodIn_of _ (by decide +kernel)) ggX0_leastOfRing_X0_comesBefore
theorem dX0_leastOfRing_0 : decode cX0_leastOfRing 0 = .ok (.iconst 0, 1) := by decide +kernel
theorem dX0_leastOfRing_1 : decode cX0_leastOfRing 1 = .ok (.istore_n 1, 1) := by decide +kernel
theorem dX0_leastOfRing_2 : decode cX0_leastOfRing 2 = .ok (.iconst 1, 1) := by decide +kernel
theorem dX0_leastOfRing_3 : decode cX0_leastOfRing 3 = .ok (.istore_n 2, 1) := by decide +kernel
theorem dX0_leastOfRing_4 : decode cX0_leastOfRing 4 = .ok (.iload_n 2, 1) := by decide +kernel
theorem dX0_leastOfRing_5 : decode cX0_leastOfRing 5 = .ok (.aload_n 0, 1) := by decide +kernel
theorem dX0_leastOfRing_6 : decode cX0_leastOfRing 6 = .ok (.getfield 32, 3) := by decide +kernel
theorem dX0_leastOfRing_9 : decode cX0_leastOfRing 9 = .ok (.if_icmp .ge 41, 3) := by decide +kernel
theorem dX0_leastOfRing_12 : decode cX0_leastOfRing 12 = .ok (.aload_n 0, 1) := by decide +kernel
theorem dX0_leastOfRing_13 : decode cX0_leastOfRing 13 = .ok (.getfield 26, 3) := by decide +kernel
theorem dX0_leastOfRing_16 : decode cX0_leastOfRing 16 = .ok (.iload_n 2, 1) := by decide +kernel
theorem dX0_leastOfRing_17 : decode cX0_leastOfRing 17 = .ok (.iaload, 1) := by decide +kernel
theorem dX0_leastOfRing_18 : decode cX0_leastOfRing 18 = .ok (.aload_n 0, 1) := by decide +kernel
theorem dX0_leastOfRing_19 : decode cX0_leastOfRing 19 = .ok (.getfield 29, 3) := by decide +kernel
theorem dX0_leastOfRing_22 : decode cX0_leastOfRing 22 = .ok (.iload_n 2, 1) := by decide +kernel
theorem dX0_leastOfRing_23 : decode cX0_leastOfRing 23 = .ok (.iaload, 1) := by decide +kernel
theorem dX0_leastOfRing_24 : decode cX0_leastOfRing 24 = .ok (.aload_n 0, 1) := by decide +kernel
theorem dX0_leastOfRing_25 : decode cX0_leastOfRing 25 = .ok (.getfield 26, 3) := by decide +kernel
theorem dX0_leastOfRing_28 : decode cX0_leastOfRing 28 = .ok (.iload_n 1, 1) := by decide +kernel
theorem dX0_leastOfRing_29 : decode cX0_leastOfRing 29 = .ok (.iaload, 1) := by decide +kernel
theorem dX0_leastOfRing_30 : decode cX0_leastOfRing 30 = .ok (.aload_n 0, 1) := by decide +kernel
theorem dX0_leastOfRing_31 : decode cX0_leastOfRing 31 = .ok (.getfield 29, 3) := by decide +kernel
theorem dX0_leastOfRing_34 : decode cX0_leastOfRing 34 = .ok (.iload_n 1, 1) := by decide +kernel
theorem dX0_leastOfRing_35 : decode cX0_leastOfRing 35 = .ok (.iaload, 1) := by decide +kernel
theorem dX0_leastOfRing_36 : decode cX0_leastOfRing 36 = .ok (.invokestatic 87, 3) := by decide +kernel
theorem dX0_leastOfRing_39 : decode cX0_leastOfRing 39 = .ok (.ifCond .eq 5, 3) := by decide +kernel
theorem dX0_leastOfRing_42 : decode cX0_leastOfRing 42 = .ok (.iload_n 2, 1) := by decide +kernel
theorem dX0_leastOfRing_43 : decode cX0_leastOfRing 43 = .ok (.istore_n 1, 1) := by decide +kernel
theorem dX0_leastOfRing_44 : decode cX0_leastOfRing 44 = .ok (.iinc 2 1, 3) := by decide +kernel
theorem dX0_leastOfRing_47 : decode cX0_leastOfRing 47 = .ok (.goto (-43), 3) := by decide +kernel
theorem dX0_leastOfRing_50 : decode cX0_leastOfRing 50 = .ok (.iload_n 1, 1) := by decide +kernel
theorem dX0_leastOfRing_51 : decode cX0_leastOfRing 51 = .ok (.ireturn, 1) := by decide +kernel
end
section
theorem dX1_init_0 : decode cX1_init 0 = .ok (.aload_n 0, 1) := by decide +kernel
theorem dX1_init_1 : decode cX1_init 1 = .ok (.invokespecial 1, 3) := by decide +kernel
theorem dX1_init_4 : decode cX1_init 4 = .ok (.aload_n 0, 1) := by decide +kernel
theorem dX1_init_5 : decode cX1_init 5 = .ok (.bipush 66, 2) := by decide +kernel
theorem dX1_init_7 : decode cX1_init 7 = .ok (.newarray .int, 2) := by decide +kernel
theorem dX1_init_9 : decode cX1_init 9 = .ok (.putfield 7, 3) := by decide +kernel
theorem dX1_init_12 : decode cX1_init 12 = .ok (.aload_n 0, 1) := by decide +kernel
theorem dX1_init_13 : decode cX1_init 13 = .ok (.bipush 66, 2) := by decide +kernel
theorem dX1_init_15 : decode cX1_init 15 = .ok (.newarray .int, 2) := by decide +kernel
theorem dX1_init_17 : decode cX1_init 17 = .ok (.putfield 13, 3) := by decide +kernel
theorem dX1_init_20 : decode cX1_init 20 = .ok (.aload_n 0, 1) := by decide +kernel
theorem dX1_init_21 : decode cX1_init 21 = .ok (.bipush 66, 2) := by decide +kernel
theorem dX1_init_23 : decode cX1_init 23 = .ok (.newarray .int, 2) := by decide +kernel
theorem dX1_init_25 : decode cX1_init 25 = .ok (.putfield 16, 3) := by decide +kernel
theorem dX1_init_28 : decode cX1_init 28 = .ok (.aload_n 0, 1) := by decide +kernel
theorem dX1_init_29 : decode cX1_init 29 = .ok (.bipush 66, 2) := by decide +kernel
theorem dX1_init_31 : decode cX1_init 31 = .ok (.newarray .int, 2) := by decide +kernel
theorem dX1_init_33 : decode cX1_init 33 = .ok (.putfield 19, 3) := by decide +kernel
theorem dX1_init_36 : decode cX1_init 36 = .ok (.aload_n 0, 1) := by decide +kernel
theorem dX1_init_37 : decode cX1_init 37 = .ok (.bipush 67, 2) := by decide +kernel
theorem dX1_init_39 : decode cX1_init 39 = .ok (.newarray .int, 2) := by decide +kernel
theorem dX1_init_41 : decode cX1_init 41 = .ok (.putfield 22, 3) := by decide +kernel
theorem dX1_init_44 : decode cX1_init 44 = .ok (.iload_n 1, 1) := by decide +kernel
theorem dX1_init_45 : decode cX1_init 45 = .ok (.bipush 62, 2) := by decide +kernel
theorem dX1_init_47 : decode cX1_init 47 = .ok (.irem, 1) := by decide +kernel
theorem dX1_init_48 : decode cX1_init 48 = .ok (.istore_n 2, 1) := by decide +kernel
theorem dX1_init_49 : decode cX1_init 49 = .ok (.aload_n 0, 1) := by decide +kernel
theorem dX1_init_50 : decode cX1_init 50 = .ok (.iconst 3, 1) := by decide +kernel
theorem dX1_init_51 : decode cX1_init 51 = .ok (.iload_n 2, 1) := by decide +kernel
theorem dX1_init_52 : decode cX1_init 52 = .ok (.ifCond .ge 10, 3) := by decide +kernel
theorem dX1_init_55 : decode cX1_init 55 = .ok (.iload_n 2, 1) := by decide +kernel
theorem dX1_init_56 : decode cX1_init 56 = .ok (.bipush 62, 2) := by decide +kernel
theorem dX1_init_58 : decode cX1_init 58 = .ok (.iadd, 1) := by decide +kernel
theorem dX1_init_59 : decode cX1_init 59 = .ok (.goto 4, 3) := by decide +kernel
theorem dX1_init_62 : decode cX1_init 62 = .ok (.iload_n 2, 1) := by decide +kernel
theorem dX1_init_63 : decode cX1_init 63 = .ok (.iadd, 1) := by decide +kernel
theorem dX1_init_64 : decode cX1_init 64 = .ok (.putfield 25, 3) := by decide +kernel
theorem dX1_init_67 : decode cX1_init 67 = .ok (.return_, 1) := by decide +kernel
theorem dX1_inRange_0 : decode cX1_inRange 0 = .ok (.iload_n 0, 1) := by decide +kernel
theorem dX1_inRange_1 : decode cX1_inRange 1 = .ok (.sipush (-16383), 3) := by decide +kernel
theorem dX1_inRange_4 : decode cX1_inRange 4 = .ok (.if_icmp .lt 28, 3) := by decide +kernel
theorem dX1_inRange_7 : decode cX1_inRange 7 = .ok (.iload_n 0, 1) := by decide +kernel
theorem dX1_inRange_8 : decode cX1_inRange 8 = .ok (.sipush 16383, 3) := by decide +kernel
theorem dX1_inRange_11 : decode cX1_inRange 11 = .ok (.if_icmp .gt 21, 3) := by decide +kernel
theorem dX1_inRange_14 : decode cX1_inRange 14 = .ok (.iload_n 1, 1) := by decide +kernel
theorem dX1_inRange_15 : decode cX1_inRange 15 = .ok (.sipush (-16383), 3) := by decide +kernel
theorem dX1_inRange_18 : decode cX1_inRange 18 = .ok (.if_icmp .lt 14, 3) := by decide +kernel
theorem dX1_inRange_21 : decode cX1_inRange 21 = .ok (.iload_n 1, 1) := by decide +kernel
theorem dX1_inRange_22 : decode cX1_inRange 22 = .ok (.sipush 16383, 3) := by decide +kernel
theorem dX1_inRange_25 : decode cX1_inRange 25 = .ok (.if_icmp .gt 7, 3) := by decide +kernel
theorem dX1_inRange_28 : decode cX1_inRange 28 = .ok (.iconst 1, 1) := by decide +kernel
theorem dX1_inRange_29 : decode cX1_inRange 29 = .ok (.goto 4, 3) := by decide +kernel
theorem dX1_inRange_32 : decode cX1_inRange 32 = .ok (.iconst 0, 1) := by decide +kernel
theorem dX1_inRange_33 : decode cX1_inRange 33 = .ok (.ireturn, 1) := by decide +kernel
theorem dX1_turn_0 : decode cX1_turn 0 = .ok (.lload 4, 2) := by decide +kernel
theorem dX1_turn_2 : decode cX1_turn 2 = .ok (.lload_n 0, 1) := by decide +kernel
theorem dX1_turn_3 : decode cX1_turn 3 = .ok (.lsub, 1) := by decide +kernel
theorem dX1_turn_4 : decode cX1_turn 4 = .ok (.lload 10, 2) := by decide +kernel
theorem dX1_turn_6 : decode cX1_turn 6 = .ok (.lload_n 2, 1) := by decide +kernel
theorem dX1_turn_7 : decode cX1_turn 7 = .ok (.lsub, 1) := by decide +kernel
theorem dX1_turn_8 : decode cX1_turn 8 = .ok (.lmul, 1) := by decide +kernel
theorem dX1_turn_9 : decode cX1_turn 9 = .ok (.lload 6, 2) := by decide +kernel
theorem dX1_turn_11 : decode cX1_turn 11 = .ok (.lload_n 2, 1) := by decide +kernel
theorem dX1_turn_12 : decode cX1_turn 12 = .ok (.lsub, 1) := by decide +kernel
theorem dX1_turn_13 : decode cX1_turn 13 = .ok (.lload 8, 2) := by decide +kernel
theorem dX1_turn_15 : decode cX1_turn 15 = .ok (.lload_n 0, 1) := by decide +kernel
theorem dX1_turn_16 : decode cX1_turn 16 = .ok (.lsub, 1) := by decide +kernel
theorem dX1_turn_17 : decode cX1_turn 17 = .ok (.lmul, 1) := by decide +kernel
theorem dX1_turn_18 : decode cX1_turn 18 = .ok (.lsub, 1) := by decide +kernel
theorem dX1_turn_19 : decode cX1_turn 19 = .ok (.lreturn, 1) := by decide +kernel
theorem dX1_between_0 : decode cX1_between 0 = .ok (.iload_n 0, 1) := by decide +kernel
theorem dX1_between_1 : decode cX1_between 1 = .ok (.iload_n 1, 1) := by decide +kernel
theorem dX1_between_2 : decode cX1_between 2 = .ok (.if_icmp .lt 8, 3) := by decide +kernel
theorem dX1_between_5 : decode cX1_between 5 = .ok (.iload_n 0, 1) := by decide +kernel
theorem dX1_between_6 : decode cX1_between 6 = .ok (.iload_n 2, 1) := by decide +kernel
theorem dX1_between_7 : decode cX1_between 7 = .ok (.if_icmp .le 13, 3) := by decide +kernel
theorem dX1_between_10 : decode cX1_between 10 = .ok (.iload_n 0, 1) := by decide +kernel
theorem dX1_between_11 : decode cX1_between 11 = .ok (.iload_n 2, 1) := by decide +kernel
theorem dX1_between_12 : decode cX1_between 12 = .ok (.if_icmp .lt 12, 3) := by decide +kernel
theorem dX1_between_15 : decode cX1_between 15 = .ok (.iload_n 0, 1) := by decide +kernel
theorem dX1_between_16 : decode cX1_between 16 = .ok (.iload_n 1, 1) := by decide +kernel
theorem dX1_between_17 : decode cX1_between 17 = .ok (.if_icmp .gt 7, 3) := by decide +kernel
theorem dX1_between_20 : decode cX1_between 20 = .ok (.iconst 1, 1) := by decide +kernel
theorem dX1_between_21 : decode cX1_between 21 = .ok (.goto 4, 3) := by decide +kernel
theorem dX1_between_24 : decode cX1_between 24 = .ok (.iconst 0, 1) := by decide +kernel
theorem dX1_between_25 : decode cX1_between 25 = .ok (.ireturn, 1) := by decide +kernel
set_option maxRecDepth 20000 in
theorem ggX1_side_X1_turn : GoodIn wsX1_side wsX1_turn := goodIn_r _ [7] (by decide +kernel) (by decide +kernel)
set_option maxRecDepth 20000 in
theorem gX1_side_X1_turn : GoodIn wsX1_side (va_wsS RX1 32 yX1_turn wsX1_turn) := goodIn_app (goodIn_of _ (by decide +kernel)) ggX1_side_X1_turn
theorem dX1_side_0 : decode cX1_side 0 = .ok (.iload_n 1, 1) := by decide +kernel
theorem dX1_side_1 : decode cX1_side 1 = .ok (.iconst 1, 1) := by decide +kernel
theorem dX1_side_2 : decode cX1_side 2 = .ok (.iadd, 1) := by decide +kernel
theorem dX1_side_3 : decode cX1_side 3 = .ok (.aload_n 0, 1) := by decide +kernel
theorem dX1_side_4 : decode cX1_side 4 = .ok (.getfield 29, 3) := by decide +kernel
theorem dX1_side_7 : decode cX1_side 7 = .ok (.if_icmp .ne 7, 3) := by decide +kernel
theorem dX1_side_10 : decode cX1_side 10 = .ok (.iconst 0, 1) := by decide +kernel
theorem dX1_side_11 : decode cX1_side 11 = .ok (.goto 6, 3) := by decide +kernel
theorem dX1_side_14 : decode cX1_side 14 = .ok (.iload_n 1, 1) := by decide +kernel
theorem dX1_side_15 : decode cX1_side 15 = .ok (.iconst 1, 1) := by decide +kernel
theorem dX1_side_16 : decode cX1_side 16 = .ok (.iadd, 1) := by decide +kernel
theorem dX1_side_17 : decode cX1_side 17 = .ok (.istore 4, 2) := by decide +kernel
theorem dX1_side_19 : decode cX1_side 19 = .ok (.aload_n 0, 1) := by decide +kernel
theorem dX1_side_20 : decode cX1_side 20 = .ok (.getfield 7, 3) := by decide +kernel
theorem dX1_side_23 : decode cX1_side 23 = .ok (.iload_n 1, 1) := by decide +kernel
theorem dX1_side_24 : decode cX1_side 24 = .ok (.iaload, 1) := by decide +kernel
theorem dX1_side_25 : decode cX1_side 25 = .ok (.i2l, 1) := by decide +kernel
theorem dX1_side_26 : decode cX1_side 26 = .ok (.aload_n 0, 1) := by decide +kernel
theorem dX1_side_27 : decode cX1_side 27 = .ok (.getfield 13, 3) := by decide +kernel
theorem dX1_side_30 : decode cX1_side 30 = .ok (.iload_n 1, 1) := by decide +kernel
theorem dX1_side_31 : decode cX1_side 31 = .ok (.iaload, 1) := by decide +kernel
theorem dX1_side_32 : decode cX1_side 32 = .ok (.i2l, 1) := by decide +kernel
theorem dX1_side_33 : decode cX1_side 33 = .ok (.aload_n 0, 1) := by decide +kernel
theorem dX1_side_34 : decode cX1_side 34 = .ok (.getfield 7, 3) := by decide +kernel
theorem dX1_side_37 : decode cX1_side 37 = .ok (.iload 4, 2) := by decide +kernel
theorem dX1_side_39 : decode cX1_side 39 = .ok (.iaload, 1) := by decide +kernel
theorem dX1_side_40 : decode cX1_side 40 = .ok (.i2l, 1) := by decide +kernel
theorem dX1_side_41 : decode cX1_side 41 = .ok (.aload_n 0, 1) := by decide +kernel
theorem dX1_side_42 : decode cX1_side 42 = .ok (.getfield 13, 3) := by decide +kernel
theorem dX1_side_45 : decode cX1_side 45 = .ok (.iload 4, 2) := by decide +kernel
theorem dX1_side_47 : decode cX1_side 47 = .ok (.iaload, 1) := by decide +kernel
theorem dX1_side_48 : decode cX1_side 48 = .ok (.i2l, 1) := by decide +kernel
theorem dX1_side_49 : decode cX1_side 49 = .ok (.iload_n 2, 1) := by decide +kernel
theorem dX1_side_50 : decode cX1_side 50 = .ok (.i2l, 1) := by decide +kernel
theorem dX1_side_51 : decode cX1_side 51 = .ok (.iload_n 3, 1) := by decide +kernel
theorem dX1_side_52 : decode cX1_side 52 = .ok (.i2l, 1) := by decide +kernel
theorem dX1_side_53 : decode cX1_side 53 = .ok (.invokestatic 32, 3) := by decide +kernel
theorem dX1_side_56 : decode cX1_side 56 = .ok (.lreturn, 1) := by decide +kernel
set_option maxRecDepth 20000 in
theorem ggX1_inside_X1_inRange : GoodIn wsX1_inside wsX1_inRange := goodIn_r _ [7] (by decide +kernel) (by decide +kernel)
set_option maxRecDepth 20000 in
theorem gX1_inside_X1_inRange : GoodIn wsX1_inside (va_wsS RX1 36 yX1_inRange wsX1_inRange) := goodIn_app (goodIn_of _ (by decide +kernel)) ggX1_inside_X1_inRange
set_option maxRecDepth 20000 in
theorem ggX1_inside_X1_turn : GoodIn wsX1_inside wsX1_turn := goodIn_r _ [10] (by decide +kernel) (by decide +kernel)
set_option maxRecDepth 20000 in
theorem gX1_inside_X1_turn : GoodIn wsX1_inside (va_wsS RX1 32 yX1_turn wsX1_turn) := goodIn_app (goodIn_of _ (by decide +kernel)) ggX1_inside_X1_turn
set_option maxRecDepth 20000 in
theorem ggX1_inside_X1_between : GoodIn wsX1_inside wsX1_between := goodIn_r _ [13] (by decide +kernel) (by decide +kernel)
set_option maxRecDepth 20000 in
theorem gX1_inside_X1_between : GoodIn wsX1_inside (va_wsS RX1 40 yX1_between wsX1_between) := goodIn_app (goodIn_of _ (by decide +kernel)) ggX1_inside_X1_between
set_option maxRecDepth 20000 in
theorem ggX1_inside_X1_side : GoodIn wsX1_inside wsX1_side := goodIn_r _ [17, 1, 2, 3, 8, 9, 6, 10, 18, 19, 20, 21, 22, 23, 24, 25] (by decide +kernel) (by decide +kernel)
set_option maxRecDepth 20000 in
theorem gX1_inside_X1_side : GoodIn wsX1_inside (wsV RX1 44 RX1 yX1_side wsX1_side) := goodIn_app (goodIn_of _ (by decide +kernel)) ggX1_inside_X1_side
theorem dX1_inside_0 : decode cX1_inside 0 = .ok (.aload_n 0, 1) := by decide +kernel
theorem dX1_inside_1 : decode cX1_inside 1 = .ok (.getfield 29, 3) := by decide +kernel
theorem dX1_inside_4 : decode cX1_inside 4 = .ok (.ifCond .eq 11, 3) := by decide +kernel
theorem dX1_inside_7 : decode cX1_inside 7 = .ok (.iload_n 1, 1) := by decide +kernel
theorem dX1_inside_8 : decode cX1_inside 8 = .ok (.iload_n 2, 1) := by decide +kernel
theorem dX1_inside_9 : decode cX1_inside 9 = .ok (.invokestatic 36, 3) := by decide +kernel
theorem dX1_inside_12 : decode cX1_inside 12 = .ok (.ifCond .ne 5, 3) := by decide +kernel
theorem dX1_inside_15 : decode cX1_inside 15 = .ok (.iconst 0, 1) := by decide +kernel
theorem dX1_inside_16 : decode cX1_inside 16 = .ok (.ireturn, 1) := by decide +kernel
theorem dX1_inside_17 : decode cX1_inside 17 = .ok (.aload_n 0, 1) := by decide +kernel
theorem dX1_inside_18 : decode cX1_inside 18 = .ok (.getfield 29, 3) := by decide +kernel
theorem dX1_inside_21 : decode cX1_inside 21 = .ok (.iconst 3, 1) := by decide +kernel
theorem dX1_inside_22 : decode cX1_inside 22 = .ok (.if_icmp .ge 106, 3) := by decide +kernel
theorem dX1_inside_25 : decode cX1_inside 25 = .ok (.aload_n 0, 1) := by decide +kernel
theorem dX1_inside_26 : decode cX1_inside 26 = .ok (.getfield 29, 3) := by decide +kernel
theorem dX1_inside_29 : decode cX1_inside 29 = .ok (.iconst 1, 1) := by decide +kernel
theorem dX1_inside_30 : decode cX1_inside 30 = .ok (.isub, 1) := by decide +kernel
theorem dX1_inside_31 : decode cX1_inside 31 = .ok (.istore_n 3, 1) := by decide +kernel
theorem dX1_inside_32 : decode cX1_inside 32 = .ok (.aload_n 0, 1) := by decide +kernel
theorem dX1_inside_33 : decode cX1_inside 33 = .ok (.getfield 7, 3) := by decide +kernel
theorem dX1_inside_36 : decode cX1_inside 36 = .ok (.iconst 0, 1) := by decide +kernel
theorem dX1_inside_37 : decode cX1_inside 37 = .ok (.iaload, 1) := by decide +kernel
theorem dX1_inside_38 : decode cX1_inside 38 = .ok (.i2l, 1) := by decide +kernel
theorem dX1_inside_39 : decode cX1_inside 39 = .ok (.aload_n 0, 1) := by decide +kernel
theorem dX1_inside_40 : decode cX1_inside 40 = .ok (.getfield 13, 3) := by decide +kernel
theorem dX1_inside_43 : decode cX1_inside 43 = .ok (.iconst 0, 1) := by decide +kernel
theorem dX1_inside_44 : decode cX1_inside 44 = .ok (.iaload, 1) := by decide +kernel
theorem dX1_inside_45 : decode cX1_inside 45 = .ok (.i2l, 1) := by decide +kernel
theorem dX1_inside_46 : decode cX1_inside 46 = .ok (.aload_n 0, 1) := by decide +kernel
theorem dX1_inside_47 : decode cX1_inside 47 = .ok (.getfield 7, 3) := by decide +kernel
theorem dX1_inside_50 : decode cX1_inside 50 = .ok (.iload_n 3, 1) := by decide +kernel
theorem dX1_inside_51 : decode cX1_inside 51 = .ok (.iaload, 1) := by decide +kernel
theorem dX1_inside_52 : decode cX1_inside 52 = .ok (.i2l, 1) := by decide +kernel
theorem dX1_inside_53 : decode cX1_inside 53 = .ok (.aload_n 0, 1) := by decide +kernel
theorem dX1_inside_54 : decode cX1_inside 54 = .ok (.getfield 13, 3) := by decide +kernel
theorem dX1_inside_57 : decode cX1_inside 57 = .ok (.iload_n 3, 1) := by decide +kernel
theorem dX1_inside_58 : decode cX1_inside 58 = .ok (.iaload, 1) := by decide +kernel
theorem dX1_inside_59 : decode cX1_inside 59 = .ok (.i2l, 1) := by decide +kernel
theorem dX1_inside_60 : decode cX1_inside 60 = .ok (.iload_n 1, 1) := by decide +kernel
theorem dX1_inside_61 : decode cX1_inside 61 = .ok (.i2l, 1) := by decide +kernel
theorem dX1_inside_62 : decode cX1_inside 62 = .ok (.iload_n 2, 1) := by decide +kernel
theorem dX1_inside_63 : decode cX1_inside 63 = .ok (.i2l, 1) := by decide +kernel
theorem dX1_inside_64 : decode cX1_inside 64 = .ok (.invokestatic 32, 3) := by decide +kernel
theorem dX1_inside_67 : decode cX1_inside 67 = .ok (.lconst 0, 1) := by decide +kernel
theorem dX1_inside_68 : decode cX1_inside 68 = .ok (.lcmp, 1) := by decide +kernel
theorem dX1_inside_69 : decode cX1_inside 69 = .ok (.ifCond .ne 45, 3) := by decide +kernel
theorem dX1_inside_72 : decode cX1_inside 72 = .ok (.iload_n 1, 1) := by decide +kernel
theorem dX1_inside_73 : decode cX1_inside 73 = .ok (.aload_n 0, 1) := by decide +kernel
theorem dX1_inside_74 : decode cX1_inside 74 = .ok (.getfield 7, 3) := by decide +kernel
theorem dX1_inside_77 : decode cX1_inside 77 = .ok (.iconst 0, 1) := by decide +kernel
theorem dX1_inside_78 : decode cX1_inside 78 = .ok (.iaload, 1) := by decide +kernel
theorem dX1_inside_79 : decode cX1_inside 79 = .ok (.aload_n 0, 1) := by decide +kernel
theorem dX1_inside_80 : decode cX1_inside 80 = .ok (.getfield 7, 3) := by decide +kernel
theorem dX1_inside_83 : decode cX1_inside 83 = .ok (.iload_n 3, 1) := by decide +kernel
theorem dX1_inside_84 : decode cX1_inside 84 = .ok (.iaload, 1) := by decide +kernel
theorem dX1_inside_85 : decode cX1_inside 85 = .ok (.invokestatic 40, 3) := by decide +kernel
theorem dX1_inside_88 : decode cX1_inside 88 = .ok (.ifCond .eq 26, 3) := by decide +kernel
theorem dX1_inside_91 : decode cX1_inside 91 = .ok (.iload_n 2, 1) := by decide +kernel
theorem dX1_inside_92 : decode cX1_inside 92 = .ok (.aload_n 0, 1) := by decide +kernel
theorem dX1_inside_93 : decode cX1_inside 93 = .ok (.getfield 13, 3) := by decide +kernel
theorem dX1_inside_96 : decode cX1_inside 96 = .ok (.iconst 0, 1) := by decide +kernel
theorem dX1_inside_97 : decode cX1_inside 97 = .ok (.iaload, 1) := by decide +kernel
theorem dX1_inside_98 : decode cX1_inside 98 = .ok (.aload_n 0, 1) := by decide +kernel
theorem dX1_inside_99 : decode cX1_inside 99 = .ok (.getfield 13, 3) := by decide +kernel
theorem dX1_inside_102 : decode cX1_inside 102 = .ok (.iload_n 3, 1) := by decide +kernel
theorem dX1_inside_103 : decode cX1_inside 103 = .ok (.iaload, 1) := by decide +kernel
theorem dX1_inside_104 : decode cX1_inside 104 = .ok (.invokestatic 40, 3) := by decide +kernel
theorem dX1_inside_107 : decode cX1_inside 107 = .ok (.ifCond .eq 7, 3) := by decide +kernel
theorem dX1_inside_110 : decode cX1_inside 110 = .ok (.iconst 1, 1) := by decide +kernel
theorem dX1_inside_111 : decode cX1_inside 111 = .ok (.goto 4, 3) := by decide +kernel
theorem dX1_inside_114 : decode cX1_inside 114 = .ok (.iconst 0, 1) := by decide +kernel
theorem dX1_inside_115 : decode cX1_inside 115 = .ok (.istore 4, 2) := by decide +kernel
theorem dX1_inside_117 : decode cX1_inside 117 = .ok (.iload 4, 2) := by decide +kernel
theorem dX1_inside_119 : decode cX1_inside 119 = .ok (.ifCond .eq 7, 3) := by decide +kernel
theorem dX1_inside_122 : decode cX1_inside 122 = .ok (.iconst 1, 1) := by decide +kernel
theorem dX1_inside_123 : decode cX1_inside 123 = .ok (.goto 4, 3) := by decide +kernel
theorem dX1_inside_126 : decode cX1_inside 126 = .ok (.iconst 0, 1) := by decide +kernel
theorem dX1_inside_127 : decode cX1_inside 127 = .ok (.ireturn, 1) := by decide +kernel
theorem dX1_inside_128 : decode cX1_inside 128 = .ok (.iconst 0, 1) := by decide +kernel
theorem dX1_inside_129 : decode cX1_inside 129 = .ok (.istore_n 3, 1) := by decide +kernel
theorem dX1_inside_130 : decode cX1_inside 130 = .ok (.iconst 0, 1) := by decide +kernel
theorem dX1_inside_131 : decode cX1_inside 131 = .ok (.istore 4, 2) := by decide +kernel
theorem dX1_inside_133 : decode cX1_inside 133 = .ok (.iload 4, 2) := by decide +kernel
theorem dX1_inside_135 : decode cX1_inside 135 = .ok (.aload_n 0, 1) := by decide +kernel
theorem dX1_inside_136 : decode cX1_inside 136 = .ok (.getfield 29, 3) := by decide +kernel
theorem dX1_inside_139 : decode cX1_inside 139 = .ok (.if_icmp .ge 45, 3) := by decide +kernel
theorem dX1_inside_142 : decode cX1_inside 142 = .ok (.aload_n 0, 1) := by decide +kernel
theorem dX1_inside_143 : decode cX1_inside 143 = .ok (.iload 4, 2) := by decide +kernel
theorem dX1_inside_145 : decode cX1_inside 145 = .ok (.iload_n 1, 1) := by decide +kernel
theorem dX1_inside_146 : decode cX1_inside 146 = .ok (.iload_n 2, 1) := by decide +kernel
theorem dX1_inside_147 : decode cX1_inside 147 = .ok (.invokevirtual 44, 3) := by decide +kernel
theorem dX1_inside_150 : decode cX1_inside 150 = .ok (.lstore 5, 2) := by decide +kernel
theorem dX1_inside_152 : decode cX1_inside 152 = .ok (.lload 5, 2) := by decide +kernel
theorem dX1_inside_154 : decode cX1_inside 154 = .ok (.lconst 0, 1) := by decide +kernel
theorem dX1_inside_155 : decode cX1_inside 155 = .ok (.lcmp, 1) := by decide +kernel
theorem dX1_inside_156 : decode cX1_inside 156 = .ok (.ifCond .ge 5, 3) := by decide +kernel
theorem dX1_inside_159 : decode cX1_inside 159 = .ok (.iconst 0, 1) := by decide +kernel
theorem dX1_inside_160 : decode cX1_inside 160 = .ok (.ireturn, 1) := by decide +kernel
theorem dX1_inside_161 : decode cX1_inside 161 = .ok (.iload_n 3, 1) := by decide +kernel
theorem dX1_inside_162 : decode cX1_inside 162 = .ok (.ifCond .ne 10, 3) := by decide +kernel
theorem dX1_inside_165 : decode cX1_inside 165 = .ok (.lload 5, 2) := by decide +kernel
theorem dX1_inside_167 : decode cX1_inside 167 = .ok (.lconst 0, 1) := by decide +kernel
theorem dX1_inside_168 : decode cX1_inside 168 = .ok (.lcmp, 1) := by decide +kernel
theorem dX1_inside_169 : decode cX1_inside 169 = .ok (.ifCond .ne 7, 3) := by decide +kernel
theorem dX1_inside_172 : decode cX1_inside 172 = .ok (.iconst 1, 1) := by decide +kernel
theorem dX1_inside_173 : decode cX1_inside 173 = .ok (.goto 4, 3) := by decide +kernel
theorem dX1_inside_176 : decode cX1_inside 176 = .ok (.iconst 0, 1) := by decide +kernel
theorem dX1_inside_177 : decode cX1_inside 177 = .ok (.istore_n 3, 1) := by decide +kernel
theorem dX1_inside_178 : decode cX1_inside 178 = .ok (.iinc 4 1, 3) := by decide +kernel
theorem dX1_inside_181 : decode cX1_inside 181 = .ok (.goto (-48), 3) := by decide +kernel
theorem dX1_inside_184 : decode cX1_inside 184 = .ok (.iload_n 3, 1) := by decide +kernel
theorem dX1_inside_185 : decode cX1_inside 185 = .ok (.ifCond .eq 7, 3) := by decide +kernel
theorem dX1_inside_188 : decode cX1_inside 188 = .ok (.iconst 1, 1) := by decide +kernel
theorem dX1_inside_189 : decode cX1_inside 189 = .ok (.goto 4, 3) := by decide +kernel
theorem dX1_inside_192 : decode cX1_inside 192 = .ok (.iconst 2, 1) := by decide +kernel
theorem dX1_inside_193 : decode cX1_inside 193 = .ok (.ireturn, 1) := by decide +kernel
set_option maxRecDepth 20000 in
theorem ggX1_isNext_X1_turn : GoodIn wsX1_isNext wsX1_turn := goodIn_r _ [6] (by decide +kernel) (by decide +kernel)
set_option maxRecDepth 20000 in
theorem gX1_isNext_X1_turn : GoodIn wsX1_isNext (va_wsS RX1 32 yX1_turn wsX1_turn) := goodIn_app (goodIn_of _ (by decide +kernel)) ggX1_isNext_X1_turn
theorem dX1_isNext_0 : decode cX1_isNext 0 = .ok (.aload_n 0, 1) := by decide +kernel
theorem dX1_isNext_1 : decode cX1_isNext 1 = .ok (.getfield 16, 3) := by decide +kernel
theorem dX1_isNext_4 : decode cX1_isNext 4 = .ok (.iload_n 1, 1) := by decide +kernel
theorem dX1_isNext_5 : decode cX1_isNext 5 = .ok (.iaload, 1) := by decide +kernel
theorem dX1_isNext_6 : decode cX1_isNext 6 = .ok (.i2l, 1) := by decide +kernel
theorem dX1_isNext_7 : decode cX1_isNext 7 = .ok (.aload_n 0, 1) := by decide +kernel
theorem dX1_isNext_8 : decode cX1_isNext 8 = .ok (.getfield 19, 3) := by decide +kernel
theorem dX1_isNext_11 : decode cX1_isNext 11 = .ok (.iload_n 1, 1) := by decide +kernel
theorem dX1_isNext_12 : decode cX1_isNext 12 = .ok (.iaload, 1) := by decide +kernel
theorem dX1_isNext_13 : decode cX1_isNext 13 = .ok (.i2l, 1) := by decide +kernel
theorem dX1_isNext_14 : decode cX1_isNext 14 = .ok (.aload_n 0, 1) := by decide +kernel
theorem dX1_isNext_15 : decode cX1_isNext 15 = .ok (.getfield 16, 3) := by decide +kernel
theorem dX1_isNext_18 : decode cX1_isNext 18 = .ok (.iload_n 2, 1) := by decide +kernel
theorem dX1_isNext_19 : decode cX1_isNext 19 = .ok (.iaload, 1) := by decide +kernel
theorem dX1_isNext_20 : decode cX1_isNext 20 = .ok (.i2l, 1) := by decide +kernel
theorem dX1_isNext_21 : decode cX1_isNext 21 = .ok (.aload_n 0, 1) := by decide +kernel
theorem dX1_isNext_22 : decode cX1_isNext 22 = .ok (.getfield 19, 3) := by decide +kernel
theorem dX1_isNext_25 : decode cX1_isNext 25 = .ok (.iload_n 2, 1) := by decide +kernel
theorem dX1_isNext_26 : decode cX1_isNext 26 = .ok (.iaload, 1) := by decide +kernel
theorem dX1_isNext_27 : decode cX1_isNext 27 = .ok (.i2l, 1) := by decide +kernel
theorem dX1_isNext_28 : decode cX1_isNext 28 = .ok (.aload_n 0, 1) := by decide +kernel
theorem dX1_isNext_29 : decode cX1_isNext 29 = .ok (.getfield 16, 3) := by decide +kernel
theorem dX1_isNext_32 : decode cX1_isNext 32 = .ok (.iload_n 3, 1) := by decide +kernel
theorem dX1_isNext_33 : decode cX1_isNext 33 = .ok (.iaload, 1) := by decide +kernel
theorem dX1_isNext_34 : decode cX1_isNext 34 = .ok (.i2l, 1) := by decide +kernel
theorem dX1_isNext_35 : decode cX1_isNext 35 = .ok (.aload_n 0, 1) := by decide +kernel
theorem dX1_isNext_36 : decode cX1_isNext 36 = .ok (.getfield 19, 3) := by decide +kernel
theorem dX1_isNext_39 : decode cX1_isNext 39 = .ok (.iload_n 3, 1) := by decide +kernel
theorem dX1_isNext_40 : decode cX1_isNext 40 = .ok (.iaload, 1) := by decide +kernel
theorem dX1_isNext_41 : decode cX1_isNext 41 = .ok (.i2l, 1) := by decide +kernel
theorem dX1_isNext_42 : decode cX1_isNext 42 = .ok (.invokestatic 32, 3) := by decide +kernel
theorem dX1_isNext_45 : decode cX1_isNext 45 = .ok (.lstore 4, 2) := by decide +kernel
theorem dX1_isNext_47 : decode cX1_isNext 47 = .ok (.aload_n 0, 1) := by decide +kernel
theorem dX1_isNext_48 : decode cX1_isNext 48 = .ok (.getfield 16, 3) := by decide +kernel
theorem dX1_isNext_51 : decode cX1_isNext 51 = .ok (.iload_n 2, 1) := by decide +kernel
theorem dX1_isNext_52 : decode cX1_isNext 52 = .ok (.iaload, 1) := by decide +kernel
theorem dX1_isNext_53 : decode cX1_isNext 53 = .ok (.aload_n 0, 1) := by decide +kernel
theorem dX1_isNext_54 : decode cX1_isNext 54 = .ok (.getfield 16, 3) := by decide +kernel
theorem dX1_isNext_57 : decode cX1_isNext 57 = .ok (.iload_n 1, 1) := by decide +kernel
theorem dX1_isNext_58 : decode cX1_isNext 58 = .ok (.iaload, 1) := by decide +kernel
theorem dX1_isNext_59 : decode cX1_isNext 59 = .ok (.isub, 1) := by decide +kernel
theorem dX1_isNext_60 : decode cX1_isNext 60 = .ok (.i2l, 1) := by decide +kernel
theorem dX1_isNext_61 : decode cX1_isNext 61 = .ok (.lstore 6, 2) := by decide +kernel
theorem dX1_isNext_63 : decode cX1_isNext 63 = .ok (.aload_n 0, 1) := by decide +kernel
theorem dX1_isNext_64 : decode cX1_isNext 64 = .ok (.getfield 19, 3) := by decide +kernel
theorem dX1_isNext_67 : decode cX1_isNext 67 = .ok (.iload_n 2, 1) := by decide +kernel
theorem dX1_isNext_68 : decode cX1_isNext 68 = .ok (.iaload, 1) := by decide +kernel
theorem dX1_isNext_69 : decode cX1_isNext 69 = .ok (.aload_n 0, 1) := by decide +kernel
theorem dX1_isNext_70 : decode cX1_isNext 70 = .ok (.getfield 19, 3) := by decide +kernel
theorem dX1_isNext_73 : decode cX1_isNext 73 = .ok (.iload_n 1, 1) := by decide +kernel
theorem dX1_isNext_74 : decode cX1_isNext 74 = .ok (.iaload, 1) := by decide +kernel
theorem dX1_isNext_75 : decode cX1_isNext 75 = .ok (.isub, 1) := by decide +kernel
theorem dX1_isNext_76 : decode cX1_isNext 76 = .ok (.i2l, 1) := by decide +kernel
theorem dX1_isNext_77 : decode cX1_isNext 77 = .ok (.lstore 8, 2) := by decide +kernel
theorem dX1_isNext_79 : decode cX1_isNext 79 = .ok (.aload_n 0, 1) := by decide +kernel
theorem dX1_isNext_80 : decode cX1_isNext 80 = .ok (.getfield 16, 3) := by decide +kernel
theorem dX1_isNext_83 : decode cX1_isNext 83 = .ok (.iload_n 3, 1) := by decide +kernel
theorem dX1_isNext_84 : decode cX1_isNext 84 = .ok (.iaload, 1) := by decide +kernel
theorem dX1_isNext_85 : decode cX1_isNext 85 = .ok (.aload_n 0, 1) := by decide +kernel
theorem dX1_isNext_86 : decode cX1_isNext 86 = .ok (.getfield 16, 3) := by decide +kernel
theorem dX1_isNext_89 : decode cX1_isNext 89 = .ok (.iload_n 1, 1) := by decide +kernel
theorem dX1_isNext_90 : decode cX1_isNext 90 = .ok (.iaload, 1) := by decide +kernel
theorem dX1_isNext_91 : decode cX1_isNext 91 = .ok (.isub, 1) := by decide +kernel
theorem dX1_isNext_92 : decode cX1_isNext 92 = .ok (.i2l, 1) := by decide +kernel
theorem dX1_isNext_93 : decode cX1_isNext 93 = .ok (.lstore 10, 2) := by decide +kernel
theorem dX1_isNext_95 : decode cX1_isNext 95 = .ok (.aload_n 0, 1) := by decide +kernel
theorem dX1_isNext_96 : decode cX1_isNext 96 = .ok (.getfield 19, 3) := by decide +kernel
theorem dX1_isNext_99 : decode cX1_isNext 99 = .ok (.iload_n 3, 1) := by decide +kernel
theorem dX1_isNext_100 : decode cX1_isNext 100 = .ok (.iaload, 1) := by decide +kernel
theorem dX1_isNext_101 : decode cX1_isNext 101 = .ok (.aload_n 0, 1) := by decide +kernel
theorem dX1_isNext_102 : decode cX1_isNext 102 = .ok (.getfield 19, 3) := by decide +kernel
theorem dX1_isNext_105 : decode cX1_isNext 105 = .ok (.iload_n 1, 1) := by decide +kernel
theorem dX1_isNext_106 : decode cX1_isNext 106 = .ok (.iaload, 1) := by decide +kernel
theorem dX1_isNext_107 : decode cX1_isNext 107 = .ok (.isub, 1) := by decide +kernel
theorem dX1_isNext_108 : decode cX1_isNext 108 = .ok (.i2l, 1) := by decide +kernel
theorem dX1_isNext_109 : decode cX1_isNext 109 = .ok (.lstore 12, 2) := by decide +kernel
theorem dX1_isNext_111 : decode cX1_isNext 111 = .ok (.lload 4, 2) := by decide +kernel
theorem dX1_isNext_113 : decode cX1_isNext 113 = .ok (.lconst 0, 1) := by decide +kernel
theorem dX1_isNext_114 : decode cX1_isNext 114 = .ok (.lcmp, 1) := by decide +kernel
theorem dX1_isNext_115 : decode cX1_isNext 115 = .ok (.ifCond .lt 36, 3) := by decide +kernel
theorem dX1_isNext_118 : decode cX1_isNext 118 = .ok (.lload 4, 2) := by decide +kernel
theorem dX1_isNext_120 : decode cX1_isNext 120 = .ok (.lconst 0, 1) := by decide +kernel
theorem dX1_isNext_121 : decode cX1_isNext 121 = .ok (.lcmp, 1) := by decide +kernel
theorem dX1_isNext_122 : decode cX1_isNext 122 = .ok (.ifCond .ne 33, 3) := by decide +kernel
theorem dX1_isNext_125 : decode cX1_isNext 125 = .ok (.lload 10, 2) := by decide +kernel
theorem dX1_isNext_127 : decode cX1_isNext 127 = .ok (.lload 10, 2) := by decide +kernel
theorem dX1_isNext_129 : decode cX1_isNext 129 = .ok (.lmul, 1) := by decide +kernel
theorem dX1_isNext_130 : decode cX1_isNext 130 = .ok (.lload 12, 2) := by decide +kernel
theorem dX1_isNext_132 : decode cX1_isNext 132 = .ok (.lload 12, 2) := by decide +kernel
theorem dX1_isNext_134 : decode cX1_isNext 134 = .ok (.lmul, 1) := by decide +kernel
theorem dX1_isNext_135 : decode cX1_isNext 135 = .ok (.ladd, 1) := by decide +kernel
theorem dX1_isNext_136 : decode cX1_isNext 136 = .ok (.lload 6, 2) := by decide +kernel
theorem dX1_isNext_138 : decode cX1_isNext 138 = .ok (.lload 6, 2) := by decide +kernel
theorem dX1_isNext_140 : decode cX1_isNext 140 = .ok (.lmul, 1) := by decide +kernel
theorem dX1_isNext_141 : decode cX1_isNext 141 = .ok (.lload 8, 2) := by decide +kernel
theorem dX1_isNext_143 : decode cX1_isNext 143 = .ok (.lload 8, 2) := by decide +kernel
theorem dX1_isNext_145 : decode cX1_isNext 145 = .ok (.lmul, 1) := by decide +kernel
theorem dX1_isNext_146 : decode cX1_isNext 146 = .ok (.ladd, 1) := by decide +kernel
theorem dX1_isNext_147 : decode cX1_isNext 147 = .ok (.lcmp, 1) := by decide +kernel
theorem dX1_isNext_148 : decode cX1_isNext 148 = .ok (.ifCond .le 7, 3) := by decide +kernel
theorem dX1_isNext_151 : decode cX1_isNext 151 = .ok (.iconst 1, 1) := by decide +kernel
theorem dX1_isNext_152 : decode cX1_isNext 152 = .ok (.goto 4, 3) := by decide +kernel
theorem dX1_isNext_155 : decode cX1_isNext 155 = .ok (.iconst 0, 1) := by decide +kernel
theorem dX1_isNext_156 : decode cX1_isNext 156 = .ok (.ireturn, 1) := by decide +kernel
set_option maxRecDepth 20000 in
theorem ggX1_goRound_X1_isNext : GoodIn wsX1_goRound wsX1_isNext := goodIn_r _ [8, 1, 2, 9, 10, 7, 11, 12, 13, 14, 15, 16, 17, 18, 19] (by decide +kernel) (by decide +kernel)
set_option maxRecDepth 20000 in
theorem gX1_goRound_X1_isNext : GoodIn wsX1_goRound (wsV RX1 48 RX1 yX1_isNext wsX1_isNext) := goodIn_app (goodIn_of _ (by decide +kernel)) ggX1_goRound_X1_isNext
theorem dX1_goRound_0 : decode cX1_goRound 0 = .ok (.iconst 0, 1) := by decide +kernel
theorem dX1_goRound_1 : decode cX1_goRound 1 = .ok (.istore_n 2, 1) := by decide +kernel
theorem dX1_goRound_2 : decode cX1_goRound 2 = .ok (.iconst 1, 1) := by decide +kernel
theorem dX1_goRound_3 : decode cX1_goRound 3 = .ok (.istore_n 3, 1) := by decide +kernel
theorem dX1_goRound_4 : decode cX1_goRound 4 = .ok (.iload_n 3, 1) := by decide +kernel
theorem dX1_goRound_5 : decode cX1_goRound 5 = .ok (.iload_n 1, 1) := by decide +kernel
theorem dX1_goRound_6 : decode cX1_goRound 6 = .ok (.if_icmp .ge 60, 3) := by decide +kernel
theorem dX1_goRound_9 : decode cX1_goRound 9 = .ok (.aload_n 0, 1) := by decide +kernel
theorem dX1_goRound_10 : decode cX1_goRound 10 = .ok (.getfield 16, 3) := by decide +kernel
theorem dX1_goRound_13 : decode cX1_goRound 13 = .ok (.iload_n 3, 1) := by decide +kernel
theorem dX1_goRound_14 : decode cX1_goRound 14 = .ok (.iaload, 1) := by decide +kernel
theorem dX1_goRound_15 : decode cX1_goRound 15 = .ok (.aload_n 0, 1) := by decide +kernel
theorem dX1_goRound_16 : decode cX1_goRound 16 = .ok (.getfield 16, 3) := by decide +kernel
theorem dX1_goRound_19 : decode cX1_goRound 19 = .ok (.iload_n 2, 1) := by decide +kernel
theorem dX1_goRound_20 : decode cX1_goRound 20 = .ok (.iaload, 1) := by decide +kernel
theorem dX1_goRound_21 : decode cX1_goRound 21 = .ok (.if_icmp .lt 33, 3) := by decide +kernel
theorem dX1_goRound_24 : decode cX1_goRound 24 = .ok (.aload_n 0, 1) := by decide +kernel
theorem dX1_goRound_25 : decode cX1_goRound 25 = .ok (.getfield 16, 3) := by decide +kernel
theorem dX1_goRound_28 : decode cX1_goRound 28 = .ok (.iload_n 3, 1) := by decide +kernel
theorem dX1_goRound_29 : decode cX1_goRound 29 = .ok (.iaload, 1) := by decide +kernel
theorem dX1_goRound_30 : decode cX1_goRound 30 = .ok (.aload_n 0, 1) := by decide +kernel
theorem dX1_goRound_31 : decode cX1_goRound 31 = .ok (.getfield 16, 3) := by decide +kernel
theorem dX1_goRound_34 : decode cX1_goRound 34 = .ok (.iload_n 2, 1) := by decide +kernel
theorem dX1_goRound_35 : decode cX1_goRound 35 = .ok (.iaload, 1) := by decide +kernel
theorem dX1_goRound_36 : decode cX1_goRound 36 = .ok (.if_icmp .ne 22, 3) := by decide +kernel
theorem dX1_goRound_39 : decode cX1_goRound 39 = .ok (.aload_n 0, 1) := by decide +kernel
theorem dX1_goRound_40 : decode cX1_goRound 40 = .ok (.getfield 19, 3) := by decide +kernel
theorem dX1_goRound_43 : decode cX1_goRound 43 = .ok (.iload_n 3, 1) := by decide +kernel
theorem dX1_goRound_44 : decode cX1_goRound 44 = .ok (.iaload, 1) := by decide +kernel
theorem dX1_goRound_45 : decode cX1_goRound 45 = .ok (.aload_n 0, 1) := by decide +kernel
theorem dX1_goRound_46 : decode cX1_goRound 46 = .ok (.getfield 19, 3) := by decide +kernel
theorem dX1_goRound_49 : decode cX1_goRound 49 = .ok (.iload_n 2, 1) := by decide +kernel
theorem dX1_goRound_50 : decode cX1_goRound 50 = .ok (.iaload, 1) := by decide +kernel
theorem dX1_goRound_51 : decode cX1_goRound 51 = .ok (.if_icmp .ge 7, 3) := by decide +kernel
theorem dX1_goRound_54 : decode cX1_goRound 54 = .ok (.iload_n 3, 1) := by decide +kernel
theorem dX1_goRound_55 : decode cX1_goRound 55 = .ok (.goto 4, 3) := by decide +kernel
theorem dX1_goRound_58 : decode cX1_goRound 58 = .ok (.iload_n 2, 1) := by decide +kernel
theorem dX1_goRound_59 : decode cX1_goRound 59 = .ok (.istore_n 2, 1) := by decide +kernel
theorem dX1_goRound_60 : decode cX1_goRound 60 = .ok (.iinc 3 1, 3) := by decide +kernel
theorem dX1_goRound_63 : decode cX1_goRound 63 = .ok (.goto (-59), 3) := by decide +kernel
theorem dX1_goRound_66 : decode cX1_goRound 66 = .ok (.iconst 0, 1) := by decide +kernel
theorem dX1_goRound_67 : decode cX1_goRound 67 = .ok (.istore_n 3, 1) := by decide +kernel
theorem dX1_goRound_68 : decode cX1_goRound 68 = .ok (.iload_n 2, 1) := by decide +kernel
theorem dX1_goRound_69 : decode cX1_goRound 69 = .ok (.istore 4, 2) := by decide +kernel
theorem dX1_goRound_71 : decode cX1_goRound 71 = .ok (.iconst 1, 1) := by decide +kernel
theorem dX1_goRound_72 : decode cX1_goRound 72 = .ok (.istore 5, 2) := by decide +kernel
theorem dX1_goRound_74 : decode cX1_goRound 74 = .ok (.iload 5, 2) := by decide +kernel
theorem dX1_goRound_76 : decode cX1_goRound 76 = .ok (.ifCond .eq 97, 3) := by decide +kernel
theorem dX1_goRound_79 : decode cX1_goRound 79 = .ok (.aload_n 0, 1) := by decide +kernel
theorem dX1_goRound_80 : decode cX1_goRound 80 = .ok (.getfield 22, 3) := by decide +kernel
theorem dX1_goRound_83 : decode cX1_goRound 83 = .ok (.iload_n 3, 1) := by decide +kernel
theorem dX1_goRound_84 : decode cX1_goRound 84 = .ok (.iload 4, 2) := by decide +kernel
theorem dX1_goRound_86 : decode cX1_goRound 86 = .ok (.iastore, 1) := by decide +kernel
theorem dX1_goRound_87 : decode cX1_goRound 87 = .ok (.iinc 3 1, 3) := by decide +kernel
theorem dX1_goRound_90 : decode cX1_goRound 90 = .ok (.iload 4, 2) := by decide +kernel
theorem dX1_goRound_92 : decode cX1_goRound 92 = .ok (.ifCond .ne 9, 3) := by decide +kernel
theorem dX1_goRound_95 : decode cX1_goRound 95 = .ok (.iload_n 1, 1) := by decide +kernel
theorem dX1_goRound_96 : decode cX1_goRound 96 = .ok (.iconst 1, 1) := by decide +kernel
theorem dX1_goRound_97 : decode cX1_goRound 97 = .ok (.isub, 1) := by decide +kernel
theorem dX1_goRound_98 : decode cX1_goRound 98 = .ok (.goto 4, 3) := by decide +kernel
theorem dX1_goRound_101 : decode cX1_goRound 101 = .ok (.iconst 0, 1) := by decide +kernel
theorem dX1_goRound_102 : decode cX1_goRound 102 = .ok (.istore 6, 2) := by decide +kernel
theorem dX1_goRound_104 : decode cX1_goRound 104 = .ok (.iconst 0, 1) := by decide +kernel
theorem dX1_goRound_105 : decode cX1_goRound 105 = .ok (.istore 7, 2) := by decide +kernel
theorem dX1_goRound_107 : decode cX1_goRound 107 = .ok (.iload 7, 2) := by decide +kernel
theorem dX1_goRound_109 : decode cX1_goRound 109 = .ok (.iload_n 1, 1) := by decide +kernel
theorem dX1_goRound_110 : decode cX1_goRound 110 = .ok (.if_icmp .ge 38, 3) := by decide +kernel
theorem dX1_goRound_113 : decode cX1_goRound 113 = .ok (.iload 7, 2) := by decide +kernel
theorem dX1_goRound_115 : decode cX1_goRound 115 = .ok (.iload 4, 2) := by decide +kernel
theorem dX1_goRound_117 : decode cX1_goRound 117 = .ok (.if_icmp .eq 21, 3) := by decide +kernel
theorem dX1_goRound_120 : decode cX1_goRound 120 = .ok (.aload_n 0, 1) := by decide +kernel
theorem dX1_goRound_121 : decode cX1_goRound 121 = .ok (.iload 4, 2) := by decide +kernel
theorem dX1_goRound_123 : decode cX1_goRound 123 = .ok (.iload 6, 2) := by decide +kernel
theorem dX1_goRound_125 : decode cX1_goRound 125 = .ok (.iload 7, 2) := by decide +kernel
theorem dX1_goRound_127 : decode cX1_goRound 127 = .ok (.invokevirtual 48, 3) := by decide +kernel
theorem dX1_goRound_130 : decode cX1_goRound 130 = .ok (.ifCond .eq 8, 3) := by decide +kernel
theorem dX1_goRound_133 : decode cX1_goRound 133 = .ok (.iload 7, 2) := by decide +kernel
theorem dX1_goRound_135 : decode cX1_goRound 135 = .ok (.goto 5, 3) := by decide +kernel
theorem dX1_goRound_138 : decode cX1_goRound 138 = .ok (.iload 6, 2) := by decide +kernel
theorem dX1_goRound_140 : decode cX1_goRound 140 = .ok (.istore 6, 2) := by decide +kernel
theorem dX1_goRound_142 : decode cX1_goRound 142 = .ok (.iinc 7 1, 3) := by decide +kernel
theorem dX1_goRound_145 : decode cX1_goRound 145 = .ok (.goto (-38), 3) := by decide +kernel
theorem dX1_goRound_148 : decode cX1_goRound 148 = .ok (.iload 6, 2) := by decide +kernel
theorem dX1_goRound_150 : decode cX1_goRound 150 = .ok (.istore 4, 2) := by decide +kernel
theorem dX1_goRound_152 : decode cX1_goRound 152 = .ok (.iload 4, 2) := by decide +kernel
theorem dX1_goRound_154 : decode cX1_goRound 154 = .ok (.iload_n 2, 1) := by decide +kernel
theorem dX1_goRound_155 : decode cX1_goRound 155 = .ok (.if_icmp .eq 12, 3) := by decide +kernel
theorem dX1_goRound_158 : decode cX1_goRound 158 = .ok (.iload_n 3, 1) := by decide +kernel
theorem dX1_goRound_159 : decode cX1_goRound 159 = .ok (.iload_n 1, 1) := by decide +kernel
theorem dX1_goRound_160 : decode cX1_goRound 160 = .ok (.if_icmp .gt 7, 3) := by decide +kernel
theorem dX1_goRound_163 : decode cX1_goRound 163 = .ok (.iconst 1, 1) := by decide +kernel
theorem dX1_goRound_164 : decode cX1_goRound 164 = .ok (.goto 4, 3) := by decide +kernel
theorem dX1_goRound_167 : decode cX1_goRound 167 = .ok (.iconst 0, 1) := by decide +kernel
theorem dX1_goRound_168 : decode cX1_goRound 168 = .ok (.istore 5, 2) := by decide +kernel
theorem dX1_goRound_170 : decode cX1_goRound 170 = .ok (.goto (-96), 3) := by decide +kernel
theorem dX1_goRound_173 : decode cX1_goRound 173 = .ok (.iload_n 3, 1) := by decide +kernel
theorem dX1_goRound_174 : decode cX1_goRound 174 = .ok (.ireturn, 1) := by decide +kernel
set_option maxRecDepth 20000 in
theorem ggX1_add_X1_inRange : GoodIn wsX1_add wsX1_inRange := goodIn_r _ [12] (by decide +kernel) (by decide +kernel)
set_option maxRecDepth 20000 in
theorem gX1_add_X1_inRange : GoodIn wsX1_add (va_wsS RX1 36 yX1_inRange wsX1_inRange) := goodIn_app (goodIn_of _ (by decide +kernel)) ggX1_add_X1_inRange
set_option maxRecDepth 20000 in
theorem ggX1_add_X1_inside : GoodIn wsX1_add wsX1_inside := goodIn_r _ [16, 2, 4, 6, 9, 10, 11, 12, 17, 18, 19, 20, 21, 22, 23, 24, 25, 26, 35, 36, 37, 38, 39, 40, 41, 42] (by decide +kernel) (by decide +kernel)
set_option maxRecDepth 20000 in
theorem gX1_add_X1_inside : GoodIn wsX1_add (wsV RX1 51 RX1 yX1_inside wsX1_inside) := goodIn_app (goodIn_of _ (by decide +kernel)) ggX1_add_X1_inside
set_option maxRecDepth 20000 in
theorem ggX1_add_X1_goRound : GoodIn wsX1_add wsX1_goRound := goodIn_r _ [30, 3, 5, 8, 31, 32, 33, 11, 34, 17, 18, 19, 35, 36, 37, 38, 39, 40, 41, 42] (by decide +kernel) (by decide +kernel)
set_option maxRecDepth 20000 in
theorem gX1_add_X1_goRound : GoodIn wsX1_add (wsV RX1 58 RX1 yX1_goRound wsX1_goRound) := goodIn_app (goodIn_of _ (by decide +kernel)) ggX1_add_X1_goRound
theorem dX1_add_0 : decode cX1_add 0 = .ok (.iload_n 1, 1) := by decide +kernel
theorem dX1_add_1 : decode cX1_add 1 = .ok (.iload_n 2, 1) := by decide +kernel
theorem dX1_add_2 : decode cX1_add 2 = .ok (.invokestatic 36, 3) := by decide +kernel
theorem dX1_add_5 : decode cX1_add 5 = .ok (.ifCond .ne 5, 3) := by decide +kernel
theorem dX1_add_8 : decode cX1_add 8 = .ok (.iconst (-1), 1) := by decide +kernel
theorem dX1_add_9 : decode cX1_add 9 = .ok (.ireturn, 1) := by decide +kernel
theorem dX1_add_10 : decode cX1_add 10 = .ok (.aload_n 0, 1) := by decide +kernel
theorem dX1_add_11 : decode cX1_add 11 = .ok (.iload_n 1, 1) := by decide +kernel
theorem dX1_add_12 : decode cX1_add 12 = .ok (.iload_n 2, 1) := by decide +kernel
theorem dX1_add_13 : decode cX1_add 13 = .ok (.invokevirtual 51, 3) := by decide +kernel
theorem dX1_add_16 : decode cX1_add 16 = .ok (.ifCond .le 15, 3) := by decide +kernel
theorem dX1_add_19 : decode cX1_add 19 = .ok (.aload_n 0, 1) := by decide +kernel
theorem dX1_add_20 : decode cX1_add 20 = .ok (.dup, 1) := by decide +kernel
theorem dX1_add_21 : decode cX1_add 21 = .ok (.getfield 55, 3) := by decide +kernel
theorem dX1_add_24 : decode cX1_add 24 = .ok (.iconst 1, 1) := by decide +kernel
theorem dX1_add_25 : decode cX1_add 25 = .ok (.iadd, 1) := by decide +kernel
theorem dX1_add_26 : decode cX1_add 26 = .ok (.putfield 55, 3) := by decide +kernel
theorem dX1_add_29 : decode cX1_add 29 = .ok (.iconst 0, 1) := by decide +kernel
theorem dX1_add_30 : decode cX1_add 30 = .ok (.ireturn, 1) := by decide +kernel
theorem dX1_add_31 : decode cX1_add 31 = .ok (.iconst 0, 1) := by decide +kernel
theorem dX1_add_32 : decode cX1_add 32 = .ok (.istore_n 3, 1) := by decide +kernel
theorem dX1_add_33 : decode cX1_add 33 = .ok (.iload_n 3, 1) := by decide +kernel
theorem dX1_add_34 : decode cX1_add 34 = .ok (.aload_n 0, 1) := by decide +kernel
theorem dX1_add_35 : decode cX1_add 35 = .ok (.getfield 29, 3) := by decide +kernel
theorem dX1_add_38 : decode cX1_add 38 = .ok (.if_icmp .ge 33, 3) := by decide +kernel
theorem dX1_add_41 : decode cX1_add 41 = .ok (.aload_n 0, 1) := by decide +kernel
theorem dX1_add_42 : decode cX1_add 42 = .ok (.getfield 16, 3) := by decide +kernel
theorem dX1_add_45 : decode cX1_add 45 = .ok (.iload_n 3, 1) := by decide +kernel
theorem dX1_add_46 : decode cX1_add 46 = .ok (.aload_n 0, 1) := by decide +kernel
theorem dX1_add_47 : decode cX1_add 47 = .ok (.getfield 7, 3) := by decide +kernel
theorem dX1_add_50 : decode cX1_add 50 = .ok (.iload_n 3, 1) := by decide +kernel
theorem dX1_add_51 : decode cX1_add 51 = .ok (.iaload, 1) := by decide +kernel
theorem dX1_add_52 : decode cX1_add 52 = .ok (.iastore, 1) := by decide +kernel
theorem dX1_add_53 : decode cX1_add 53 = .ok (.aload_n 0, 1) := by decide +kernel
theorem dX1_add_54 : decode cX1_add 54 = .ok (.getfield 19, 3) := by decide +kernel
theorem dX1_add_57 : decode cX1_add 57 = .ok (.iload_n 3, 1) := by decide +kernel
theorem dX1_add_58 : decode cX1_add 58 = .ok (.aload_n 0, 1) := by decide +kernel
theorem dX1_add_59 : decode cX1_add 59 = .ok (.getfield 13, 3) := by decide +kernel
theorem dX1_add_62 : decode cX1_add 62 = .ok (.iload_n 3, 1) := by decide +kernel
theorem dX1_add_63 : decode cX1_add 63 = .ok (.iaload, 1) := by decide +kernel
theorem dX1_add_64 : decode cX1_add 64 = .ok (.iastore, 1) := by decide +kernel
theorem dX1_add_65 : decode cX1_add 65 = .ok (.iinc 3 1, 3) := by decide +kernel
theorem dX1_add_68 : decode cX1_add 68 = .ok (.goto (-35), 3) := by decide +kernel
theorem dX1_add_71 : decode cX1_add 71 = .ok (.aload_n 0, 1) := by decide +kernel
theorem dX1_add_72 : decode cX1_add 72 = .ok (.getfield 16, 3) := by decide +kernel
theorem dX1_add_75 : decode cX1_add 75 = .ok (.aload_n 0, 1) := by decide +kernel
theorem dX1_add_76 : decode cX1_add 76 = .ok (.getfield 29, 3) := by decide +kernel
theorem dX1_add_79 : decode cX1_add 79 = .ok (.iload_n 1, 1) := by decide +kernel
theorem dX1_add_80 : decode cX1_add 80 = .ok (.iastore, 1) := by decide +kernel
theorem dX1_add_81 : decode cX1_add 81 = .ok (.aload_n 0, 1) := by decide +kernel
theorem dX1_add_82 : decode cX1_add 82 = .ok (.getfield 19, 3) := by decide +kernel
theorem dX1_add_85 : decode cX1_add 85 = .ok (.aload_n 0, 1) := by decide +kernel
theorem dX1_add_86 : decode cX1_add 86 = .ok (.getfield 29, 3) := by decide +kernel
theorem dX1_add_89 : decode cX1_add 89 = .ok (.iload_n 2, 1) := by decide +kernel
theorem dX1_add_90 : decode cX1_add 90 = .ok (.iastore, 1) := by decide +kernel
theorem dX1_add_91 : decode cX1_add 91 = .ok (.aload_n 0, 1) := by decide +kernel
theorem dX1_add_92 : decode cX1_add 92 = .ok (.aload_n 0, 1) := by decide +kernel
theorem dX1_add_93 : decode cX1_add 93 = .ok (.getfield 29, 3) := by decide +kernel
theorem dX1_add_96 : decode cX1_add 96 = .ok (.iconst 1, 1) := by decide +kernel
theorem dX1_add_97 : decode cX1_add 97 = .ok (.iadd, 1) := by decide +kernel
theorem dX1_add_98 : decode cX1_add 98 = .ok (.invokevirtual 58, 3) := by decide +kernel
theorem dX1_add_101 : decode cX1_add 101 = .ok (.istore_n 3, 1) := by decide +kernel
theorem dX1_add_102 : decode cX1_add 102 = .ok (.iload_n 3, 1) := by decide +kernel
theorem dX1_add_103 : decode cX1_add 103 = .ok (.aload_n 0, 1) := by decide +kernel
theorem dX1_add_104 : decode cX1_add 104 = .ok (.getfield 25, 3) := by decide +kernel
theorem dX1_add_107 : decode cX1_add 107 = .ok (.if_icmp .le 6, 3) := by decide +kernel
theorem dX1_add_110 : decode cX1_add 110 = .ok (.bipush (-2), 2) := by decide +kernel
theorem dX1_add_112 : decode cX1_add 112 = .ok (.ireturn, 1) := by decide +kernel
theorem dX1_add_113 : decode cX1_add 113 = .ok (.aload_n 0, 1) := by decide +kernel
theorem dX1_add_114 : decode cX1_add 114 = .ok (.getfield 29, 3) := by decide +kernel
theorem dX1_add_117 : decode cX1_add 117 = .ok (.iconst 1, 1) := by decide +kernel
theorem dX1_add_118 : decode cX1_add 118 = .ok (.iadd, 1) := by decide +kernel
theorem dX1_add_119 : decode cX1_add 119 = .ok (.iload_n 3, 1) := by decide +kernel
theorem dX1_add_120 : decode cX1_add 120 = .ok (.isub, 1) := by decide +kernel
theorem dX1_add_121 : decode cX1_add 121 = .ok (.istore 4, 2) := by decide +kernel
theorem dX1_add_123 : decode cX1_add 123 = .ok (.iconst 0, 1) := by decide +kernel
theorem dX1_add_124 : decode cX1_add 124 = .ok (.istore 5, 2) := by decide +kernel
theorem dX1_add_126 : decode cX1_add 126 = .ok (.iload 5, 2) := by decide +kernel
theorem dX1_add_128 : decode cX1_add 128 = .ok (.iload_n 3, 1) := by decide +kernel
theorem dX1_add_129 : decode cX1_add 129 = .ok (.if_icmp .ge 47, 3) := by decide +kernel
theorem dX1_add_132 : decode cX1_add 132 = .ok (.aload_n 0, 1) := by decide +kernel
theorem dX1_add_133 : decode cX1_add 133 = .ok (.getfield 7, 3) := by decide +kernel
theorem dX1_add_136 : decode cX1_add 136 = .ok (.iload 5, 2) := by decide +kernel
theorem dX1_add_138 : decode cX1_add 138 = .ok (.aload_n 0, 1) := by decide +kernel
theorem dX1_add_139 : decode cX1_add 139 = .ok (.getfield 16, 3) := by decide +kernel
theorem dX1_add_142 : decode cX1_add 142 = .ok (.aload_n 0, 1) := by decide +kernel
theorem dX1_add_143 : decode cX1_add 143 = .ok (.getfield 22, 3) := by decide +kernel
theorem dX1_add_146 : decode cX1_add 146 = .ok (.iload 5, 2) := by decide +kernel
theorem dX1_add_148 : decode cX1_add 148 = .ok (.iaload, 1) := by decide +kernel
theorem dX1_add_149 : decode cX1_add 149 = .ok (.iaload, 1) := by decide +kernel
theorem dX1_add_150 : decode cX1_add 150 = .ok (.iastore, 1) := by decide +kernel
theorem dX1_add_151 : decode cX1_add 151 = .ok (.aload_n 0, 1) := by decide +kernel
theorem dX1_add_152 : decode cX1_add 152 = .ok (.getfield 13, 3) := by decide +kernel
theorem dX1_add_155 : decode cX1_add 155 = .ok (.iload 5, 2) := by decide +kernel
theorem dX1_add_157 : decode cX1_add 157 = .ok (.aload_n 0, 1) := by decide +kernel
theorem dX1_add_158 : decode cX1_add 158 = .ok (.getfield 19, 3) := by decide +kernel
theorem dX1_add_161 : decode cX1_add 161 = .ok (.aload_n 0, 1) := by decide +kernel
theorem dX1_add_162 : decode cX1_add 162 = .ok (.getfield 22, 3) := by decide +kernel
theorem dX1_add_165 : decode cX1_add 165 = .ok (.iload 5, 2) := by decide +kernel
theorem dX1_add_167 : decode cX1_add 167 = .ok (.iaload, 1) := by decide +kernel
theorem dX1_add_168 : decode cX1_add 168 = .ok (.iaload, 1) := by decide +kernel
theorem dX1_add_169 : decode cX1_add 169 = .ok (.iastore, 1) := by decide +kernel
theorem dX1_add_170 : decode cX1_add 170 = .ok (.iinc 5 1, 3) := by decide +kernel
theorem dX1_add_173 : decode cX1_add 173 = .ok (.goto (-47), 3) := by decide +kernel
theorem dX1_add_176 : decode cX1_add 176 = .ok (.aload_n 0, 1) := by decide +kernel
theorem dX1_add_177 : decode cX1_add 177 = .ok (.iload_n 3, 1) := by decide +kernel
theorem dX1_add_178 : decode cX1_add 178 = .ok (.putfield 29, 3) := by decide +kernel
theorem dX1_add_181 : decode cX1_add 181 = .ok (.aload_n 0, 1) := by decide +kernel
theorem dX1_add_182 : decode cX1_add 182 = .ok (.dup, 1) := by decide +kernel
theorem dX1_add_183 : decode cX1_add 183 = .ok (.getfield 55, 3) := by decide +kernel
theorem dX1_add_186 : decode cX1_add 186 = .ok (.iconst 1, 1) := by decide +kernel
theorem dX1_add_187 : decode cX1_add 187 = .ok (.iadd, 1) := by decide +kernel
theorem dX1_add_188 : decode cX1_add 188 = .ok (.putfield 55, 3) := by decide +kernel
theorem dX1_add_191 : decode cX1_add 191 = .ok (.iconst 1, 1) := by decide +kernel
theorem dX1_add_192 : decode cX1_add 192 = .ok (.iload 4, 2) := by decide +kernel
theorem dX1_add_194 : decode cX1_add 194 = .ok (.iadd, 1) := by decide +kernel
theorem dX1_add_195 : decode cX1_add 195 = .ok (.ireturn, 1) := by decide +kernel
theorem dX1_size_0 : decode cX1_size 0 = .ok (.aload_n 0, 1) := by decide +kernel
theorem dX1_size_1 : decode cX1_size 1 = .ok (.getfield 29, 3) := by decide +kernel
theorem dX1_size_4 : decode cX1_size 4 = .ok (.ireturn, 1) := by decide +kernel
theorem dX1_xOf_0 : decode cX1_xOf 0 = .ok (.iload_n 1, 1) := by decide +kernel
theorem dX1_xOf_1 : decode cX1_xOf 1 = .ok (.ifCond .lt 20, 3) := by decide +kernel
theorem dX1_xOf_4 : decode cX1_xOf 4 = .ok (.iload_n 1, 1) := by decide +kernel
theorem dX1_xOf_5 : decode cX1_xOf 5 = .ok (.aload_n 0, 1) := by decide +kernel
theorem dX1_xOf_6 : decode cX1_xOf 6 = .ok (.getfield 29, 3) := by decide +kernel
theorem dX1_xOf_9 : decode cX1_xOf 9 = .ok (.if_icmp .ge 12, 3) := by decide +kernel
theorem dX1_xOf_12 : decode cX1_xOf 12 = .ok (.aload_n 0, 1) := by decide +kernel
theorem dX1_xOf_13 : decode cX1_xOf 13 = .ok (.getfield 7, 3) := by decide +kernel
theorem dX1_xOf_16 : decode cX1_xOf 16 = .ok (.iload_n 1, 1) := by decide +kernel
theorem dX1_xOf_17 : decode cX1_xOf 17 = .ok (.iaload, 1) := by decide +kernel
theorem dX1_xOf_18 : decode cX1_xOf 18 = .ok (.goto 4, 3) := by decide +kernel
theorem dX1_xOf_21 : decode cX1_xOf 21 = .ok (.iconst 0, 1) := by decide +kernel
theorem dX1_xOf_22 : decode cX1_xOf 22 = .ok (.ireturn, 1) := by decide +kernel
theorem dX1_yOf_0 : decode cX1_yOf 0 = .ok (.iload_n 1, 1) := by decide +kernel
theorem dX1_yOf_1 : decode cX1_yOf 1 = .ok (.ifCond .lt 20, 3) := by decide +kernel
theorem dX1_yOf_4 : decode cX1_yOf 4 = .ok (.iload_n 1, 1) := by decide +kernel
theorem dX1_yOf_5 : decode cX1_yOf 5 = .ok (.aload_n 0, 1) := by decide +kernel
theorem dX1_yOf_6 : decode cX1_yOf 6 = .ok (.getfield 29, 3) := by decide +kernel
theorem dX1_yOf_9 : decode cX1_yOf 9 = .ok (.if_icmp .ge 12, 3) := by decide +kernel
theorem dX1_yOf_12 : decode cX1_yOf 12 = .ok (.aload_n 0, 1) := by decide +kernel
theorem dX1_yOf_13 : decode cX1_yOf 13 = .ok (.getfield 13, 3) := by decide +kernel
theorem dX1_yOf_16 : decode cX1_yOf 16 = .ok (.iload_n 1, 1) := by decide +kernel
theorem dX1_yOf_17 : decode cX1_yOf 17 = .ok (.iaload, 1) := by decide +kernel
theorem dX1_yOf_18 : decode cX1_yOf 18 = .ok (.goto 4, 3) := by decide +kernel
theorem dX1_yOf_21 : decode cX1_yOf 21 = .ok (.iconst 0, 1) := by decide +kernel
theorem dX1_yOf_22 : decode cX1_yOf 22 = .ok (.ireturn, 1) := by decide +kernel
set_option maxRecDepth 20000 in
theorem ggX1_twiceArea_X1_turn : GoodIn wsX1_twiceArea wsX1_turn := goodIn_r _ [7] (by decide +kernel) (by decide +kernel)
set_option maxRecDepth 20000 in
theorem gX1_twiceArea_X1_turn : GoodIn wsX1_twiceArea (va_wsS RX1 32 yX1_turn wsX1_turn) := goodIn_app (goodIn_of _ (by decide +kernel)) ggX1_twiceArea_X1_turn
theorem dX1_twiceArea_0 : decode cX1_twiceArea 0 = .ok (.lconst 0, 1) := by decide +kernel
theorem dX1_twiceArea_1 : decode cX1_twiceArea 1 = .ok (.lstore_n 1, 1) := by decide +kernel
theorem dX1_twiceArea_2 : decode cX1_twiceArea 2 = .ok (.iconst 1, 1) := by decide +kernel
theorem dX1_twiceArea_3 : decode cX1_twiceArea 3 = .ok (.istore_n 3, 1) := by decide +kernel
theorem dX1_twiceArea_4 : decode cX1_twiceArea 4 = .ok (.iload_n 3, 1) := by decide +kernel
theorem dX1_twiceArea_5 : decode cX1_twiceArea 5 = .ok (.iconst 1, 1) := by decide +kernel
theorem dX1_twiceArea_6 : decode cX1_twiceArea 6 = .ok (.iadd, 1) := by decide +kernel
theorem dX1_twiceArea_7 : decode cX1_twiceArea 7 = .ok (.aload_n 0, 1) := by decide +kernel
theorem dX1_twiceArea_8 : decode cX1_twiceArea 8 = .ok (.getfield 29, 3) := by decide +kernel
theorem dX1_twiceArea_11 : decode cX1_twiceArea 11 = .ok (.if_icmp .ge 61, 3) := by decide +kernel
theorem dX1_twiceArea_14 : decode cX1_twiceArea 14 = .ok (.lload_n 1, 1) := by decide +kernel
theorem dX1_twiceArea_15 : decode cX1_twiceArea 15 = .ok (.aload_n 0, 1) := by decide +kernel
theorem dX1_twiceArea_16 : decode cX1_twiceArea 16 = .ok (.getfield 7, 3) := by decide +kernel
theorem dX1_twiceArea_19 : decode cX1_twiceArea 19 = .ok (.iconst 0, 1) := by decide +kernel
theorem dX1_twiceArea_20 : decode cX1_twiceArea 20 = .ok (.iaload, 1) := by decide +kernel
theorem dX1_twiceArea_21 : decode cX1_twiceArea 21 = .ok (.i2l, 1) := by decide +kernel
theorem dX1_twiceArea_22 : decode cX1_twiceArea 22 = .ok (.aload_n 0, 1) := by decide +kernel
theorem dX1_twiceArea_23 : decode cX1_twiceArea 23 = .ok (.getfield 13, 3) := by decide +kernel
theorem dX1_twiceArea_26 : decode cX1_twiceArea 26 = .ok (.iconst 0, 1) := by decide +kernel
theorem dX1_twiceArea_27 : decode cX1_twiceArea 27 = .ok (.iaload, 1) := by decide +kernel
theorem dX1_twiceArea_28 : decode cX1_twiceArea 28 = .ok (.i2l, 1) := by decide +kernel
theorem dX1_twiceArea_29 : decode cX1_twiceArea 29 = .ok (.aload_n 0, 1) := by decide +kernel
theorem dX1_twiceArea_30 : decode cX1_twiceArea 30 = .ok (.getfield 7, 3) := by decide +kernel
theorem dX1_twiceArea_33 : decode cX1_twiceArea 33 = .ok (.iload_n 3, 1) := by decide +kernel
theorem dX1_twiceArea_34 : decode cX1_twiceArea 34 = .ok (.iaload, 1) := by decide +kernel
theorem dX1_twiceArea_35 : decode cX1_twiceArea 35 = .ok (.i2l, 1) := by decide +kernel
theorem dX1_twiceArea_36 : decode cX1_twiceArea 36 = .ok (.aload_n 0, 1) := by decide +kernel
theorem dX1_twiceArea_37 : decode cX1_twiceArea 37 = .ok (.getfield 13, 3) := by decide +kernel
theorem dX1_twiceArea_40 : decode cX1_twiceArea 40 = .ok (.iload_n 3, 1) := by decide +kernel
theorem dX1_twiceArea_41 : decode cX1_twiceArea 41 = .ok (.iaload, 1) := by decide +kernel
theorem dX1_twiceArea_42 : decode cX1_twiceArea 42 = .ok (.i2l, 1) := by decide +kernel
theorem dX1_twiceArea_43 : decode cX1_twiceArea 43 = .ok (.aload_n 0, 1) := by decide +kernel
theorem dX1_twiceArea_44 : decode cX1_twiceArea 44 = .ok (.getfield 7, 3) := by decide +kernel
theorem dX1_twiceArea_47 : decode cX1_twiceArea 47 = .ok (.iload_n 3, 1) := by decide +kernel
theorem dX1_twiceArea_48 : decode cX1_twiceArea 48 = .ok (.iconst 1, 1) := by decide +kernel
theorem dX1_twiceArea_49 : decode cX1_twiceArea 49 = .ok (.iadd, 1) := by decide +kernel
theorem dX1_twiceArea_50 : decode cX1_twiceArea 50 = .ok (.iaload, 1) := by decide +kernel
theorem dX1_twiceArea_51 : decode cX1_twiceArea 51 = .ok (.i2l, 1) := by decide +kernel
theorem dX1_twiceArea_52 : decode cX1_twiceArea 52 = .ok (.aload_n 0, 1) := by decide +kernel
theorem dX1_twiceArea_53 : decode cX1_twiceArea 53 = .ok (.getfield 13, 3) := by decide +kernel
theorem dX1_twiceArea_56 : decode cX1_twiceArea 56 = .ok (.iload_n 3, 1) := by decide +kernel
theorem dX1_twiceArea_57 : decode cX1_twiceArea 57 = .ok (.iconst 1, 1) := by decide +kernel
theorem dX1_twiceArea_58 : decode cX1_twiceArea 58 = .ok (.iadd, 1) := by decide +kernel
theorem dX1_twiceArea_59 : decode cX1_twiceArea 59 = .ok (.iaload, 1) := by decide +kernel
theorem dX1_twiceArea_60 : decode cX1_twiceArea 60 = .ok (.i2l, 1) := by decide +kernel
theorem dX1_twiceArea_61 : decode cX1_twiceArea 61 = .ok (.invokestatic 32, 3) := by decide +kernel
theorem dX1_twiceArea_64 : decode cX1_twiceArea 64 = .ok (.ladd, 1) := by decide +kernel
theorem dX1_twiceArea_65 : decode cX1_twiceArea 65 = .ok (.lstore_n 1, 1) := by decide +kernel
theorem dX1_twiceArea_66 : decode cX1_twiceArea 66 = .ok (.iinc 3 1, 3) := by decide +kernel
theorem dX1_twiceArea_69 : decode cX1_twiceArea 69 = .ok (.goto (-65), 3) := by decide +kernel
theorem dX1_twiceArea_72 : decode cX1_twiceArea 72 = .ok (.lload_n 1, 1) := by decide +kernel
theorem dX1_twiceArea_73 : decode cX1_twiceArea 73 = .ok (.l2i, 1) := by decide +kernel
theorem dX1_twiceArea_74 : decode cX1_twiceArea 74 = .ok (.ireturn, 1) := by decide +kernel
set_option maxRecDepth 20000 in
theorem ggX1_farthest_X1_inRange : GoodIn wsX1_farthest wsX1_inRange := goodIn_r _ [7] (by decide +kernel) (by decide +kernel)
set_option maxRecDepth 20000 in
theorem gX1_farthest_X1_inRange : GoodIn wsX1_farthest (va_wsS RX1 36 yX1_inRange wsX1_inRange) := goodIn_app (goodIn_of _ (by decide +kernel)) ggX1_farthest_X1_inRange
theorem dX1_farthest_0 : decode cX1_farthest 0 = .ok (.aload_n 0, 1) := by decide +kernel
theorem dX1_farthest_1 : decode cX1_farthest 1 = .ok (.getfield 29, 3) := by decide +kernel
theorem dX1_farthest_4 : decode cX1_farthest 4 = .ok (.ifCond .eq 11, 3) := by decide +kernel
theorem dX1_farthest_7 : decode cX1_farthest 7 = .ok (.iload_n 1, 1) := by decide +kernel
theorem dX1_farthest_8 : decode cX1_farthest 8 = .ok (.iload_n 2, 1) := by decide +kernel
theorem dX1_farthest_9 : decode cX1_farthest 9 = .ok (.invokestatic 36, 3) := by decide +kernel
theorem dX1_farthest_12 : decode cX1_farthest 12 = .ok (.ifCond .ne 5, 3) := by decide +kernel
theorem dX1_farthest_15 : decode cX1_farthest 15 = .ok (.iconst (-1), 1) := by decide +kernel
theorem dX1_farthest_16 : decode cX1_farthest 16 = .ok (.ireturn, 1) := by decide +kernel
theorem dX1_farthest_17 : decode cX1_farthest 17 = .ok (.iconst 0, 1) := by decide +kernel
theorem dX1_farthest_18 : decode cX1_farthest 18 = .ok (.istore_n 3, 1) := by decide +kernel
theorem dX1_farthest_19 : decode cX1_farthest 19 = .ok (.iconst 1, 1) := by decide +kernel
theorem dX1_farthest_20 : decode cX1_farthest 20 = .ok (.istore 4, 2) := by decide +kernel
theorem dX1_farthest_22 : decode cX1_farthest 22 = .ok (.iload 4, 2) := by decide +kernel
theorem dX1_farthest_24 : decode cX1_farthest 24 = .ok (.aload_n 0, 1) := by decide +kernel
theorem dX1_farthest_25 : decode cX1_farthest 25 = .ok (.getfield 29, 3) := by decide +kernel
theorem dX1_farthest_28 : decode cX1_farthest 28 = .ok (.if_icmp .ge 55, 3) := by decide +kernel
theorem dX1_farthest_31 : decode cX1_farthest 31 = .ok (.aload_n 0, 1) := by decide +kernel
theorem dX1_farthest_32 : decode cX1_farthest 32 = .ok (.getfield 7, 3) := by decide +kernel
theorem dX1_farthest_35 : decode cX1_farthest 35 = .ok (.iload 4, 2) := by decide +kernel
theorem dX1_farthest_37 : decode cX1_farthest 37 = .ok (.iaload, 1) := by decide +kernel
theorem dX1_farthest_38 : decode cX1_farthest 38 = .ok (.iload_n 1, 1) := by decide +kernel
theorem dX1_farthest_39 : decode cX1_farthest 39 = .ok (.imul, 1) := by decide +kernel
theorem dX1_farthest_40 : decode cX1_farthest 40 = .ok (.aload_n 0, 1) := by decide +kernel
theorem dX1_farthest_41 : decode cX1_farthest 41 = .ok (.getfield 13, 3) := by decide +kernel
theorem dX1_farthest_44 : decode cX1_farthest 44 = .ok (.iload 4, 2) := by decide +kernel
theorem dX1_farthest_46 : decode cX1_farthest 46 = .ok (.iaload, 1) := by decide +kernel
theorem dX1_farthest_47 : decode cX1_farthest 47 = .ok (.iload_n 2, 1) := by decide +kernel
theorem dX1_farthest_48 : decode cX1_farthest 48 = .ok (.imul, 1) := by decide +kernel
theorem dX1_farthest_49 : decode cX1_farthest 49 = .ok (.iadd, 1) := by decide +kernel
theorem dX1_farthest_50 : decode cX1_farthest 50 = .ok (.aload_n 0, 1) := by decide +kernel
theorem dX1_farthest_51 : decode cX1_farthest 51 = .ok (.getfield 7, 3) := by decide +kernel
theorem dX1_farthest_54 : decode cX1_farthest 54 = .ok (.iload_n 3, 1) := by decide +kernel
theorem dX1_farthest_55 : decode cX1_farthest 55 = .ok (.iaload, 1) := by decide +kernel
theorem dX1_farthest_56 : decode cX1_farthest 56 = .ok (.iload_n 1, 1) := by decide +kernel
theorem dX1_farthest_57 : decode cX1_farthest 57 = .ok (.imul, 1) := by decide +kernel
theorem dX1_farthest_58 : decode cX1_farthest 58 = .ok (.aload_n 0, 1) := by decide +kernel
theorem dX1_farthest_59 : decode cX1_farthest 59 = .ok (.getfield 13, 3) := by decide +kernel
theorem dX1_farthest_62 : decode cX1_farthest 62 = .ok (.iload_n 3, 1) := by decide +kernel
theorem dX1_farthest_63 : decode cX1_farthest 63 = .ok (.iaload, 1) := by decide +kernel
theorem dX1_farthest_64 : decode cX1_farthest 64 = .ok (.iload_n 2, 1) := by decide +kernel
theorem dX1_farthest_65 : decode cX1_farthest 65 = .ok (.imul, 1) := by decide +kernel
theorem dX1_farthest_66 : decode cX1_farthest 66 = .ok (.iadd, 1) := by decide +kernel
theorem dX1_farthest_67 : decode cX1_farthest 67 = .ok (.if_icmp .le 8, 3) := by decide +kernel
theorem dX1_farthest_70 : decode cX1_farthest 70 = .ok (.iload 4, 2) := by decide +kernel
theorem dX1_farthest_72 : decode cX1_farthest 72 = .ok (.goto 4, 3) := by decide +kernel
theorem dX1_farthest_75 : decode cX1_farthest 75 = .ok (.iload_n 3, 1) := by decide +kernel
theorem dX1_farthest_76 : decode cX1_farthest 76 = .ok (.istore_n 3, 1) := by decide +kernel
theorem dX1_farthest_77 : decode cX1_farthest 77 = .ok (.iinc 4 1, 3) := by decide +kernel
theorem dX1_farthest_80 : decode cX1_farthest 80 = .ok (.goto (-58), 3) := by decide +kernel
theorem dX1_farthest_83 : decode cX1_farthest 83 = .ok (.iload_n 3, 1) := by decide +kernel
theorem dX1_farthest_84 : decode cX1_farthest 84 = .ok (.ireturn, 1) := by decide +kernel
set_option maxRecDepth 20000 in
theorem ggX1_tangent_X1_inRange : GoodIn wsX1_tangent wsX1_inRange := goodIn_r _ [5] (by decide +kernel) (by decide +kernel)
set_option maxRecDepth 20000 in
theorem gX1_tangent_X1_inRange : GoodIn wsX1_tangent (va_wsS RX1 36 yX1_inRange wsX1_inRange) := goodIn_app (goodIn_of _ (by decide +kernel)) ggX1_tangent_X1_inRange
set_option maxRecDepth 20000 in
theorem ggX1_tangent_X1_inside : GoodIn wsX1_tangent wsX1_inside := goodIn_r _ [9, 1, 10, 11, 2, 3, 4, 5, 12, 13, 14, 15, 16, 17, 18, 19, 20, 21, 22, 23, 24, 25, 26, 27, 28, 29] (by decide +kernel) (by decide +kernel)
set_option maxRecDepth 20000 in
theorem gX1_tangent_X1_inside : GoodIn wsX1_tangent (wsV RX1 51 RX1 yX1_inside wsX1_inside) := goodIn_app (goodIn_of _ (by decide +kernel)) ggX1_tangent_X1_inside
set_option maxRecDepth 20000 in
theorem ggX1_tangent_X1_side : GoodIn wsX1_tangent wsX1_side := goodIn_r _ [21, 1, 10, 11, 12, 13, 4, 14, 22, 23, 24, 25, 26, 27, 28, 29] (by decide +kernel) (by decide +kernel)
set_option maxRecDepth 20000 in
theorem gX1_tangent_X1_side : GoodIn wsX1_tangent (wsV RX1 44 RX1 yX1_side wsX1_side) := goodIn_app (goodIn_of _ (by decide +kernel)) ggX1_tangent_X1_side
theorem dX1_tangent_0 : decode cX1_tangent 0 = .ok (.aload_n 0, 1) := by decide +kernel
theorem dX1_tangent_1 : decode cX1_tangent 1 = .ok (.getfield 29, 3) := by decide +kernel
theorem dX1_tangent_4 : decode cX1_tangent 4 = .ok (.iconst 3, 1) := by decide +kernel
theorem dX1_tangent_5 : decode cX1_tangent 5 = .ok (.if_icmp .lt 29, 3) := by decide +kernel
theorem dX1_tangent_8 : decode cX1_tangent 8 = .ok (.iload_n 3, 1) := by decide +kernel
theorem dX1_tangent_9 : decode cX1_tangent 9 = .ok (.ifCond .lt 25, 3) := by decide +kernel
theorem dX1_tangent_12 : decode cX1_tangent 12 = .ok (.iload_n 3, 1) := by decide +kernel
theorem dX1_tangent_13 : decode cX1_tangent 13 = .ok (.iconst 1, 1) := by decide +kernel
theorem dX1_tangent_14 : decode cX1_tangent 14 = .ok (.if_icmp .gt 20, 3) := by decide +kernel
theorem dX1_tangent_17 : decode cX1_tangent 17 = .ok (.iload_n 1, 1) := by decide +kernel
theorem dX1_tangent_18 : decode cX1_tangent 18 = .ok (.iload_n 2, 1) := by decide +kernel
theorem dX1_tangent_19 : decode cX1_tangent 19 = .ok (.invokestatic 36, 3) := by decide +kernel
theorem dX1_tangent_22 : decode cX1_tangent 22 = .ok (.ifCond .eq 12, 3) := by decide +kernel
theorem dX1_tangent_25 : decode cX1_tangent 25 = .ok (.aload_n 0, 1) := by decide +kernel
theorem dX1_tangent_26 : decode cX1_tangent 26 = .ok (.iload_n 1, 1) := by decide +kernel
theorem dX1_tangent_27 : decode cX1_tangent 27 = .ok (.iload_n 2, 1) := by decide +kernel
theorem dX1_tangent_28 : decode cX1_tangent 28 = .ok (.invokevirtual 51, 3) := by decide +kernel
theorem dX1_tangent_31 : decode cX1_tangent 31 = .ok (.ifCond .le 5, 3) := by decide +kernel
theorem dX1_tangent_34 : decode cX1_tangent 34 = .ok (.iconst (-1), 1) := by decide +kernel
theorem dX1_tangent_35 : decode cX1_tangent 35 = .ok (.ireturn, 1) := by decide +kernel
theorem dX1_tangent_36 : decode cX1_tangent 36 = .ok (.iconst (-1), 1) := by decide +kernel
theorem dX1_tangent_37 : decode cX1_tangent 37 = .ok (.istore 4, 2) := by decide +kernel
theorem dX1_tangent_39 : decode cX1_tangent 39 = .ok (.iconst 0, 1) := by decide +kernel
theorem dX1_tangent_40 : decode cX1_tangent 40 = .ok (.istore 5, 2) := by decide +kernel
theorem dX1_tangent_42 : decode cX1_tangent 42 = .ok (.iload 5, 2) := by decide +kernel
theorem dX1_tangent_44 : decode cX1_tangent 44 = .ok (.aload_n 0, 1) := by decide +kernel
theorem dX1_tangent_45 : decode cX1_tangent 45 = .ok (.getfield 29, 3) := by decide +kernel
theorem dX1_tangent_48 : decode cX1_tangent 48 = .ok (.if_icmp .ge 122, 3) := by decide +kernel
theorem dX1_tangent_51 : decode cX1_tangent 51 = .ok (.iload 5, 2) := by decide +kernel
theorem dX1_tangent_53 : decode cX1_tangent 53 = .ok (.ifCond .ne 12, 3) := by decide +kernel
theorem dX1_tangent_56 : decode cX1_tangent 56 = .ok (.aload_n 0, 1) := by decide +kernel
theorem dX1_tangent_57 : decode cX1_tangent 57 = .ok (.getfield 29, 3) := by decide +kernel
theorem dX1_tangent_60 : decode cX1_tangent 60 = .ok (.iconst 1, 1) := by decide +kernel
theorem dX1_tangent_61 : decode cX1_tangent 61 = .ok (.isub, 1) := by decide +kernel
theorem dX1_tangent_62 : decode cX1_tangent 62 = .ok (.goto 7, 3) := by decide +kernel
theorem dX1_tangent_65 : decode cX1_tangent 65 = .ok (.iload 5, 2) := by decide +kernel
theorem dX1_tangent_67 : decode cX1_tangent 67 = .ok (.iconst 1, 1) := by decide +kernel
theorem dX1_tangent_68 : decode cX1_tangent 68 = .ok (.isub, 1) := by decide +kernel
theorem dX1_tangent_69 : decode cX1_tangent 69 = .ok (.istore 6, 2) := by decide +kernel
theorem dX1_tangent_71 : decode cX1_tangent 71 = .ok (.aload_n 0, 1) := by decide +kernel
theorem dX1_tangent_72 : decode cX1_tangent 72 = .ok (.iload 5, 2) := by decide +kernel
theorem dX1_tangent_74 : decode cX1_tangent 74 = .ok (.iload_n 1, 1) := by decide +kernel
theorem dX1_tangent_75 : decode cX1_tangent 75 = .ok (.iload_n 2, 1) := by decide +kernel
theorem dX1_tangent_76 : decode cX1_tangent 76 = .ok (.invokevirtual 44, 3) := by decide +kernel
theorem dX1_tangent_79 : decode cX1_tangent 79 = .ok (.lconst 0, 1) := by decide +kernel
theorem dX1_tangent_80 : decode cX1_tangent 80 = .ok (.lcmp, 1) := by decide +kernel
theorem dX1_tangent_81 : decode cX1_tangent 81 = .ok (.ifCond .ge 7, 3) := by decide +kernel
theorem dX1_tangent_84 : decode cX1_tangent 84 = .ok (.iconst 1, 1) := by decide +kernel
theorem dX1_tangent_85 : decode cX1_tangent 85 = .ok (.goto 4, 3) := by decide +kernel
theorem dX1_tangent_88 : decode cX1_tangent 88 = .ok (.iconst 0, 1) := by decide +kernel
theorem dX1_tangent_89 : decode cX1_tangent 89 = .ok (.istore 7, 2) := by decide +kernel
theorem dX1_tangent_91 : decode cX1_tangent 91 = .ok (.aload_n 0, 1) := by decide +kernel
theorem dX1_tangent_92 : decode cX1_tangent 92 = .ok (.iload 6, 2) := by decide +kernel
theorem dX1_tangent_94 : decode cX1_tangent 94 = .ok (.iload_n 1, 1) := by decide +kernel
theorem dX1_tangent_95 : decode cX1_tangent 95 = .ok (.iload_n 2, 1) := by decide +kernel
theorem dX1_tangent_96 : decode cX1_tangent 96 = .ok (.invokevirtual 44, 3) := by decide +kernel
theorem dX1_tangent_99 : decode cX1_tangent 99 = .ok (.lconst 0, 1) := by decide +kernel
theorem dX1_tangent_100 : decode cX1_tangent 100 = .ok (.lcmp, 1) := by decide +kernel
theorem dX1_tangent_101 : decode cX1_tangent 101 = .ok (.ifCond .ge 7, 3) := by decide +kernel
theorem dX1_tangent_104 : decode cX1_tangent 104 = .ok (.iconst 1, 1) := by decide +kernel
theorem dX1_tangent_105 : decode cX1_tangent 105 = .ok (.goto 4, 3) := by decide +kernel
theorem dX1_tangent_108 : decode cX1_tangent 108 = .ok (.iconst 0, 1) := by decide +kernel
theorem dX1_tangent_109 : decode cX1_tangent 109 = .ok (.istore 8, 2) := by decide +kernel
theorem dX1_tangent_111 : decode cX1_tangent 111 = .ok (.iload_n 3, 1) := by decide +kernel
theorem dX1_tangent_112 : decode cX1_tangent 112 = .ok (.ifCond .ne 21, 3) := by decide +kernel
theorem dX1_tangent_115 : decode cX1_tangent 115 = .ok (.iload 7, 2) := by decide +kernel
theorem dX1_tangent_117 : decode cX1_tangent 117 = .ok (.ifCond .eq 12, 3) := by decide +kernel
theorem dX1_tangent_120 : decode cX1_tangent 120 = .ok (.iload 8, 2) := by decide +kernel
theorem dX1_tangent_122 : decode cX1_tangent 122 = .ok (.ifCond .ne 7, 3) := by decide +kernel
theorem dX1_tangent_125 : decode cX1_tangent 125 = .ok (.iconst 1, 1) := by decide +kernel
theorem dX1_tangent_126 : decode cX1_tangent 126 = .ok (.goto 22, 3) := by decide +kernel
theorem dX1_tangent_129 : decode cX1_tangent 129 = .ok (.iconst 0, 1) := by decide +kernel
theorem dX1_tangent_130 : decode cX1_tangent 130 = .ok (.goto 18, 3) := by decide +kernel
theorem dX1_tangent_133 : decode cX1_tangent 133 = .ok (.iload 8, 2) := by decide +kernel
theorem dX1_tangent_135 : decode cX1_tangent 135 = .ok (.ifCond .eq 12, 3) := by decide +kernel
theorem dX1_tangent_138 : decode cX1_tangent 138 = .ok (.iload 7, 2) := by decide +kernel
theorem dX1_tangent_140 : decode cX1_tangent 140 = .ok (.ifCond .ne 7, 3) := by decide +kernel
theorem dX1_tangent_143 : decode cX1_tangent 143 = .ok (.iconst 1, 1) := by decide +kernel
theorem dX1_tangent_144 : decode cX1_tangent 144 = .ok (.goto 4, 3) := by decide +kernel
theorem dX1_tangent_147 : decode cX1_tangent 147 = .ok (.iconst 0, 1) := by decide +kernel
theorem dX1_tangent_148 : decode cX1_tangent 148 = .ok (.istore 9, 2) := by decide +kernel
theorem dX1_tangent_150 : decode cX1_tangent 150 = .ok (.iload 9, 2) := by decide +kernel
theorem dX1_tangent_152 : decode cX1_tangent 152 = .ok (.ifCond .eq 8, 3) := by decide +kernel
theorem dX1_tangent_155 : decode cX1_tangent 155 = .ok (.iload 5, 2) := by decide +kernel
theorem dX1_tangent_157 : decode cX1_tangent 157 = .ok (.goto 5, 3) := by decide +kernel
theorem dX1_tangent_160 : decode cX1_tangent 160 = .ok (.iload 4, 2) := by decide +kernel
theorem dX1_tangent_162 : decode cX1_tangent 162 = .ok (.istore 4, 2) := by decide +kernel
theorem dX1_tangent_164 : decode cX1_tangent 164 = .ok (.iinc 5 1, 3) := by decide +kernel
theorem dX1_tangent_167 : decode cX1_tangent 167 = .ok (.goto (-125), 3) := by decide +kernel
theorem dX1_tangent_170 : decode cX1_tangent 170 = .ok (.iload 4, 2) := by decide +kernel
theorem dX1_tangent_172 : decode cX1_tangent 172 = .ok (.ireturn, 1) := by decide +kernel
theorem dX1_diameter_0 : decode cX1_diameter 0 = .ok (.lconst 0, 1) := by decide +kernel
theorem dX1_diameter_1 : decode cX1_diameter 1 = .ok (.lstore_n 1, 1) := by decide +kernel
theorem dX1_diameter_2 : decode cX1_diameter 2 = .ok (.iconst 0, 1) := by decide +kernel
theorem dX1_diameter_3 : decode cX1_diameter 3 = .ok (.istore_n 3, 1) := by decide +kernel
theorem dX1_diameter_4 : decode cX1_diameter 4 = .ok (.iload_n 3, 1) := by decide +kernel
theorem dX1_diameter_5 : decode cX1_diameter 5 = .ok (.aload_n 0, 1) := by decide +kernel
theorem dX1_diameter_6 : decode cX1_diameter 6 = .ok (.getfield 29, 3) := by decide +kernel
theorem dX1_diameter_9 : decode cX1_diameter 9 = .ok (.if_icmp .ge 90, 3) := by decide +kernel
theorem dX1_diameter_12 : decode cX1_diameter 12 = .ok (.iconst 0, 1) := by decide +kernel
theorem dX1_diameter_13 : decode cX1_diameter 13 = .ok (.istore 4, 2) := by decide +kernel
theorem dX1_diameter_15 : decode cX1_diameter 15 = .ok (.iload 4, 2) := by decide +kernel
theorem dX1_diameter_17 : decode cX1_diameter 17 = .ok (.iload_n 3, 1) := by decide +kernel
theorem dX1_diameter_18 : decode cX1_diameter 18 = .ok (.if_icmp .ge 75, 3) := by decide +kernel
theorem dX1_diameter_21 : decode cX1_diameter 21 = .ok (.aload_n 0, 1) := by decide +kernel
theorem dX1_diameter_22 : decode cX1_diameter 22 = .ok (.getfield 7, 3) := by decide +kernel
theorem dX1_diameter_25 : decode cX1_diameter 25 = .ok (.iload_n 3, 1) := by decide +kernel
theorem dX1_diameter_26 : decode cX1_diameter 26 = .ok (.iaload, 1) := by decide +kernel
theorem dX1_diameter_27 : decode cX1_diameter 27 = .ok (.aload_n 0, 1) := by decide +kernel
theorem dX1_diameter_28 : decode cX1_diameter 28 = .ok (.getfield 7, 3) := by decide +kernel
theorem dX1_diameter_31 : decode cX1_diameter 31 = .ok (.iload 4, 2) := by decide +kernel
theorem dX1_diameter_33 : decode cX1_diameter 33 = .ok (.iaload, 1) := by decide +kernel
theorem dX1_diameter_34 : decode cX1_diameter 34 = .ok (.isub, 1) := by decide +kernel
theorem dX1_diameter_35 : decode cX1_diameter 35 = .ok (.i2l, 1) := by decide +kernel
theorem dX1_diameter_36 : decode cX1_diameter 36 = .ok (.lstore 5, 2) := by decide +kernel
theorem dX1_diameter_38 : decode cX1_diameter 38 = .ok (.aload_n 0, 1) := by decide +kernel
theorem dX1_diameter_39 : decode cX1_diameter 39 = .ok (.getfield 13, 3) := by decide +kernel
theorem dX1_diameter_42 : decode cX1_diameter 42 = .ok (.iload_n 3, 1) := by decide +kernel
theorem dX1_diameter_43 : decode cX1_diameter 43 = .ok (.iaload, 1) := by decide +kernel
theorem dX1_diameter_44 : decode cX1_diameter 44 = .ok (.aload_n 0, 1) := by decide +kernel
theorem dX1_diameter_45 : decode cX1_diameter 45 = .ok (.getfield 13, 3) := by decide +kernel
theorem dX1_diameter_48 : decode cX1_diameter 48 = .ok (.iload 4, 2) := by decide +kernel
theorem dX1_diameter_50 : decode cX1_diameter 50 = .ok (.iaload, 1) := by decide +kernel
theorem dX1_diameter_51 : decode cX1_diameter 51 = .ok (.isub, 1) := by decide +kernel
theorem dX1_diameter_52 : decode cX1_diameter 52 = .ok (.i2l, 1) := by decide +kernel
theorem dX1_diameter_53 : decode cX1_diameter 53 = .ok (.lstore 7, 2) := by decide +kernel
theorem dX1_diameter_55 : decode cX1_diameter 55 = .ok (.lload 5, 2) := by decide +kernel
theorem dX1_diameter_57 : decode cX1_diameter 57 = .ok (.lload 5, 2) := by decide +kernel
theorem dX1_diameter_59 : decode cX1_diameter 59 = .ok (.lmul, 1) := by decide +kernel
theorem dX1_diameter_60 : decode cX1_diameter 60 = .ok (.lload 7, 2) := by decide +kernel
theorem dX1_diameter_62 : decode cX1_diameter 62 = .ok (.lload 7, 2) := by decide +kernel
theorem dX1_diameter_64 : decode cX1_diameter 64 = .ok (.lmul, 1) := by decide +kernel
theorem dX1_diameter_65 : decode cX1_diameter 65 = .ok (.ladd, 1) := by decide +kernel
theorem dX1_diameter_66 : decode cX1_diameter 66 = .ok (.lload_n 1, 1) := by decide +kernel
theorem dX1_diameter_67 : decode cX1_diameter 67 = .ok (.lcmp, 1) := by decide +kernel
theorem dX1_diameter_68 : decode cX1_diameter 68 = .ok (.ifCond .le 17, 3) := by decide +kernel
theorem dX1_diameter_71 : decode cX1_diameter 71 = .ok (.lload 5, 2) := by decide +kernel
theorem dX1_diameter_73 : decode cX1_diameter 73 = .ok (.lload 5, 2) := by decide +kernel
theorem dX1_diameter_75 : decode cX1_diameter 75 = .ok (.lmul, 1) := by decide +kernel
theorem dX1_diameter_76 : decode cX1_diameter 76 = .ok (.lload 7, 2) := by decide +kernel
theorem dX1_diameter_78 : decode cX1_diameter 78 = .ok (.lload 7, 2) := by decide +kernel
theorem dX1_diameter_80 : decode cX1_diameter 80 = .ok (.lmul, 1) := by decide +kernel
theorem dX1_diameter_81 : decode cX1_diameter 81 = .ok (.ladd, 1) := by decide +kernel
theorem dX1_diameter_82 : decode cX1_diameter 82 = .ok (.goto 4, 3) := by decide +kernel
theorem dX1_diameter_85 : decode cX1_diameter 85 = .ok (.lload_n 1, 1) := by decide +kernel
theorem dX1_diameter_86 : decode cX1_diameter 86 = .ok (.lstore_n 1, 1) := by decide +kernel
theorem dX1_diameter_87 : decode cX1_diameter 87 = .ok (.iinc 4 1, 3) := by decide +kernel
theorem dX1_diameter_90 : decode cX1_diameter 90 = .ok (.goto (-75), 3) := by decide +kernel
theorem dX1_diameter_93 : decode cX1_diameter 93 = .ok (.iinc 3 1, 3) := by decide +kernel
theorem dX1_diameter_96 : decode cX1_diameter 96 = .ok (.goto (-92), 3) := by decide +kernel
theorem dX1_diameter_99 : decode cX1_diameter 99 = .ok (.lload_n 1, 1) := by decide +kernel
theorem dX1_diameter_100 : decode cX1_diameter 100 = .ok (.l2i, 1) := by decide +kernel
theorem dX1_diameter_101 : decode cX1_diameter 101 = .ok (.ireturn, 1) := by decide +kernel
theorem dX1_points_0 : decode cX1_points 0 = .ok (.aload_n 0, 1) := by decide +kernel
theorem dX1_points_1 : decode cX1_points 1 = .ok (.getfield 55, 3) := by decide +kernel
theorem dX1_points_4 : decode cX1_points 4 = .ok (.ireturn, 1) := by decide +kernel
theorem dJ9_floorMod_7cf53_0 : decode cJ9_floorMod_7cf53 0 = .ok (.iload_n 0, 1) := by decide +kernel
theorem dJ9_floorMod_7cf53_1 : decode cJ9_floorMod_7cf53 1 = .ok (.iload_n 1, 1) := by decide +kernel
theorem dJ9_floorMod_7cf53_2 : decode cJ9_floorMod_7cf53 2 = .ok (.irem, 1) := by decide +kernel
theorem dJ9_floorMod_7cf53_3 : decode cJ9_floorMod_7cf53 3 = .ok (.istore_n 2, 1) := by decide +kernel
theorem dJ9_floorMod_7cf53_4 : decode cJ9_floorMod_7cf53 4 = .ok (.iload_n 0, 1) := by decide +kernel
theorem dJ9_floorMod_7cf53_5 : decode cJ9_floorMod_7cf53 5 = .ok (.iload_n 1, 1) := by decide +kernel
theorem dJ9_floorMod_7cf53_6 : decode cJ9_floorMod_7cf53 6 = .ok (.ixor, 1) := by decide +kernel
theorem dJ9_floorMod_7cf53_7 : decode cJ9_floorMod_7cf53 7 = .ok (.ifCond .ge 11, 3) := by decide +kernel
theorem dJ9_floorMod_7cf53_10 : decode cJ9_floorMod_7cf53 10 = .ok (.iload_n 2, 1) := by decide +kernel
theorem dJ9_floorMod_7cf53_11 : decode cJ9_floorMod_7cf53 11 = .ok (.ifCond .eq 7, 3) := by decide +kernel
theorem dJ9_floorMod_7cf53_14 : decode cJ9_floorMod_7cf53 14 = .ok (.iload_n 2, 1) := by decide +kernel
theorem dJ9_floorMod_7cf53_15 : decode cJ9_floorMod_7cf53 15 = .ok (.iload_n 1, 1) := by decide +kernel
theorem dJ9_floorMod_7cf53_16 : decode cJ9_floorMod_7cf53 16 = .ok (.iadd, 1) := by decide +kernel
theorem dJ9_floorMod_7cf53_17 : decode cJ9_floorMod_7cf53 17 = .ok (.ireturn, 1) := by decide +kernel
theorem dJ9_floorMod_7cf53_18 : decode cJ9_floorMod_7cf53 18 = .ok (.iload_n 2, 1) := by decide +kernel
theorem dJ9_floorMod_7cf53_19 : decode cJ9_floorMod_7cf53 19 = .ok (.ireturn, 1) := by decide +kernel
theorem dJ9_max_7cf53_0 : decode cJ9_max_7cf53 0 = .ok (.iload_n 0, 1) := by decide +kernel
theorem dJ9_max_7cf53_1 : decode cJ9_max_7cf53 1 = .ok (.iload_n 1, 1) := by decide +kernel
theorem dJ9_max_7cf53_2 : decode cJ9_max_7cf53 2 = .ok (.if_icmp .lt 7, 3) := by decide +kernel
theorem dJ9_max_7cf53_5 : decode cJ9_max_7cf53 5 = .ok (.iload_n 0, 1) := by decide +kernel
theorem dJ9_max_7cf53_6 : decode cJ9_max_7cf53 6 = .ok (.goto 4, 3) := by decide +kernel
theorem dJ9_max_7cf53_9 : decode cJ9_max_7cf53 9 = .ok (.iload_n 1, 1) := by decide +kernel
theorem dJ9_max_7cf53_10 : decode cJ9_max_7cf53 10 = .ok (.ireturn, 1) := by decide +kernel
end
section
theorem dL_cell_0 : decode cL_cell 0 = .ok (.iload_n 1, 1) := by decide +kernel
theorem dL_cell_1 : decode cL_cell 1 = .ok (.aload_n 0, 1) := by decide +kernel
theorem dL_cell_2 : decode cL_cell 2 = .ok (.arraylength, 1) := by decide +kernel
theorem dL_cell_3 : decode cL_cell 3 = .ok (.if_icmp .ge 9, 3) := by decide +kernel
theorem dL_cell_6 : decode cL_cell 6 = .ok (.aload_n 0, 1) := by decide +kernel
theorem dL_cell_7 : decode cL_cell 7 = .ok (.iload_n 1, 1) := by decide +kernel
theorem dL_cell_8 : decode cL_cell 8 = .ok (.iaload, 1) := by decide +kernel
theorem dL_cell_9 : decode cL_cell 9 = .ok (.goto 4, 3) := by decide +kernel
theorem dL_cell_12 : decode cL_cell 12 = .ok (.iconst 0, 1) := by decide +kernel
theorem dL_cell_13 : decode cL_cell 13 = .ok (.ireturn, 1) := by decide +kernel
set_option maxRecDepth 20000 in
theorem ggL_law_L_cell : GoodIn wsL_law wsL_cell := goodIn_r _ [9] (by decide +kernel) (by decide +kernel)
set_option maxRecDepth 20000 in
theorem gL_law_L_cell : GoodIn wsL_law (va_wsS RL 9 yL_cell wsL_cell) := goodIn_app (goodIn_of _ (by decide +kernel)) ggL_law_L_cell
set_option maxRecDepth 20000 in
theorem ggL_law_X0_init : GoodIn wsL_law wsX0_init := goodIn_r _ [12, 13, 14, 15, 16, 17, 18, 19, 20, 21, 22, 23, 24, 25, 26, 27, 224, 225, 226, 227, 228, 229, 230] (by decide +kernel) (by decide +kernel)
set_option maxRecDepth 20000 in
theorem gL_law_X0_init : GoodIn wsL_law (wsX0_init) := ggL_law_X0_init
set_option maxRecDepth 20000 in
theorem ggL_law_X1_init : GoodIn wsL_law wsX1_init := goodIn_r _ [30, 31, 14, 15, 17, 32, 33, 34, 35, 36, 37, 231, 232, 233, 234, 235, 236, 237, 238] (by decide +kernel) (by decide +kernel)
set_option maxRecDepth 20000 in
theorem gL_law_X1_init : GoodIn wsL_law (wsX1_init) := ggL_law_X1_init
set_option maxRecDepth 20000 in
theorem ggL_law_X0_add : GoodIn wsL_law wsX0_add := goodIn_r _ [41, 23, 42, 43, 2, 44, 45, 46, 47, 48, 22, 49, 50, 51, 52, 18, 19, 53, 54, 55, 56, 57, 58, 59, 60, 61, 62, 63, 64, 65, 66, 67, 68, 69, 70, 71, 72, 73, 74, 75, 76, 77, 78, 79, 80, 81, 82, 83, 16, 84, 85, 86, 87, 88, 89, 90, 91, 92, 93, 94, 95, 96, 97, 98, 99, 100, 101, 102, 103, 20, 21, 104, 105, 106, 107, 108, 109, 110, 111, 224, 225, 226, 227, 228, 229, 230] (by decide +kernel) (by decide +kernel)
set_option maxRecDepth 20000 in
theorem gL_law_X0_add : GoodIn wsL_law (wsV RL 21 RX0 yX0_add wsX0_add) := goodIn_app (goodIn_of _ (by decide +kernel)) ggL_law_X0_add
set_option maxRecDepth 20000 in
theorem ggL_law_X1_add : GoodIn wsL_law wsX1_add := goodIn_r _ [115, 116, 117, 34, 32, 35, 33, 37, 36, 118, 119, 5, 120, 121, 122, 123, 124, 125, 126, 127, 128, 129, 130, 131, 132, 133, 134, 135, 136, 137, 138, 139, 140, 141, 142, 231, 232, 233, 234, 235, 236, 237, 238] (by decide +kernel) (by decide +kernel)
set_option maxRecDepth 20000 in
theorem gL_law_X1_add : GoodIn wsL_law (wsV RL 25 RX1 yX1_add wsX1_add) := goodIn_app (goodIn_of _ (by decide +kernel)) ggL_law_X1_add
set_option maxRecDepth 20000 in
theorem ggL_law_X0_size : GoodIn wsL_law wsX0_size := goodIn_r _ [146, 22, 224, 225, 226, 227, 228, 229, 230] (by decide +kernel) (by decide +kernel)
set_option maxRecDepth 20000 in
theorem gL_law_X0_size : GoodIn wsL_law (wsV RL 26 RX0 yX0_size wsX0_size) := goodIn_app (goodIn_of _ (by decide +kernel)) ggL_law_X0_size
set_option maxRecDepth 20000 in
theorem ggL_law_X1_size : GoodIn wsL_law wsX1_size := goodIn_r _ [150, 117, 231, 232, 233, 234, 235, 236, 237, 238] (by decide +kernel) (by decide +kernel)
set_option maxRecDepth 20000 in
theorem gL_law_X1_size : GoodIn wsL_law (wsV RL 30 RX1 yX1_size wsX1_size) := goodIn_app (goodIn_of _ (by decide +kernel)) ggL_law_X1_size
set_option maxRecDepth 20000 in
theorem ggL_law_X0_xOf : GoodIn wsL_law wsX0_xOf := goodIn_r _ [154, 18, 96, 97, 98, 2, 99, 22, 224, 225, 226, 227, 228, 229, 230] (by decide +kernel) (by decide +kernel)
set_option maxRecDepth 20000 in
theorem gL_law_X0_xOf : GoodIn wsL_law (wsV RL 31 RX0 yX0_xOf wsX0_xOf) := goodIn_app (goodIn_of _ (by decide +kernel)) ggL_law_X0_xOf
set_option maxRecDepth 20000 in
theorem ggL_law_X1_xOf : GoodIn wsL_law wsX1_xOf := goodIn_r _ [158, 117, 32, 231, 232, 233, 234, 235, 236, 237, 238] (by decide +kernel) (by decide +kernel)
set_option maxRecDepth 20000 in
theorem gL_law_X1_xOf : GoodIn wsL_law (wsV RL 35 RX1 yX1_xOf wsX1_xOf) := goodIn_app (goodIn_of _ (by decide +kernel)) ggL_law_X1_xOf
set_option maxRecDepth 20000 in
theorem ggL_law_X0_yOf : GoodIn wsL_law wsX0_yOf := goodIn_r _ [162, 19, 96, 97, 98, 2, 99, 22, 224, 225, 226, 227, 228, 229, 230] (by decide +kernel) (by decide +kernel)
set_option maxRecDepth 20000 in
theorem gL_law_X0_yOf : GoodIn wsL_law (wsV RL 36 RX0 yX0_yOf wsX0_yOf) := goodIn_app (goodIn_of _ (by decide +kernel)) ggL_law_X0_yOf
set_option maxRecDepth 20000 in
theorem ggL_law_X1_yOf : GoodIn wsL_law wsX1_yOf := goodIn_r _ [166, 117, 33, 231, 232, 233, 234, 235, 236, 237, 238] (by decide +kernel) (by decide +kernel)
set_option maxRecDepth 20000 in
theorem gL_law_X1_yOf : GoodIn wsL_law (wsV RL 39 RX1 yX1_yOf wsX1_yOf) := goodIn_app (goodIn_of _ (by decide +kernel)) ggL_law_X1_yOf
set_option maxRecDepth 20000 in
theorem ggL_law_X0_inside : GoodIn wsL_law wsX0_inside := goodIn_r _ [170, 42, 43, 2, 44, 45, 46, 47, 48, 22, 49, 50, 51, 52, 18, 19, 53, 54, 55, 56, 57, 58, 59, 60, 61, 62, 63, 64, 65, 66, 67, 224, 225, 226, 227, 228, 229, 230] (by decide +kernel) (by decide +kernel)
set_option maxRecDepth 20000 in
theorem gL_law_X0_inside : GoodIn wsL_law (wsV RL 40 RX0 yX0_inside wsX0_inside) := goodIn_app (goodIn_of _ (by decide +kernel)) ggL_law_X0_inside
set_option maxRecDepth 20000 in
theorem ggL_law_X1_inside : GoodIn wsL_law wsX1_inside := goodIn_r _ [124, 117, 32, 33, 118, 119, 5, 120, 125, 126, 127, 128, 129, 130, 131, 132, 133, 134, 231, 232, 233, 234, 235, 236, 237, 238] (by decide +kernel) (by decide +kernel)
set_option maxRecDepth 20000 in
theorem gL_law_X1_inside : GoodIn wsL_law (wsV RL 43 RX1 yX1_inside wsX1_inside) := goodIn_app (goodIn_of _ (by decide +kernel)) ggL_law_X1_inside
set_option maxRecDepth 20000 in
theorem ggL_law_X0_twiceArea : GoodIn wsL_law wsX0_twiceArea := goodIn_r _ [175, 22, 18, 19, 53, 54, 55, 2, 56, 57, 58, 59, 60, 224, 225, 226, 227, 228, 229, 230] (by decide +kernel) (by decide +kernel)
set_option maxRecDepth 20000 in
theorem gL_law_X0_twiceArea : GoodIn wsL_law (wsV RL 44 RX0 yX0_twiceArea wsX0_twiceArea) := goodIn_app (goodIn_of _ (by decide +kernel)) ggL_law_X0_twiceArea
set_option maxRecDepth 20000 in
theorem ggL_law_X1_twiceArea : GoodIn wsL_law wsX1_twiceArea := goodIn_r _ [179, 117, 32, 33, 125, 126, 5, 127, 231, 232, 233, 234, 235, 236, 237, 238] (by decide +kernel) (by decide +kernel)
set_option maxRecDepth 20000 in
theorem gL_law_X1_twiceArea : GoodIn wsL_law (wsV RL 47 RX1 yX1_twiceArea wsX1_twiceArea) := goodIn_app (goodIn_of _ (by decide +kernel)) ggL_law_X1_twiceArea
set_option maxRecDepth 20000 in
theorem ggL_law_X0_farthest : GoodIn wsL_law wsX0_farthest := goodIn_r _ [183, 22, 42, 43, 2, 44, 184, 185, 186, 187, 18, 19, 224, 225, 226, 227, 228, 229, 230] (by decide +kernel) (by decide +kernel)
set_option maxRecDepth 20000 in
theorem gL_law_X0_farthest : GoodIn wsL_law (wsV RL 48 RX0 yX0_farthest wsX0_farthest) := goodIn_app (goodIn_of _ (by decide +kernel)) ggL_law_X0_farthest
set_option maxRecDepth 20000 in
theorem ggL_law_X1_farthest : GoodIn wsL_law wsX1_farthest := goodIn_r _ [191, 117, 32, 33, 118, 119, 5, 120, 231, 232, 233, 234, 235, 236, 237, 238] (by decide +kernel) (by decide +kernel)
set_option maxRecDepth 20000 in
theorem gL_law_X1_farthest : GoodIn wsL_law (wsV RL 51 RX1 yX1_farthest wsX1_farthest) := goodIn_app (goodIn_of _ (by decide +kernel)) ggL_law_X1_farthest
set_option maxRecDepth 20000 in
theorem ggL_law_X0_tangent : GoodIn wsL_law wsX0_tangent := goodIn_r _ [195, 22, 42, 43, 2, 44, 45, 46, 47, 48, 49, 50, 51, 52, 18, 19, 53, 54, 55, 56, 57, 58, 59, 60, 61, 62, 63, 64, 65, 66, 67, 84, 85, 86, 87, 88, 89, 90, 91, 92, 93, 94, 95, 224, 225, 226, 227, 228, 229, 230] (by decide +kernel) (by decide +kernel)
set_option maxRecDepth 20000 in
theorem gL_law_X0_tangent : GoodIn wsL_law (wsV RL 52 RX0 yX0_tangent wsX0_tangent) := goodIn_app (goodIn_of _ (by decide +kernel)) ggL_law_X0_tangent
set_option maxRecDepth 20000 in
theorem ggL_law_X1_tangent : GoodIn wsL_law wsX1_tangent := goodIn_r _ [199, 117, 118, 119, 5, 120, 121, 122, 123, 124, 32, 33, 125, 126, 127, 128, 129, 130, 131, 132, 133, 134, 231, 232, 233, 234, 235, 236, 237, 238] (by decide +kernel) (by decide +kernel)
set_option maxRecDepth 20000 in
theorem gL_law_X1_tangent : GoodIn wsL_law (wsV RL 56 RX1 yX1_tangent wsX1_tangent) := goodIn_app (goodIn_of _ (by decide +kernel)) ggL_law_X1_tangent
set_option maxRecDepth 20000 in
theorem ggL_law_X0_diameter : GoodIn wsL_law wsX0_diameter := goodIn_r _ [203, 22, 204, 205, 206, 207, 208, 209, 210, 2, 211, 18, 19, 224, 225, 226, 227, 228, 229, 230] (by decide +kernel) (by decide +kernel)
set_option maxRecDepth 20000 in
theorem gL_law_X0_diameter : GoodIn wsL_law (wsV RL 57 RX0 yX0_diameter wsX0_diameter) := goodIn_app (goodIn_of _ (by decide +kernel)) ggL_law_X0_diameter
set_option maxRecDepth 20000 in
theorem ggL_law_X1_diameter : GoodIn wsL_law wsX1_diameter := goodIn_r _ [215, 117, 32, 33, 231, 232, 233, 234, 235, 236, 237, 238] (by decide +kernel) (by decide +kernel)
set_option maxRecDepth 20000 in
theorem gL_law_X1_diameter : GoodIn wsL_law (wsV RL 60 RX1 yX1_diameter wsX1_diameter) := goodIn_app (goodIn_of _ (by decide +kernel)) ggL_law_X1_diameter
set_option maxRecDepth 20000 in
theorem ggL_law_X0_points : GoodIn wsL_law wsX0_points := goodIn_r _ [219, 23, 224, 225, 226, 227, 228, 229, 230] (by decide +kernel) (by decide +kernel)
set_option maxRecDepth 20000 in
theorem gL_law_X0_points : GoodIn wsL_law (wsV RL 61 RX0 yX0_points wsX0_points) := goodIn_app (goodIn_of _ (by decide +kernel)) ggL_law_X0_points
set_option maxRecDepth 20000 in
theorem ggL_law_X1_points : GoodIn wsL_law wsX1_points := goodIn_r _ [223, 116, 231, 232, 233, 234, 235, 236, 237, 238] (by decide +kernel) (by decide +kernel)
set_option maxRecDepth 20000 in
theorem gL_law_X1_points : GoodIn wsL_law (wsV RL 64 RX1 yX1_points wsX1_points) := goodIn_app (goodIn_of _ (by decide +kernel)) ggL_law_X1_points
theorem dL_law_0 : decode cL_law 0 = .ok (.new 7, 3) := by decide +kernel
theorem dL_law_3 : decode cL_law 3 = .ok (.dup, 1) := by decide +kernel
theorem dL_law_4 : decode cL_law 4 = .ok (.aload_n 0, 1) := by decide +kernel
theorem dL_law_5 : decode cL_law 5 = .ok (.iconst 0, 1) := by decide +kernel
theorem dL_law_6 : decode cL_law 6 = .ok (.invokestatic 9, 3) := by decide +kernel
theorem dL_law_9 : decode cL_law 9 = .ok (.invokespecial 15, 3) := by decide +kernel
theorem dL_law_12 : decode cL_law 12 = .ok (.astore_n 1, 1) := by decide +kernel
theorem dL_law_13 : decode cL_law 13 = .ok (.new 18, 3) := by decide +kernel
theorem dL_law_16 : decode cL_law 16 = .ok (.dup, 1) := by decide +kernel
theorem dL_law_17 : decode cL_law 17 = .ok (.aload_n 0, 1) := by decide +kernel
theorem dL_law_18 : decode cL_law 18 = .ok (.iconst 0, 1) := by decide +kernel
theorem dL_law_19 : decode cL_law 19 = .ok (.invokestatic 9, 3) := by decide +kernel
theorem dL_law_22 : decode cL_law 22 = .ok (.invokespecial 20, 3) := by decide +kernel
theorem dL_law_25 : decode cL_law 25 = .ok (.astore_n 2, 1) := by decide +kernel
theorem dL_law_26 : decode cL_law 26 = .ok (.iconst 1, 1) := by decide +kernel
theorem dL_law_27 : decode cL_law 27 = .ok (.istore_n 3, 1) := by decide +kernel
theorem dL_law_28 : decode cL_law 28 = .ok (.iload_n 3, 1) := by decide +kernel
theorem dL_law_29 : decode cL_law 29 = .ok (.aload_n 0, 1) := by decide +kernel
theorem dL_law_30 : decode cL_law 30 = .ok (.arraylength, 1) := by decide +kernel
theorem dL_law_31 : decode cL_law 31 = .ok (.iconst 4, 1) := by decide +kernel
theorem dL_law_32 : decode cL_law 32 = .ok (.isub, 1) := by decide +kernel
theorem dL_law_33 : decode cL_law 33 = .ok (.if_icmp .gt 309, 3) := by decide +kernel
theorem dL_law_36 : decode cL_law 36 = .ok (.aload_n 0, 1) := by decide +kernel
theorem dL_law_37 : decode cL_law 37 = .ok (.iload_n 3, 1) := by decide +kernel
theorem dL_law_38 : decode cL_law 38 = .ok (.iaload, 1) := by decide +kernel
theorem dL_law_39 : decode cL_law 39 = .ok (.bipush 15, 2) := by decide +kernel
theorem dL_law_41 : decode cL_law 41 = .ok (.iand, 1) := by decide +kernel
theorem dL_law_42 : decode cL_law 42 = .ok (.tableswitch 294 0 9 #[54, 87, 100, 123, 146, 179, 192, 225, 268, 281], 54) := by decide +kernel
theorem dL_law_96 : decode cL_law 96 = .ok (.aload_n 1, 1) := by decide +kernel
theorem dL_law_97 : decode cL_law 97 = .ok (.aload_n 0, 1) := by decide +kernel
theorem dL_law_98 : decode cL_law 98 = .ok (.iload_n 3, 1) := by decide +kernel
theorem dL_law_99 : decode cL_law 99 = .ok (.iconst 1, 1) := by decide +kernel
theorem dL_law_100 : decode cL_law 100 = .ok (.iadd, 1) := by decide +kernel
theorem dL_law_101 : decode cL_law 101 = .ok (.iaload, 1) := by decide +kernel
theorem dL_law_102 : decode cL_law 102 = .ok (.aload_n 0, 1) := by decide +kernel
theorem dL_law_103 : decode cL_law 103 = .ok (.iload_n 3, 1) := by decide +kernel
theorem dL_law_104 : decode cL_law 104 = .ok (.iconst 2, 1) := by decide +kernel
theorem dL_law_105 : decode cL_law 105 = .ok (.iadd, 1) := by decide +kernel
theorem dL_law_106 : decode cL_law 106 = .ok (.iaload, 1) := by decide +kernel
theorem dL_law_107 : decode cL_law 107 = .ok (.invokevirtual 21, 3) := by decide +kernel
theorem dL_law_110 : decode cL_law 110 = .ok (.aload_n 2, 1) := by decide +kernel
theorem dL_law_111 : decode cL_law 111 = .ok (.aload_n 0, 1) := by decide +kernel
theorem dL_law_112 : decode cL_law 112 = .ok (.iload_n 3, 1) := by decide +kernel
theorem dL_law_113 : decode cL_law 113 = .ok (.iconst 1, 1) := by decide +kernel
theorem dL_law_114 : decode cL_law 114 = .ok (.iadd, 1) := by decide +kernel
theorem dL_law_115 : decode cL_law 115 = .ok (.iaload, 1) := by decide +kernel
theorem dL_law_116 : decode cL_law 116 = .ok (.aload_n 0, 1) := by decide +kernel
theorem dL_law_117 : decode cL_law 117 = .ok (.iload_n 3, 1) := by decide +kernel
theorem dL_law_118 : decode cL_law 118 = .ok (.iconst 2, 1) := by decide +kernel
theorem dL_law_119 : decode cL_law 119 = .ok (.iadd, 1) := by decide +kernel
theorem dL_law_120 : decode cL_law 120 = .ok (.iaload, 1) := by decide +kernel
theorem dL_law_121 : decode cL_law 121 = .ok (.invokevirtual 25, 3) := by decide +kernel
theorem dL_law_124 : decode cL_law 124 = .ok (.if_icmp .eq 212, 3) := by decide +kernel
theorem dL_law_127 : decode cL_law 127 = .ok (.iconst 0, 1) := by decide +kernel
theorem dL_law_128 : decode cL_law 128 = .ok (.ireturn, 1) := by decide +kernel
theorem dL_law_129 : decode cL_law 129 = .ok (.aload_n 1, 1) := by decide +kernel
theorem dL_law_130 : decode cL_law 130 = .ok (.invokevirtual 26, 3) := by decide +kernel
theorem dL_law_133 : decode cL_law 133 = .ok (.aload_n 2, 1) := by decide +kernel
theorem dL_law_134 : decode cL_law 134 = .ok (.invokevirtual 30, 3) := by decide +kernel
theorem dL_law_137 : decode cL_law 137 = .ok (.if_icmp .eq 199, 3) := by decide +kernel
theorem dL_law_140 : decode cL_law 140 = .ok (.iconst 0, 1) := by decide +kernel
theorem dL_law_141 : decode cL_law 141 = .ok (.ireturn, 1) := by decide +kernel
theorem dL_law_142 : decode cL_law 142 = .ok (.aload_n 1, 1) := by decide +kernel
theorem dL_law_143 : decode cL_law 143 = .ok (.aload_n 0, 1) := by decide +kernel
theorem dL_law_144 : decode cL_law 144 = .ok (.iload_n 3, 1) := by decide +kernel
theorem dL_law_145 : decode cL_law 145 = .ok (.iconst 1, 1) := by decide +kernel
theorem dL_law_146 : decode cL_law 146 = .ok (.iadd, 1) := by decide +kernel
theorem dL_law_147 : decode cL_law 147 = .ok (.iaload, 1) := by decide +kernel
theorem dL_law_148 : decode cL_law 148 = .ok (.invokevirtual 31, 3) := by decide +kernel
theorem dL_law_151 : decode cL_law 151 = .ok (.aload_n 2, 1) := by decide +kernel
theorem dL_law_152 : decode cL_law 152 = .ok (.aload_n 0, 1) := by decide +kernel
theorem dL_law_153 : decode cL_law 153 = .ok (.iload_n 3, 1) := by decide +kernel
theorem dL_law_154 : decode cL_law 154 = .ok (.iconst 1, 1) := by decide +kernel
theorem dL_law_155 : decode cL_law 155 = .ok (.iadd, 1) := by decide +kernel
theorem dL_law_156 : decode cL_law 156 = .ok (.iaload, 1) := by decide +kernel
theorem dL_law_157 : decode cL_law 157 = .ok (.invokevirtual 35, 3) := by decide +kernel
theorem dL_law_160 : decode cL_law 160 = .ok (.if_icmp .eq 176, 3) := by decide +kernel
theorem dL_law_163 : decode cL_law 163 = .ok (.iconst 0, 1) := by decide +kernel
theorem dL_law_164 : decode cL_law 164 = .ok (.ireturn, 1) := by decide +kernel
theorem dL_law_165 : decode cL_law 165 = .ok (.aload_n 1, 1) := by decide +kernel
theorem dL_law_166 : decode cL_law 166 = .ok (.aload_n 0, 1) := by decide +kernel
theorem dL_law_167 : decode cL_law 167 = .ok (.iload_n 3, 1) := by decide +kernel
theorem dL_law_168 : decode cL_law 168 = .ok (.iconst 1, 1) := by decide +kernel
theorem dL_law_169 : decode cL_law 169 = .ok (.iadd, 1) := by decide +kernel
theorem dL_law_170 : decode cL_law 170 = .ok (.iaload, 1) := by decide +kernel
theorem dL_law_171 : decode cL_law 171 = .ok (.invokevirtual 36, 3) := by decide +kernel
theorem dL_law_174 : decode cL_law 174 = .ok (.aload_n 2, 1) := by decide +kernel
theorem dL_law_175 : decode cL_law 175 = .ok (.aload_n 0, 1) := by decide +kernel
theorem dL_law_176 : decode cL_law 176 = .ok (.iload_n 3, 1) := by decide +kernel
theorem dL_law_177 : decode cL_law 177 = .ok (.iconst 1, 1) := by decide +kernel
theorem dL_law_178 : decode cL_law 178 = .ok (.iadd, 1) := by decide +kernel
theorem dL_law_179 : decode cL_law 179 = .ok (.iaload, 1) := by decide +kernel
theorem dL_law_180 : decode cL_law 180 = .ok (.invokevirtual 39, 3) := by decide +kernel
theorem dL_law_183 : decode cL_law 183 = .ok (.if_icmp .eq 153, 3) := by decide +kernel
theorem dL_law_186 : decode cL_law 186 = .ok (.iconst 0, 1) := by decide +kernel
theorem dL_law_187 : decode cL_law 187 = .ok (.ireturn, 1) := by decide +kernel
theorem dL_law_188 : decode cL_law 188 = .ok (.aload_n 1, 1) := by decide +kernel
theorem dL_law_189 : decode cL_law 189 = .ok (.aload_n 0, 1) := by decide +kernel
theorem dL_law_190 : decode cL_law 190 = .ok (.iload_n 3, 1) := by decide +kernel
theorem dL_law_191 : decode cL_law 191 = .ok (.iconst 1, 1) := by decide +kernel
theorem dL_law_192 : decode cL_law 192 = .ok (.iadd, 1) := by decide +kernel
theorem dL_law_193 : decode cL_law 193 = .ok (.iaload, 1) := by decide +kernel
theorem dL_law_194 : decode cL_law 194 = .ok (.aload_n 0, 1) := by decide +kernel
theorem dL_law_195 : decode cL_law 195 = .ok (.iload_n 3, 1) := by decide +kernel
theorem dL_law_196 : decode cL_law 196 = .ok (.iconst 2, 1) := by decide +kernel
theorem dL_law_197 : decode cL_law 197 = .ok (.iadd, 1) := by decide +kernel
theorem dL_law_198 : decode cL_law 198 = .ok (.iaload, 1) := by decide +kernel
theorem dL_law_199 : decode cL_law 199 = .ok (.invokevirtual 40, 3) := by decide +kernel
theorem dL_law_202 : decode cL_law 202 = .ok (.aload_n 2, 1) := by decide +kernel
theorem dL_law_203 : decode cL_law 203 = .ok (.aload_n 0, 1) := by decide +kernel
theorem dL_law_204 : decode cL_law 204 = .ok (.iload_n 3, 1) := by decide +kernel
theorem dL_law_205 : decode cL_law 205 = .ok (.iconst 1, 1) := by decide +kernel
theorem dL_law_206 : decode cL_law 206 = .ok (.iadd, 1) := by decide +kernel
theorem dL_law_207 : decode cL_law 207 = .ok (.iaload, 1) := by decide +kernel
theorem dL_law_208 : decode cL_law 208 = .ok (.aload_n 0, 1) := by decide +kernel
theorem dL_law_209 : decode cL_law 209 = .ok (.iload_n 3, 1) := by decide +kernel
theorem dL_law_210 : decode cL_law 210 = .ok (.iconst 2, 1) := by decide +kernel
theorem dL_law_211 : decode cL_law 211 = .ok (.iadd, 1) := by decide +kernel
theorem dL_law_212 : decode cL_law 212 = .ok (.iaload, 1) := by decide +kernel
theorem dL_law_213 : decode cL_law 213 = .ok (.invokevirtual 43, 3) := by decide +kernel
theorem dL_law_216 : decode cL_law 216 = .ok (.if_icmp .eq 120, 3) := by decide +kernel
theorem dL_law_219 : decode cL_law 219 = .ok (.iconst 0, 1) := by decide +kernel
theorem dL_law_220 : decode cL_law 220 = .ok (.ireturn, 1) := by decide +kernel
theorem dL_law_221 : decode cL_law 221 = .ok (.aload_n 1, 1) := by decide +kernel
theorem dL_law_222 : decode cL_law 222 = .ok (.invokevirtual 44, 3) := by decide +kernel
theorem dL_law_225 : decode cL_law 225 = .ok (.aload_n 2, 1) := by decide +kernel
theorem dL_law_226 : decode cL_law 226 = .ok (.invokevirtual 47, 3) := by decide +kernel
theorem dL_law_229 : decode cL_law 229 = .ok (.if_icmp .eq 107, 3) := by decide +kernel
theorem dL_law_232 : decode cL_law 232 = .ok (.iconst 0, 1) := by decide +kernel
theorem dL_law_233 : decode cL_law 233 = .ok (.ireturn, 1) := by decide +kernel
theorem dL_law_234 : decode cL_law 234 = .ok (.aload_n 1, 1) := by decide +kernel
theorem dL_law_235 : decode cL_law 235 = .ok (.aload_n 0, 1) := by decide +kernel
theorem dL_law_236 : decode cL_law 236 = .ok (.iload_n 3, 1) := by decide +kernel
theorem dL_law_237 : decode cL_law 237 = .ok (.iconst 1, 1) := by decide +kernel
theorem dL_law_238 : decode cL_law 238 = .ok (.iadd, 1) := by decide +kernel
theorem dL_law_239 : decode cL_law 239 = .ok (.iaload, 1) := by decide +kernel
theorem dL_law_240 : decode cL_law 240 = .ok (.aload_n 0, 1) := by decide +kernel
theorem dL_law_241 : decode cL_law 241 = .ok (.iload_n 3, 1) := by decide +kernel
theorem dL_law_242 : decode cL_law 242 = .ok (.iconst 2, 1) := by decide +kernel
theorem dL_law_243 : decode cL_law 243 = .ok (.iadd, 1) := by decide +kernel
theorem dL_law_244 : decode cL_law 244 = .ok (.iaload, 1) := by decide +kernel
theorem dL_law_245 : decode cL_law 245 = .ok (.invokevirtual 48, 3) := by decide +kernel
theorem dL_law_248 : decode cL_law 248 = .ok (.aload_n 2, 1) := by decide +kernel
theorem dL_law_249 : decode cL_law 249 = .ok (.aload_n 0, 1) := by decide +kernel
theorem dL_law_250 : decode cL_law 250 = .ok (.iload_n 3, 1) := by decide +kernel
theorem dL_law_251 : decode cL_law 251 = .ok (.iconst 1, 1) := by decide +kernel
theorem dL_law_252 : decode cL_law 252 = .ok (.iadd, 1) := by decide +kernel
theorem dL_law_253 : decode cL_law 253 = .ok (.iaload, 1) := by decide +kernel
theorem dL_law_254 : decode cL_law 254 = .ok (.aload_n 0, 1) := by decide +kernel
theorem dL_law_255 : decode cL_law 255 = .ok (.iload_n 3, 1) := by decide +kernel
theorem dL_law_256 : decode cL_law 256 = .ok (.iconst 2, 1) := by decide +kernel
theorem dL_law_257 : decode cL_law 257 = .ok (.iadd, 1) := by decide +kernel
theorem dL_law_258 : decode cL_law 258 = .ok (.iaload, 1) := by decide +kernel
theorem dL_law_259 : decode cL_law 259 = .ok (.invokevirtual 51, 3) := by decide +kernel
theorem dL_law_262 : decode cL_law 262 = .ok (.if_icmp .eq 74, 3) := by decide +kernel
theorem dL_law_265 : decode cL_law 265 = .ok (.iconst 0, 1) := by decide +kernel
theorem dL_law_266 : decode cL_law 266 = .ok (.ireturn, 1) := by decide +kernel
theorem dL_law_267 : decode cL_law 267 = .ok (.aload_n 1, 1) := by decide +kernel
theorem dL_law_268 : decode cL_law 268 = .ok (.aload_n 0, 1) := by decide +kernel
theorem dL_law_269 : decode cL_law 269 = .ok (.iload_n 3, 1) := by decide +kernel
theorem dL_law_270 : decode cL_law 270 = .ok (.iconst 1, 1) := by decide +kernel
theorem dL_law_271 : decode cL_law 271 = .ok (.iadd, 1) := by decide +kernel
theorem dL_law_272 : decode cL_law 272 = .ok (.iaload, 1) := by decide +kernel
theorem dL_law_273 : decode cL_law 273 = .ok (.aload_n 0, 1) := by decide +kernel
theorem dL_law_274 : decode cL_law 274 = .ok (.iload_n 3, 1) := by decide +kernel
theorem dL_law_275 : decode cL_law 275 = .ok (.iconst 2, 1) := by decide +kernel
theorem dL_law_276 : decode cL_law 276 = .ok (.iadd, 1) := by decide +kernel
theorem dL_law_277 : decode cL_law 277 = .ok (.iaload, 1) := by decide +kernel
theorem dL_law_278 : decode cL_law 278 = .ok (.aload_n 0, 1) := by decide +kernel
theorem dL_law_279 : decode cL_law 279 = .ok (.iload_n 3, 1) := by decide +kernel
theorem dL_law_280 : decode cL_law 280 = .ok (.iconst 3, 1) := by decide +kernel
theorem dL_law_281 : decode cL_law 281 = .ok (.iadd, 1) := by decide +kernel
theorem dL_law_282 : decode cL_law 282 = .ok (.iaload, 1) := by decide +kernel
theorem dL_law_283 : decode cL_law 283 = .ok (.invokevirtual 52, 3) := by decide +kernel
theorem dL_law_286 : decode cL_law 286 = .ok (.aload_n 2, 1) := by decide +kernel
theorem dL_law_287 : decode cL_law 287 = .ok (.aload_n 0, 1) := by decide +kernel
theorem dL_law_288 : decode cL_law 288 = .ok (.iload_n 3, 1) := by decide +kernel
theorem dL_law_289 : decode cL_law 289 = .ok (.iconst 1, 1) := by decide +kernel
theorem dL_law_290 : decode cL_law 290 = .ok (.iadd, 1) := by decide +kernel
theorem dL_law_291 : decode cL_law 291 = .ok (.iaload, 1) := by decide +kernel
theorem dL_law_292 : decode cL_law 292 = .ok (.aload_n 0, 1) := by decide +kernel
theorem dL_law_293 : decode cL_law 293 = .ok (.iload_n 3, 1) := by decide +kernel
theorem dL_law_294 : decode cL_law 294 = .ok (.iconst 2, 1) := by decide +kernel
theorem dL_law_295 : decode cL_law 295 = .ok (.iadd, 1) := by decide +kernel
theorem dL_law_296 : decode cL_law 296 = .ok (.iaload, 1) := by decide +kernel
theorem dL_law_297 : decode cL_law 297 = .ok (.aload_n 0, 1) := by decide +kernel
theorem dL_law_298 : decode cL_law 298 = .ok (.iload_n 3, 1) := by decide +kernel
theorem dL_law_299 : decode cL_law 299 = .ok (.iconst 3, 1) := by decide +kernel
theorem dL_law_300 : decode cL_law 300 = .ok (.iadd, 1) := by decide +kernel
theorem dL_law_301 : decode cL_law 301 = .ok (.iaload, 1) := by decide +kernel
theorem dL_law_302 : decode cL_law 302 = .ok (.invokevirtual 56, 3) := by decide +kernel
theorem dL_law_305 : decode cL_law 305 = .ok (.if_icmp .eq 31, 3) := by decide +kernel
theorem dL_law_308 : decode cL_law 308 = .ok (.iconst 0, 1) := by decide +kernel
theorem dL_law_309 : decode cL_law 309 = .ok (.ireturn, 1) := by decide +kernel
theorem dL_law_310 : decode cL_law 310 = .ok (.aload_n 1, 1) := by decide +kernel
theorem dL_law_311 : decode cL_law 311 = .ok (.invokevirtual 57, 3) := by decide +kernel
theorem dL_law_314 : decode cL_law 314 = .ok (.aload_n 2, 1) := by decide +kernel
theorem dL_law_315 : decode cL_law 315 = .ok (.invokevirtual 60, 3) := by decide +kernel
theorem dL_law_318 : decode cL_law 318 = .ok (.if_icmp .eq 18, 3) := by decide +kernel
theorem dL_law_321 : decode cL_law 321 = .ok (.iconst 0, 1) := by decide +kernel
theorem dL_law_322 : decode cL_law 322 = .ok (.ireturn, 1) := by decide +kernel
theorem dL_law_323 : decode cL_law 323 = .ok (.aload_n 1, 1) := by decide +kernel
theorem dL_law_324 : decode cL_law 324 = .ok (.invokevirtual 61, 3) := by decide +kernel
theorem dL_law_327 : decode cL_law 327 = .ok (.aload_n 2, 1) := by decide +kernel
theorem dL_law_328 : decode cL_law 328 = .ok (.invokevirtual 64, 3) := by decide +kernel
theorem dL_law_331 : decode cL_law 331 = .ok (.if_icmp .eq 5, 3) := by decide +kernel
theorem dL_law_334 : decode cL_law 334 = .ok (.iconst 0, 1) := by decide +kernel
theorem dL_law_335 : decode cL_law 335 = .ok (.ireturn, 1) := by decide +kernel
theorem dL_law_336 : decode cL_law 336 = .ok (.iinc 3 4, 3) := by decide +kernel
theorem dL_law_339 : decode cL_law 339 = .ok (.goto (-311), 3) := by decide +kernel
theorem dL_law_342 : decode cL_law 342 = .ok (.iconst 1, 1) := by decide +kernel
theorem dL_law_343 : decode cL_law 343 = .ok (.ireturn, 1) := by decide +kernel
abbrev vwCl : List vw_C := [(RX0, TX0, 7), (RX1, TX1, 8)]
end
section
/-! plane geometry in whole numbers: turns, corners of a strictly convex ring, what a point outside sees -/
def oh_cp (a b c : Int × Int) : Int := (b.1 - a.1) * (c.2 - a.2) - (b.2 - a.2) * (c.1 - a.1)
def oh_d2 (a b : Int × Int) : Int := (b.1 - a.1) * (b.1 - a.1) + (b.2 - a.2) * (b.2 - a.2)
def oh_lx (a b : Int × Int) : Prop := a.1 < b.1 ∨ (a.1 = b.1 ∧ a.2 < b.2)
def oh_edg (a b w : Int × Int) : Prop := 0 < oh_cp a b w ∨ (oh_cp a b w = 0 ∧ oh_d2 a w < oh_d2 a b)
def oh_nx (n i : Nat) : Nat := if i + 1 < n then i + 1 else 0
def oh_pv (n i : Nat) : Nat := if 0 < i then i - 1 else n - 1
def oh_rot (n L t : Nat) : Nat := if L + t < n then L + t else L + t - n
def oh_cvx (n : Nat) (P : Nat → Int × Int) : Prop := ∀ i j k, i < j → j < k → k < n → 0 < oh_cp (P i) (P j) (P k)
def oh_sd (n : Nat) (P : Nat → Int × Int) (q : Int × Int) (i : Nat) : Int := oh_cp (P i) (P (oh_nx n i)) q

theorem oh_nx_pv {n i : Nat} (h : i < n) : oh_nx n (oh_pv n i) = i := by unfold oh_nx oh_pv; split <;> split <;> omega
theorem oh_pv_nx {n i : Nat} (h : i < n) : oh_pv n (oh_nx n i) = i := by unfold oh_nx oh_pv; split <;> split <;> omega
theorem oh_nx_lt {n i : Nat} (h : i < n) : oh_nx n i < n := by unfold oh_nx; split <;> omega
theorem oh_pv_lt {n i : Nat} (h : i < n) : oh_pv n i < n := by unfold oh_pv; split <;> omega
theorem oh_rot_lt {n L t : Nat} (h : L < n) (ht : t < n) : oh_rot n L t < n := by unfold oh_rot; split <;> omega

theorem oh_cyc (a b c : Int × Int) : oh_cp a b c = oh_cp b c a := by unfold oh_cp; grind
theorem oh_swap (a b c : Int × Int) : oh_cp a b c = - oh_cp b a c := by unfold oh_cp; grind
theorem oh_swap2 (a b c : Int × Int) : oh_cp a b c = - oh_cp a c b := by unfold oh_cp; grind
theorem oh_s1 (a b : Int × Int) : oh_cp a b a = 0 := by unfold oh_cp; grind
theorem oh_s2 (a b : Int × Int) : oh_cp a b b = 0 := by unfold oh_cp; grind
theorem oh_s3 (a b : Int × Int) : oh_cp a a b = 0 := by unfold oh_cp; grind
theorem oh_cramer (a b c p q : Int × Int) : oh_cp b c a * oh_cp b p q = oh_cp b p a * oh_cp b c q + oh_cp b c p * oh_cp b a q := by
  unfold oh_cp
  generalize a.1 - b.1 = vx
  generalize a.2 - b.2 = vy
  generalize c.1 - b.1 = ux
  generalize c.2 - b.2 = uy
  generalize p.1 - b.1 = wx
  generalize p.2 - b.2 = wy
  generalize q.1 - b.1 = zx
  generalize q.2 - b.2 = zy
  grind
theorem oh_tri (a b c q : Int × Int) : oh_cp a b q + oh_cp b c q + oh_cp c a q = oh_cp a b c := by unfold oh_cp; grind
theorem oh_vec1 (a b c q : Int × Int) : oh_cp b c a * (q.1 - b.1) = oh_cp b q a * (c.1 - b.1) + oh_cp b c q * (a.1 - b.1) := by unfold oh_cp; grind
theorem oh_vec2 (a b c q : Int × Int) : oh_cp b c a * (q.2 - b.2) = oh_cp b q a * (c.2 - b.2) + oh_cp b c q * (a.2 - b.2) := by unfold oh_cp; grind
/-- the rays from q: the relation of Pluecker -/
theorem oh_pl (q a b c d : Int × Int) : oh_cp q a b * oh_cp q c d = oh_cp q a c * oh_cp q b d + oh_cp q a d * oh_cp q c b := by
  unfold oh_cp
  generalize a.1 - q.1 = vx
  generalize a.2 - q.2 = vy
  generalize c.1 - q.1 = ux
  generalize c.2 - q.2 = uy
  generalize b.1 - q.1 = wx
  generalize b.2 - q.2 = wy
  generalize d.1 - q.1 = zx
  generalize d.2 - q.2 = zy
  grind

theorem oh_lg (a b : Int) : a < b ∨ b ≤ a := by omega
theorem oh_pos {D x : Int} (hD : 0 < D) (h : 0 < D * x) : 0 < x := by
  rcases oh_lg 0 x with h1 | h1
  · exact h1
  · have h2 : D * x ≤ D * 0 := Int.mul_le_mul_of_nonneg_left h1 (Int.le_of_lt hD)
    omega
theorem oh_neg {D x : Int} (hD : 0 < D) (h : D * x < 0) : x < 0 := by
  rcases oh_lg x 0 with h1 | h1
  · exact h1
  · have h2 : 0 ≤ D * x := Int.mul_nonneg (Int.le_of_lt hD) h1
    omega
theorem oh_mnp {a b : Int} (ha : 0 ≤ a) (hb : b ≤ 0) : a * b ≤ 0 := by
  have h2 : a * b ≤ a * 0 := Int.mul_le_mul_of_nonneg_left hb ha
  omega
theorem oh_mnn {a b : Int} (ha : 0 < a) (hb : b < 0) : a * b < 0 := by
  have h2 : 0 < a * (-b) := Int.mul_pos ha (by omega)
  have h3 : a * (-b) = -(a * b) := Int.mul_neg a b
  omega

section
variable {n : Nat} {P : Nat → Int × Int} {q : Int × Int}
theorem oh_cvx3 (h : oh_cvx n P) {a b c : Nat} (ha : a < n) (hb : b < n) (hc : c < n) (ho : (a < b ∧ b < c) ∨ (b < c ∧ c < a) ∨ (c < a ∧ a < b)) : 0 < oh_cp (P a) (P b) (P c) := by
  rcases ho with o | o | o
  · exact h a b c o.1 o.2 hc
  · rw [oh_cyc]; exact h b c a o.1 o.2 ha
  · rw [oh_cyc, oh_cyc]; exact h c a b o.1 o.2 hb
theorem oh_atD (h : oh_cvx n P) (hn : 3 ≤ n) {L : Nat} (hL : L < n) : 0 < oh_cp (P L) (P (oh_nx n L)) (P (oh_pv n L)) := by
  apply oh_cvx3 h hL (oh_nx_lt hL) (oh_pv_lt hL)
  unfold oh_nx oh_pv
  split <;> split <;> omega
theorem oh_atP (h : oh_cvx n P) {L p : Nat} (hL : L < n) (hp : p < n) (hpL : p ≠ L) (hq : p ≠ oh_pv n L) : 0 < oh_cp (P L) (P p) (P (oh_pv n L)) := by
  apply oh_cvx3 h hL hp (oh_pv_lt hL)
  unfold oh_pv at *
  split at hq <;> split <;> omega
theorem oh_atN (h : oh_cvx n P) {L p : Nat} (hL : L < n) (hp : p < n) (hpL : p ≠ L) (hq : p ≠ oh_nx n L) : 0 < oh_cp (P L) (P (oh_nx n L)) (P p) := by
  apply oh_cvx3 h hL (oh_nx_lt hL) hp
  unfold oh_nx at *
  split at hq <;> split <;> omega
theorem oh_sidePos (h : oh_cvx n P) {i p : Nat} (hi : i < n) (hp : p < n) : 0 ≤ oh_cp (P i) (P (oh_nx n i)) (P p) := by
  by_cases h1 : p = i
  · rw [h1, oh_s1]; exact Int.le_refl 0
  · by_cases h2 : p = oh_nx n i
    · rw [h2, oh_s2]; exact Int.le_refl 0
    · exact Int.le_of_lt (oh_atN h hi hp h1 h2)
theorem oh_sd_pv {L : Nat} (hL : L < n) : oh_sd n P q (oh_pv n L) = - oh_cp (P L) (P (oh_pv n L)) q := by
  unfold oh_sd; rw [oh_nx_pv hL, oh_swap]
/-- at the end of a run of seen sides: all corners are on the left of the ray from q to it -/
theorem oh_lastE (h : oh_cvx n P) (hn : 3 ≤ n) {L p : Nat} (hL : L < n) (h1 : 0 < oh_sd n P q L) (h0 : oh_sd n P q (oh_pv n L) ≤ 0) (hp : p < n) (hpL : p ≠ L) :
    0 < oh_cp q (P L) (P p) ∨ (p = oh_pv n L ∧ oh_sd n P q (oh_pv n L) = 0 ∧ oh_cp q (P L) (P p) = 0) := by
  have hD := oh_atD h hn hL
  have e := oh_cramer (P (oh_pv n L)) (P L) (P (oh_nx n L)) (P p) q
  have e2 := oh_sd_pv (P := P) (q := q) hL
  have e3 : oh_cp q (P L) (P p) = oh_cp (P L) (P p) q := oh_cyc _ _ _
  rw [e3]
  by_cases hpp : p = oh_pv n L
  · subst hpp
    rcases oh_lg 0 (oh_cp (P L) (P (oh_pv n L)) q) with g | g
    · exact Or.inl g
    · exact Or.inr ⟨rfl, by omega, by omega⟩
  · left
    have a1 := oh_atP h hL hp hpL hpp
    have a2 : 0 ≤ oh_cp (P L) (P (oh_nx n L)) (P p) := oh_sidePos h hL hp
    apply oh_pos hD
    rw [e]
    have b1 := Int.mul_pos a1 h1
    have b2 := Int.mul_nonneg a2 (show 0 ≤ oh_cp (P L) (P (oh_pv n L)) q by omega)
    unfold oh_sd at b1
    omega
theorem oh_firstE (h : oh_cvx n P) (hn : 3 ≤ n) {L p : Nat} (hL : L < n) (h1 : oh_sd n P q L ≤ 0) (h0 : 0 < oh_sd n P q (oh_pv n L)) (hp : p < n) (hpL : p ≠ L) :
    0 < oh_cp (P L) q (P p) ∨ (p = oh_nx n L ∧ oh_sd n P q L = 0 ∧ oh_cp (P L) q (P p) = 0) := by
  have hD := oh_atD h hn hL
  have e := oh_cramer (P (oh_pv n L)) (P L) (P (oh_nx n L)) (P p) q
  have e2 := oh_sd_pv (P := P) (q := q) hL
  have e3 : oh_cp (P L) q (P p) = - oh_cp (P L) (P p) q := oh_swap2 _ _ _
  rw [e3]
  by_cases hpp : p = oh_nx n L
  · subst hpp
    unfold oh_sd at h1 ⊢
    rcases oh_lg (oh_cp (P L) (P (oh_nx n L)) q) 0 with g | g
    · exact Or.inl (by omega)
    · exact Or.inr ⟨rfl, by omega, by omega⟩
  · left
    have a1 := oh_atN h hL hp hpL hpp
    have a2 : 0 ≤ oh_cp (P L) (P p) (P (oh_pv n L)) := by
      by_cases g : p = oh_pv n L
      · rw [g, oh_s2]; exact Int.le_refl 0
      · exact Int.le_of_lt (oh_atP h hL hp hpL g)
    have b1 : oh_cp (P L) (P (oh_nx n L)) (P p) * oh_cp (P L) (P (oh_pv n L)) q < 0 := oh_mnn a1 (by omega)
    have b2 := oh_mnp a2 h1
    unfold oh_sd at b2
    have b3 : oh_cp (P L) (P p) q < 0 := oh_neg hD (by rw [e]; omega)
    omega
/-- the same where a side whose line runs through q is not seen -/
theorem oh_lastS (h : oh_cvx n P) (hn : 3 ≤ n) {L p : Nat} (hL : L < n) (h1 : 0 ≤ oh_sd n P q L) (h0 : oh_sd n P q (oh_pv n L) < 0) (hp : p < n) (hpL : p ≠ L) :
    0 < oh_cp q (P L) (P p) ∨ (p = oh_nx n L ∧ oh_cp q (P L) (P p) = 0) := by
  have hD := oh_atD h hn hL
  have e := oh_cramer (P (oh_pv n L)) (P L) (P (oh_nx n L)) (P p) q
  have e2 := oh_sd_pv (P := P) (q := q) hL
  have e3 : oh_cp q (P L) (P p) = oh_cp (P L) (P p) q := oh_cyc _ _ _
  rw [e3]
  by_cases hpp : p = oh_nx n L
  · subst hpp
    unfold oh_sd at h1
    rcases oh_lg 0 (oh_cp (P L) (P (oh_nx n L)) q) with g | g
    · exact Or.inl g
    · exact Or.inr ⟨rfl, by omega⟩
  · left
    have a1 := oh_atN h hL hp hpL hpp
    have a2 : 0 ≤ oh_cp (P L) (P p) (P (oh_pv n L)) := by
      by_cases g : p = oh_pv n L
      · rw [g, oh_s2]; exact Int.le_refl 0
      · exact Int.le_of_lt (oh_atP h hL hp hpL g)
    apply oh_pos hD
    rw [e]
    have b1 := Int.mul_pos a1 (show 0 < oh_cp (P L) (P (oh_pv n L)) q by omega)
    have b2 := Int.mul_nonneg a2 h1
    unfold oh_sd at b2
    omega
theorem oh_firstS (h : oh_cvx n P) (hn : 3 ≤ n) {L p : Nat} (hL : L < n) (h1 : oh_sd n P q L < 0) (h0 : 0 ≤ oh_sd n P q (oh_pv n L)) (hp : p < n) (hpL : p ≠ L) :
    0 < oh_cp (P L) q (P p) ∨ (p = oh_pv n L ∧ oh_cp (P L) q (P p) = 0) := by
  have hD := oh_atD h hn hL
  have e := oh_cramer (P (oh_pv n L)) (P L) (P (oh_nx n L)) (P p) q
  have e2 := oh_sd_pv (P := P) (q := q) hL
  have e3 : oh_cp (P L) q (P p) = - oh_cp (P L) (P p) q := oh_swap2 _ _ _
  rw [e3]
  by_cases hpp : p = oh_pv n L
  · subst hpp
    rcases oh_lg (oh_cp (P L) (P (oh_pv n L)) q) 0 with g | g
    · exact Or.inl (by omega)
    · exact Or.inr ⟨rfl, by omega⟩
  · left
    have a1 := oh_atP h hL hp hpL hpp
    have a2 : 0 ≤ oh_cp (P L) (P (oh_nx n L)) (P p) := oh_sidePos h hL hp
    have b1 : oh_cp (P L) (P p) (P (oh_pv n L)) * oh_cp (P L) (P (oh_nx n L)) q < 0 := oh_mnn a1 h1
    have b2 := oh_mnp a2 (show oh_cp (P L) (P (oh_pv n L)) q ≤ 0 by omega)
    have b3 : oh_cp (P L) (P p) q < 0 := oh_neg hD (by rw [e]; omega)
    omega
theorem oh_uL (h : oh_cvx n P) (hn : 3 ≤ n) {L M : Nat} (hL : L < n) (h1 : 0 < oh_sd n P q L) (h0 : oh_sd n P q (oh_pv n L) ≤ 0) (hM : M < n) (g1 : 0 < oh_sd n P q M) (g0 : oh_sd n P q (oh_pv n M) ≤ 0) : L = M := by
  by_cases hLM : L = M
  · exact hLM
  · exfalso
    have a := oh_lastE h hn hL h1 h0 hM (fun e => hLM e.symm)
    have b := oh_lastE h hn hM g1 g0 hL hLM
    have c := oh_swap2 q (P L) (P M)
    have d : M = oh_pv n L ∧ L = oh_pv n M := ⟨by omega, by omega⟩
    unfold oh_pv at d
    split at d <;> split at d <;> omega
theorem oh_uF (h : oh_cvx n P) (hn : 3 ≤ n) {L M : Nat} (hL : L < n) (h1 : oh_sd n P q L ≤ 0) (h0 : 0 < oh_sd n P q (oh_pv n L)) (hM : M < n) (g1 : oh_sd n P q M ≤ 0) (g0 : 0 < oh_sd n P q (oh_pv n M)) : L = M := by
  by_cases hLM : L = M
  · exact hLM
  · exfalso
    have a := oh_firstE h hn hL h1 h0 hM (fun e => hLM e.symm)
    have b := oh_firstE h hn hM g1 g0 hL hLM
    have c : oh_cp (P L) q (P M) = - oh_cp (P M) q (P L) := by unfold oh_cp; grind
    have d : M = oh_nx n L ∧ L = oh_nx n M := ⟨by omega, by omega⟩
    unfold oh_nx at d
    split at d <;> split at d <;> omega
theorem oh_uLS (h : oh_cvx n P) (hn : 3 ≤ n) {L M : Nat} (hL : L < n) (h1 : 0 ≤ oh_sd n P q L) (h0 : oh_sd n P q (oh_pv n L) < 0) (hM : M < n) (g1 : 0 ≤ oh_sd n P q M) (g0 : oh_sd n P q (oh_pv n M) < 0) : L = M := by
  by_cases hLM : L = M
  · exact hLM
  · exfalso
    have a := oh_lastS h hn hL h1 h0 hM (fun e => hLM e.symm)
    have b := oh_lastS h hn hM g1 g0 hL hLM
    have c := oh_swap2 q (P L) (P M)
    have d : M = oh_nx n L ∧ L = oh_nx n M := ⟨by omega, by omega⟩
    unfold oh_nx at d
    split at d <;> split at d <;> omega
theorem oh_uFS (h : oh_cvx n P) (hn : 3 ≤ n) {L M : Nat} (hL : L < n) (h1 : oh_sd n P q L < 0) (h0 : 0 ≤ oh_sd n P q (oh_pv n L)) (hM : M < n) (g1 : oh_sd n P q M < 0) (g0 : 0 ≤ oh_sd n P q (oh_pv n M)) : L = M := by
  by_cases hLM : L = M
  · exact hLM
  · exfalso
    have a := oh_firstS h hn hL h1 h0 hM (fun e => hLM e.symm)
    have b := oh_firstS h hn hM g1 g0 hL hLM
    have c : oh_cp (P L) q (P M) = - oh_cp (P M) q (P L) := by unfold oh_cp; grind
    have d : M = oh_pv n L ∧ L = oh_pv n M := ⟨by omega, by omega⟩
    unfold oh_pv at d
    split at d <;> split at d <;> omega
/-- some side has q on its left -/
theorem oh_left (h : oh_cvx n P) (hn : 3 ≤ n) : ∃ j, j < n ∧ 0 < oh_sd n P q j := by
  by_cases hex : ∃ j, j < n ∧ 0 < oh_sd n P q j
  · exact hex
  · exfalso
    have hall : ∀ j, j < n → oh_sd n P q j ≤ 0 := fun j hj => by
      rcases oh_lg 0 (oh_sd n P q j) with g | g
      · exact absurd ⟨j, hj, g⟩ hex
      · exact g
    have key : ∀ k, k + 1 < n → oh_cp (P 0) (P (k + 1)) q ≤ 0 ∧ (1 ≤ k → oh_cp (P 0) (P (k + 1)) q < 0) := by
      intro k
      induction k with
      | zero =>
        intro hk
        have g := hall 0 (by omega)
        unfold oh_sd oh_nx at g
        rw [if_pos (by omega)] at g
        exact ⟨g, fun w => absurd w (by omega)⟩
      | succ k ih =>
        intro hk
        have i1 := (ih (by omega)).1
        have g := hall (k + 1) (by omega)
        unfold oh_sd oh_nx at g
        rw [if_pos (by omega)] at g
        have t := oh_tri (P 0) (P (k + 1)) (P (k + 1 + 1)) q
        have c := h 0 (k + 1) (k + 1 + 1) (by omega) (by omega) (by omega)
        have s := oh_swap (P (k + 1 + 1)) (P 0) q
        exact ⟨by omega, fun _ => by omega⟩
    have k2 := (key (n - 2) (by omega)).2 (by omega)
    have g := hall (n - 1) (by omega)
    unfold oh_sd oh_nx at g
    rw [if_neg (by omega), oh_swap, show n - 1 = n - 2 + 1 by omega] at g
    omega
end
/-- on a cycle, where A holds somewhere and not everywhere, it begins somewhere -/
theorem oh_begin (A : Nat → Prop) {n : Nat} (h1 : ∃ i, i < n ∧ A i) (h2 : ∃ i, i < n ∧ ¬ A i) : ∃ i, i < n ∧ A i ∧ ¬ A (oh_pv n i) := by
  by_cases hex : ∃ i, i < n ∧ A i ∧ ¬ A (oh_pv n i)
  · exact hex
  · exfalso
    have hall : ∀ i, i < n → A i → A (oh_pv n i) := fun i hi ha => by
      by_cases g : A (oh_pv n i)
      · exact g
      · exact absurd ⟨i, hi, ha, g⟩ hex
    obtain ⟨i0, hi0, ha0⟩ := h1
    have down : ∀ d i, i + d < n → A (i + d) → A i := by
      intro d
      induction d with
      | zero => intro i _ g; exact g
      | succ d ih =>
        intro i hi g
        have g2 := hall (i + (d + 1)) hi g
        unfold oh_pv at g2
        rw [if_pos (by omega), show i + (d + 1) - 1 = i + d by omega] at g2
        exact ih i (by omega) g2
    have a0 : A 0 := down i0 0 (by omega) (by rw [Nat.zero_add]; exact ha0)
    have a1 := hall 0 (by omega) a0
    unfold oh_pv at a1
    rw [if_neg (by omega)] at a1
    obtain ⟨i2, hi2, hn2⟩ := h2
    exact hn2 (down (n - 1 - i2) i2 (by omega) (by rw [show i2 + (n - 1 - i2) = n - 1 by omega]; exact a1))
end
section
/-! the ring that comes when a point outside is added -/
def oh_G (n : Nat) (P : Nat → Int × Int) (q : Int × Int) : Nat → Int × Int := fun i => if i < n then P i else q
def oh_sg (n L : Nat) : Nat → Nat := fun i => if i = 0 then n else oh_rot n L (i - 1)
def oh_ring (N : Nat) (G : Nat → Int × Int) (m : Nat) (ρ : Nat → Nat) : Prop :=
  2 ≤ m ∧ m ≤ N ∧ (∀ i, i < m → ρ i < N) ∧ (∀ i j, i < j → j < m → ρ i ≠ ρ j) ∧ (∀ i, i < m → ∀ w, w < N → w ≠ ρ i → w ≠ ρ (oh_nx m i) → oh_edg (G (ρ i)) (G (ρ (oh_nx m i))) (G w)) ∧ (∀ w, w < N → w ≠ ρ 0 → oh_lx (G (ρ 0)) (G w))

theorem oh_sq (x : Int) : 0 ≤ x * x := by
  rcases oh_lg x 0 with h | h
  · have : 0 < (-x) * (-x) := Int.mul_pos (by omega) (by omega)
    have e : (-x) * (-x) = x * x := Int.neg_mul_neg x x
    omega
  · exact Int.mul_nonneg h h
theorem oh_sqp {x : Int} (hx : x ≠ 0) : 0 < x * x := by
  rcases oh_lg x 0 with h | h
  · have : 0 < (-x) * (-x) := Int.mul_pos (by omega) (by omega)
    have e : (-x) * (-x) = x * x := Int.neg_mul_neg x x
    omega
  · exact Int.mul_pos (by omega) (by omega)
theorem oh_d2p {a b : Int × Int} (h : ¬ (a.1 = b.1 ∧ a.2 = b.2)) : 0 < oh_d2 b a := by
  unfold oh_d2
  have h1 := oh_sq (a.1 - b.1)
  have h2 := oh_sq (a.2 - b.2)
  by_cases g : a.1 = b.1
  · have := oh_sqp (x := a.2 - b.2) (fun e => h ⟨g, by omega⟩)
    omega
  · have := oh_sqp (x := a.1 - b.1) (by omega)
    omega
theorem oh_d2c {a b c : Int × Int} (h : 0 < oh_cp b c a) : 0 < oh_d2 b a := by
  apply oh_d2p
  rintro ⟨h1, h2⟩
  have e : a = b := Prod.ext h1 h2
  rw [e, oh_s1] at h
  omega
theorem oh_aff {D E : Int} {a b q s t : Int × Int} (hx : D * (q.1 - b.1) = E * (a.1 - b.1)) (hy : D * (q.2 - b.2) = E * (a.2 - b.2)) : D * oh_cp s t q = (D - E) * oh_cp s t b + E * oh_cp s t a := by
  unfold oh_cp
  have e1 : D * ((t.1 - s.1) * (q.2 - s.2) - (t.2 - s.2) * (q.1 - s.1)) = (t.1 - s.1) * (D * (q.2 - b.2)) - (t.2 - s.2) * (D * (q.1 - b.1)) + D * ((t.1 - s.1) * (b.2 - s.2) - (t.2 - s.2) * (b.1 - s.1)) := by grind
  rw [e1, hx, hy]
  grind
theorem oh_dd1 {D E : Int} {a b q : Int × Int} (hx : D * (q.1 - b.1) = E * (a.1 - b.1)) (hy : D * (q.2 - b.2) = E * (a.2 - b.2)) : D * D * (oh_d2 q b - oh_d2 q a) = D * (2 * E - D) * oh_d2 b a := by
  unfold oh_d2
  have e1 : D * D * ((b.1 - q.1) * (b.1 - q.1) + (b.2 - q.2) * (b.2 - q.2) - ((a.1 - q.1) * (a.1 - q.1) + (a.2 - q.2) * (a.2 - q.2))) = (D * (q.1 - b.1)) * (D * (q.1 - b.1)) + (D * (q.2 - b.2)) * (D * (q.2 - b.2)) - (D * (a.1 - b.1) - D * (q.1 - b.1)) * (D * (a.1 - b.1) - D * (q.1 - b.1)) - (D * (a.2 - b.2) - D * (q.2 - b.2)) * (D * (a.2 - b.2) - D * (q.2 - b.2)) := by grind
  rw [e1, hx, hy]
  grind
theorem oh_dd2 {D E : Int} {a b q : Int × Int} (hx : D * (q.1 - b.1) = E * (a.1 - b.1)) (hy : D * (q.2 - b.2) = E * (a.2 - b.2)) : D * D * (oh_d2 b q - oh_d2 b a) = (E - D) * (E + D) * oh_d2 b a := by
  unfold oh_d2
  have e1 : D * D * ((q.1 - b.1) * (q.1 - b.1) + (q.2 - b.2) * (q.2 - b.2) - ((a.1 - b.1) * (a.1 - b.1) + (a.2 - b.2) * (a.2 - b.2))) = (D * (q.1 - b.1)) * (D * (q.1 - b.1)) + (D * (q.2 - b.2)) * (D * (q.2 - b.2)) - D * D * ((a.1 - b.1) * (a.1 - b.1) + (a.2 - b.2) * (a.2 - b.2)) := by grind
  rw [e1, hx, hy]
  grind
theorem oh_lexcone {D A B ux uy vx vy zx zy : Int} (hD : 0 < D) (hA : A ≤ 0) (hB : B ≤ 0) (hx : D * zx = A * ux + B * vx) (hy : D * zy = A * uy + B * vy) (hu : 0 < ux ∨ (ux = 0 ∧ 0 < uy)) (hv : 0 < vx ∨ (vx = 0 ∧ 0 < vy)) (hz : 0 < zx ∨ (zx = 0 ∧ 0 < zy)) : False := by
  have aux : ∀ {c x : Int}, c ≤ 0 → 0 ≤ x → c * x ≤ 0 := fun {c x} h1 h2 => by rw [Int.mul_comm]; exact oh_mnp h2 h1
  have a1 : A * ux ≤ 0 := aux hA (by omega)
  have b1 : B * vx ≤ 0 := aux hB (by omega)
  have z0 : zx = 0 ∧ 0 < zy := by
    rcases hz with g | g
    · have := Int.mul_pos hD g
      omega
    · exact g
  have z1 : D * zx = 0 := by rw [z0.1, Int.mul_zero]
  have z2 := Int.mul_pos hD z0.2
  have a2 : A * uy ≤ 0 := by
    rcases hu with g | g
    · have : A = 0 := by
        rcases Int.mul_eq_zero.mp (show A * ux = 0 by omega) with e | e
        · exact e
        · omega
      rw [this, Int.zero_mul]; exact Int.le_refl 0
    · exact aux hA (by omega)
  have b2 : B * vy ≤ 0 := by
    rcases hv with g | g
    · have : B = 0 := by
        rcases Int.mul_eq_zero.mp (show B * vx = 0 by omega) with e | e
        · exact e
        · omega
      rw [this, Int.zero_mul]; exact Int.le_refl 0
    · exact aux hB (by omega)
  omega
theorem oh_lx_tr {a b c : Int × Int} (h1 : oh_lx a b) (h2 : oh_lx b c) : oh_lx a c := by unfold oh_lx at *; omega
theorem oh_lx_as {a b : Int × Int} (h1 : oh_lx a b) (h2 : oh_lx b a) : False := by unfold oh_lx at *; omega
theorem oh_lx_tot {a b : Int × Int} (h : a ≠ b) : oh_lx a b ∨ oh_lx b a := by
  unfold oh_lx
  by_cases h1 : a.1 = b.1
  · have : a.2 ≠ b.2 := fun e => h (Prod.ext h1 e)
    omega
  · omega

section
variable {n : Nat} {P : Nat → Int × Int} {q : Int × Int}
theorem oh_colL (h : oh_cvx n P) (hn : 3 ≤ n) {L : Nat} (hL : L < n) (h1 : 0 < oh_sd n P q L) (h0 : oh_sd n P q (oh_pv n L) = 0) (hout : ∃ j, j < n ∧ oh_sd n P q j < 0) : oh_d2 q (P (oh_pv n L)) < oh_d2 q (P L) := by
  have hD := oh_atD h hn hL
  have e2 := oh_sd_pv (P := P) (q := q) hL
  have e3 : oh_cp (P L) q (P (oh_pv n L)) = 0 := by rw [oh_swap2]; omega
  have hx := oh_vec1 (P (oh_pv n L)) (P L) (P (oh_nx n L)) q
  have hy := oh_vec2 (P (oh_pv n L)) (P L) (P (oh_nx n L)) q
  rw [e3, Int.zero_mul, Int.zero_add] at hx hy
  have hE : 0 < oh_cp (P L) (P (oh_nx n L)) q := h1
  have hdp := oh_d2c hD
  generalize oh_cp (P L) (P (oh_nx n L)) (P (oh_pv n L)) = D at *
  generalize oh_cp (P L) (P (oh_nx n L)) q = E at *
  obtain ⟨j, hj, hneg⟩ := hout
  have hED : D < E := by
    rcases oh_lg D E with g | g
    · exact g
    · have a := oh_aff (s := P j) (t := P (oh_nx n j)) hx hy
      have p1 := Int.mul_nonneg (show 0 ≤ D - E by omega) (oh_sidePos h hj hL)
      have p2 := Int.mul_nonneg (Int.le_of_lt hE) (oh_sidePos h hj (oh_pv_lt hL))
      have p3 := oh_mnn hD hneg
      unfold oh_sd at p3
      omega
  have dd := oh_dd1 hx hy
  have p1 := Int.mul_pos (Int.mul_pos hD (show 0 < 2 * E - D by omega)) hdp
  rw [← dd] at p1
  have p2 := oh_pos (Int.mul_pos hD hD) p1
  omega
theorem oh_colF (h : oh_cvx n P) (hn : 3 ≤ n) {L : Nat} (hL : L < n) (h1 : oh_sd n P q L = 0) (h0 : 0 < oh_sd n P q (oh_pv n L)) (hout : ∃ j, j < n ∧ oh_sd n P q j < 0) : oh_d2 (P L) (P (oh_nx n L)) < oh_d2 (P L) q := by
  have hD := oh_atD h hn hL
  have e2 := oh_sd_pv (P := P) (q := q) hL
  have hE : 0 < oh_cp (P L) q (P (oh_pv n L)) := by rw [oh_swap2]; omega
  have e3 : oh_cp (P L) (P (oh_nx n L)) q = 0 := h1
  have hx := oh_vec1 (P (oh_pv n L)) (P L) (P (oh_nx n L)) q
  have hy := oh_vec2 (P (oh_pv n L)) (P L) (P (oh_nx n L)) q
  rw [e3, Int.zero_mul, Int.add_zero] at hx hy
  have hdp : 0 < oh_d2 (P L) (P (oh_nx n L)) := by
    apply oh_d2p
    rintro ⟨g1, g2⟩
    have e : P (oh_nx n L) = P L := Prod.ext g1 g2
    rw [e, oh_s3] at hD
    omega
  generalize oh_cp (P L) (P (oh_nx n L)) (P (oh_pv n L)) = D at *
  generalize oh_cp (P L) q (P (oh_pv n L)) = E at *
  obtain ⟨j, hj, hneg⟩ := hout
  have hED : D < E := by
    rcases oh_lg D E with g | g
    · exact g
    · have a := oh_aff (s := P j) (t := P (oh_nx n j)) hx hy
      have p1 := Int.mul_nonneg (show 0 ≤ D - E by omega) (oh_sidePos h hj hL)
      have p2 := Int.mul_nonneg (Int.le_of_lt hE) (oh_sidePos h hj (oh_nx_lt hL))
      have p3 := oh_mnn hD hneg
      unfold oh_sd at p3
      omega
  have dd := oh_dd2 hx hy
  have p1 := Int.mul_pos (Int.mul_pos (show 0 < E - D by omega) (show 0 < E + D by omega)) hdp
  rw [← dd] at p1
  have p2 := oh_pos (Int.mul_pos hD hD) p1
  omega
/-- q is outside: it is on the right of a side, or, of two corners, off their line -/
def oh_out (n : Nat) (P : Nat → Int × Int) (q : Int × Int) : Prop := (3 ≤ n ∧ ∃ j, j < n ∧ oh_sd n P q j < 0) ∨ (n = 2 ∧ oh_sd n P q 0 ≠ 0)
theorem oh_edgL (h : oh_cvx n P) (ho : oh_out n P q) {L p : Nat} (hL : L < n) (h1 : 0 < oh_sd n P q L) (h0 : oh_sd n P q (oh_pv n L) ≤ 0) (hp : p < n) (hpL : p ≠ L) : oh_edg q (P L) (P p) := by
  rcases ho with ⟨hn, hout⟩ | ⟨hn, -⟩
  · rcases oh_lastE h hn hL h1 h0 hp hpL with g | ⟨g1, g2, g3⟩
    · exact Or.inl g
    · exact Or.inr ⟨g3, by rw [g1]; exact oh_colL h hn hL h1 g2 hout⟩
  · left
    rw [oh_cyc]
    have e : p = oh_nx n L := by unfold oh_nx; split <;> omega
    rw [e]; exact h1
theorem oh_edgF (h : oh_cvx n P) (ho : oh_out n P q) {F p : Nat} (hF : F < n) (h1 : oh_sd n P q F ≤ 0) (h0 : 0 < oh_sd n P q (oh_pv n F)) (hp : p < n) (hpF : p ≠ F) : oh_edg (P F) q (P p) := by
  rcases ho with ⟨hn, hout⟩ | ⟨hn, -⟩
  · rcases oh_firstE h hn hF h1 h0 hp hpF with g | ⟨g1, g2, g3⟩
    · exact Or.inl g
    · exact Or.inr ⟨g3, by rw [g1]; exact oh_colF h hn hF g2 h0 hout⟩
  · left
    have e : p = oh_pv n F := by unfold oh_pv; split <;> omega
    have e2 := oh_sd_pv (P := P) (q := q) hF
    rw [oh_swap2, e]; omega
end
end
section
theorem oh_rot0 {n L : Nat} (h : L < n) : oh_rot n L 0 = L := by unfold oh_rot; rw [if_pos (by omega)]; rfl
theorem oh_rot_inj {n L s t : Nat} (h : L < n) (hs : s < n) (ht : t < n) (e : oh_rot n L s = oh_rot n L t) : s = t := by
  unfold oh_rot at e; split at e <;> split at e <;> omega
theorem oh_rot_nx {n L t : Nat} (h : L < n) (ht : t + 1 < n) : oh_nx n (oh_rot n L t) = oh_rot n L (t + 1) := by
  unfold oh_rot oh_nx; split <;> split <;> split <;> omega
theorem oh_rot_pv {n L t : Nat} (h : L < n) (ht : t + 1 < n) : oh_pv n (oh_rot n L (t + 1)) = oh_rot n L t := by
  unfold oh_rot oh_pv; split <;> split <;> split <;> omega
theorem oh_rot_last {n L : Nat} (h : L < n) : oh_rot n L (n - 1) = oh_pv n L := by
  unfold oh_rot oh_pv; split <;> split <;> omega
theorem oh_rot_sur {n L i : Nat} (h : L < n) (hi : i < n) : ∃ t, t < n ∧ oh_rot n L t = i := by
  by_cases g : L ≤ i
  · exact ⟨i - L, by omega, by unfold oh_rot; rw [if_pos (by omega)]; omega⟩
  · exact ⟨i + n - L, by omega, by unfold oh_rot; rw [if_neg (by omega)]; omega⟩
theorem oh_rot_nxr {m r i : Nat} (hr : r < m) (hi : i < m) : oh_rot m r (oh_nx m i) = oh_nx m (oh_rot m r i) := by
  unfold oh_rot oh_nx; split <;> split <;> split <;> (try split) <;> omega
theorem oh_cvx_rot {n L : Nat} {P : Nat → Int × Int} (h : oh_cvx n P) (hL : L < n) : oh_cvx n (fun i => P (oh_rot n L i)) := by
  intro i j k h1 h2 h3
  apply oh_cvx3 h (oh_rot_lt hL (by omega)) (oh_rot_lt hL (by omega)) (oh_rot_lt hL h3)
  unfold oh_rot
  split <;> split <;> split <;> omega
theorem oh_cvx_ne {n : Nat} {P : Nat → Int × Int} (h : oh_cvx n P) (hn : 3 ≤ n) {i j : Nat} (hij : i < j) (hj : j < n) : P i ≠ P j := by
  intro e
  by_cases h0 : 0 < i
  · have := h 0 i j h0 hij hj
    rw [e, oh_s2] at this; omega
  · by_cases h1 : 1 < j
    · have := h i 1 j (by omega) h1 hj
      rw [e, oh_s1] at this; omega
    · have := h i j 2 hij (by omega) (by omega)
      rw [e, oh_s3] at this; omega

section
variable {n : Nat} {P : Nat → Int × Int} {q : Int × Int} {F L k : Nat}
/-- the sides from L on to F have q on their left -/
theorem oh_run (h : oh_cvx n P) (ho : oh_out n P q) (hF : F < n) (hL : L < n) (f1 : oh_sd n P q F ≤ 0) (f0 : 0 < oh_sd n P q (oh_pv n F)) (l1 : 0 < oh_sd n P q L) (hkn : k ≤ n) (hk : oh_rot n L (k - 1) = F) : ∀ t, t + 1 < k → 0 < oh_sd n P q (oh_rot n L t) := by
  intro t
  induction t with
  | zero => intro _; rw [oh_rot0 hL]; exact l1
  | succ t ih =>
    intro ht
    have g := ih (by omega)
    rcases oh_lg 0 (oh_sd n P q (oh_rot n L (t + 1))) with w | w
    · exact w
    · exfalso
      have hn : 3 ≤ n := by omega
      have e := oh_uF h hn (oh_rot_lt hL (show t + 1 < n by omega)) w (by rw [oh_rot_pv hL (by omega)]; exact g) hF f1 f0
      have := oh_rot_inj hL (show t + 1 < n by omega) (show k - 1 < n by omega) (e.trans hk.symm)
      omega
/-- the sides from F on to L do not -/
theorem oh_run2 (h : oh_cvx n P) (hn : 3 ≤ n) (hL : L < n) (f1 : oh_sd n P q F ≤ 0) (l1 : 0 < oh_sd n P q L) (l0 : oh_sd n P q (oh_pv n L) ≤ 0) (hk : oh_rot n L (k - 1) = F) : ∀ t, (k - 1) + t < n → oh_sd n P q (oh_rot n L ((k - 1) + t)) ≤ 0 := by
  intro t
  induction t with
  | zero => intro _; rw [Nat.add_zero, hk]; exact f1
  | succ t ih =>
    intro ht
    have g := ih (by omega)
    rcases oh_lg 0 (oh_sd n P q (oh_rot n L ((k - 1) + (t + 1)))) with w | w
    · exfalso
      have e := oh_uL h hn (oh_rot_lt hL ht) w (by rw [← Nat.add_assoc, oh_rot_pv hL (by omega)]; exact g) hL l1 l0
      have := oh_rot_inj hL ht (show 0 < n by omega) (e.trans (oh_rot0 hL).symm)
      omega
    · exact w
theorem oh_ray0 (h : oh_cvx n P) (ho : oh_out n P q) (hF : F < n) (hL : L < n) (f1 : oh_sd n P q F ≤ 0) (f0 : 0 < oh_sd n P q (oh_pv n F)) (l1 : 0 < oh_sd n P q L) (l0 : oh_sd n P q (oh_pv n L) ≤ 0) (hkn : k ≤ n) (hk : oh_rot n L (k - 1) = F) {t : Nat} (ht0 : 0 < t) (ht : t < k) : 0 < oh_cp q (P L) (P (oh_rot n L t)) := by
  have hne : oh_rot n L t ≠ L := fun e => by
    have := oh_rot_inj hL (show t < n by omega) (show 0 < n by omega) (e.trans (oh_rot0 hL).symm)
    omega
  have hrun := oh_run h ho hF hL f1 f0 l1 hkn hk
  rcases ho with ⟨hn, j, hj, hneg⟩ | ⟨hn, hz⟩
  · rcases oh_lastE h hn hL l1 l0 (oh_rot_lt hL (show t < n by omega)) hne with g | ⟨g1, g2, g3⟩
    · exact g
    · exfalso
      have e1 := oh_rot_inj hL (show t < n by omega) (show n - 1 < n by omega) (g1.trans (oh_rot_last hL).symm)
      obtain ⟨s, hs, es⟩ := oh_rot_sur hL hj
      by_cases hsn : s = n - 1
      · rw [hsn, oh_rot_last hL] at es
        rw [← es] at hneg
        omega
      · have := hrun s (by omega)
        rw [es] at this
        omega
  · rw [oh_cyc]
    have e : oh_rot n L t = oh_nx n L := by unfold oh_rot oh_nx; split <;> split <;> omega
    rw [e]; exact l1
theorem oh_rays (h : oh_cvx n P) (ho : oh_out n P q) (hF : F < n) (hL : L < n) (f1 : oh_sd n P q F ≤ 0) (f0 : 0 < oh_sd n P q (oh_pv n F)) (l1 : 0 < oh_sd n P q L) (l0 : oh_sd n P q (oh_pv n L) ≤ 0) (hkn : k ≤ n) (hk : oh_rot n L (k - 1) = F) : ∀ j, j < k → ∀ i, i < j → 0 < oh_cp q (P (oh_rot n L i)) (P (oh_rot n L j)) := by
  have hrun := oh_run h ho hF hL f1 f0 l1 hkn hk
  have hray : ∀ t, 0 < t → t < k → 0 < oh_cp q (P L) (P (oh_rot n L t)) := fun t h1 h2 => oh_ray0 h ho hF hL f1 f0 l1 l0 hkn hk h1 h2
  intro j
  induction j with
  | zero => intro _ i hi; omega
  | succ j ih =>
    intro hj i hi
    have hs : 0 < oh_cp q (P (oh_rot n L j)) (P (oh_rot n L (j + 1))) := by
      have g := hrun j hj
      unfold oh_sd at g
      rw [oh_rot_nx hL (by omega)] at g
      rw [oh_cyc]; exact g
    by_cases hij : i = j
    · rw [hij]; exact hs
    · by_cases hi0 : i = 0
      · rw [hi0, oh_rot0 hL]; exact hray (j + 1) (by omega) hj
      · have e := oh_pl q (P L) (P (oh_rot n L j)) (P (oh_rot n L i)) (P (oh_rot n L (j + 1)))
        have p1 := hray j (by omega) (by omega)
        have p2 := Int.mul_pos (hray i (by omega) (by omega)) hs
        have p3 := Int.mul_pos (hray (j + 1) (by omega) hj) (ih (by omega) i (by omega))
        exact oh_pos p1 (by rw [e]; omega)
theorem oh_Gn : oh_G n P q n = q := by unfold oh_G; rw [if_neg (Nat.lt_irrefl n)]
theorem oh_Gi {i : Nat} (h : i < n) : oh_G n P q i = P i := by unfold oh_G; rw [if_pos h]
theorem oh_sg0 : oh_sg n L 0 = n := by unfold oh_sg; rw [if_pos rfl]
theorem oh_sgS (i : Nat) : oh_sg n L (i + 1) = oh_rot n L i := by unfold oh_sg; rw [if_neg (by omega)]; rfl
/-- the new ring is strictly convex -/
theorem oh_ringC (h : oh_cvx n P) (ho : oh_out n P q) (hF : F < n) (hL : L < n) (f1 : oh_sd n P q F ≤ 0) (f0 : 0 < oh_sd n P q (oh_pv n F)) (l1 : 0 < oh_sd n P q L) (l0 : oh_sd n P q (oh_pv n L) ≤ 0) (hkn : k ≤ n) (hk : oh_rot n L (k - 1) = F) : oh_cvx (k + 1) (fun i => oh_G n P q (oh_sg n L i)) := by
  have hrays := oh_rays h ho hF hL f1 f0 l1 l0 hkn hk
  intro i j l h1 h2 h3
  obtain ⟨j, rfl⟩ : ∃ j', j = j' + 1 := ⟨j - 1, by omega⟩
  obtain ⟨l, rfl⟩ : ∃ l', l = l' + 1 := ⟨l - 1, by omega⟩
  show 0 < oh_cp (oh_G n P q (oh_sg n L i)) (oh_G n P q (oh_sg n L (j + 1))) (oh_G n P q (oh_sg n L (l + 1)))
  rw [oh_sgS, oh_sgS, oh_Gi (oh_rot_lt hL (by omega)), oh_Gi (oh_rot_lt hL (by omega))]
  by_cases hi : i = 0
  · rw [hi, oh_sg0, oh_Gn]
    exact hrays l (by omega) j (by omega)
  · obtain ⟨i, rfl⟩ : ∃ i', i = i' + 1 := ⟨i - 1, by omega⟩
    rw [oh_sgS, oh_Gi (oh_rot_lt hL (by omega))]
    exact oh_cvx_rot h hL i j l (by omega) (by omega) (by omega)
/-- its edges have all points on the left, or between their ends -/
theorem oh_ringE (h : oh_cvx n P) (ho : oh_out n P q) (hF : F < n) (hL : L < n) (f1 : oh_sd n P q F ≤ 0) (f0 : 0 < oh_sd n P q (oh_pv n F)) (l1 : 0 < oh_sd n P q L) (l0 : oh_sd n P q (oh_pv n L) ≤ 0) (h2k : 2 ≤ k) (hkn : k ≤ n) (hk : oh_rot n L (k - 1) = F) {e w : Nat} (he : e < k + 1) (hw : w < n + 1) (w1 : w ≠ oh_sg n L e) (w2 : w ≠ oh_sg n L (oh_nx (k + 1) e)) : oh_edg (oh_G n P q (oh_sg n L e)) (oh_G n P q (oh_sg n L (oh_nx (k + 1) e))) (oh_G n P q w) := by
  by_cases e0 : e = 0
  · subst e0
    have en : oh_nx (k + 1) 0 = 0 + 1 := by unfold oh_nx; rw [if_pos (by omega)]
    rw [en, oh_sgS, oh_rot0 hL] at w2 ⊢
    rw [oh_sg0] at w1 ⊢
    rw [oh_Gn, oh_Gi hL, oh_Gi (show w < n by omega)]
    exact oh_edgL h ho hL l1 l0 (by omega) w2
  · obtain ⟨e, rfl⟩ : ∃ e', e = e' + 1 := ⟨e - 1, by omega⟩
    rw [oh_sgS] at w1 ⊢
    by_cases ek : e + 1 = k
    · have en : oh_nx (k + 1) (e + 1) = 0 := by unfold oh_nx; rw [if_neg (by omega)]
      rw [en, oh_sg0] at w2 ⊢
      rw [show e = k - 1 by omega, hk] at w1 ⊢
      rw [oh_Gn, oh_Gi hF, oh_Gi (show w < n by omega)]
      exact oh_edgF h ho hF f1 f0 (by omega) w1
    · have en : oh_nx (k + 1) (e + 1) = e + 1 + 1 := by unfold oh_nx; rw [if_pos (by omega)]
      rw [en, oh_sgS] at w2 ⊢
      have hs := oh_run h ho hF hL f1 f0 l1 hkn hk e (by omega)
      have enx := oh_rot_nx hL (show e + 1 < n by omega)
      rw [oh_Gi (oh_rot_lt hL (show e < n by omega)), oh_Gi (oh_rot_lt hL (show e + 1 < n by omega))]
      left
      rw [← enx] at w2 ⊢
      by_cases wn : w = n
      · rw [wn, oh_Gn]; exact hs
      · rw [oh_Gi (show w < n by omega)]
        exact oh_atN h (oh_rot_lt hL (by omega)) (by omega) w1 w2
theorem oh_qne (h : oh_cvx n P) (ho : oh_out n P q) {i : Nat} (hi : i < n) : q ≠ P i := by
  intro e
  rcases ho with ⟨hn, j, hj, hneg⟩ | ⟨hn, hz⟩
  · have := oh_sidePos h hj hi
    unfold oh_sd at hneg
    rw [e] at hneg
    omega
  · subst hn
    apply hz
    unfold oh_sd
    rw [show oh_nx 2 0 = 1 from rfl, e]
    rcases (show i = 0 ∨ i = 1 by omega) with g | g <;> subst g
    · exact oh_s1 _ _
    · exact oh_s2 _ _
/-- the least of the ring is the least of all -/
theorem oh_ringL (h : oh_cvx n P) (hl : ∀ i, 0 < i → i < n → oh_lx (P 0) (P i)) (ho : oh_out n P q) (hF : F < n) (hL : L < n) (f1 : oh_sd n P q F ≤ 0) (f0 : 0 < oh_sd n P q (oh_pv n F)) (l1 : 0 < oh_sd n P q L) (l0 : oh_sd n P q (oh_pv n L) ≤ 0) (h2k : 2 ≤ k) (hkn : k ≤ n) (hk : oh_rot n L (k - 1) = F) {r : Nat} (hr : r < k + 1) (hmin : ∀ i, i < k + 1 → ¬ oh_lx (oh_G n P q (oh_sg n L i)) (oh_G n P q (oh_sg n L r))) :
    ∀ w, w < n + 1 → w ≠ oh_sg n L r → oh_lx (oh_G n P q (oh_sg n L r)) (oh_G n P q w) := by
  have hc := oh_ringC h ho hF hL f1 f0 l1 l0 hkn hk
  have hmin2 : ∀ i, i < k + 1 → i ≠ r → oh_lx (oh_G n P q (oh_sg n L r)) (oh_G n P q (oh_sg n L i)) := fun i hi hir => by
    have hne : oh_G n P q (oh_sg n L r) ≠ oh_G n P q (oh_sg n L i) := by
      rcases Nat.lt_or_gt_of_ne hir with g | g
      · exact fun e => oh_cvx_ne hc (by omega) g hr e.symm
      · exact oh_cvx_ne hc (by omega) g hi
    rcases oh_lx_tot hne with g | g
    · exact g
    · exact absurd g (hmin i hi)
  have hle : ∀ i, i < n → i = 0 ∨ oh_lx (P 0) (P i) := fun i hi => by
    by_cases g : i = 0
    · exact Or.inl g
    · exact Or.inr (hl i (by omega) hi)
  rcases oh_lx_tot (oh_qne h ho (show 0 < n by omega)) with hq | hq
  · have hr0 : r = 0 := by
      by_cases g : r = 0
      · exact g
      · exfalso
        have g2 := hmin2 0 (by omega) (fun e => g e.symm)
        obtain ⟨r, rfl⟩ : ∃ r', r = r' + 1 := ⟨r - 1, by omega⟩
        rw [oh_sg0, oh_Gn, oh_sgS, oh_Gi (oh_rot_lt hL (by omega))] at g2
        rcases hle _ (oh_rot_lt hL (show r < n by omega)) with e | e
        · rw [e] at g2; exact oh_lx_as hq g2
        · exact oh_lx_as (oh_lx_tr hq e) g2
    subst hr0
    intro w hw hwn
    rw [oh_sg0] at hwn ⊢
    rw [oh_Gn, oh_Gi (show w < n by omega)]
    rcases hle w (by omega) with e | e
    · rw [e]; exact hq
    · exact oh_lx_tr hq e
  · obtain ⟨t, ht, et⟩ := oh_rot_sur hL (show 0 < n by omega)
    have htk : t < k := by
      rcases Nat.lt_or_ge t k with g | g
      · exact g
      · exfalso
        have hn : 3 ≤ n := by omega
        have s0 := oh_run2 h hn hL f1 l1 l0 hk (t - (k - 1)) (by omega)
        have s1 := oh_run2 h hn hL f1 l1 l0 hk (t - 1 - (k - 1)) (by omega)
        rw [show k - 1 + (t - (k - 1)) = t by omega, et] at s0
        rw [show k - 1 + (t - 1 - (k - 1)) = t - 1 by omega] at s1
        have ep := oh_rot_pv hL (show (t - 1) + 1 < n by omega)
        rw [show t - 1 + 1 = t by omega, et] at ep
        rw [← ep] at s1
        have e2 := oh_sd_pv (P := P) (q := q) (show 0 < n by omega)
        have hD := oh_atD h hn (show 0 < n by omega)
        have hx := oh_vec1 (P (oh_pv n 0)) (P 0) (P (oh_nx n 0)) q
        have hy := oh_vec2 (P (oh_pv n 0)) (P 0) (P (oh_nx n 0)) q
        have e3 : oh_cp (P 0) q (P (oh_pv n 0)) ≤ 0 := by rw [oh_swap2]; omega
        have e4 : oh_cp (P 0) (P (oh_nx n 0)) q ≤ 0 := s0
        have n1 := hl (oh_nx n 0) (by unfold oh_nx; rw [if_pos (by omega)]; omega) (oh_nx_lt (by omega))
        have n2 := hl (oh_pv n 0) (by unfold oh_pv; rw [if_neg (by omega)]; omega) (oh_pv_lt (by omega))
        unfold oh_lx at n1 n2 hq
        exact oh_lexcone hD e3 e4 hx hy (by omega) (by omega) (by omega)
    have hrt : r = t + 1 := by
      by_cases g : r = t + 1
      · exact g
      · exfalso
        have g2 := hmin2 (t + 1) (by omega) (fun e => g e.symm)
        rw [oh_sgS, et, oh_Gi (show 0 < n by omega)] at g2
        by_cases r0 : r = 0
        · rw [r0, oh_sg0, oh_Gn] at g2
          exact oh_lx_as hq g2
        · obtain ⟨r, rfl⟩ : ∃ r', r = r' + 1 := ⟨r - 1, by omega⟩
          rw [oh_sgS, oh_Gi (oh_rot_lt hL (by omega))] at g2
          rcases hle _ (oh_rot_lt hL (show r < n by omega)) with e | e
          · exact g (by rw [oh_rot_inj hL (by omega) ht (e.trans et.symm)])
          · exact oh_lx_as e g2
    intro w hw hwn
    rw [hrt, oh_sgS, et] at hwn ⊢
    rw [oh_Gi (show 0 < n by omega)]
    by_cases wn : w = n
    · rw [wn, oh_Gn]; exact hq
    · rw [oh_Gi (show w < n by omega)]
      exact hl w (by omega) (by omega)
/-- all of it, for the ring turned so that its least comes first -/
theorem oh_grow (h : oh_cvx n P) (hl : ∀ i, 0 < i → i < n → oh_lx (P 0) (P i)) (ho : oh_out n P q) (hF : F < n) (hL : L < n) (f1 : oh_sd n P q F ≤ 0) (f0 : 0 < oh_sd n P q (oh_pv n F)) (l1 : 0 < oh_sd n P q L) (l0 : oh_sd n P q (oh_pv n L) ≤ 0) (h2k : 2 ≤ k) (hkn : k ≤ n) (hk : oh_rot n L (k - 1) = F) {r : Nat} (hr : r < k + 1) (hmin : ∀ i, i < k + 1 → ¬ oh_lx (oh_G n P q (oh_sg n L i)) (oh_G n P q (oh_sg n L r))) :
    oh_ring (n + 1) (oh_G n P q) (k + 1) (fun i => oh_sg n L (oh_rot (k + 1) r i)) ∧ oh_cvx (k + 1) (fun i => oh_G n P q (oh_sg n L (oh_rot (k + 1) r i))) := by
  refine ⟨⟨by omega, by omega, ?_, ?_, ?_, ?_⟩, oh_cvx_rot (P := fun i => oh_G n P q (oh_sg n L i)) (oh_ringC h ho hF hL f1 f0 l1 l0 hkn hk) hr⟩
  · intro i hi
    have g := oh_rot_lt hr hi
    unfold oh_sg
    dsimp only
    split
    · omega
    · have := oh_rot_lt hL (show oh_rot (k + 1) r i - 1 < n by omega)
      omega
  · intro i j hij hj e
    have g1 := oh_rot_lt hr (show i < k + 1 by omega)
    have g2 := oh_rot_lt hr hj
    have hne : oh_rot (k + 1) r i ≠ oh_rot (k + 1) r j := fun e => by
      have := oh_rot_inj hr (by omega) hj e
      omega
    unfold oh_sg at e
    dsimp only at e
    split at e <;> split at e
    · omega
    · have := oh_rot_lt hL (show oh_rot (k + 1) r j - 1 < n by omega)
      omega
    · have := oh_rot_lt hL (show oh_rot (k + 1) r i - 1 < n by omega)
      omega
    · have := oh_rot_inj hL (by omega) (by omega) e
      omega
  · intro i hi w hw w1 w2
    dsimp only at w1 w2 ⊢
    rw [oh_rot_nxr hr hi] at w2 ⊢
    exact oh_ringE h ho hF hL f1 f0 l1 l0 h2k hkn hk (oh_rot_lt hr hi) hw w1 w2
  · dsimp only
    rw [oh_rot0 hr]
    exact oh_ringL h hl ho hF hL f1 f0 l1 l0 h2k hkn hk hr hmin
end
end
section
/-! worlds of both sides; small rows of their own -/
abbrev oh_W (h a1 a2 a3 a4 : Nat) (cI : ClassId) (N n : Nat) (came : Int32) (fx fy rx ry : Nat → Int32) : va_W := [(h, .inr (0, [.int (nI N), .ref a1, .ref a2, .ref a3, .ref a4, .int (nI n), .int came])), (a1, .inl (cI, N, .inl fx)), (a2, .inl (cI, N, .inl fy)), (a3, .inl (cI, N, .inl rx)), (a4, .inl (cI, N, .inl ry))]
abbrev oh_M (h b1 b2 b3 b4 b5 : Nat) (cI : ClassId) (N n : Nat) (pts : Int32) (xs ys px py rd : Nat → Int32) : va_W := [(h, .inr (1, [.int (nI N), .int (nI n), .int pts, .ref b1, .ref b2, .ref b3, .ref b4, .ref b5])), (b1, .inl (cI, 66, .inl xs)), (b2, .inl (cI, 66, .inl ys)), (b3, .inl (cI, 66, .inl px)), (b4, .inl (cI, 66, .inl py)), (b5, .inl (cI, 67, .inl rd))]
def oh_pt (fx fy : Nat → Int32) (i : Nat) : Int × Int := ((fx i).toInt, (fy i).toInt)
def oh_inR (x y : Int32) : Prop := -16383 ≤ x.toInt ∧ x.toInt ≤ 16383 ∧ -16383 ≤ y.toInt ∧ y.toInt ≤ 16383
theorem oh_bl {av : List Value} {D : va_G} {cl : List vw_C} {ws : va_W} {tys : List (ClassId × FieldType)} : FrameBlind (va_Pc av (fun U => va_P D cl ws U.heap ∧ va_K D cl tys U)) := fun a U g mk q => ⟨q.1, q.2.1, va_K.moved (u := U) (U := U.calling g mk a) (Vm.Alike.refl U.vm) q.2.2⟩
theorem oh_bl0 {av : List Value} : FrameBlind (va_Pc av (fun _ => True)) := fun _ _ _ _ q => ⟨q.1, trivial⟩
theorem oh_blM {av : List Value} {D : va_G} {cl : List vw_C} {ws : va_W} {tys : List (ClassId × FieldType)} {sz : Nat} {B : Nat → Prop} : FrameBlind (va_Pc av (fun U => U.heap.size = sz ∧ va_P D cl ws U.heap ∧ va_K D cl tys U ∧ va_D B ws)) := fun a U g mk q => ⟨q.1, q.2.1, q.2.2.1, va_K.moved (u := U) (U := U.calling g mk a) (Vm.Alike.refl U.vm) q.2.2.2.1, q.2.2.2.2⟩
theorem oh_pre {s : State} {H : Heap} {D : va_G} {cl : List vw_C} {ws : va_W} {tys : List (ClassId × FieldType)} {a ci q0 : Nat} {q : vw_C} {fs : List Value} {As : List Value} (hK : va_K D cl tys s) (hP : va_P D cl ws H) (hc : cl[ci]? = some q) (he : ws[q0]? = some (a, .inr (ci, fs))) : PreV s H q.1 a (va_Pc (.ref a :: As) (fun U => va_P D cl ws U.heap ∧ va_K D cl tys U)) As :=
  ⟨oh_bl, va_recv hK hP hc he, fun U hU hW => ⟨rfl, by rw [hU]; exact hP, va_K.moved hW.alike hK⟩⟩
theorem oh_pre0 {s : State} {H : Heap} {As : List Value} : PreS s H (va_Pc As (fun _ => True)) As := ⟨oh_bl0, fun _ _ _ => ⟨rfl, trivial⟩⟩
theorem oh_preM {s : State} {H : Heap} {D : va_G} {cl : List vw_C} {wc : va_W} {tys : List (ClassId × FieldType)} {A : Nat → Prop} {a ci q0 : Nat} {q : vw_C} {fs : List Value} {As : List Value} (hK : va_K D cl tys s) (hP : va_P D cl wc H) (hD : va_D A wc) (hc : cl[ci]? = some q) (he : wc[q0]? = some (a, .inr (ci, fs))) : PreV s H q.1 a (va_Pc (.ref a :: As) (fun U => U.heap.size = H.size ∧ va_P D cl wc U.heap ∧ va_K D cl tys U ∧ va_D (fun _ => True) wc)) As :=
  ⟨oh_blM, va_recv hK hP hc he, fun U hU hW => ⟨rfl, by rw [hU], by rw [hU]; exact hP, va_K.moved hW.alike hK, hD.weaken (fun _ _ _ _ => trivial)⟩⟩
section
variable {p : Program} {l : Launch} {e : Env} {R : Room} {s : State} {m : MethodId} {args : Array Value} {below : List Frame} {meth : Method} {c : Code} {H : Heap} {locs : List Loc} {cells slots : Nat} {Q : State → Prop}
variable {cc : ByteArray} {pc : Nat} {ls : Array Slot} {rest : List Value} {D : va_G} {cl : List vw_C} {A : Nat → Prop} {a : Nat} {tys : List (ClassId × FieldType)} {ws : va_W} {H0 : Heap}
theorem oh_ald (hexec : p.tables.exec = Jvm.exec) (hb : c.code = cc) (hK : va_K D cl tys s) (hP : va_P D cl ws H) (q0 t0 : Nat) {cA : ClassId} {n : Nat} {f : Nat → Int32} (ha : ws[q0]? = some (a, .inl (cA, n, .inl f))) (ht : tys[t0]? = some (cA, .int)) {k : Nat} (hk : k < n) (hn : n < 2 ^ 31) (hdg : decode cc pc = .ok (.iaload, 1))
    (kk : W p l e R s m args below meth c H locs cells slots Q (F0 m (pc + 1) ls (.int (f k) :: rest))) : W p l e R s m args below meth c H locs cells slots Q (F0 m pc ls (.int (nI k) :: .ref a :: rest)) := by
  refine va_iald hexec hb hK hP q0 t0 ha ht (vp_in_nI hk hn) hdg ?_
  rw [nI_clamp (Nat.lt_trans hk hn)]
  exact kk
theorem oh_ast (hexec : p.tables.exec = Jvm.exec) (hb : c.code = cc) (hK : va_K D cl tys s) (hP : va_P D cl ws H) (hD : va_D A ws) (hS : va_S A H0 H locs) (q0 t0 : Nat) {cA : ClassId} {n : Nat} {f : Nat → Int32} (ha : ws[q0]? = some (a, .inl (cA, n, .inl f))) (ht : tys[t0]? = some (cA, .int)) {k : Nat} {x : Int32} (hk : k < n) (hn : n < 2 ^ 31) (hdg : decode cc pc = .ok (.iastore, 1))
    (kk : ∀ (H1 : Heap) (locs1 : List Loc), va_P D cl (ws.set q0 (a, .inl (cA, n, .inl (upd f k x)))) H1 → va_D A (ws.set q0 (a, .inl (cA, n, .inl (upd f k x)))) → va_S A H0 H1 locs1 → W p l e R s m args below meth c H1 locs1 cells slots Q (F0 m (pc + 1) ls rest)) : W p l e R s m args below meth c H locs cells slots Q (F0 m pc ls (.int x :: .int (nI k) :: .ref a :: rest)) := by
  refine va_iast hexec hb hK hP hD hS q0 t0 ha ht (vp_in_nI hk hn) hdg ?_
  rw [nI_clamp (Nat.lt_trans hk hn)]
  exact kk
end
theorem oh_bm {z : Int} (h1 : -2147483648 ≤ z) (h2 : z < 2147483648) : z.bmod (2 ^ 32) = z := by
  unfold Int.bmod; simp only []; omega
theorem oh_bmL {z : Int} (h1 : -9223372036854775808 ≤ z) (h2 : z < 9223372036854775808) : z.bmod (2 ^ 64) = z := by
  unfold Int.bmod; simp only []; omega
theorem oh_add {a b : Int32} (h1 : -2147483648 ≤ a.toInt + b.toInt) (h2 : a.toInt + b.toInt < 2147483648) : (a + b).toInt = a.toInt + b.toInt := by rw [Int32.toInt_add]; exact oh_bm h1 h2
theorem oh_sub {a b : Int32} (h1 : -2147483648 ≤ a.toInt - b.toInt) (h2 : a.toInt - b.toInt < 2147483648) : (a - b).toInt = a.toInt - b.toInt := by rw [Int32.toInt_sub]; exact oh_bm h1 h2
theorem oh_mul {a b : Int32} (h1 : -2147483648 ≤ a.toInt * b.toInt) (h2 : a.toInt * b.toInt < 2147483648) : (a * b).toInt = a.toInt * b.toInt := by rw [Int32.toInt_mul]; exact oh_bm h1 h2
theorem oh_addL {a b : Int64} (h1 : -9223372036854775808 ≤ a.toInt + b.toInt) (h2 : a.toInt + b.toInt < 9223372036854775808) : (a + b).toInt = a.toInt + b.toInt := by rw [Int64.toInt_add]; exact oh_bmL h1 h2
theorem oh_subL {a b : Int64} (h1 : -9223372036854775808 ≤ a.toInt - b.toInt) (h2 : a.toInt - b.toInt < 9223372036854775808) : (a - b).toInt = a.toInt - b.toInt := by rw [Int64.toInt_sub]; exact oh_bmL h1 h2
theorem oh_mulL {a b : Int64} (h1 : -9223372036854775808 ≤ a.toInt * b.toInt) (h2 : a.toInt * b.toInt < 9223372036854775808) : (a * b).toInt = a.toInt * b.toInt := by rw [Int64.toInt_mul]; exact oh_bmL h1 h2
theorem oh_mb {a b A B : Int} (h1 : -A ≤ a) (h2 : a ≤ A) (h3 : -B ≤ b) (h4 : b ≤ B) : -(A * B) ≤ a * b ∧ a * b ≤ A * B := by
  have e : (a * b).natAbs = a.natAbs * b.natAbs := Int.natAbs_mul a b
  have l : a.natAbs * b.natAbs ≤ A.natAbs * B.natAbs := Nat.mul_le_mul (by omega) (by omega)
  have f : ((A.natAbs * B.natAbs : Nat) : Int) = A * B := by rw [Int.natCast_mul, Int.natAbs_of_nonneg (by omega), Int.natAbs_of_nonneg (by omega)]
  have l2 : ((a * b).natAbs : Int) ≤ A * B := by rw [← f, e]; exact Int.ofNat_le.mpr l
  omega
/-- a turn in ints, in range -/
theorem oh_t32 {ax ay bx bY cx cy : Int32} (ha : oh_inR ax ay) (hb : oh_inR bx bY) (hc : oh_inR cx cy) : ((bx - ax) * (cy - ay) - (bY - ay) * (cx - ax)).toInt = oh_cp (ax.toInt, ay.toInt) (bx.toInt, bY.toInt) (cx.toInt, cy.toInt) := by
  obtain ⟨a1, a2, a3, a4⟩ := ha
  obtain ⟨b1, b2, b3, b4⟩ := hb
  obtain ⟨c1, c2, c3, c4⟩ := hc
  have e1 : (bx - ax).toInt = bx.toInt - ax.toInt := oh_sub (by omega) (by omega)
  have e2 : (cy - ay).toInt = cy.toInt - ay.toInt := oh_sub (by omega) (by omega)
  have e3 : (bY - ay).toInt = bY.toInt - ay.toInt := oh_sub (by omega) (by omega)
  have e4 : (cx - ax).toInt = cx.toInt - ax.toInt := oh_sub (by omega) (by omega)
  have m1 := oh_mb (a := bx.toInt - ax.toInt) (b := cy.toInt - ay.toInt) (A := 32766) (B := 32766) (by omega) (by omega) (by omega) (by omega)
  have m2 := oh_mb (a := bY.toInt - ay.toInt) (b := cx.toInt - ax.toInt) (A := 32766) (B := 32766) (by omega) (by omega) (by omega) (by omega)
  have e5 : ((bx - ax) * (cy - ay)).toInt = (bx.toInt - ax.toInt) * (cy.toInt - ay.toInt) := by rw [oh_mul (by rw [e1, e2]; omega) (by rw [e1, e2]; omega), e1, e2]
  have e6 : ((bY - ay) * (cx - ax)).toInt = (bY.toInt - ay.toInt) * (cx.toInt - ax.toInt) := by rw [oh_mul (by rw [e3, e4]; omega) (by rw [e3, e4]; omega), e3, e4]
  rw [oh_sub (by rw [e5, e6]; omega) (by rw [e5, e6]; omega), e5, e6]
  rfl
/-- a turn in longs, in range -/
theorem oh_t64 {ax ay bx bY cx cy : Int64} {A1 A2 B1 B2 C1 C2 : Int} (ea1 : ax.toInt = A1) (ea2 : ay.toInt = A2) (eb1 : bx.toInt = B1) (eb2 : bY.toInt = B2) (ec1 : cx.toInt = C1) (ec2 : cy.toInt = C2) (a1 : -16383 ≤ A1) (a2 : A1 ≤ 16383) (a3 : -16383 ≤ A2) (a4 : A2 ≤ 16383) (b1 : -16383 ≤ B1) (b2 : B1 ≤ 16383) (b3 : -16383 ≤ B2) (b4 : B2 ≤ 16383) (c1 : -16383 ≤ C1) (c2 : C1 ≤ 16383) (c3 : -16383 ≤ C2) (c4 : C2 ≤ 16383) : ((bx - ax) * (cy - ay) - (bY - ay) * (cx - ax)).toInt = oh_cp (A1, A2) (B1, B2) (C1, C2) := by
  subst ea1; subst ea2; subst eb1; subst eb2; subst ec1; subst ec2
  have e1 : (bx - ax).toInt = bx.toInt - ax.toInt := oh_subL (by omega) (by omega)
  have e2 : (cy - ay).toInt = cy.toInt - ay.toInt := oh_subL (by omega) (by omega)
  have e3 : (bY - ay).toInt = bY.toInt - ay.toInt := oh_subL (by omega) (by omega)
  have e4 : (cx - ax).toInt = cx.toInt - ax.toInt := oh_subL (by omega) (by omega)
  have m1 := oh_mb (a := bx.toInt - ax.toInt) (b := cy.toInt - ay.toInt) (A := 32766) (B := 32766) (by omega) (by omega) (by omega) (by omega)
  have m2 := oh_mb (a := bY.toInt - ay.toInt) (b := cx.toInt - ax.toInt) (A := 32766) (B := 32766) (by omega) (by omega) (by omega) (by omega)
  have e5 : ((bx - ax) * (cy - ay)).toInt = (bx.toInt - ax.toInt) * (cy.toInt - ay.toInt) := by rw [oh_mulL (by rw [e1, e2]; omega) (by rw [e1, e2]; omega), e1, e2]
  have e6 : ((bY - ay) * (cx - ax)).toInt = (bY.toInt - ay.toInt) * (cx.toInt - ax.toInt) := by rw [oh_mulL (by rw [e3, e4]; omega) (by rw [e3, e4]; omega), e3, e4]
  rw [oh_subL (by rw [e5, e6]; omega) (by rw [e5, e6]; omega), e5, e6]
  rfl
theorem oh_ltI {x y : Int32} (h : x < y) : x.toInt < y.toInt := Int32.lt_iff_toInt_lt.mp h
theorem oh_nltI {x y : Int32} (h : ¬ x < y) : y.toInt ≤ x.toInt := Int.not_lt.mp (fun q => h (Int32.lt_iff_toInt_lt.mpr q))
theorem oh_leI {x y : Int32} (h : x ≤ y) : x.toInt ≤ y.toInt := Int32.le_iff_toInt_le.mp h
theorem oh_nleI {x y : Int32} (h : ¬ x ≤ y) : y.toInt < x.toInt := Int.not_le.mp (fun q => h (Int32.le_iff_toInt_le.mpr q))
theorem oh_eqI {x y : Int32} (h : x = y) : x.toInt = y.toInt := congrArg Int32.toInt h
theorem oh_neI {x y : Int32} (h : ¬ x = y) : x.toInt ≠ y.toInt := fun q => h (Int32.toInt_inj.mp q)
theorem oh_z0 : (0 : Int32).toInt = 0 := by decide
theorem oh_ltI0 {x : Int32} (h : x < 0) : x.toInt < 0 := by have q := oh_ltI h; rw [oh_z0] at q; exact q
theorem oh_nltI0 {x : Int32} (h : ¬ x < 0) : 0 ≤ x.toInt := by have q := oh_nltI h; rw [oh_z0] at q; exact q
theorem oh_leI0 {x : Int32} (h : x ≤ 0) : x.toInt ≤ 0 := by have q := oh_leI h; rw [oh_z0] at q; exact q
theorem oh_nleI0 {x : Int32} (h : ¬ x ≤ 0) : 0 < x.toInt := by have q := oh_nleI h; rw [oh_z0] at q; exact q
theorem oh_ltI0r {x : Int32} (h : 0 < x) : 0 < x.toInt := by have q := oh_ltI h; rw [oh_z0] at q; exact q
theorem oh_nltI0r {x : Int32} (h : ¬ 0 < x) : x.toInt ≤ 0 := by have q := oh_nltI h; rw [oh_z0] at q; exact q
theorem oh_leI0r {x : Int32} (h : 0 ≤ x) : 0 ≤ x.toInt := by have q := oh_leI h; rw [oh_z0] at q; exact q
theorem oh_nleI0r {x : Int32} (h : ¬ 0 ≤ x) : x.toInt < 0 := by have q := oh_nleI h; rw [oh_z0] at q; exact q
theorem oh_eqI0 {x : Int32} (h : x = 0) : x.toInt = 0 := by have q := oh_eqI h; rw [oh_z0] at q; exact q
theorem oh_neI0 {x : Int32} (h : ¬ x = 0) : x.toInt ≠ 0 := by have q := oh_neI h; rw [oh_z0] at q; exact q
/-- x times u and y times v in ints, in range -/
theorem oh_r32 {x y u v : Int32} (h1 : oh_inR x y) (h2 : oh_inR u v) : (x * u + y * v).toInt = x.toInt * u.toInt + y.toInt * v.toInt := by
  obtain ⟨a1, a2, a3, a4⟩ := h1
  obtain ⟨b1, b2, b3, b4⟩ := h2
  have m1 := oh_mb (A := 16383) (B := 16383) a1 a2 b1 b2
  have m2 := oh_mb (A := 16383) (B := 16383) a3 a4 b3 b4
  have e1 : (x * u).toInt = x.toInt * u.toInt := oh_mul (by omega) (by omega)
  have e2 : (y * v).toInt = y.toInt * v.toInt := oh_mul (by omega) (by omega)
  rw [oh_add (by omega) (by omega), e1, e2]
theorem oh_q32 {ax ay bx bY : Int32} (ha : oh_inR ax ay) (hb : oh_inR bx bY) : ((ax - bx) * (ax - bx) + (ay - bY) * (ay - bY)).toInt = oh_d2 (bx.toInt, bY.toInt) (ax.toInt, ay.toInt) := by
  obtain ⟨a1, a2, a3, a4⟩ := ha
  obtain ⟨b1, b2, b3, b4⟩ := hb
  have e1 : (ax - bx).toInt = ax.toInt - bx.toInt := oh_sub (by omega) (by omega)
  have e3 : (ay - bY).toInt = ay.toInt - bY.toInt := oh_sub (by omega) (by omega)
  have m1 := oh_mb (a := ax.toInt - bx.toInt) (b := ax.toInt - bx.toInt) (A := 32766) (B := 32766) (by omega) (by omega) (by omega) (by omega)
  have m2 := oh_mb (a := ay.toInt - bY.toInt) (b := ay.toInt - bY.toInt) (A := 32766) (B := 32766) (by omega) (by omega) (by omega) (by omega)
  have e5 : ((ax - bx) * (ax - bx)).toInt = (ax.toInt - bx.toInt) * (ax.toInt - bx.toInt) := by rw [oh_mul (by rw [e1]; omega) (by rw [e1]; omega), e1]
  have e6 : ((ay - bY) * (ay - bY)).toInt = (ay.toInt - bY.toInt) * (ay.toInt - bY.toInt) := by rw [oh_mul (by rw [e3]; omega) (by rw [e3]; omega), e3]
  rw [oh_add (by rw [e5, e6]; omega) (by rw [e5, e6]; omega), e5, e6]
  rfl
end
section
set_option maxHeartbeats 4000000 in
set_option maxRecDepth 100000 in
theorem k_X0_inRange (l : Launch) (x y : Int32) : Met l yX0_inRange wsX0_inRange ({ frames := 0, cells := 0, slots := 0, locals := 0 }) (va_Pc [.int x, .int y] (fun _ => True)) (vp_Si (fun r => (oh_inR x y ∧ r = 1) ∨ (¬ oh_inR x y ∧ r = 0))) 0 0 (fun _ => False) := by
  refine Met.ofW (cc := cX0_inRange) (maxL := 2) (ret := (some .boolean)) (by decide) rfl ?_
  intro p e s m args below meth c s₁ B hml hv
  obtain ⟨rfl, -⟩ := hv
  have hx := B.exec
  have hb := B.bytes
  have hr := B.returns
  have hts := atoms_spec (ws := wsX0_inRange) B.pre
  have hown : s.vm.findClass RX0 = some m.cls := findClass_of_methodNamed B.named
  have hlocks := B.notSynchronized
  have hl := lv_entry ([.int x, .int y]) (n := 2) (Nat.le_of_ble_eq_true rfl)
  rw [lg_entry_eq]
  generalize (lg_sl ([.int x, .int y]) ++ List.replicate (2 - (lg_sl ([.int x, .int y])).length) Slot.unset).toArray = ls at hl ⊢
  have hl : lv_has ls 2 [(0, .int x), (1, .int y)] := hl
  refine lv_sipush (v := -16383) hx hb dX0_inRange_0 (by decide) ?_
  refine lv_iload_n hx hb dX0_inRange_3 rfl (lv_at hl 0 rfl) ?_
  refine lv_icmp_gt (tgt := 32) hx hb dX0_inRange_4 (by decide) (fun c_4 => ?_) (fun c_4 => ?_)
  · have g_4 : x.toInt < (-16383) := by have q := oh_ltI c_4; rw [(show (-16383 : Int32).toInt = -16383 by decide)] at q; exact q
    refine lv_iconst (v := nI 0) hx hb dX0_inRange_32 (by decide) ?_
    exact W.zret (v := nI 0) hx hb hr (by decide) (fun t ht hW => ⟨_, rfl, Or.inr ⟨fun q => by unfold oh_inR at q; omega, rfl⟩, ht⟩) (fun _ h => by cases h) dX0_inRange_33
  · have g_4 : (-16383) ≤ x.toInt := by have q := oh_nltI c_4; rw [(show (-16383 : Int32).toInt = -16383 by decide)] at q; exact q
    refine lv_iload_n hx hb dX0_inRange_7 rfl (lv_at hl 0 rfl) ?_
    refine lv_sipush (v := nI 16383) hx hb dX0_inRange_8 (by decide) ?_
    refine lv_icmp_gt (tgt := 32) hx hb dX0_inRange_11 (by decide) (fun c_11 => ?_) (fun c_11 => ?_)
    · have g_11 : (16383 : Int) < x.toInt := by have q := oh_ltI c_11; rw [nI_toInt (n := 16383) (by omega)] at q; exact q
      refine lv_iconst (v := nI 0) hx hb dX0_inRange_32 (by decide) ?_
      exact W.zret (v := nI 0) hx hb hr (by decide) (fun t ht hW => ⟨_, rfl, Or.inr ⟨fun q => by unfold oh_inR at q; omega, rfl⟩, ht⟩) (fun _ h => by cases h) dX0_inRange_33
    · have g_11 : x.toInt ≤ (16383 : Int) := by have q := oh_nltI c_11; rw [nI_toInt (n := 16383) (by omega)] at q; exact q
      refine lv_sipush (v := -16383) hx hb dX0_inRange_14 (by decide) ?_
      refine lv_iload_n hx hb dX0_inRange_17 rfl (lv_at hl 1 rfl) ?_
      refine lv_icmp_gt (tgt := 32) hx hb dX0_inRange_18 (by decide) (fun c_18 => ?_) (fun c_18 => ?_)
      · have g_18 : y.toInt < (-16383) := by have q := oh_ltI c_18; rw [(show (-16383 : Int32).toInt = -16383 by decide)] at q; exact q
        refine lv_iconst (v := nI 0) hx hb dX0_inRange_32 (by decide) ?_
        exact W.zret (v := nI 0) hx hb hr (by decide) (fun t ht hW => ⟨_, rfl, Or.inr ⟨fun q => by unfold oh_inR at q; omega, rfl⟩, ht⟩) (fun _ h => by cases h) dX0_inRange_33
      · have g_18 : (-16383) ≤ y.toInt := by have q := oh_nltI c_18; rw [(show (-16383 : Int32).toInt = -16383 by decide)] at q; exact q
        refine lv_iload_n hx hb dX0_inRange_21 rfl (lv_at hl 1 rfl) ?_
        refine lv_sipush (v := nI 16383) hx hb dX0_inRange_22 (by decide) ?_
        refine lv_icmp_gt (tgt := 32) hx hb dX0_inRange_25 (by decide) (fun c_25 => ?_) (fun c_25 => ?_)
        · have g_25 : (16383 : Int) < y.toInt := by have q := oh_ltI c_25; rw [nI_toInt (n := 16383) (by omega)] at q; exact q
          refine lv_iconst (v := nI 0) hx hb dX0_inRange_32 (by decide) ?_
          exact W.zret (v := nI 0) hx hb hr (by decide) (fun t ht hW => ⟨_, rfl, Or.inr ⟨fun q => by unfold oh_inR at q; omega, rfl⟩, ht⟩) (fun _ h => by cases h) dX0_inRange_33
        · have g_25 : y.toInt ≤ (16383 : Int) := by have q := oh_nltI c_25; rw [nI_toInt (n := 16383) (by omega)] at q; exact q
          refine lv_iconst (v := nI 1) hx hb dX0_inRange_28 (by decide) ?_
          refine lv_goto (tgt := 33) hx hb dX0_inRange_29 (by decide) ?_
          exact W.zret (v := nI 1) hx hb hr (by decide) (fun t ht hW => ⟨_, rfl, Or.inl ⟨⟨by omega, by omega, by omega, by omega⟩, rfl⟩, ht⟩) (fun _ h => by cases h) dX0_inRange_33

set_option maxHeartbeats 4000000 in
set_option maxRecDepth 100000 in
theorem k_X0_comesBefore (l : Launch) (a b x y : Int32) : Met l yX0_comesBefore wsX0_comesBefore ({ frames := 0, cells := 0, slots := 0, locals := 0 }) (va_Pc [.int a, .int b, .int x, .int y] (fun _ => True)) (vp_Si (fun r => (oh_lx (a.toInt, b.toInt) (x.toInt, y.toInt) ∧ r = 1) ∨ (¬ oh_lx (a.toInt, b.toInt) (x.toInt, y.toInt) ∧ r = 0))) 0 0 (fun _ => False) := by
  refine Met.ofW (cc := cX0_comesBefore) (maxL := 4) (ret := (some .boolean)) (by decide) rfl ?_
  intro p e s m args below meth c s₁ B hml hv
  obtain ⟨rfl, -⟩ := hv
  have hx := B.exec
  have hb := B.bytes
  have hr := B.returns
  have hts := atoms_spec (ws := wsX0_comesBefore) B.pre
  have hown : s.vm.findClass RX0 = some m.cls := findClass_of_methodNamed B.named
  have hlocks := B.notSynchronized
  have hl := lv_entry ([.int a, .int b, .int x, .int y]) (n := 4) (Nat.le_of_ble_eq_true rfl)
  rw [lg_entry_eq]
  generalize (lg_sl ([.int a, .int b, .int x, .int y]) ++ List.replicate (4 - (lg_sl ([.int a, .int b, .int x, .int y])).length) Slot.unset).toArray = ls at hl ⊢
  have hl : lv_has ls 4 [(0, .int a), (1, .int b), (2, .int x), (3, .int y)] := hl
  refine lv_iload_n hx hb dX0_comesBefore_0 rfl (lv_at hl 0 rfl) ?_
  refine lv_iload_n hx hb dX0_comesBefore_1 rfl (lv_at hl 2 rfl) ?_
  refine lv_icmp_lt (tgt := 15) hx hb dX0_comesBefore_2 (by decide) (fun c_2 => ?_) (fun c_2 => ?_)
  · have g_2 : a.toInt < x.toInt := oh_ltI c_2
    refine lv_iconst (v := nI 1) hx hb dX0_comesBefore_15 (by decide) ?_
    refine lv_goto (tgt := 20) hx hb dX0_comesBefore_16 (by decide) ?_
    exact W.zret (v := nI 1) hx hb hr (by decide) (fun t ht hW => ⟨_, rfl, Or.inl ⟨by show _ ∨ _; dsimp only; omega, rfl⟩, ht⟩) (fun _ h => by cases h) dX0_comesBefore_20
  · have g_2 : x.toInt ≤ a.toInt := oh_nltI c_2
    refine lv_iload_n hx hb dX0_comesBefore_5 rfl (lv_at hl 0 rfl) ?_
    refine lv_iload_n hx hb dX0_comesBefore_6 rfl (lv_at hl 2 rfl) ?_
    refine lv_icmp_ne (tgt := 19) hx hb dX0_comesBefore_7 (by decide) (fun c_7 => ?_) (fun c_7 => ?_)
    · have g_7 : a.toInt ≠ x.toInt := oh_neI c_7
      refine lv_iconst (v := nI 0) hx hb dX0_comesBefore_19 (by decide) ?_
      exact W.zret (v := nI 0) hx hb hr (by decide) (fun t ht hW => ⟨_, rfl, Or.inr ⟨fun q => by unfold oh_lx at q; dsimp only at q; omega, rfl⟩, ht⟩) (fun _ h => by cases h) dX0_comesBefore_20
    · have g_7 : a.toInt = x.toInt := oh_eqI c_7
      refine lv_iload_n hx hb dX0_comesBefore_10 rfl (lv_at hl 1 rfl) ?_
      refine lv_iload_n hx hb dX0_comesBefore_11 rfl (lv_at hl 3 rfl) ?_
      refine lv_icmp_ge (tgt := 19) hx hb dX0_comesBefore_12 (by decide) (fun c_12 => ?_) (fun c_12 => ?_)
      · have g_12 : y.toInt ≤ b.toInt := oh_leI c_12
        refine lv_iconst (v := nI 0) hx hb dX0_comesBefore_19 (by decide) ?_
        exact W.zret (v := nI 0) hx hb hr (by decide) (fun t ht hW => ⟨_, rfl, Or.inr ⟨fun q => by unfold oh_lx at q; dsimp only at q; omega, rfl⟩, ht⟩) (fun _ h => by cases h) dX0_comesBefore_20
      · have g_12 : b.toInt < y.toInt := oh_nleI c_12
        refine lv_iconst (v := nI 1) hx hb dX0_comesBefore_15 (by decide) ?_
        refine lv_goto (tgt := 20) hx hb dX0_comesBefore_16 (by decide) ?_
        exact W.zret (v := nI 1) hx hb hr (by decide) (fun t ht hW => ⟨_, rfl, Or.inl ⟨by show _ ∨ _; dsimp only; omega, rfl⟩, ht⟩) (fun _ h => by cases h) dX0_comesBefore_20

set_option maxHeartbeats 4000000 in
set_option maxRecDepth 100000 in
theorem k_X0_isCorner (l : Launch) (dC : Nat → ClassId) (dI : Nat → Nat → Nat) (cI : ClassId) (h a1 a2 a3 a4 N n : Nat) (came : Int32) (fx fy rx ry : Nat → Int32) (i : Int32) (hN : N ≤ 64) (hn : n ≤ N) : Met l yX0_isCorner wsX0_isCorner ({ frames := 0, cells := 0, slots := 0, locals := 0 }) (va_Pc [.ref h, .int i] (fun U => va_P (dC, dI) vwCl [(h, .inr (0, [.int (nI N), .ref a1, .ref a2, .ref a3, .ref a4, .int (nI n), .int came])), (a1, .inl (cI, N, .inl fx)), (a2, .inl (cI, N, .inl fy)), (a3, .inl (cI, N, .inl rx)), (a4, .inl (cI, N, .inl ry))] U.heap ∧ va_K (dC, dI) vwCl [(cI, .int)] U)) (vp_Si (fun r => ((0 ≤ i.toInt ∧ i.toInt < (n : Int)) ∧ r = 1) ∨ (¬ (0 ≤ i.toInt ∧ i.toInt < (n : Int)) ∧ r = 0))) 0 0 (fun _ => False) := by
  refine Met.ofW (cc := cX0_isCorner) (maxL := 2) (ret := (some .boolean)) (by decide) rfl ?_
  intro p e s m args below meth c s₁ B hml hv
  obtain ⟨rfl, hP, hK⟩ := hv
  have hx := B.exec
  have hb := B.bytes
  have hr := B.returns
  have hts := atoms_spec (ws := wsX0_isCorner) B.pre
  have hown : s.vm.findClass RX0 = some m.cls := findClass_of_methodNamed B.named
  have hlocks := B.notSynchronized
  have hin0 : ∀ w ∈ wsX00, w ∈ wsX0_isCorner := fun w h => List.mem_cons_of_mem _ (List.mem_append_right _ h)
  have hl := lv_entry ([.ref h, .int i]) (n := 2) (Nat.le_of_ble_eq_true rfl)
  rw [lg_entry_eq]
  generalize (lg_sl ([.ref h, .int i]) ++ List.replicate (2 - (lg_sl ([.ref h, .int i])).length) Slot.unset).toArray = ls at hl ⊢
  have hl : lv_has ls 2 [(0, .ref h), (1, .int i)] := hl
  refine lv_iconst (v := nI 0) hx hb dX0_isCorner_0 (by decide) ?_
  refine lv_iload_n hx hb dX0_isCorner_1 rfl (lv_at hl 1 rfl) ?_
  refine lv_icmp_gt (tgt := 17) hx hb dX0_isCorner_2 (by decide) (fun c_2 => ?_) (fun c_2 => ?_)
  · have g_2 : i.toInt < (0 : Int) := by have q := oh_ltI c_2; rw [nI_toInt (n := 0) (by omega)] at q; exact q
    refine lv_iconst (v := nI 0) hx hb dX0_isCorner_17 (by decide) ?_
    exact W.zret (v := nI 0) hx hb hr (by decide) (fun t ht hW => ⟨_, rfl, Or.inr ⟨fun q => by omega, rfl⟩, ht⟩) (fun _ h => by cases h) dX0_isCorner_18
  · have g_2 : (0 : Int) ≤ i.toInt := by have q := oh_nltI c_2; rw [nI_toInt (n := 0) (by omega)] at q; exact q
    refine lv_iload_n hx hb dX0_isCorner_5 rfl (lv_at hl 1 rfl) ?_
    refine lv_aload_n hx hb dX0_isCorner_6 rfl (lv_at hl 0 rfl) ?_
    refine va_get (D := (dC, dI)) (ci := 0) (v := .int (nI n)) (C := RX0) (T := TX0) (N := 7) hx hb hts hin0 hown hK hP 0 rfl rfl 5 (by decide) (hts (.fieldLink RX0 32 "OnlineHull" "corners" "I") (by decide +kernel)) (fun _ h9 => h9) rfl dX0_isCorner_7 ?_
    refine lv_icmp_ge (tgt := 17) hx hb dX0_isCorner_10 (by decide) (fun c_10 => ?_) (fun c_10 => ?_)
    · have g_10 : (n : Int) ≤ i.toInt := by have q := oh_leI c_10; rw [nI_toInt (n := n) (by omega)] at q; exact q
      refine lv_iconst (v := nI 0) hx hb dX0_isCorner_17 (by decide) ?_
      exact W.zret (v := nI 0) hx hb hr (by decide) (fun t ht hW => ⟨_, rfl, Or.inr ⟨fun q => by omega, rfl⟩, ht⟩) (fun _ h => by cases h) dX0_isCorner_18
    · have g_10 : i.toInt < (n : Int) := by have q := oh_nleI c_10; rw [nI_toInt (n := n) (by omega)] at q; exact q
      refine lv_iconst (v := nI 1) hx hb dX0_isCorner_13 (by decide) ?_
      refine lv_goto (tgt := 18) hx hb dX0_isCorner_14 (by decide) ?_
      exact W.zret (v := nI 1) hx hb hr (by decide) (fun t ht hW => ⟨_, rfl, Or.inl ⟨⟨by omega, by omega⟩, rfl⟩, ht⟩) (fun _ h => by cases h) dX0_isCorner_18

set_option maxHeartbeats 4000000 in
set_option maxRecDepth 100000 in
theorem k_X0_next (l : Launch) (dC : Nat → ClassId) (dI : Nat → Nat → Nat) (cI : ClassId) (h a1 a2 a3 a4 N n : Nat) (came : Int32) (fx fy rx ry : Nat → Int32) (i : Nat) (hN : N ≤ 64) (hn : n ≤ N) (hi : i < n) : Met l yX0_next wsX0_next ({ frames := 0, cells := 0, slots := 0, locals := 0 }) (va_Pc [.ref h, .int (nI i)] (fun U => va_P (dC, dI) vwCl [(h, .inr (0, [.int (nI N), .ref a1, .ref a2, .ref a3, .ref a4, .int (nI n), .int came])), (a1, .inl (cI, N, .inl fx)), (a2, .inl (cI, N, .inl fy)), (a3, .inl (cI, N, .inl rx)), (a4, .inl (cI, N, .inl ry))] U.heap ∧ va_K (dC, dI) vwCl [(cI, .int)] U)) (vp_Si (fun r => r = nI (oh_nx n i))) 0 0 (fun _ => False) := by
  refine Met.ofW (cc := cX0_next) (maxL := 2) (ret := (some .int)) (by decide) rfl ?_
  intro p e s m args below meth c s₁ B hml hv
  obtain ⟨rfl, hP, hK⟩ := hv
  have hx := B.exec
  have hb := B.bytes
  have hr := B.returns
  have hts := atoms_spec (ws := wsX0_next) B.pre
  have hown : s.vm.findClass RX0 = some m.cls := findClass_of_methodNamed B.named
  have hlocks := B.notSynchronized
  have hin0 : ∀ w ∈ wsX00, w ∈ wsX0_next := fun w h => List.mem_cons_of_mem _ (List.mem_append_right _ h)
  have hl := lv_entry ([.ref h, .int (nI i)]) (n := 2) (Nat.le_of_ble_eq_true rfl)
  rw [lg_entry_eq]
  generalize (lg_sl ([.ref h, .int (nI i)]) ++ List.replicate (2 - (lg_sl ([.ref h, .int (nI i)])).length) Slot.unset).toArray = ls at hl ⊢
  have hl : lv_has ls 2 [(0, .ref h), (1, .int (nI i))] := hl
  refine lv_iload_n hx hb dX0_next_0 rfl (lv_at hl 1 rfl) ?_
  refine lv_iconst (v := nI 1) hx hb dX0_next_1 (by decide) ?_
  refine lv_iadd hx hb dX0_next_2 ?_
  rw [nI_add i 1]
  refine lv_aload_n hx hb dX0_next_3 rfl (lv_at hl 0 rfl) ?_
  refine va_get (D := (dC, dI)) (ci := 0) (v := .int (nI n)) (C := RX0) (T := TX0) (N := 7) hx hb hts hin0 hown hK hP 0 rfl rfl 5 (by decide) (hts (.fieldLink RX0 32 "OnlineHull" "corners" "I") (by decide +kernel)) (fun _ h9 => h9) rfl dX0_next_4 ?_
  refine lv_icmp_ge (tgt := 16) hx hb dX0_next_7 (by decide) (fun c_7 => ?_) (fun c_7 => ?_)
  · have g_7 : n ≤ (i + 1) := (nI_leI (a := n) (b := (i + 1)) (by omega) (by omega)).mp c_7
    refine lv_iconst (v := nI 0) hx hb dX0_next_16 (by decide) ?_
    exact W.iret (v := nI 0) hx hb hr (fun t ht hW => ⟨_, rfl, by unfold oh_nx; first | rw [if_pos (by omega)] | rw [if_neg (by omega)], ht⟩) (fun _ h => by cases h) dX0_next_17
  · have g_7 : ¬ n ≤ (i + 1) := fun q => c_7 ((nI_leI (a := n) (b := (i + 1)) (by omega) (by omega)).mpr q)
    refine lv_iload_n hx hb dX0_next_10 rfl (lv_at hl 1 rfl) ?_
    refine lv_iconst (v := nI 1) hx hb dX0_next_11 (by decide) ?_
    refine lv_iadd hx hb dX0_next_12 ?_
    rw [nI_add i 1]
    refine lv_goto (tgt := 17) hx hb dX0_next_13 (by decide) ?_
    exact W.iret (v := nI (i + 1)) hx hb hr (fun t ht hW => ⟨_, rfl, by unfold oh_nx; first | rw [if_pos (by omega)] | rw [if_neg (by omega)], ht⟩) (fun _ h => by cases h) dX0_next_17

set_option maxHeartbeats 4000000 in
set_option maxRecDepth 100000 in
theorem k_X0_previous (l : Launch) (dC : Nat → ClassId) (dI : Nat → Nat → Nat) (cI : ClassId) (h a1 a2 a3 a4 N n : Nat) (came : Int32) (fx fy rx ry : Nat → Int32) (i : Nat) (hN : N ≤ 64) (hn : n ≤ N) (hi : i < n) : Met l yX0_previous wsX0_previous ({ frames := 0, cells := 0, slots := 0, locals := 0 }) (va_Pc [.ref h, .int (nI i)] (fun U => va_P (dC, dI) vwCl [(h, .inr (0, [.int (nI N), .ref a1, .ref a2, .ref a3, .ref a4, .int (nI n), .int came])), (a1, .inl (cI, N, .inl fx)), (a2, .inl (cI, N, .inl fy)), (a3, .inl (cI, N, .inl rx)), (a4, .inl (cI, N, .inl ry))] U.heap ∧ va_K (dC, dI) vwCl [(cI, .int)] U)) (vp_Si (fun r => r = nI (oh_pv n i))) 0 0 (fun _ => False) := by
  refine Met.ofW (cc := cX0_previous) (maxL := 2) (ret := (some .int)) (by decide) rfl ?_
  intro p e s m args below meth c s₁ B hml hv
  obtain ⟨rfl, hP, hK⟩ := hv
  have hx := B.exec
  have hb := B.bytes
  have hr := B.returns
  have hts := atoms_spec (ws := wsX0_previous) B.pre
  have hown : s.vm.findClass RX0 = some m.cls := findClass_of_methodNamed B.named
  have hlocks := B.notSynchronized
  have hin0 : ∀ w ∈ wsX00, w ∈ wsX0_previous := fun w h => List.mem_cons_of_mem _ (List.mem_append_right _ h)
  have hl := lv_entry ([.ref h, .int (nI i)]) (n := 2) (Nat.le_of_ble_eq_true rfl)
  rw [lg_entry_eq]
  generalize (lg_sl ([.ref h, .int (nI i)]) ++ List.replicate (2 - (lg_sl ([.ref h, .int (nI i)])).length) Slot.unset).toArray = ls at hl ⊢
  have hl : lv_has ls 2 [(0, .ref h), (1, .int (nI i))] := hl
  refine lv_iload_n hx hb dX0_previous_0 rfl (lv_at hl 1 rfl) ?_
  refine lv_if_le (tgt := 10) hx hb dX0_previous_1 (by decide) (fun c_1 => ?_) (fun c_1 => ?_)
  · have g_1 : i ≤ 0 := (nI_leI (a := i) (b := 0) (by omega) (by omega)).mp (nI_0 ▸ c_1)
    refine lv_aload_n hx hb dX0_previous_10 rfl (lv_at hl 0 rfl) ?_
    refine va_get (D := (dC, dI)) (ci := 0) (v := .int (nI n)) (C := RX0) (T := TX0) (N := 7) hx hb hts hin0 hown hK hP 0 rfl rfl 5 (by decide) (hts (.fieldLink RX0 32 "OnlineHull" "corners" "I") (by decide +kernel)) (fun _ h9 => h9) rfl dX0_previous_11 ?_
    refine lv_iconst (v := nI 1) hx hb dX0_previous_14 (by decide) ?_
    refine lv_isub hx hb dX0_previous_15 ?_
    rw [pk_sub (a := n) (b := 1) (by omega)]
    exact W.iret (v := nI (n - 1)) hx hb hr (fun t ht hW => ⟨_, rfl, by unfold oh_pv; first | rw [if_pos (by omega)] | rw [if_neg (by omega)], ht⟩) (fun _ h => by cases h) dX0_previous_16
  · have g_1 : ¬ i ≤ 0 := fun q => (nI_0 ▸ c_1) ((nI_leI (a := i) (b := 0) (by omega) (by omega)).mpr q)
    refine lv_iload_n hx hb dX0_previous_4 rfl (lv_at hl 1 rfl) ?_
    refine lv_iconst (v := nI 1) hx hb dX0_previous_5 (by decide) ?_
    refine lv_isub hx hb dX0_previous_6 ?_
    rw [pk_sub (a := i) (b := 1) (by omega)]
    refine lv_goto (tgt := 16) hx hb dX0_previous_7 (by decide) ?_
    exact W.iret (v := nI (i - 1)) hx hb hr (fun t ht hW => ⟨_, rfl, by unfold oh_pv; first | rw [if_pos (by omega)] | rw [if_neg (by omega)], ht⟩) (fun _ h => by cases h) dX0_previous_16

set_option maxHeartbeats 4000000 in
set_option maxRecDepth 100000 in
theorem k_X0_turn (l : Launch) (dC : Nat → ClassId) (dI : Nat → Nat → Nat) (cI : ClassId) (h a1 a2 a3 a4 N n : Nat) (came : Int32) (fx fy rx ry : Nat → Int32) (i : Nat) (x y : Int32) (hN : N ≤ 64) (hn : n ≤ N) (hi : i < n) (hR : ∀ j, j < n → oh_inR (fx j) (fy j)) (hq : oh_inR x y) : Met l yX0_turn wsX0_turn ({ frames := 1, cells := 0, slots := 0, locals := 21 }) (va_Pc [.ref h, .int (nI i), .int x, .int y] (fun U => va_P (dC, dI) vwCl [(h, .inr (0, [.int (nI N), .ref a1, .ref a2, .ref a3, .ref a4, .int (nI n), .int came])), (a1, .inl (cI, N, .inl fx)), (a2, .inl (cI, N, .inl fy)), (a3, .inl (cI, N, .inl rx)), (a4, .inl (cI, N, .inl ry))] U.heap ∧ va_K (dC, dI) vwCl [(cI, .int)] U)) (vp_Si (fun r => r.toInt = oh_sd n (oh_pt fx fy) (x.toInt, y.toInt) i)) 0 0 (fun _ => False) := by
  refine Met.ofW (cc := cX0_turn) (maxL := 7) (ret := (some .int)) (by decide) rfl ?_
  intro p e s m args below meth c s₁ B hml hv
  obtain ⟨rfl, hP, hK⟩ := hv
  have hx := B.exec
  have hb := B.bytes
  have hr := B.returns
  have hts := atoms_spec (ws := wsX0_turn) B.pre
  have hown : s.vm.findClass RX0 = some m.cls := findClass_of_methodNamed B.named
  have hlocks := B.notSynchronized
  have hin0 : ∀ w ∈ wsX00, w ∈ wsX0_turn := fun w h => List.mem_cons_of_mem _ (List.mem_append_right _ h)
  have hl := lv_entry ([.ref h, .int (nI i), .int x, .int y]) (n := 7) (Nat.le_of_ble_eq_true rfl)
  rw [lg_entry_eq]
  generalize (lg_sl ([.ref h, .int (nI i), .int x, .int y]) ++ List.replicate (7 - (lg_sl ([.ref h, .int (nI i), .int x, .int y])).length) Slot.unset).toArray = ls at hl ⊢
  have hl : lv_has ls 7 [(0, .ref h), (1, .int (nI i)), (2, .int x), (3, .int y)] := hl
  have hj : oh_nx n i < n := oh_nx_lt hi
  refine lv_aload_n hx hb dX0_turn_0 rfl (lv_at hl 0 rfl) ?_
  refine lv_iload_n hx hb dX0_turn_1 rfl (lv_at hl 1 rfl) ?_
  refine vp_callSi (va_Run.run (va_runV (As := [.int (nI i)]) (rest := []) ⟨hx, hb, hml, hown, hts⟩ (k_X0_next l dC dI cI h a1 a2 a3 a4 N n came fx fy rx ry i hN hn (by omega)) (cwV 1 hts gX0_turn_X0_next rfl rfl rfl (by decide +kernel) ⟨Nat.le_of_ble_eq_true rfl, Nat.le_of_ble_eq_true rfl⟩) (oh_pre (ci := 0) (q0 := 0) hK hP rfl rfl) rfl rfl hl.1 rfl (lv_room (Nat.le_of_ble_eq_true rfl)) dX0_turn_2 ⟨Nat.zero_le _, Nat.zero_le _⟩)) (fun r_2 hr_2 => ?_)
  subst hr_2
  refine lv_istore (lv' := [(4, .int (nI (oh_nx n i))), (0, .ref h), (1, .int (nI i)), (2, .int x), (3, .int y)]) hx hb dX0_turn_5 hl (by decide) rfl (fun ls hl => ?_)
  refine lv_aload_n hx hb dX0_turn_7 rfl (lv_at hl 1 rfl) ?_
  refine va_get (D := (dC, dI)) (ci := 0) (v := .ref a1) (C := RX0) (T := TX0) (N := 7) hx hb hts hin0 hown hK hP 0 rfl rfl 1 (by decide) (hts (.fieldLink RX0 19 "OnlineHull" "cornerX" "[I") (by decide +kernel)) (fun _ h9 => h9) rfl dX0_turn_8 ?_
  refine lv_iload hx hb dX0_turn_11 (lv_at hl 0 rfl) ?_
  refine oh_ald hx hb hK hP 1 0 rfl rfl (k := (oh_nx n i)) (by omega) (by omega) dX0_turn_13 ?_
  refine lv_aload_n hx hb dX0_turn_14 rfl (lv_at hl 1 rfl) ?_
  refine va_get (D := (dC, dI)) (ci := 0) (v := .ref a1) (C := RX0) (T := TX0) (N := 7) hx hb hts hin0 hown hK hP 0 rfl rfl 1 (by decide) (hts (.fieldLink RX0 19 "OnlineHull" "cornerX" "[I") (by decide +kernel)) (fun _ h9 => h9) rfl dX0_turn_15 ?_
  refine lv_iload_n hx hb dX0_turn_18 rfl (lv_at hl 2 rfl) ?_
  refine oh_ald hx hb hK hP 1 0 rfl rfl (k := i) (by omega) (by omega) dX0_turn_19 ?_
  refine lv_isub hx hb dX0_turn_20 ?_
  refine lv_istore (lv' := [(5, .int ((fx ((oh_nx n i))) - (fx i))), (4, .int (nI (oh_nx n i))), (0, .ref h), (1, .int (nI i)), (2, .int x), (3, .int y)]) hx hb dX0_turn_21 hl (by decide) rfl (fun ls hl => ?_)
  refine lv_aload_n hx hb dX0_turn_23 rfl (lv_at hl 2 rfl) ?_
  refine va_get (D := (dC, dI)) (ci := 0) (v := .ref a2) (C := RX0) (T := TX0) (N := 7) hx hb hts hin0 hown hK hP 0 rfl rfl 2 (by decide) (hts (.fieldLink RX0 23 "OnlineHull" "cornerY" "[I") (by decide +kernel)) (fun _ h9 => h9) rfl dX0_turn_24 ?_
  refine lv_iload hx hb dX0_turn_27 (lv_at hl 1 rfl) ?_
  refine oh_ald hx hb hK hP 2 0 rfl rfl (k := (oh_nx n i)) (by omega) (by omega) dX0_turn_29 ?_
  refine lv_aload_n hx hb dX0_turn_30 rfl (lv_at hl 2 rfl) ?_
  refine va_get (D := (dC, dI)) (ci := 0) (v := .ref a2) (C := RX0) (T := TX0) (N := 7) hx hb hts hin0 hown hK hP 0 rfl rfl 2 (by decide) (hts (.fieldLink RX0 23 "OnlineHull" "cornerY" "[I") (by decide +kernel)) (fun _ h9 => h9) rfl dX0_turn_31 ?_
  refine lv_iload_n hx hb dX0_turn_34 rfl (lv_at hl 3 rfl) ?_
  refine oh_ald hx hb hK hP 2 0 rfl rfl (k := i) (by omega) (by omega) dX0_turn_35 ?_
  refine lv_isub hx hb dX0_turn_36 ?_
  refine lv_istore (lv' := [(6, .int ((fy ((oh_nx n i))) - (fy i))), (5, .int ((fx ((oh_nx n i))) - (fx i))), (4, .int (nI (oh_nx n i))), (0, .ref h), (1, .int (nI i)), (2, .int x), (3, .int y)]) hx hb dX0_turn_37 hl (by decide) rfl (fun ls hl => ?_)
  refine lv_iload hx hb dX0_turn_39 (lv_at hl 1 rfl) ?_
  refine lv_iload_n hx hb dX0_turn_41 rfl (lv_at hl 6 rfl) ?_
  refine lv_aload_n hx hb dX0_turn_42 rfl (lv_at hl 3 rfl) ?_
  refine va_get (D := (dC, dI)) (ci := 0) (v := .ref a2) (C := RX0) (T := TX0) (N := 7) hx hb hts hin0 hown hK hP 0 rfl rfl 2 (by decide) (hts (.fieldLink RX0 23 "OnlineHull" "cornerY" "[I") (by decide +kernel)) (fun _ h9 => h9) rfl dX0_turn_43 ?_
  refine lv_iload_n hx hb dX0_turn_46 rfl (lv_at hl 4 rfl) ?_
  refine oh_ald hx hb hK hP 2 0 rfl rfl (k := i) (by omega) (by omega) dX0_turn_47 ?_
  refine lv_isub hx hb dX0_turn_48 ?_
  refine lv_imul hx hb dX0_turn_49 ?_
  refine lv_iload hx hb dX0_turn_50 (lv_at hl 0 rfl) ?_
  refine lv_iload_n hx hb dX0_turn_52 rfl (lv_at hl 5 rfl) ?_
  refine lv_aload_n hx hb dX0_turn_53 rfl (lv_at hl 3 rfl) ?_
  refine va_get (D := (dC, dI)) (ci := 0) (v := .ref a1) (C := RX0) (T := TX0) (N := 7) hx hb hts hin0 hown hK hP 0 rfl rfl 1 (by decide) (hts (.fieldLink RX0 19 "OnlineHull" "cornerX" "[I") (by decide +kernel)) (fun _ h9 => h9) rfl dX0_turn_54 ?_
  refine lv_iload_n hx hb dX0_turn_57 rfl (lv_at hl 4 rfl) ?_
  refine oh_ald hx hb hK hP 1 0 rfl rfl (k := i) (by omega) (by omega) dX0_turn_58 ?_
  refine lv_isub hx hb dX0_turn_59 ?_
  refine lv_imul hx hb dX0_turn_60 ?_
  refine lv_isub hx hb dX0_turn_61 ?_
  exact W.iret (v := (((fx ((oh_nx n i))) - (fx i)) * (y - (fy i))) - (((fy ((oh_nx n i))) - (fy i)) * (x - (fx i)))) hx hb hr (fun t ht hW => ⟨_, rfl, oh_t32 (hR i hi) (hR _ hj) hq, ht⟩) (fun _ h => by cases h) dX0_turn_62

set_option maxHeartbeats 4000000 in
set_option maxRecDepth 100000 in
theorem k_X0_reach (l : Launch) (dC : Nat → ClassId) (dI : Nat → Nat → Nat) (cI : ClassId) (h a1 a2 a3 a4 N n : Nat) (came : Int32) (fx fy rx ry : Nat → Int32) (i : Nat) (x y : Int32) (hN : N ≤ 64) (hn : n ≤ N) (hi : i < n) (hR : ∀ j, j < n → oh_inR (fx j) (fy j)) (hq : oh_inR x y) : Met l yX0_reach wsX0_reach ({ frames := 0, cells := 0, slots := 0, locals := 0 }) (va_Pc [.ref h, .int (nI i), .int x, .int y] (fun U => va_P (dC, dI) vwCl [(h, .inr (0, [.int (nI N), .ref a1, .ref a2, .ref a3, .ref a4, .int (nI n), .int came])), (a1, .inl (cI, N, .inl fx)), (a2, .inl (cI, N, .inl fy)), (a3, .inl (cI, N, .inl rx)), (a4, .inl (cI, N, .inl ry))] U.heap ∧ va_K (dC, dI) vwCl [(cI, .int)] U)) (vp_Si (fun r => r.toInt = x.toInt * (fx i).toInt + y.toInt * (fy i).toInt)) 0 0 (fun _ => False) := by
  refine Met.ofW (cc := cX0_reach) (maxL := 4) (ret := (some .int)) (by decide) rfl ?_
  intro p e s m args below meth c s₁ B hml hv
  obtain ⟨rfl, hP, hK⟩ := hv
  have hx := B.exec
  have hb := B.bytes
  have hr := B.returns
  have hts := atoms_spec (ws := wsX0_reach) B.pre
  have hown : s.vm.findClass RX0 = some m.cls := findClass_of_methodNamed B.named
  have hlocks := B.notSynchronized
  have hin0 : ∀ w ∈ wsX00, w ∈ wsX0_reach := fun w h => List.mem_cons_of_mem _ (List.mem_append_right _ h)
  have hl := lv_entry ([.ref h, .int (nI i), .int x, .int y]) (n := 4) (Nat.le_of_ble_eq_true rfl)
  rw [lg_entry_eq]
  generalize (lg_sl ([.ref h, .int (nI i), .int x, .int y]) ++ List.replicate (4 - (lg_sl ([.ref h, .int (nI i), .int x, .int y])).length) Slot.unset).toArray = ls at hl ⊢
  have hl : lv_has ls 4 [(0, .ref h), (1, .int (nI i)), (2, .int x), (3, .int y)] := hl
  refine lv_iload_n hx hb dX0_reach_0 rfl (lv_at hl 2 rfl) ?_
  refine lv_aload_n hx hb dX0_reach_1 rfl (lv_at hl 0 rfl) ?_
  refine va_get (D := (dC, dI)) (ci := 0) (v := .ref a1) (C := RX0) (T := TX0) (N := 7) hx hb hts hin0 hown hK hP 0 rfl rfl 1 (by decide) (hts (.fieldLink RX0 19 "OnlineHull" "cornerX" "[I") (by decide +kernel)) (fun _ h9 => h9) rfl dX0_reach_2 ?_
  refine lv_iload_n hx hb dX0_reach_5 rfl (lv_at hl 1 rfl) ?_
  refine oh_ald hx hb hK hP 1 0 rfl rfl (k := i) (by omega) (by omega) dX0_reach_6 ?_
  refine lv_imul hx hb dX0_reach_7 ?_
  refine lv_iload_n hx hb dX0_reach_8 rfl (lv_at hl 3 rfl) ?_
  refine lv_aload_n hx hb dX0_reach_9 rfl (lv_at hl 0 rfl) ?_
  refine va_get (D := (dC, dI)) (ci := 0) (v := .ref a2) (C := RX0) (T := TX0) (N := 7) hx hb hts hin0 hown hK hP 0 rfl rfl 2 (by decide) (hts (.fieldLink RX0 23 "OnlineHull" "cornerY" "[I") (by decide +kernel)) (fun _ h9 => h9) rfl dX0_reach_10 ?_
  refine lv_iload_n hx hb dX0_reach_13 rfl (lv_at hl 1 rfl) ?_
  refine oh_ald hx hb hK hP 2 0 rfl rfl (k := i) (by omega) (by omega) dX0_reach_14 ?_
  refine lv_imul hx hb dX0_reach_15 ?_
  refine lv_iadd hx hb dX0_reach_16 ?_
  exact W.iret (v := (x * (fx i)) + (y * (fy i))) hx hb hr (fun t ht hW => ⟨_, rfl, oh_r32 hq (hR i hi), ht⟩) (fun _ h => by cases h) dX0_reach_17

set_option maxHeartbeats 4000000 in
set_option maxRecDepth 100000 in
theorem k_X0_squaredDistance (l : Launch) (dC : Nat → ClassId) (dI : Nat → Nat → Nat) (cI : ClassId) (h a1 a2 a3 a4 N n : Nat) (came : Int32) (fx fy rx ry : Nat → Int32) (i j : Nat) (hN : N ≤ 64) (hn : n ≤ N) (hi : i < n) (hj : j < n) (hR : ∀ j, j < n → oh_inR (fx j) (fy j)) : Met l yX0_squaredDistance wsX0_squaredDistance ({ frames := 0, cells := 0, slots := 0, locals := 0 }) (va_Pc [.ref h, .int (nI i), .int (nI j)] (fun U => va_P (dC, dI) vwCl [(h, .inr (0, [.int (nI N), .ref a1, .ref a2, .ref a3, .ref a4, .int (nI n), .int came])), (a1, .inl (cI, N, .inl fx)), (a2, .inl (cI, N, .inl fy)), (a3, .inl (cI, N, .inl rx)), (a4, .inl (cI, N, .inl ry))] U.heap ∧ va_K (dC, dI) vwCl [(cI, .int)] U)) (vp_Si (fun r => r.toInt = oh_d2 (oh_pt fx fy j) (oh_pt fx fy i))) 0 0 (fun _ => False) := by
  refine Met.ofW (cc := cX0_squaredDistance) (maxL := 5) (ret := (some .int)) (by decide) rfl ?_
  intro p e s m args below meth c s₁ B hml hv
  obtain ⟨rfl, hP, hK⟩ := hv
  have hx := B.exec
  have hb := B.bytes
  have hr := B.returns
  have hts := atoms_spec (ws := wsX0_squaredDistance) B.pre
  have hown : s.vm.findClass RX0 = some m.cls := findClass_of_methodNamed B.named
  have hlocks := B.notSynchronized
  have hin0 : ∀ w ∈ wsX00, w ∈ wsX0_squaredDistance := fun w h => List.mem_cons_of_mem _ (List.mem_append_right _ h)
  have hl := lv_entry ([.ref h, .int (nI i), .int (nI j)]) (n := 5) (Nat.le_of_ble_eq_true rfl)
  rw [lg_entry_eq]
  generalize (lg_sl ([.ref h, .int (nI i), .int (nI j)]) ++ List.replicate (5 - (lg_sl ([.ref h, .int (nI i), .int (nI j)])).length) Slot.unset).toArray = ls at hl ⊢
  have hl : lv_has ls 5 [(0, .ref h), (1, .int (nI i)), (2, .int (nI j))] := hl
  refine lv_aload_n hx hb dX0_squaredDistance_0 rfl (lv_at hl 0 rfl) ?_
  refine va_get (D := (dC, dI)) (ci := 0) (v := .ref a1) (C := RX0) (T := TX0) (N := 7) hx hb hts hin0 hown hK hP 0 rfl rfl 1 (by decide) (hts (.fieldLink RX0 19 "OnlineHull" "cornerX" "[I") (by decide +kernel)) (fun _ h9 => h9) rfl dX0_squaredDistance_1 ?_
  refine lv_iload_n hx hb dX0_squaredDistance_4 rfl (lv_at hl 1 rfl) ?_
  refine oh_ald hx hb hK hP 1 0 rfl rfl (k := i) (by omega) (by omega) dX0_squaredDistance_5 ?_
  refine lv_aload_n hx hb dX0_squaredDistance_6 rfl (lv_at hl 0 rfl) ?_
  refine va_get (D := (dC, dI)) (ci := 0) (v := .ref a1) (C := RX0) (T := TX0) (N := 7) hx hb hts hin0 hown hK hP 0 rfl rfl 1 (by decide) (hts (.fieldLink RX0 19 "OnlineHull" "cornerX" "[I") (by decide +kernel)) (fun _ h9 => h9) rfl dX0_squaredDistance_7 ?_
  refine lv_iload_n hx hb dX0_squaredDistance_10 rfl (lv_at hl 2 rfl) ?_
  refine oh_ald hx hb hK hP 1 0 rfl rfl (k := j) (by omega) (by omega) dX0_squaredDistance_11 ?_
  refine lv_isub hx hb dX0_squaredDistance_12 ?_
  refine lv_istore_n (lv' := [(3, .int ((fx i) - (fx j))), (0, .ref h), (1, .int (nI i)), (2, .int (nI j))]) hx hb dX0_squaredDistance_13 rfl hl (by decide) rfl (fun ls hl => ?_)
  refine lv_aload_n hx hb dX0_squaredDistance_14 rfl (lv_at hl 1 rfl) ?_
  refine va_get (D := (dC, dI)) (ci := 0) (v := .ref a2) (C := RX0) (T := TX0) (N := 7) hx hb hts hin0 hown hK hP 0 rfl rfl 2 (by decide) (hts (.fieldLink RX0 23 "OnlineHull" "cornerY" "[I") (by decide +kernel)) (fun _ h9 => h9) rfl dX0_squaredDistance_15 ?_
  refine lv_iload_n hx hb dX0_squaredDistance_18 rfl (lv_at hl 2 rfl) ?_
  refine oh_ald hx hb hK hP 2 0 rfl rfl (k := i) (by omega) (by omega) dX0_squaredDistance_19 ?_
  refine lv_aload_n hx hb dX0_squaredDistance_20 rfl (lv_at hl 1 rfl) ?_
  refine va_get (D := (dC, dI)) (ci := 0) (v := .ref a2) (C := RX0) (T := TX0) (N := 7) hx hb hts hin0 hown hK hP 0 rfl rfl 2 (by decide) (hts (.fieldLink RX0 23 "OnlineHull" "cornerY" "[I") (by decide +kernel)) (fun _ h9 => h9) rfl dX0_squaredDistance_21 ?_
  refine lv_iload_n hx hb dX0_squaredDistance_24 rfl (lv_at hl 3 rfl) ?_
  refine oh_ald hx hb hK hP 2 0 rfl rfl (k := j) (by omega) (by omega) dX0_squaredDistance_25 ?_
  refine lv_isub hx hb dX0_squaredDistance_26 ?_
  refine lv_istore (lv' := [(4, .int ((fy i) - (fy j))), (3, .int ((fx i) - (fx j))), (0, .ref h), (1, .int (nI i)), (2, .int (nI j))]) hx hb dX0_squaredDistance_27 hl (by decide) rfl (fun ls hl => ?_)
  refine lv_iload_n hx hb dX0_squaredDistance_29 rfl (lv_at hl 1 rfl) ?_
  refine lv_iload_n hx hb dX0_squaredDistance_30 rfl (lv_at hl 1 rfl) ?_
  refine lv_imul hx hb dX0_squaredDistance_31 ?_
  refine lv_iload hx hb dX0_squaredDistance_32 (lv_at hl 0 rfl) ?_
  refine lv_iload hx hb dX0_squaredDistance_34 (lv_at hl 0 rfl) ?_
  refine lv_imul hx hb dX0_squaredDistance_36 ?_
  refine lv_iadd hx hb dX0_squaredDistance_37 ?_
  exact W.iret (v := (((fx i) - (fx j)) * ((fx i) - (fx j))) + (((fy i) - (fy j)) * ((fy i) - (fy j)))) hx hb hr (fun t ht hW => ⟨_, rfl, oh_q32 (hR i hi) (hR j hj), ht⟩) (fun _ h => by cases h) dX0_squaredDistance_38

set_option maxHeartbeats 4000000 in
set_option maxRecDepth 100000 in
theorem k_X0_size (l : Launch) (dC : Nat → ClassId) (dI : Nat → Nat → Nat) (cI : ClassId) (h a1 a2 a3 a4 N n : Nat) (came : Int32) (fx fy rx ry : Nat → Int32) (hN : N ≤ 64) (hn : n ≤ N) : Met l yX0_size wsX0_size ({ frames := 0, cells := 0, slots := 0, locals := 0 }) (va_Pc [.ref h] (fun U => va_P (dC, dI) vwCl [(h, .inr (0, [.int (nI N), .ref a1, .ref a2, .ref a3, .ref a4, .int (nI n), .int came])), (a1, .inl (cI, N, .inl fx)), (a2, .inl (cI, N, .inl fy)), (a3, .inl (cI, N, .inl rx)), (a4, .inl (cI, N, .inl ry))] U.heap ∧ va_K (dC, dI) vwCl [(cI, .int)] U)) (vp_Si (fun r => r = nI n)) 0 0 (fun _ => False) := by
  refine Met.ofW (cc := cX0_size) (maxL := 1) (ret := (some .int)) (by decide) rfl ?_
  intro p e s m args below meth c s₁ B hml hv
  obtain ⟨rfl, hP, hK⟩ := hv
  have hx := B.exec
  have hb := B.bytes
  have hr := B.returns
  have hts := atoms_spec (ws := wsX0_size) B.pre
  have hown : s.vm.findClass RX0 = some m.cls := findClass_of_methodNamed B.named
  have hlocks := B.notSynchronized
  have hin0 : ∀ w ∈ wsX00, w ∈ wsX0_size := fun w h => List.mem_cons_of_mem _ (List.mem_append_right _ h)
  have hl := lv_entry ([.ref h]) (n := 1) (Nat.le_of_ble_eq_true rfl)
  rw [lg_entry_eq]
  generalize (lg_sl ([.ref h]) ++ List.replicate (1 - (lg_sl ([.ref h])).length) Slot.unset).toArray = ls at hl ⊢
  have hl : lv_has ls 1 [(0, .ref h)] := hl
  refine lv_aload_n hx hb dX0_size_0 rfl (lv_at hl 0 rfl) ?_
  refine va_get (D := (dC, dI)) (ci := 0) (v := .int (nI n)) (C := RX0) (T := TX0) (N := 7) hx hb hts hin0 hown hK hP 0 rfl rfl 5 (by decide) (hts (.fieldLink RX0 32 "OnlineHull" "corners" "I") (by decide +kernel)) (fun _ h9 => h9) rfl dX0_size_1 ?_
  exact W.iret (v := nI n) hx hb hr (fun t ht hW => ⟨_, rfl, rfl, ht⟩) (fun _ h => by cases h) dX0_size_4

set_option maxHeartbeats 4000000 in
set_option maxRecDepth 100000 in
theorem k_X0_points (l : Launch) (dC : Nat → ClassId) (dI : Nat → Nat → Nat) (cI : ClassId) (h a1 a2 a3 a4 N n : Nat) (came : Int32) (fx fy rx ry : Nat → Int32) (hN : N ≤ 64) (hn : n ≤ N) : Met l yX0_points wsX0_points ({ frames := 0, cells := 0, slots := 0, locals := 0 }) (va_Pc [.ref h] (fun U => va_P (dC, dI) vwCl [(h, .inr (0, [.int (nI N), .ref a1, .ref a2, .ref a3, .ref a4, .int (nI n), .int came])), (a1, .inl (cI, N, .inl fx)), (a2, .inl (cI, N, .inl fy)), (a3, .inl (cI, N, .inl rx)), (a4, .inl (cI, N, .inl ry))] U.heap ∧ va_K (dC, dI) vwCl [(cI, .int)] U)) (vp_Si (fun r => r = came)) 0 0 (fun _ => False) := by
  refine Met.ofW (cc := cX0_points) (maxL := 1) (ret := (some .int)) (by decide) rfl ?_
  intro p e s m args below meth c s₁ B hml hv
  obtain ⟨rfl, hP, hK⟩ := hv
  have hx := B.exec
  have hb := B.bytes
  have hr := B.returns
  have hts := atoms_spec (ws := wsX0_points) B.pre
  have hown : s.vm.findClass RX0 = some m.cls := findClass_of_methodNamed B.named
  have hlocks := B.notSynchronized
  have hin0 : ∀ w ∈ wsX00, w ∈ wsX0_points := fun w h => List.mem_cons_of_mem _ (List.mem_append_right _ h)
  have hl := lv_entry ([.ref h]) (n := 1) (Nat.le_of_ble_eq_true rfl)
  rw [lg_entry_eq]
  generalize (lg_sl ([.ref h]) ++ List.replicate (1 - (lg_sl ([.ref h])).length) Slot.unset).toArray = ls at hl ⊢
  have hl : lv_has ls 1 [(0, .ref h)] := hl
  refine lv_aload_n hx hb dX0_points_0 rfl (lv_at hl 0 rfl) ?_
  refine va_get (D := (dC, dI)) (ci := 0) (v := .int came) (C := RX0) (T := TX0) (N := 7) hx hb hts hin0 hown hK hP 0 rfl rfl 6 (by decide) (hts (.fieldLink RX0 35 "OnlineHull" "came" "I") (by decide +kernel)) (fun _ h9 => h9) rfl dX0_points_1 ?_
  exact W.iret (v := came) hx hb hr (fun t ht hW => ⟨_, rfl, rfl, ht⟩) (fun _ h => by cases h) dX0_points_4

set_option maxHeartbeats 4000000 in
set_option maxRecDepth 100000 in
theorem k_X0_xOf (l : Launch) (dC : Nat → ClassId) (dI : Nat → Nat → Nat) (cI : ClassId) (h a1 a2 a3 a4 N n : Nat) (came : Int32) (fx fy rx ry : Nat → Int32) (i : Int32) (hN : N ≤ 64) (hn : n ≤ N) : Met l yX0_xOf wsX0_xOf ({ frames := 1, cells := 0, slots := 0, locals := 21 }) (va_Pc [.ref h, .int i] (fun U => va_P (dC, dI) vwCl [(h, .inr (0, [.int (nI N), .ref a1, .ref a2, .ref a3, .ref a4, .int (nI n), .int came])), (a1, .inl (cI, N, .inl fx)), (a2, .inl (cI, N, .inl fy)), (a3, .inl (cI, N, .inl rx)), (a4, .inl (cI, N, .inl ry))] U.heap ∧ va_K (dC, dI) vwCl [(cI, .int)] U)) (vp_Si (fun r => (∃ k : Nat, k < n ∧ i = nI k ∧ r = fx k) ∨ (¬ (0 ≤ i.toInt ∧ i.toInt < (n : Int)) ∧ r = 0))) 0 0 (fun _ => False) := by
  refine Met.ofW (cc := cX0_xOf) (maxL := 2) (ret := (some .int)) (by decide) rfl ?_
  intro p e s m args below meth c s₁ B hml hv
  obtain ⟨rfl, hP, hK⟩ := hv
  have hx := B.exec
  have hb := B.bytes
  have hr := B.returns
  have hts := atoms_spec (ws := wsX0_xOf) B.pre
  have hown : s.vm.findClass RX0 = some m.cls := findClass_of_methodNamed B.named
  have hlocks := B.notSynchronized
  have hin0 : ∀ w ∈ wsX00, w ∈ wsX0_xOf := fun w h => List.mem_cons_of_mem _ (List.mem_append_right _ h)
  have hl := lv_entry ([.ref h, .int i]) (n := 2) (Nat.le_of_ble_eq_true rfl)
  rw [lg_entry_eq]
  generalize (lg_sl ([.ref h, .int i]) ++ List.replicate (2 - (lg_sl ([.ref h, .int i])).length) Slot.unset).toArray = ls at hl ⊢
  have hl : lv_has ls 2 [(0, .ref h), (1, .int i)] := hl
  refine lv_aload_n hx hb dX0_xOf_0 rfl (lv_at hl 0 rfl) ?_
  refine lv_iload_n hx hb dX0_xOf_1 rfl (lv_at hl 1 rfl) ?_
  refine vp_callSi (va_Run.run (va_runV (As := [.int i]) (rest := []) ⟨hx, hb, hml, hown, hts⟩ (k_X0_isCorner l dC dI cI h a1 a2 a3 a4 N n came fx fy rx ry i hN hn) (cwV 1 hts gX0_xOf_X0_isCorner rfl rfl rfl (by decide +kernel) ⟨Nat.le_of_ble_eq_true rfl, Nat.le_of_ble_eq_true rfl⟩) (oh_pre (ci := 0) (q0 := 0) hK hP rfl rfl) rfl rfl hl.1 rfl (lv_room (Nat.le_of_ble_eq_true rfl)) dX0_xOf_2 ⟨Nat.zero_le _, Nat.zero_le _⟩)) (fun r_2 hr_2 => ?_)
  rcases hr_2 with ⟨b_2, hr_2⟩ | ⟨b_2, hr_2⟩ <;> subst hr_2
  · obtain ⟨k, hk, rfl⟩ : ∃ k : Nat, k < n ∧ i = nI k := ⟨i.toInt.toNat, by omega, Int32.toInt_inj.mp (by rw [nI_toInt (by omega)]; omega)⟩
    refine lv_if_eq (tgt := 17) hx hb dX0_xOf_5 (by decide) (fun q => absurd q (by decide)) (fun _ => ?_)
    refine lv_aload_n hx hb dX0_xOf_8 rfl (lv_at hl 0 rfl) ?_
    refine va_get (D := (dC, dI)) (ci := 0) (v := .ref a1) (C := RX0) (T := TX0) (N := 7) hx hb hts hin0 hown hK hP 0 rfl rfl 1 (by decide) (hts (.fieldLink RX0 19 "OnlineHull" "cornerX" "[I") (by decide +kernel)) (fun _ h9 => h9) rfl dX0_xOf_9 ?_
    refine lv_iload_n hx hb dX0_xOf_12 rfl (lv_at hl 1 rfl) ?_
    refine oh_ald hx hb hK hP 1 0 rfl rfl (k := k) (by omega) (by omega) dX0_xOf_13 ?_
    refine lv_goto (tgt := 18) hx hb dX0_xOf_14 (by decide) ?_
    exact W.iret (v := fx k) hx hb hr (fun t ht hW => ⟨_, rfl, Or.inl ⟨k, by omega, rfl, rfl⟩, ht⟩) (fun _ h => by cases h) dX0_xOf_18
  · refine lv_if_eq (tgt := 17) hx hb dX0_xOf_5 (by decide) (fun _ => ?_) (fun q => absurd q (by decide))
    refine lv_iconst (v := nI 0) hx hb dX0_xOf_17 (by decide) ?_
    exact W.iret (v := nI 0) hx hb hr (fun t ht hW => ⟨_, rfl, Or.inr ⟨b_2, rfl⟩, ht⟩) (fun _ h => by cases h) dX0_xOf_18

set_option maxHeartbeats 4000000 in
set_option maxRecDepth 100000 in
theorem k_X0_yOf (l : Launch) (dC : Nat → ClassId) (dI : Nat → Nat → Nat) (cI : ClassId) (h a1 a2 a3 a4 N n : Nat) (came : Int32) (fx fy rx ry : Nat → Int32) (i : Int32) (hN : N ≤ 64) (hn : n ≤ N) : Met l yX0_yOf wsX0_yOf ({ frames := 1, cells := 0, slots := 0, locals := 21 }) (va_Pc [.ref h, .int i] (fun U => va_P (dC, dI) vwCl [(h, .inr (0, [.int (nI N), .ref a1, .ref a2, .ref a3, .ref a4, .int (nI n), .int came])), (a1, .inl (cI, N, .inl fx)), (a2, .inl (cI, N, .inl fy)), (a3, .inl (cI, N, .inl rx)), (a4, .inl (cI, N, .inl ry))] U.heap ∧ va_K (dC, dI) vwCl [(cI, .int)] U)) (vp_Si (fun r => (∃ k : Nat, k < n ∧ i = nI k ∧ r = fy k) ∨ (¬ (0 ≤ i.toInt ∧ i.toInt < (n : Int)) ∧ r = 0))) 0 0 (fun _ => False) := by
  refine Met.ofW (cc := cX0_yOf) (maxL := 2) (ret := (some .int)) (by decide) rfl ?_
  intro p e s m args below meth c s₁ B hml hv
  obtain ⟨rfl, hP, hK⟩ := hv
  have hx := B.exec
  have hb := B.bytes
  have hr := B.returns
  have hts := atoms_spec (ws := wsX0_yOf) B.pre
  have hown : s.vm.findClass RX0 = some m.cls := findClass_of_methodNamed B.named
  have hlocks := B.notSynchronized
  have hin0 : ∀ w ∈ wsX00, w ∈ wsX0_yOf := fun w h => List.mem_cons_of_mem _ (List.mem_append_right _ h)
  have hl := lv_entry ([.ref h, .int i]) (n := 2) (Nat.le_of_ble_eq_true rfl)
  rw [lg_entry_eq]
  generalize (lg_sl ([.ref h, .int i]) ++ List.replicate (2 - (lg_sl ([.ref h, .int i])).length) Slot.unset).toArray = ls at hl ⊢
  have hl : lv_has ls 2 [(0, .ref h), (1, .int i)] := hl
  refine lv_aload_n hx hb dX0_yOf_0 rfl (lv_at hl 0 rfl) ?_
  refine lv_iload_n hx hb dX0_yOf_1 rfl (lv_at hl 1 rfl) ?_
  refine vp_callSi (va_Run.run (va_runV (As := [.int i]) (rest := []) ⟨hx, hb, hml, hown, hts⟩ (k_X0_isCorner l dC dI cI h a1 a2 a3 a4 N n came fx fy rx ry i hN hn) (cwV 1 hts gX0_yOf_X0_isCorner rfl rfl rfl (by decide +kernel) ⟨Nat.le_of_ble_eq_true rfl, Nat.le_of_ble_eq_true rfl⟩) (oh_pre (ci := 0) (q0 := 0) hK hP rfl rfl) rfl rfl hl.1 rfl (lv_room (Nat.le_of_ble_eq_true rfl)) dX0_yOf_2 ⟨Nat.zero_le _, Nat.zero_le _⟩)) (fun r_2 hr_2 => ?_)
  rcases hr_2 with ⟨b_2, hr_2⟩ | ⟨b_2, hr_2⟩ <;> subst hr_2
  · obtain ⟨k, hk, rfl⟩ : ∃ k : Nat, k < n ∧ i = nI k := ⟨i.toInt.toNat, by omega, Int32.toInt_inj.mp (by rw [nI_toInt (by omega)]; omega)⟩
    refine lv_if_eq (tgt := 17) hx hb dX0_yOf_5 (by decide) (fun q => absurd q (by decide)) (fun _ => ?_)
    refine lv_aload_n hx hb dX0_yOf_8 rfl (lv_at hl 0 rfl) ?_
    refine va_get (D := (dC, dI)) (ci := 0) (v := .ref a2) (C := RX0) (T := TX0) (N := 7) hx hb hts hin0 hown hK hP 0 rfl rfl 2 (by decide) (hts (.fieldLink RX0 23 "OnlineHull" "cornerY" "[I") (by decide +kernel)) (fun _ h9 => h9) rfl dX0_yOf_9 ?_
    refine lv_iload_n hx hb dX0_yOf_12 rfl (lv_at hl 1 rfl) ?_
    refine oh_ald hx hb hK hP 2 0 rfl rfl (k := k) (by omega) (by omega) dX0_yOf_13 ?_
    refine lv_goto (tgt := 18) hx hb dX0_yOf_14 (by decide) ?_
    exact W.iret (v := fy k) hx hb hr (fun t ht hW => ⟨_, rfl, Or.inl ⟨k, by omega, rfl, rfl⟩, ht⟩) (fun _ h => by cases h) dX0_yOf_18
  · refine lv_if_eq (tgt := 17) hx hb dX0_yOf_5 (by decide) (fun _ => ?_) (fun q => absurd q (by decide))
    refine lv_iconst (v := nI 0) hx hb dX0_yOf_17 (by decide) ?_
    exact W.iret (v := nI 0) hx hb hr (fun t ht hW => ⟨_, rfl, Or.inr ⟨b_2, rfl⟩, ht⟩) (fun _ h => by cases h) dX0_yOf_18
end
section
/-! what each question asks, as a relation between the corners and the answer -/
theorem oh_mx {m x y : Int32} (e : m = if x < y then y else x) : (x.toInt < y.toInt ∧ m = y) ∨ (y.toInt ≤ x.toInt ∧ m = x) := by
  by_cases h : x < y
  · rw [if_pos h] at e; exact Or.inl ⟨oh_ltI h, e⟩
  · rw [if_neg h] at e; exact Or.inr ⟨oh_nltI h, e⟩
def oh_on (n : Nat) (P : Nat → Int × Int) (q : Int × Int) : Prop := oh_sd n P q 0 = 0 ∧ ¬ oh_lx q (P 0) ∧ ¬ oh_lx (P (n - 1)) q
def oh_plL (n : Nat) (P : Nat → Int × Int) (q : Int × Int) (r : Int32) : Prop := (r = 1 ∧ oh_on n P q) ∨ (r = 0 ∧ ¬ oh_on n P q)
def oh_plR (n : Nat) (P : Nat → Int × Int) (q : Int × Int) (r : Int32) : Prop :=
  (r = 0 ∧ ∃ j, j < n ∧ oh_sd n P q j < 0) ∨ (r = 1 ∧ (∀ j, j < n → 0 ≤ oh_sd n P q j) ∧ ∃ j, j < n ∧ oh_sd n P q j = 0) ∨ (r = 2 ∧ ∀ j, j < n → 0 < oh_sd n P q j)
def oh_pl3 (n : Nat) (P : Nat → Int × Int) (q : Int × Int) (r : Int32) : Prop :=
  (n = 0 ∧ r = 0) ∨ (1 ≤ n ∧ n ≤ 2 ∧ oh_plL n P q r) ∨ (3 ≤ n ∧ oh_plR n P q r)
def oh_fs (n : Nat) (P : Nat → Int × Int) (q : Int × Int) (b : Int) (r : Int32) : Prop :=
  (∃ i, i < n ∧ r = nI i ∧ oh_sd n P q i < b ∧ b ≤ oh_sd n P q (oh_pv n i)) ∨ (r = -1 ∧ ∀ i, i < n → ¬ (oh_sd n P q i < b ∧ b ≤ oh_sd n P q (oh_pv n i)))
def oh_la (n : Nat) (P : Nat → Int × Int) (q : Int × Int) (b : Int) (r : Int32) : Prop :=
  (∃ i, i < n ∧ r = nI i ∧ b ≤ oh_sd n P q i ∧ oh_sd n P q (oh_pv n i) < b) ∨ (r = -1 ∧ ∀ i, i < n → ¬ (b ≤ oh_sd n P q i ∧ oh_sd n P q (oh_pv n i) < b))
def oh_ar (P : Nat → Int × Int) : Nat → Int
  | 0 => 0
  | k + 1 => oh_ar P k + oh_cp (P 0) (P (k + 1)) (P (k + 2))
def oh_rc (P : Nat → Int × Int) (x y : Int) (j : Nat) : Int := x * (P j).1 + y * (P j).2
def oh_far (n : Nat) (P : Nat → Int × Int) (x y : Int32) (r : Int32) : Prop :=
  ((n = 0 ∨ ¬ oh_inR x y) ∧ r = -1) ∨ (oh_inR x y ∧ ∃ b, b < n ∧ r = nI b ∧ (∀ j, j < n → oh_rc P x.toInt y.toInt j ≤ oh_rc P x.toInt y.toInt b) ∧ (∀ j, j < b → oh_rc P x.toInt y.toInt j < oh_rc P x.toInt y.toInt b))
def oh_dia (n : Nat) (P : Nat → Int × Int) (r : Int32) : Prop :=
  0 ≤ r.toInt ∧ (∀ a b, a < b → b < n → oh_d2 (P a) (P b) ≤ r.toInt) ∧ (r.toInt = 0 ∨ ∃ a b, a < b ∧ b < n ∧ r.toInt = oh_d2 (P a) (P b))
def oh_tan (n : Nat) (P : Nat → Int × Int) (x y wh : Int32) (r : Int32) : Prop :=
  (3 ≤ n ∧ oh_inR x y ∧ (∃ j, j < n ∧ oh_sd n P (x.toInt, y.toInt) j < 0) ∧ ((wh = 0 ∧ oh_fs n P (x.toInt, y.toInt) 0 r) ∨ (wh = 1 ∧ oh_la n P (x.toInt, y.toInt) 0 r))) ∨
  (r = -1 ∧ ¬ (3 ≤ n ∧ oh_inR x y ∧ (∃ j, j < n ∧ oh_sd n P (x.toInt, y.toInt) j < 0) ∧ (wh = 0 ∨ wh = 1)))
theorem oh_plR0 {n : Nat} {P : Nat → Int × Int} {q : Int × Int} {r : Int32} (h : oh_plR n P q r) : (r.toInt = 0 ↔ ∃ j, j < n ∧ oh_sd n P q j < 0) ∧ 0 ≤ r.toInt ∧ r.toInt ≤ 2 := by
  have z1 : (1 : Int32).toInt = 1 := by decide
  have z2 : (2 : Int32).toInt = 2 := by decide
  rcases h with ⟨e, g⟩ | ⟨e, g, -⟩ | ⟨e, g⟩ <;> subst e
  · exact ⟨⟨fun _ => g, fun _ => oh_z0⟩, by rw [oh_z0]; omega, by rw [oh_z0]; omega⟩
  · exact ⟨⟨fun q => by rw [z1] at q; omega, fun ⟨j, hj, hn⟩ => by have := g j hj; omega⟩, by omega, by omega⟩
  · exact ⟨⟨fun q => by rw [z2] at q; omega, fun ⟨j, hj, hn⟩ => by have := g j hj; omega⟩, by omega, by omega⟩
theorem oh_pl3R {n : Nat} {P : Nat → Int × Int} {q : Int × Int} {r : Int32} (hn : 3 ≤ n) (h : oh_pl3 n P q r) : oh_plR n P q r := by
  rcases h with ⟨e, -⟩ | ⟨-, e, -⟩ | ⟨-, g⟩
  · omega
  · omega
  · exact g
theorem oh_arS {n i : Nat} {fx fy : Nat → Int32} {sum r : Int32} (hI : sum = Int32.ofInt (oh_ar (oh_pt fx fy) (min (i - 1) (n - 2)))) (hr : r.toInt = oh_sd n (oh_pt fx fy) ((fx 0).toInt, (fy 0).toInt) i) (hi : i < n) (h1 : 1 ≤ i) : sum + r = Int32.ofInt (oh_ar (oh_pt fx fy) (min (i + 1 - 1) (n - 2))) := by
  have e : r = Int32.ofInt (oh_sd n (oh_pt fx fy) (oh_pt fx fy 0) i) := by
    rw [← Int32.ofInt_toInt r, hr]; rfl
  rw [hI, e, ← Int32.ofInt_add]
  congr 1
  unfold oh_sd oh_nx
  by_cases g : i + 1 < n
  · rw [if_pos g, show min (i + 1 - 1) (n - 2) = (i - 1) + 1 by omega, show min (i - 1) (n - 2) = i - 1 by omega]
    show _ = oh_ar _ (i - 1) + _
    rw [show i - 1 + 1 = i by omega, show i - 1 + 2 = i + 1 by omega, ← oh_cyc]
  · rw [if_neg g, show min (i + 1 - 1) (n - 2) = min (i - 1) (n - 2) by omega, oh_s2]
    omega
end
section
set_option maxHeartbeats 4000000 in
set_option maxRecDepth 100000 in
theorem k_X0_placeInRing (l : Launch) (dC : Nat → ClassId) (dI : Nat → Nat → Nat) (cI : ClassId) (h a1 a2 a3 a4 N n : Nat) (came : Int32) (fx fy rx ry : Nat → Int32) (x y : Int32) (hN : N ≤ 64) (hn : n ≤ N) (hR : ∀ j, j < n → oh_inR (fx j) (fy j)) (hq : oh_inR x y) : Met l yX0_placeInRing wsX0_placeInRing ({ frames := 2, cells := 0, slots := 0, locals := 47 }) (va_Pc [.ref h, .int x, .int y] (fun U => va_P (dC, dI) vwCl [(h, .inr (0, [.int (nI N), .ref a1, .ref a2, .ref a3, .ref a4, .int (nI n), .int came])), (a1, .inl (cI, N, .inl fx)), (a2, .inl (cI, N, .inl fy)), (a3, .inl (cI, N, .inl rx)), (a4, .inl (cI, N, .inl ry))] U.heap ∧ va_K (dC, dI) vwCl [(cI, .int)] U)) (vp_Si (fun r => oh_plR n (oh_pt fx fy) (x.toInt, y.toInt) r)) 0 0 (fun _ => False) := by
  refine Met.ofW (cc := cX0_placeInRing) (maxL := 6) (ret := (some .int)) (by decide) rfl ?_
  intro p e s m args below meth c s₁ B hml hv
  obtain ⟨rfl, hP, hK⟩ := hv
  have hx := B.exec
  have hb := B.bytes
  have hr := B.returns
  have hts := atoms_spec (ws := wsX0_placeInRing) B.pre
  have hown : s.vm.findClass RX0 = some m.cls := findClass_of_methodNamed B.named
  have hlocks := B.notSynchronized
  have hin0 : ∀ w ∈ wsX00, w ∈ wsX0_placeInRing := fun w h => List.mem_cons_of_mem _ (List.mem_append_right _ h)
  have hl := lv_entry ([.ref h, .int x, .int y]) (n := 6) (Nat.le_of_ble_eq_true rfl)
  rw [lg_entry_eq]
  generalize (lg_sl ([.ref h, .int x, .int y]) ++ List.replicate (6 - (lg_sl ([.ref h, .int x, .int y])).length) Slot.unset).toArray = ls at hl ⊢
  have hl : lv_has ls 6 [(0, .ref h), (1, .int x), (2, .int y)] := hl
  refine lv_iconst (v := nI 2) hx hb dX0_placeInRing_0 (by decide) ?_
  refine lv_istore_n (lv' := [(3, .int (nI 2)), (0, .ref h), (1, .int x), (2, .int y)]) hx hb dX0_placeInRing_1 rfl hl (by decide) rfl (fun ls hl => ?_)
  refine lv_iconst (v := nI 0) hx hb dX0_placeInRing_2 (by decide) ?_
  refine lv_istore (lv' := [(4, .int (nI 0)), (3, .int (nI 2)), (0, .ref h), (1, .int x), (2, .int y)]) hx hb dX0_placeInRing_3 hl (by decide) rfl (fun ls hl => ?_)
  have loop : ∀ (k_loop : Nat) (i : Nat) (place : Int32), (i ≤ n) → (n + 1 ≤ i + k_loop) → ((place = nI 2 ∧ ∀ j, j < i → 0 < oh_sd n (oh_pt fx fy) (x.toInt, y.toInt) j) ∨ (place = nI 1 ∧ (∀ j, j < i → 0 ≤ oh_sd n (oh_pt fx fy) (x.toInt, y.toInt) j) ∧ ∃ j, j < i ∧ oh_sd n (oh_pt fx fy) (x.toInt, y.toInt) j = 0)) → ∀ (ls : Array Slot), lv_has ls 6 [(0, .ref h), (1, .int x), (2, .int y), (3, .int place), (4, .int (nI i))] → W p l e (headSpec wsX0_placeInRing ({ frames := 2, cells := 0, slots := 0, locals := 47 })).room s m ([.ref h, .int x, .int y] : List Value).toArray below meth c s.heap [] 0 0 (MQ below (vp_Si (fun r => oh_plR n (oh_pt fx fy) (x.toInt, y.toInt) r)) ([.ref h, .int x, .int y] : List Value).toArray s 0 0 (fun _ => False)) (F0 m 5 ls []) := by
    clear hl
    intro k_loop
    induction k_loop with
    | zero =>
      intro i place hi hk hI
      exfalso; omega
    | succ k_loop ih_loop =>
      intro i place hi hk hI ls hl
      refine lv_iload hx hb dX0_placeInRing_5 (lv_at hl 4 rfl) ?_
      refine lv_aload_n hx hb dX0_placeInRing_7 rfl (lv_at hl 0 rfl) ?_
      refine va_get (D := (dC, dI)) (ci := 0) (v := .int (nI n)) (C := RX0) (T := TX0) (N := 7) hx hb hts hin0 hown hK hP 0 rfl rfl 5 (by decide) (hts (.fieldLink RX0 32 "OnlineHull" "corners" "I") (by decide +kernel)) (fun _ h9 => h9) rfl dX0_placeInRing_8 ?_
      refine lv_icmp_ge (tgt := 44) hx hb dX0_placeInRing_11 (by decide) (fun c_11 => ?_) (fun c_11 => ?_)
      · have g_11 : n ≤ i := (nI_leI (a := n) (b := i) (by omega) (by omega)).mp c_11
        refine lv_iload_n hx hb dX0_placeInRing_44 rfl (lv_at hl 3 rfl) ?_
        exact W.iret (v := place) hx hb hr (fun t ht hW => ⟨_, rfl, by rcases hI with ⟨e, a⟩ | ⟨e, a, b⟩ <;> subst e; exact (Or.inr (Or.inr ⟨rfl, fun j hj => a j (by omega)⟩)); exact (Or.inr (Or.inl ⟨rfl, fun j hj => a j (by omega), by obtain ⟨j, h1, h2⟩ := b; exact ⟨j, by omega, h2⟩⟩)), ht⟩) (fun _ h => by cases h) dX0_placeInRing_45
      · have g_11 : ¬ n ≤ i := fun q => c_11 ((nI_leI (a := n) (b := i) (by omega) (by omega)).mpr q)
        refine lv_aload_n hx hb dX0_placeInRing_14 rfl (lv_at hl 0 rfl) ?_
        refine lv_iload hx hb dX0_placeInRing_15 (lv_at hl 4 rfl) ?_
        refine lv_iload_n hx hb dX0_placeInRing_17 rfl (lv_at hl 1 rfl) ?_
        refine lv_iload_n hx hb dX0_placeInRing_18 rfl (lv_at hl 2 rfl) ?_
        refine vp_callSi (va_Run.run (va_runV (As := [.int (nI i), .int x, .int y]) (rest := []) ⟨hx, hb, hml, hown, hts⟩ (k_X0_turn l dC dI cI h a1 a2 a3 a4 N n came fx fy rx ry i x y hN hn (by omega) hR hq) (cwV 3 hts gX0_placeInRing_X0_turn rfl rfl rfl (by decide +kernel) ⟨Nat.le_of_ble_eq_true rfl, Nat.le_of_ble_eq_true rfl⟩) (oh_pre (ci := 0) (q0 := 0) hK hP rfl rfl) rfl rfl hl.1 rfl (lv_room (Nat.le_of_ble_eq_true rfl)) dX0_placeInRing_19 ⟨Nat.zero_le _, Nat.zero_le _⟩)) (fun r_19 hr_19 => ?_)
        refine lv_istore (lv' := [(5, .int r_19), (0, .ref h), (1, .int x), (2, .int y), (3, .int place), (4, .int (nI i))]) hx hb dX0_placeInRing_22 hl (by decide) rfl (fun ls hl => ?_)
        refine lv_iload hx hb dX0_placeInRing_24 (lv_at hl 0 rfl) ?_
        refine lv_if_ge (tgt := 31) hx hb dX0_placeInRing_26 (by decide) (fun c_26 => ?_) (fun c_26 => ?_)
        · have g_26 : 0 ≤ r_19.toInt := oh_leI0r c_26
          refine lv_iload hx hb dX0_placeInRing_31 (lv_at hl 0 rfl) ?_
          refine lv_if_ne (tgt := 38) hx hb dX0_placeInRing_33 (by decide) (fun c_33 => ?_) (fun c_33 => ?_)
          · have g_33 : r_19.toInt ≠ 0 := oh_neI0 c_33
            refine lv_iinc (v := nI (i + 1)) (lv' := [(4, .int (nI (i + 1))), (5, .int r_19), (0, .ref h), (1, .int x), (2, .int y), (3, .int place)]) hx hb dX0_placeInRing_38 hl (k := 5) rfl (nI_1 i) (by decide) rfl (fun ls hl => ?_)
            refine lv_goto (tgt := 5) hx hb dX0_placeInRing_41 (by decide) ?_
            exact ih_loop (i + 1) place (by omega) (by omega) (by rcases hI with ⟨e, a⟩ | ⟨e, a, b⟩; exact (Or.inl ⟨e, lt_s a (by omega)⟩); exact (Or.inr ⟨e, lt_s a (by omega), by obtain ⟨j, h1, h2⟩ := b; exact ⟨j, by omega, h2⟩⟩)) ls (lv_sub hl [2, 3, 4, 5, 0] rfl)
          · have g_33 : r_19.toInt = 0 := oh_eqI0 c_33
            refine lv_iconst (v := nI 1) hx hb dX0_placeInRing_36 (by decide) ?_
            refine lv_istore_n (lv' := [(3, .int (nI 1)), (5, .int r_19), (0, .ref h), (1, .int x), (2, .int y), (4, .int (nI i))]) hx hb dX0_placeInRing_37 rfl hl (by decide) rfl (fun ls hl => ?_)
            refine lv_iinc (v := nI (i + 1)) (lv' := [(4, .int (nI (i + 1))), (3, .int (nI 1)), (5, .int r_19), (0, .ref h), (1, .int x), (2, .int y)]) hx hb dX0_placeInRing_38 hl (k := 5) rfl (nI_1 i) (by decide) rfl (fun ls hl => ?_)
            refine lv_goto (tgt := 5) hx hb dX0_placeInRing_41 (by decide) ?_
            exact ih_loop (i + 1) (nI 1) (by omega) (by omega) (Or.inr ⟨rfl, lt_s (by rcases hI with ⟨-, a⟩ | ⟨-, a, -⟩; exact (fun j hj => Int.le_of_lt (a j hj)); exact (a)) (by omega), i, by omega, by omega⟩) ls (lv_sub hl [3, 4, 5, 1, 0] rfl)
        · have g_26 : r_19.toInt < 0 := oh_nleI0r c_26
          refine lv_iconst (v := nI 0) hx hb dX0_placeInRing_29 (by decide) ?_
          exact W.iret (v := nI 0) hx hb hr (fun t ht hW => ⟨_, rfl, Or.inl ⟨rfl, i, by omega, by omega⟩, ht⟩) (fun _ h => by cases h) dX0_placeInRing_30
  exact loop (n + 1) 0 (nI 2) (by omega) (by omega) (Or.inl ⟨rfl, fun j hj => by omega⟩) ls (lv_sub hl [2, 3, 4, 1, 0] rfl)

set_option maxHeartbeats 4000000 in
set_option maxRecDepth 100000 in
theorem k_X0_firstSeen (l : Launch) (dC : Nat → ClassId) (dI : Nat → Nat → Nat) (cI : ClassId) (h a1 a2 a3 a4 N n : Nat) (came : Int32) (fx fy rx ry : Nat → Int32) (x y bd : Int32) (hN : N ≤ 64) (hn : n ≤ N) (hR : ∀ j, j < n → oh_inR (fx j) (fy j)) (hq : oh_inR x y) : Met l yX0_firstSeen wsX0_firstSeen ({ frames := 2, cells := 0, slots := 0, locals := 47 }) (va_Pc [.ref h, .int x, .int y, .int bd] (fun U => va_P (dC, dI) vwCl [(h, .inr (0, [.int (nI N), .ref a1, .ref a2, .ref a3, .ref a4, .int (nI n), .int came])), (a1, .inl (cI, N, .inl fx)), (a2, .inl (cI, N, .inl fy)), (a3, .inl (cI, N, .inl rx)), (a4, .inl (cI, N, .inl ry))] U.heap ∧ va_K (dC, dI) vwCl [(cI, .int)] U)) (vp_Si (fun r => oh_fs n (oh_pt fx fy) (x.toInt, y.toInt) bd.toInt r)) 0 0 (fun _ => False) := by
  refine Met.ofW (cc := cX0_firstSeen) (maxL := 5) (ret := (some .int)) (by decide) rfl ?_
  intro p e s m args below meth c s₁ B hml hv
  obtain ⟨rfl, hP, hK⟩ := hv
  have hx := B.exec
  have hb := B.bytes
  have hr := B.returns
  have hts := atoms_spec (ws := wsX0_firstSeen) B.pre
  have hown : s.vm.findClass RX0 = some m.cls := findClass_of_methodNamed B.named
  have hlocks := B.notSynchronized
  have hin0 : ∀ w ∈ wsX00, w ∈ wsX0_firstSeen := fun w h => List.mem_cons_of_mem _ (List.mem_append_right _ h)
  have hl := lv_entry ([.ref h, .int x, .int y, .int bd]) (n := 5) (Nat.le_of_ble_eq_true rfl)
  rw [lg_entry_eq]
  generalize (lg_sl ([.ref h, .int x, .int y, .int bd]) ++ List.replicate (5 - (lg_sl ([.ref h, .int x, .int y, .int bd])).length) Slot.unset).toArray = ls at hl ⊢
  have hl : lv_has ls 5 [(0, .ref h), (1, .int x), (2, .int y), (3, .int bd)] := hl
  refine lv_iconst (v := nI 0) hx hb dX0_firstSeen_0 (by decide) ?_
  refine lv_istore (lv' := [(4, .int (nI 0)), (0, .ref h), (1, .int x), (2, .int y), (3, .int bd)]) hx hb dX0_firstSeen_1 hl (by decide) rfl (fun ls hl => ?_)
  have loop : ∀ (k_loop : Nat) (i : Nat), (i ≤ n) → (n + 1 ≤ i + k_loop) → (∀ j, j < i → ¬ (oh_sd n (oh_pt fx fy) (x.toInt, y.toInt) j < bd.toInt ∧ bd.toInt ≤ oh_sd n (oh_pt fx fy) (x.toInt, y.toInt) (oh_pv n j))) → ∀ (ls : Array Slot), lv_has ls 5 [(0, .ref h), (1, .int x), (2, .int y), (3, .int bd), (4, .int (nI i))] → W p l e (headSpec wsX0_firstSeen ({ frames := 2, cells := 0, slots := 0, locals := 47 })).room s m ([.ref h, .int x, .int y, .int bd] : List Value).toArray below meth c s.heap [] 0 0 (MQ below (vp_Si (fun r => oh_fs n (oh_pt fx fy) (x.toInt, y.toInt) bd.toInt r)) ([.ref h, .int x, .int y, .int bd] : List Value).toArray s 0 0 (fun _ => False)) (F0 m 3 ls []) := by
    clear hl
    intro k_loop
    induction k_loop with
    | zero =>
      intro i hi hk hI
      exfalso; omega
    | succ k_loop ih_loop =>
      intro i hi hk hI ls hl
      refine lv_iload hx hb dX0_firstSeen_3 (lv_at hl 4 rfl) ?_
      refine lv_aload_n hx hb dX0_firstSeen_5 rfl (lv_at hl 0 rfl) ?_
      refine va_get (D := (dC, dI)) (ci := 0) (v := .int (nI n)) (C := RX0) (T := TX0) (N := 7) hx hb hts hin0 hown hK hP 0 rfl rfl 5 (by decide) (hts (.fieldLink RX0 32 "OnlineHull" "corners" "I") (by decide +kernel)) (fun _ h9 => h9) rfl dX0_firstSeen_6 ?_
      refine lv_icmp_ge (tgt := 49) hx hb dX0_firstSeen_9 (by decide) (fun c_9 => ?_) (fun c_9 => ?_)
      · have g_9 : n ≤ i := (nI_leI (a := n) (b := i) (by omega) (by omega)).mp c_9
        refine lv_iconst (v := -1) hx hb dX0_firstSeen_49 (by decide) ?_
        exact W.iret (v := -1) hx hb hr (fun t ht hW => ⟨_, rfl, Or.inr ⟨rfl, fun j hj => hI j (by omega)⟩, ht⟩) (fun _ h => by cases h) dX0_firstSeen_50
      · have g_9 : ¬ n ≤ i := fun q => c_9 ((nI_leI (a := n) (b := i) (by omega) (by omega)).mpr q)
        refine lv_aload_n hx hb dX0_firstSeen_12 rfl (lv_at hl 0 rfl) ?_
        refine lv_iload hx hb dX0_firstSeen_13 (lv_at hl 4 rfl) ?_
        refine lv_iload_n hx hb dX0_firstSeen_15 rfl (lv_at hl 1 rfl) ?_
        refine lv_iload_n hx hb dX0_firstSeen_16 rfl (lv_at hl 2 rfl) ?_
        refine vp_callSi (va_Run.run (va_runV (As := [.int (nI i), .int x, .int y]) (rest := []) ⟨hx, hb, hml, hown, hts⟩ (k_X0_turn l dC dI cI h a1 a2 a3 a4 N n came fx fy rx ry i x y hN hn (by omega) hR hq) (cwV 3 hts gX0_firstSeen_X0_turn rfl rfl rfl (by decide +kernel) ⟨Nat.le_of_ble_eq_true rfl, Nat.le_of_ble_eq_true rfl⟩) (oh_pre (ci := 0) (q0 := 0) hK hP rfl rfl) rfl rfl hl.1 rfl (lv_room (Nat.le_of_ble_eq_true rfl)) dX0_firstSeen_17 ⟨Nat.zero_le _, Nat.zero_le _⟩)) (fun r_17 hr_17 => ?_)
        refine lv_iload_n hx hb dX0_firstSeen_20 rfl (lv_at hl 3 rfl) ?_
        refine lv_icmp_ge (tgt := 43) hx hb dX0_firstSeen_21 (by decide) (fun c_21 => ?_) (fun c_21 => ?_)
        · have g_21 : bd.toInt ≤ r_17.toInt := oh_leI c_21
          refine lv_iinc (v := nI (i + 1)) (lv' := [(4, .int (nI (i + 1))), (0, .ref h), (1, .int x), (2, .int y), (3, .int bd)]) hx hb dX0_firstSeen_43 hl (k := 4) rfl (nI_1 i) (by decide) rfl (fun ls hl => ?_)
          refine lv_goto (tgt := 3) hx hb dX0_firstSeen_46 (by decide) ?_
          exact ih_loop (i + 1) (by omega) (by omega) (lt_s hI (by omega)) ls (lv_sub hl [1, 2, 3, 4, 0] rfl)
        · have g_21 : r_17.toInt < bd.toInt := oh_nleI c_21
          refine lv_aload_n hx hb dX0_firstSeen_24 rfl (lv_at hl 0 rfl) ?_
          refine lv_aload_n hx hb dX0_firstSeen_25 rfl (lv_at hl 0 rfl) ?_
          refine lv_iload hx hb dX0_firstSeen_26 (lv_at hl 4 rfl) ?_
          refine vp_callSi (va_Run.run (va_runV (As := [.int (nI i)]) (rest := [.ref h]) ⟨hx, hb, hml, hown, hts⟩ (k_X0_previous l dC dI cI h a1 a2 a3 a4 N n came fx fy rx ry i hN hn (by omega)) (cwV 1 hts gX0_firstSeen_X0_previous rfl rfl rfl (by decide +kernel) ⟨Nat.le_of_ble_eq_true rfl, Nat.le_of_ble_eq_true rfl⟩) (oh_pre (ci := 0) (q0 := 0) hK hP rfl rfl) rfl rfl hl.1 rfl (lv_room (Nat.le_of_ble_eq_true rfl)) dX0_firstSeen_28 ⟨Nat.zero_le _, Nat.zero_le _⟩)) (fun r_28 hr_28 => ?_)
          subst hr_28
          refine lv_iload_n hx hb dX0_firstSeen_31 rfl (lv_at hl 1 rfl) ?_
          refine lv_iload_n hx hb dX0_firstSeen_32 rfl (lv_at hl 2 rfl) ?_
          refine vp_callSi (va_Run.run (va_runV (As := [.int (nI (oh_pv n i)), .int x, .int y]) (rest := []) ⟨hx, hb, hml, hown, hts⟩ (k_X0_turn l dC dI cI h a1 a2 a3 a4 N n came fx fy rx ry ((oh_pv n i)) x y hN hn (oh_pv_lt (by omega)) hR hq) (cwV 3 hts gX0_firstSeen_X0_turn rfl rfl rfl (by decide +kernel) ⟨Nat.le_of_ble_eq_true rfl, Nat.le_of_ble_eq_true rfl⟩) (oh_pre (ci := 0) (q0 := 0) hK hP rfl rfl) rfl rfl hl.1 rfl (lv_room (Nat.le_of_ble_eq_true rfl)) dX0_firstSeen_33 ⟨Nat.zero_le _, Nat.zero_le _⟩)) (fun r_33 hr_33 => ?_)
          refine lv_iload_n hx hb dX0_firstSeen_36 rfl (lv_at hl 3 rfl) ?_
          refine lv_icmp_lt (tgt := 43) hx hb dX0_firstSeen_37 (by decide) (fun c_37 => ?_) (fun c_37 => ?_)
          · have g_37 : r_33.toInt < bd.toInt := oh_ltI c_37
            refine lv_iinc (v := nI (i + 1)) (lv' := [(4, .int (nI (i + 1))), (0, .ref h), (1, .int x), (2, .int y), (3, .int bd)]) hx hb dX0_firstSeen_43 hl (k := 4) rfl (nI_1 i) (by decide) rfl (fun ls hl => ?_)
            refine lv_goto (tgt := 3) hx hb dX0_firstSeen_46 (by decide) ?_
            exact ih_loop (i + 1) (by omega) (by omega) (lt_s hI (by omega)) ls (lv_sub hl [1, 2, 3, 4, 0] rfl)
          · have g_37 : bd.toInt ≤ r_33.toInt := oh_nltI c_37
            refine lv_iload hx hb dX0_firstSeen_40 (lv_at hl 4 rfl) ?_
            exact W.iret (v := nI i) hx hb hr (fun t ht hW => ⟨_, rfl, Or.inl ⟨i, by omega, rfl, by omega, by omega⟩, ht⟩) (fun _ h => by cases h) dX0_firstSeen_42
  exact loop (n + 1) 0 (by omega) (by omega) (fun j hj => by omega) ls (lv_sub hl [1, 2, 3, 4, 0] rfl)

set_option maxHeartbeats 4000000 in
set_option maxRecDepth 100000 in
theorem k_X0_lastSeen (l : Launch) (dC : Nat → ClassId) (dI : Nat → Nat → Nat) (cI : ClassId) (h a1 a2 a3 a4 N n : Nat) (came : Int32) (fx fy rx ry : Nat → Int32) (x y bd : Int32) (hN : N ≤ 64) (hn : n ≤ N) (hR : ∀ j, j < n → oh_inR (fx j) (fy j)) (hq : oh_inR x y) : Met l yX0_lastSeen wsX0_lastSeen ({ frames := 2, cells := 0, slots := 0, locals := 47 }) (va_Pc [.ref h, .int x, .int y, .int bd] (fun U => va_P (dC, dI) vwCl [(h, .inr (0, [.int (nI N), .ref a1, .ref a2, .ref a3, .ref a4, .int (nI n), .int came])), (a1, .inl (cI, N, .inl fx)), (a2, .inl (cI, N, .inl fy)), (a3, .inl (cI, N, .inl rx)), (a4, .inl (cI, N, .inl ry))] U.heap ∧ va_K (dC, dI) vwCl [(cI, .int)] U)) (vp_Si (fun r => oh_la n (oh_pt fx fy) (x.toInt, y.toInt) bd.toInt r)) 0 0 (fun _ => False) := by
  refine Met.ofW (cc := cX0_lastSeen) (maxL := 5) (ret := (some .int)) (by decide) rfl ?_
  intro p e s m args below meth c s₁ B hml hv
  obtain ⟨rfl, hP, hK⟩ := hv
  have hx := B.exec
  have hb := B.bytes
  have hr := B.returns
  have hts := atoms_spec (ws := wsX0_lastSeen) B.pre
  have hown : s.vm.findClass RX0 = some m.cls := findClass_of_methodNamed B.named
  have hlocks := B.notSynchronized
  have hin0 : ∀ w ∈ wsX00, w ∈ wsX0_lastSeen := fun w h => List.mem_cons_of_mem _ (List.mem_append_right _ h)
  have hl := lv_entry ([.ref h, .int x, .int y, .int bd]) (n := 5) (Nat.le_of_ble_eq_true rfl)
  rw [lg_entry_eq]
  generalize (lg_sl ([.ref h, .int x, .int y, .int bd]) ++ List.replicate (5 - (lg_sl ([.ref h, .int x, .int y, .int bd])).length) Slot.unset).toArray = ls at hl ⊢
  have hl : lv_has ls 5 [(0, .ref h), (1, .int x), (2, .int y), (3, .int bd)] := hl
  refine lv_iconst (v := nI 0) hx hb dX0_lastSeen_0 (by decide) ?_
  refine lv_istore (lv' := [(4, .int (nI 0)), (0, .ref h), (1, .int x), (2, .int y), (3, .int bd)]) hx hb dX0_lastSeen_1 hl (by decide) rfl (fun ls hl => ?_)
  have loop : ∀ (k_loop : Nat) (i : Nat), (i ≤ n) → (n + 1 ≤ i + k_loop) → (∀ j, j < i → ¬ (bd.toInt ≤ oh_sd n (oh_pt fx fy) (x.toInt, y.toInt) j ∧ oh_sd n (oh_pt fx fy) (x.toInt, y.toInt) (oh_pv n j) < bd.toInt)) → ∀ (ls : Array Slot), lv_has ls 5 [(0, .ref h), (1, .int x), (2, .int y), (3, .int bd), (4, .int (nI i))] → W p l e (headSpec wsX0_lastSeen ({ frames := 2, cells := 0, slots := 0, locals := 47 })).room s m ([.ref h, .int x, .int y, .int bd] : List Value).toArray below meth c s.heap [] 0 0 (MQ below (vp_Si (fun r => oh_la n (oh_pt fx fy) (x.toInt, y.toInt) bd.toInt r)) ([.ref h, .int x, .int y, .int bd] : List Value).toArray s 0 0 (fun _ => False)) (F0 m 3 ls []) := by
    clear hl
    intro k_loop
    induction k_loop with
    | zero =>
      intro i hi hk hI
      exfalso; omega
    | succ k_loop ih_loop =>
      intro i hi hk hI ls hl
      refine lv_iload hx hb dX0_lastSeen_3 (lv_at hl 4 rfl) ?_
      refine lv_aload_n hx hb dX0_lastSeen_5 rfl (lv_at hl 0 rfl) ?_
      refine va_get (D := (dC, dI)) (ci := 0) (v := .int (nI n)) (C := RX0) (T := TX0) (N := 7) hx hb hts hin0 hown hK hP 0 rfl rfl 5 (by decide) (hts (.fieldLink RX0 32 "OnlineHull" "corners" "I") (by decide +kernel)) (fun _ h9 => h9) rfl dX0_lastSeen_6 ?_
      refine lv_icmp_ge (tgt := 49) hx hb dX0_lastSeen_9 (by decide) (fun c_9 => ?_) (fun c_9 => ?_)
      · have g_9 : n ≤ i := (nI_leI (a := n) (b := i) (by omega) (by omega)).mp c_9
        refine lv_iconst (v := -1) hx hb dX0_lastSeen_49 (by decide) ?_
        exact W.iret (v := -1) hx hb hr (fun t ht hW => ⟨_, rfl, Or.inr ⟨rfl, fun j hj => hI j (by omega)⟩, ht⟩) (fun _ h => by cases h) dX0_lastSeen_50
      · have g_9 : ¬ n ≤ i := fun q => c_9 ((nI_leI (a := n) (b := i) (by omega) (by omega)).mpr q)
        refine lv_aload_n hx hb dX0_lastSeen_12 rfl (lv_at hl 0 rfl) ?_
        refine lv_iload hx hb dX0_lastSeen_13 (lv_at hl 4 rfl) ?_
        refine lv_iload_n hx hb dX0_lastSeen_15 rfl (lv_at hl 1 rfl) ?_
        refine lv_iload_n hx hb dX0_lastSeen_16 rfl (lv_at hl 2 rfl) ?_
        refine vp_callSi (va_Run.run (va_runV (As := [.int (nI i), .int x, .int y]) (rest := []) ⟨hx, hb, hml, hown, hts⟩ (k_X0_turn l dC dI cI h a1 a2 a3 a4 N n came fx fy rx ry i x y hN hn (by omega) hR hq) (cwV 3 hts gX0_lastSeen_X0_turn rfl rfl rfl (by decide +kernel) ⟨Nat.le_of_ble_eq_true rfl, Nat.le_of_ble_eq_true rfl⟩) (oh_pre (ci := 0) (q0 := 0) hK hP rfl rfl) rfl rfl hl.1 rfl (lv_room (Nat.le_of_ble_eq_true rfl)) dX0_lastSeen_17 ⟨Nat.zero_le _, Nat.zero_le _⟩)) (fun r_17 hr_17 => ?_)
        refine lv_iload_n hx hb dX0_lastSeen_20 rfl (lv_at hl 3 rfl) ?_
        refine lv_icmp_lt (tgt := 43) hx hb dX0_lastSeen_21 (by decide) (fun c_21 => ?_) (fun c_21 => ?_)
        · have g_21 : r_17.toInt < bd.toInt := oh_ltI c_21
          refine lv_iinc (v := nI (i + 1)) (lv' := [(4, .int (nI (i + 1))), (0, .ref h), (1, .int x), (2, .int y), (3, .int bd)]) hx hb dX0_lastSeen_43 hl (k := 4) rfl (nI_1 i) (by decide) rfl (fun ls hl => ?_)
          refine lv_goto (tgt := 3) hx hb dX0_lastSeen_46 (by decide) ?_
          exact ih_loop (i + 1) (by omega) (by omega) (lt_s hI (by omega)) ls (lv_sub hl [1, 2, 3, 4, 0] rfl)
        · have g_21 : bd.toInt ≤ r_17.toInt := oh_nltI c_21
          refine lv_aload_n hx hb dX0_lastSeen_24 rfl (lv_at hl 0 rfl) ?_
          refine lv_aload_n hx hb dX0_lastSeen_25 rfl (lv_at hl 0 rfl) ?_
          refine lv_iload hx hb dX0_lastSeen_26 (lv_at hl 4 rfl) ?_
          refine vp_callSi (va_Run.run (va_runV (As := [.int (nI i)]) (rest := [.ref h]) ⟨hx, hb, hml, hown, hts⟩ (k_X0_previous l dC dI cI h a1 a2 a3 a4 N n came fx fy rx ry i hN hn (by omega)) (cwV 1 hts gX0_lastSeen_X0_previous rfl rfl rfl (by decide +kernel) ⟨Nat.le_of_ble_eq_true rfl, Nat.le_of_ble_eq_true rfl⟩) (oh_pre (ci := 0) (q0 := 0) hK hP rfl rfl) rfl rfl hl.1 rfl (lv_room (Nat.le_of_ble_eq_true rfl)) dX0_lastSeen_28 ⟨Nat.zero_le _, Nat.zero_le _⟩)) (fun r_28 hr_28 => ?_)
          subst hr_28
          refine lv_iload_n hx hb dX0_lastSeen_31 rfl (lv_at hl 1 rfl) ?_
          refine lv_iload_n hx hb dX0_lastSeen_32 rfl (lv_at hl 2 rfl) ?_
          refine vp_callSi (va_Run.run (va_runV (As := [.int (nI (oh_pv n i)), .int x, .int y]) (rest := []) ⟨hx, hb, hml, hown, hts⟩ (k_X0_turn l dC dI cI h a1 a2 a3 a4 N n came fx fy rx ry ((oh_pv n i)) x y hN hn (oh_pv_lt (by omega)) hR hq) (cwV 3 hts gX0_lastSeen_X0_turn rfl rfl rfl (by decide +kernel) ⟨Nat.le_of_ble_eq_true rfl, Nat.le_of_ble_eq_true rfl⟩) (oh_pre (ci := 0) (q0 := 0) hK hP rfl rfl) rfl rfl hl.1 rfl (lv_room (Nat.le_of_ble_eq_true rfl)) dX0_lastSeen_33 ⟨Nat.zero_le _, Nat.zero_le _⟩)) (fun r_33 hr_33 => ?_)
          refine lv_iload_n hx hb dX0_lastSeen_36 rfl (lv_at hl 3 rfl) ?_
          refine lv_icmp_ge (tgt := 43) hx hb dX0_lastSeen_37 (by decide) (fun c_37 => ?_) (fun c_37 => ?_)
          · have g_37 : bd.toInt ≤ r_33.toInt := oh_leI c_37
            refine lv_iinc (v := nI (i + 1)) (lv' := [(4, .int (nI (i + 1))), (0, .ref h), (1, .int x), (2, .int y), (3, .int bd)]) hx hb dX0_lastSeen_43 hl (k := 4) rfl (nI_1 i) (by decide) rfl (fun ls hl => ?_)
            refine lv_goto (tgt := 3) hx hb dX0_lastSeen_46 (by decide) ?_
            exact ih_loop (i + 1) (by omega) (by omega) (lt_s hI (by omega)) ls (lv_sub hl [1, 2, 3, 4, 0] rfl)
          · have g_37 : r_33.toInt < bd.toInt := oh_nleI c_37
            refine lv_iload hx hb dX0_lastSeen_40 (lv_at hl 4 rfl) ?_
            exact W.iret (v := nI i) hx hb hr (fun t ht hW => ⟨_, rfl, Or.inl ⟨i, by omega, rfl, by omega, by omega⟩, ht⟩) (fun _ h => by cases h) dX0_lastSeen_42
  exact loop (n + 1) 0 (by omega) (by omega) (fun j hj => by omega) ls (lv_sub hl [1, 2, 3, 4, 0] rfl)

set_option maxHeartbeats 4000000 in
set_option maxRecDepth 100000 in
theorem k_X0_twiceArea (l : Launch) (dC : Nat → ClassId) (dI : Nat → Nat → Nat) (cI : ClassId) (h a1 a2 a3 a4 N n : Nat) (came : Int32) (fx fy rx ry : Nat → Int32) (hN : N ≤ 64) (hn : n ≤ N) (hR : ∀ j, j < n → oh_inR (fx j) (fy j)) : Met l yX0_twiceArea wsX0_twiceArea ({ frames := 2, cells := 0, slots := 0, locals := 47 }) (va_Pc [.ref h] (fun U => va_P (dC, dI) vwCl [(h, .inr (0, [.int (nI N), .ref a1, .ref a2, .ref a3, .ref a4, .int (nI n), .int came])), (a1, .inl (cI, N, .inl fx)), (a2, .inl (cI, N, .inl fy)), (a3, .inl (cI, N, .inl rx)), (a4, .inl (cI, N, .inl ry))] U.heap ∧ va_K (dC, dI) vwCl [(cI, .int)] U)) (vp_Si (fun r => r = Int32.ofInt (oh_ar (oh_pt fx fy) (n - 2)))) 0 0 (fun _ => False) := by
  refine Met.ofW (cc := cX0_twiceArea) (maxL := 3) (ret := (some .int)) (by decide) rfl ?_
  intro p e s m args below meth c s₁ B hml hv
  obtain ⟨rfl, hP, hK⟩ := hv
  have hx := B.exec
  have hb := B.bytes
  have hr := B.returns
  have hts := atoms_spec (ws := wsX0_twiceArea) B.pre
  have hown : s.vm.findClass RX0 = some m.cls := findClass_of_methodNamed B.named
  have hlocks := B.notSynchronized
  have hin0 : ∀ w ∈ wsX00, w ∈ wsX0_twiceArea := fun w h => List.mem_cons_of_mem _ (List.mem_append_right _ h)
  have hl := lv_entry ([.ref h]) (n := 3) (Nat.le_of_ble_eq_true rfl)
  rw [lg_entry_eq]
  generalize (lg_sl ([.ref h]) ++ List.replicate (3 - (lg_sl ([.ref h])).length) Slot.unset).toArray = ls at hl ⊢
  have hl : lv_has ls 3 [(0, .ref h)] := hl
  refine lv_iconst (v := nI 0) hx hb dX0_twiceArea_0 (by decide) ?_
  refine lv_istore_n (lv' := [(1, .int (nI 0)), (0, .ref h)]) hx hb dX0_twiceArea_1 rfl hl (by decide) rfl (fun ls hl => ?_)
  refine lv_iconst (v := nI 1) hx hb dX0_twiceArea_2 (by decide) ?_
  refine lv_istore_n (lv' := [(2, .int (nI 1)), (1, .int (nI 0)), (0, .ref h)]) hx hb dX0_twiceArea_3 rfl hl (by decide) rfl (fun ls hl => ?_)
  have loop : ∀ (k_loop : Nat) (i : Nat) (sum : Int32), (1 ≤ i) → (i ≤ n ∨ i = 1) → (n + 2 ≤ i + k_loop) → (sum = Int32.ofInt (oh_ar (oh_pt fx fy) (min (i - 1) (n - 2)))) → ∀ (ls : Array Slot), lv_has ls 3 [(0, .ref h), (1, .int sum), (2, .int (nI i))] → W p l e (headSpec wsX0_twiceArea ({ frames := 2, cells := 0, slots := 0, locals := 47 })).room s m ([.ref h] : List Value).toArray below meth c s.heap [] 0 0 (MQ below (vp_Si (fun r => r = Int32.ofInt (oh_ar (oh_pt fx fy) (n - 2)))) ([.ref h] : List Value).toArray s 0 0 (fun _ => False)) (F0 m 4 ls []) := by
    clear hl
    intro k_loop
    induction k_loop with
    | zero =>
      intro i sum hi1 hi hk hI
      exfalso; omega
    | succ k_loop ih_loop =>
      intro i sum hi1 hi hk hI ls hl
      refine lv_iload_n hx hb dX0_twiceArea_4 rfl (lv_at hl 2 rfl) ?_
      refine lv_aload_n hx hb dX0_twiceArea_5 rfl (lv_at hl 0 rfl) ?_
      refine va_get (D := (dC, dI)) (ci := 0) (v := .int (nI n)) (C := RX0) (T := TX0) (N := 7) hx hb hts hin0 hown hK hP 0 rfl rfl 5 (by decide) (hts (.fieldLink RX0 32 "OnlineHull" "corners" "I") (by decide +kernel)) (fun _ h9 => h9) rfl dX0_twiceArea_6 ?_
      refine lv_icmp_ge (tgt := 38) hx hb dX0_twiceArea_9 (by decide) (fun c_9 => ?_) (fun c_9 => ?_)
      · have g_9 : n ≤ i := (nI_leI (a := n) (b := i) (by omega) (by omega)).mp c_9
        refine lv_iload_n hx hb dX0_twiceArea_38 rfl (lv_at hl 1 rfl) ?_
        exact W.iret (v := sum) hx hb hr (fun t ht hW => ⟨_, rfl, by rw [hI, show min (i - 1) (n - 2) = n - 2 by omega], ht⟩) (fun _ h => by cases h) dX0_twiceArea_39
      · have g_9 : ¬ n ≤ i := fun q => c_9 ((nI_leI (a := n) (b := i) (by omega) (by omega)).mpr q)
        refine lv_iload_n hx hb dX0_twiceArea_12 rfl (lv_at hl 1 rfl) ?_
        refine lv_aload_n hx hb dX0_twiceArea_13 rfl (lv_at hl 0 rfl) ?_
        refine lv_iload_n hx hb dX0_twiceArea_14 rfl (lv_at hl 2 rfl) ?_
        refine lv_aload_n hx hb dX0_twiceArea_15 rfl (lv_at hl 0 rfl) ?_
        refine va_get (D := (dC, dI)) (ci := 0) (v := .ref a1) (C := RX0) (T := TX0) (N := 7) hx hb hts hin0 hown hK hP 0 rfl rfl 1 (by decide) (hts (.fieldLink RX0 19 "OnlineHull" "cornerX" "[I") (by decide +kernel)) (fun _ h9 => h9) rfl dX0_twiceArea_16 ?_
        refine lv_iconst (v := nI 0) hx hb dX0_twiceArea_19 (by decide) ?_
        refine oh_ald hx hb hK hP 1 0 rfl rfl (k := 0) (by omega) (by omega) dX0_twiceArea_20 ?_
        refine lv_aload_n hx hb dX0_twiceArea_21 rfl (lv_at hl 0 rfl) ?_
        refine va_get (D := (dC, dI)) (ci := 0) (v := .ref a2) (C := RX0) (T := TX0) (N := 7) hx hb hts hin0 hown hK hP 0 rfl rfl 2 (by decide) (hts (.fieldLink RX0 23 "OnlineHull" "cornerY" "[I") (by decide +kernel)) (fun _ h9 => h9) rfl dX0_twiceArea_22 ?_
        refine lv_iconst (v := nI 0) hx hb dX0_twiceArea_25 (by decide) ?_
        refine oh_ald hx hb hK hP 2 0 rfl rfl (k := 0) (by omega) (by omega) dX0_twiceArea_26 ?_
        refine vp_callSi (va_Run.run (va_runV (As := [.int (nI i), .int (fx 0), .int (fy 0)]) (rest := [.int sum]) ⟨hx, hb, hml, hown, hts⟩ (k_X0_turn l dC dI cI h a1 a2 a3 a4 N n came fx fy rx ry i (fx 0) (fy 0) hN hn (by omega) hR (hR 0 (by omega))) (cwV 3 hts gX0_twiceArea_X0_turn rfl rfl rfl (by decide +kernel) ⟨Nat.le_of_ble_eq_true rfl, Nat.le_of_ble_eq_true rfl⟩) (oh_pre (ci := 0) (q0 := 0) hK hP rfl rfl) rfl rfl hl.1 rfl (lv_room (Nat.le_of_ble_eq_true rfl)) dX0_twiceArea_27 ⟨Nat.zero_le _, Nat.zero_le _⟩)) (fun r_27 hr_27 => ?_)
        refine lv_iadd hx hb dX0_twiceArea_30 ?_
        refine lv_istore_n (lv' := [(1, .int (sum + r_27)), (0, .ref h), (2, .int (nI i))]) hx hb dX0_twiceArea_31 rfl hl (by decide) rfl (fun ls hl => ?_)
        refine lv_iinc (v := nI (i + 1)) (lv' := [(2, .int (nI (i + 1))), (1, .int (sum + r_27)), (0, .ref h)]) hx hb dX0_twiceArea_32 hl (k := 2) rfl (nI_1 i) (by decide) rfl (fun ls hl => ?_)
        refine lv_goto (tgt := 4) hx hb dX0_twiceArea_35 (by decide) ?_
        exact ih_loop (i + 1) (sum + r_27) (by omega) (by omega) (by omega) (oh_arS hI hr_27 (by omega) hi1) ls (lv_sub hl [2, 1, 0] rfl)
  exact loop (n + 2) 1 (nI 0) (by omega) (by omega) (by omega) (by rw [show min (1 - 1) (n - 2) = 0 by omega]; rfl) ls (lv_sub hl [2, 1, 0] rfl)

set_option maxHeartbeats 4000000 in
set_option maxRecDepth 100000 in
theorem k_X0_farthest (l : Launch) (dC : Nat → ClassId) (dI : Nat → Nat → Nat) (cI : ClassId) (h a1 a2 a3 a4 N n : Nat) (came : Int32) (fx fy rx ry : Nat → Int32) (x y : Int32) (hN : N ≤ 64) (hn : n ≤ N) (hR : ∀ j, j < n → oh_inR (fx j) (fy j)) : Met l yX0_farthest wsX0_farthest ({ frames := 1, cells := 0, slots := 0, locals := 23 }) (va_Pc [.ref h, .int x, .int y] (fun U => va_P (dC, dI) vwCl [(h, .inr (0, [.int (nI N), .ref a1, .ref a2, .ref a3, .ref a4, .int (nI n), .int came])), (a1, .inl (cI, N, .inl fx)), (a2, .inl (cI, N, .inl fy)), (a3, .inl (cI, N, .inl rx)), (a4, .inl (cI, N, .inl ry))] U.heap ∧ va_K (dC, dI) vwCl [(cI, .int)] U)) (vp_Si (fun r => oh_far n (oh_pt fx fy) x y r)) 0 0 (fun _ => False) := by
  refine Met.ofW (cc := cX0_farthest) (maxL := 5) (ret := (some .int)) (by decide) rfl ?_
  intro p e s m args below meth c s₁ B hml hv
  obtain ⟨rfl, hP, hK⟩ := hv
  have hx := B.exec
  have hb := B.bytes
  have hr := B.returns
  have hts := atoms_spec (ws := wsX0_farthest) B.pre
  have hown : s.vm.findClass RX0 = some m.cls := findClass_of_methodNamed B.named
  have hlocks := B.notSynchronized
  have hin0 : ∀ w ∈ wsX00, w ∈ wsX0_farthest := fun w h => List.mem_cons_of_mem _ (List.mem_append_right _ h)
  have hl := lv_entry ([.ref h, .int x, .int y]) (n := 5) (Nat.le_of_ble_eq_true rfl)
  rw [lg_entry_eq]
  generalize (lg_sl ([.ref h, .int x, .int y]) ++ List.replicate (5 - (lg_sl ([.ref h, .int x, .int y])).length) Slot.unset).toArray = ls at hl ⊢
  have hl : lv_has ls 5 [(0, .ref h), (1, .int x), (2, .int y)] := hl
  refine lv_aload_n hx hb dX0_farthest_0 rfl (lv_at hl 0 rfl) ?_
  refine va_get (D := (dC, dI)) (ci := 0) (v := .int (nI n)) (C := RX0) (T := TX0) (N := 7) hx hb hts hin0 hown hK hP 0 rfl rfl 5 (by decide) (hts (.fieldLink RX0 32 "OnlineHull" "corners" "I") (by decide +kernel)) (fun _ h9 => h9) rfl dX0_farthest_1 ?_
  refine lv_if_eq (tgt := 15) hx hb dX0_farthest_4 (by decide) (fun c_4 => ?_) (fun c_4 => ?_)
  · have g_4 : n = 0 := (nI_eq (a := n) (b := 0) (by omega) (by omega)).mp (c_4.trans nI_0.symm)
    refine lv_iconst (v := -1) hx hb dX0_farthest_15 (by decide) ?_
    exact W.iret (v := -1) hx hb hr (fun t ht hW => ⟨_, rfl, Or.inl ⟨by first | exact Or.inl (by omega) | exact Or.inr b_9, rfl⟩, ht⟩) (fun _ h => by cases h) dX0_farthest_16
  · have g_4 : n ≠ 0 := fun q => (fun q => c_4 (q.trans nI_0)) ((nI_eq (a := n) (b := 0) (by omega) (by omega)).mpr q)
    refine lv_iload_n hx hb dX0_farthest_7 rfl (lv_at hl 1 rfl) ?_
    refine lv_iload_n hx hb dX0_farthest_8 rfl (lv_at hl 2 rfl) ?_
    refine vp_callSi (va_Run.run (va_runS (As := [.int x, .int y]) (rest := []) ⟨hx, hb, hml, hown, hts⟩ (k_X0_inRange l x y) (va_cwS 2 hts gX0_farthest_X0_inRange rfl rfl rfl (by decide +kernel) ⟨Nat.le_of_ble_eq_true rfl, Nat.le_of_ble_eq_true rfl⟩) oh_pre0 rfl rfl hl.1 rfl (lv_room (Nat.le_of_ble_eq_true rfl)) dX0_farthest_9 ⟨Nat.zero_le _, Nat.zero_le _⟩)) (fun r_9 hr_9 => ?_)
    rcases hr_9 with ⟨b_9, hr_9⟩ | ⟨b_9, hr_9⟩ <;> subst hr_9
    · refine lv_if_ne (tgt := 17) hx hb dX0_farthest_12 (by decide) (fun _ => ?_) (fun q => absurd q (by decide))
      refine lv_iconst (v := nI 0) hx hb dX0_farthest_17 (by decide) ?_
      refine lv_istore_n (lv' := [(3, .int (nI 0)), (0, .ref h), (1, .int x), (2, .int y)]) hx hb dX0_farthest_18 rfl hl (by decide) rfl (fun ls hl => ?_)
      refine lv_iconst (v := nI 1) hx hb dX0_farthest_19 (by decide) ?_
      refine lv_istore (lv' := [(4, .int (nI 1)), (3, .int (nI 0)), (0, .ref h), (1, .int x), (2, .int y)]) hx hb dX0_farthest_20 hl (by decide) rfl (fun ls hl => ?_)
      have loop : ∀ (k_loop : Nat) (i : Nat) (b : Nat), (1 ≤ i) → (i ≤ n) → (n + 1 ≤ i + k_loop) → (b < i) → (∀ j, j < i → oh_rc (oh_pt fx fy) x.toInt y.toInt j ≤ oh_rc (oh_pt fx fy) x.toInt y.toInt b) → (∀ j, j < b → oh_rc (oh_pt fx fy) x.toInt y.toInt j < oh_rc (oh_pt fx fy) x.toInt y.toInt b) → ∀ (ls : Array Slot), lv_has ls 5 [(0, .ref h), (1, .int x), (2, .int y), (3, .int (nI b)), (4, .int (nI i))] → W p l e (headSpec wsX0_farthest ({ frames := 1, cells := 0, slots := 0, locals := 23 })).room s m ([.ref h, .int x, .int y] : List Value).toArray below meth c s.heap [] 0 0 (MQ below (vp_Si (fun r => oh_far n (oh_pt fx fy) x y r)) ([.ref h, .int x, .int y] : List Value).toArray s 0 0 (fun _ => False)) (F0 m 22 ls []) := by
        clear hl
        intro k_loop
        induction k_loop with
        | zero =>
          intro i b hi1 hi hk hb9 hI1 hI2
          exfalso; omega
        | succ k_loop ih_loop =>
          intro i b hi1 hi hk hb9 hI1 hI2 ls hl
          refine lv_iload hx hb dX0_farthest_22 (lv_at hl 4 rfl) ?_
          refine lv_aload_n hx hb dX0_farthest_24 rfl (lv_at hl 0 rfl) ?_
          refine va_get (D := (dC, dI)) (ci := 0) (v := .int (nI n)) (C := RX0) (T := TX0) (N := 7) hx hb hts hin0 hown hK hP 0 rfl rfl 5 (by decide) (hts (.fieldLink RX0 32 "OnlineHull" "corners" "I") (by decide +kernel)) (fun _ h9 => h9) rfl dX0_farthest_25 ?_
          refine lv_icmp_ge (tgt := 58) hx hb dX0_farthest_28 (by decide) (fun c_28 => ?_) (fun c_28 => ?_)
          · have g_28 : n ≤ i := (nI_leI (a := n) (b := i) (by omega) (by omega)).mp c_28
            refine lv_iload_n hx hb dX0_farthest_58 rfl (lv_at hl 3 rfl) ?_
            exact W.iret (v := nI b) hx hb hr (fun t ht hW => ⟨_, rfl, Or.inr ⟨b_9, b, by omega, rfl, fun j hj => hI1 j (by omega), hI2⟩, ht⟩) (fun _ h => by cases h) dX0_farthest_59
          · have g_28 : ¬ n ≤ i := fun q => c_28 ((nI_leI (a := n) (b := i) (by omega) (by omega)).mpr q)
            refine lv_aload_n hx hb dX0_farthest_31 rfl (lv_at hl 0 rfl) ?_
            refine lv_iload hx hb dX0_farthest_32 (lv_at hl 4 rfl) ?_
            refine lv_iload_n hx hb dX0_farthest_34 rfl (lv_at hl 1 rfl) ?_
            refine lv_iload_n hx hb dX0_farthest_35 rfl (lv_at hl 2 rfl) ?_
            refine vp_callSi (va_Run.run (va_runV (As := [.int (nI i), .int x, .int y]) (rest := []) ⟨hx, hb, hml, hown, hts⟩ (k_X0_reach l dC dI cI h a1 a2 a3 a4 N n came fx fy rx ry i x y hN hn (by omega) hR b_9) (cwV 3 hts gX0_farthest_X0_reach rfl rfl rfl (by decide +kernel) ⟨Nat.le_of_ble_eq_true rfl, Nat.le_of_ble_eq_true rfl⟩) (oh_pre (ci := 0) (q0 := 0) hK hP rfl rfl) rfl rfl hl.1 rfl (lv_room (Nat.le_of_ble_eq_true rfl)) dX0_farthest_36 ⟨Nat.zero_le _, Nat.zero_le _⟩)) (fun r_36 hr_36 => ?_)
            have hr_36 : r_36.toInt = oh_rc (oh_pt fx fy) x.toInt y.toInt i := hr_36
            refine lv_aload_n hx hb dX0_farthest_39 rfl (lv_at hl 0 rfl) ?_
            refine lv_iload_n hx hb dX0_farthest_40 rfl (lv_at hl 3 rfl) ?_
            refine lv_iload_n hx hb dX0_farthest_41 rfl (lv_at hl 1 rfl) ?_
            refine lv_iload_n hx hb dX0_farthest_42 rfl (lv_at hl 2 rfl) ?_
            refine vp_callSi (va_Run.run (va_runV (As := [.int (nI b), .int x, .int y]) (rest := [.int r_36]) ⟨hx, hb, hml, hown, hts⟩ (k_X0_reach l dC dI cI h a1 a2 a3 a4 N n came fx fy rx ry b x y hN hn (by omega) hR b_9) (cwV 3 hts gX0_farthest_X0_reach rfl rfl rfl (by decide +kernel) ⟨Nat.le_of_ble_eq_true rfl, Nat.le_of_ble_eq_true rfl⟩) (oh_pre (ci := 0) (q0 := 0) hK hP rfl rfl) rfl rfl hl.1 rfl (lv_room (Nat.le_of_ble_eq_true rfl)) dX0_farthest_43 ⟨Nat.zero_le _, Nat.zero_le _⟩)) (fun r_43 hr_43 => ?_)
            have hr_43 : r_43.toInt = oh_rc (oh_pt fx fy) x.toInt y.toInt b := hr_43
            refine lv_icmp_le (tgt := 52) hx hb dX0_farthest_46 (by decide) (fun c_46 => ?_) (fun c_46 => ?_)
            · have g_46 : r_36.toInt ≤ r_43.toInt := oh_leI c_46
              refine lv_iinc (v := nI (i + 1)) (lv' := [(4, .int (nI (i + 1))), (0, .ref h), (1, .int x), (2, .int y), (3, .int (nI b))]) hx hb dX0_farthest_52 hl (k := 4) rfl (nI_1 i) (by decide) rfl (fun ls hl => ?_)
              refine lv_goto (tgt := 22) hx hb dX0_farthest_55 (by decide) ?_
              exact ih_loop (i + 1) b (by omega) (by omega) (by omega) (by omega) (lt_s hI1 (by omega)) (hI2) ls (lv_sub hl [1, 2, 3, 4, 0] rfl)
            · have g_46 : r_43.toInt < r_36.toInt := oh_nleI c_46
              refine lv_iload hx hb dX0_farthest_49 (lv_at hl 4 rfl) ?_
              refine lv_istore_n (lv' := [(3, .int (nI i)), (0, .ref h), (1, .int x), (2, .int y), (4, .int (nI i))]) hx hb dX0_farthest_51 rfl hl (by decide) rfl (fun ls hl => ?_)
              refine lv_iinc (v := nI (i + 1)) (lv' := [(4, .int (nI (i + 1))), (3, .int (nI i)), (0, .ref h), (1, .int x), (2, .int y)]) hx hb dX0_farthest_52 hl (k := 4) rfl (nI_1 i) (by decide) rfl (fun ls hl => ?_)
              refine lv_goto (tgt := 22) hx hb dX0_farthest_55 (by decide) ?_
              exact ih_loop (i + 1) i (by omega) (by omega) (by omega) (by omega) (lt_s (fun j hj => by have := hI1 j hj; omega) (Int.le_refl _)) (fun j hj => by have := hI1 j hj; omega) ls (lv_sub hl [2, 3, 4, 1, 0] rfl)
      exact loop (n + 1) 1 0 (by omega) (by omega) (by omega) (by omega) (fun j hj => by rw [show j = 0 by omega]; exact Int.le_refl _) (fun j hj => by omega) ls (lv_sub hl [2, 3, 4, 1, 0] rfl)
    · refine lv_if_ne (tgt := 17) hx hb dX0_farthest_12 (by decide) (fun q => absurd q (by decide)) (fun _ => ?_)
      refine lv_iconst (v := -1) hx hb dX0_farthest_15 (by decide) ?_
      exact W.iret (v := -1) hx hb hr (fun t ht hW => ⟨_, rfl, Or.inl ⟨by first | exact Or.inl (by omega) | exact Or.inr b_9, rfl⟩, ht⟩) (fun _ h => by cases h) dX0_farthest_16

set_option maxHeartbeats 4000000 in
set_option maxRecDepth 100000 in
theorem k_X0_diameter (l : Launch) (dC : Nat → ClassId) (dI : Nat → Nat → Nat) (cI : ClassId) (h a1 a2 a3 a4 N n : Nat) (came : Int32) (fx fy rx ry : Nat → Int32) (hN : N ≤ 64) (hn : n ≤ N) (hR : ∀ j, j < n → oh_inR (fx j) (fy j)) : Met l yX0_diameter wsX0_diameter ({ frames := 1, cells := 0, slots := 0, locals := 24 }) (va_Pc [.ref h] (fun U => va_P (dC, dI) vwCl [(h, .inr (0, [.int (nI N), .ref a1, .ref a2, .ref a3, .ref a4, .int (nI n), .int came])), (a1, .inl (cI, N, .inl fx)), (a2, .inl (cI, N, .inl fy)), (a3, .inl (cI, N, .inl rx)), (a4, .inl (cI, N, .inl ry))] U.heap ∧ va_K (dC, dI) vwCl [(cI, .int)] U)) (vp_Si (fun r => oh_dia n (oh_pt fx fy) r)) 0 0 (fun _ => False) := by
  refine Met.ofW (cc := cX0_diameter) (maxL := 4) (ret := (some .int)) (by decide) rfl ?_
  intro p e s m args below meth c s₁ B hml hv
  obtain ⟨rfl, hP, hK⟩ := hv
  have hx := B.exec
  have hb := B.bytes
  have hr := B.returns
  have hts := atoms_spec (ws := wsX0_diameter) B.pre
  have hown : s.vm.findClass RX0 = some m.cls := findClass_of_methodNamed B.named
  have hlocks := B.notSynchronized
  have hin0 : ∀ w ∈ wsX00, w ∈ wsX0_diameter := fun w h => List.mem_cons_of_mem _ (List.mem_append_right _ h)
  have hl := lv_entry ([.ref h]) (n := 4) (Nat.le_of_ble_eq_true rfl)
  rw [lg_entry_eq]
  generalize (lg_sl ([.ref h]) ++ List.replicate (4 - (lg_sl ([.ref h])).length) Slot.unset).toArray = ls at hl ⊢
  have hl : lv_has ls 4 [(0, .ref h)] := hl
  refine lv_iconst (v := nI 0) hx hb dX0_diameter_0 (by decide) ?_
  refine lv_istore_n (lv' := [(1, .int (nI 0)), (0, .ref h)]) hx hb dX0_diameter_1 rfl hl (by decide) rfl (fun ls hl => ?_)
  refine lv_iconst (v := nI 0) hx hb dX0_diameter_2 (by decide) ?_
  refine lv_istore_n (lv' := [(2, .int (nI 0)), (1, .int (nI 0)), (0, .ref h)]) hx hb dX0_diameter_3 rfl hl (by decide) rfl (fun ls hl => ?_)
  have loop : ∀ (k_loop : Nat) (i : Nat) (gr : Int32), (i ≤ n) → (n + 1 ≤ i + k_loop) → (0 ≤ gr.toInt) → (∀ a b, a < b → b < i → oh_d2 (oh_pt fx fy a) (oh_pt fx fy b) ≤ gr.toInt) → (gr.toInt = 0 ∨ ∃ a b, a < b ∧ b < n ∧ gr.toInt = oh_d2 (oh_pt fx fy a) (oh_pt fx fy b)) → ∀ (ls : Array Slot), lv_has ls 4 [(0, .ref h), (1, .int gr), (2, .int (nI i))] → W p l e (headSpec wsX0_diameter ({ frames := 1, cells := 0, slots := 0, locals := 24 })).room s m ([.ref h] : List Value).toArray below meth c s.heap [] 0 0 (MQ below (vp_Si (fun r => oh_dia n (oh_pt fx fy) r)) ([.ref h] : List Value).toArray s 0 0 (fun _ => False)) (F0 m 4 ls []) := by
    clear hl
    intro k_loop
    induction k_loop with
    | zero =>
      intro i gr hi hk hG0 hG1 hG2
      exfalso; omega
    | succ k_loop ih_loop =>
      intro i gr hi hk hG0 hG1 hG2 ls hl
      refine lv_iload_n hx hb dX0_diameter_4 rfl (lv_at hl 2 rfl) ?_
      refine lv_aload_n hx hb dX0_diameter_5 rfl (lv_at hl 0 rfl) ?_
      refine va_get (D := (dC, dI)) (ci := 0) (v := .int (nI n)) (C := RX0) (T := TX0) (N := 7) hx hb hts hin0 hown hK hP 0 rfl rfl 5 (by decide) (hts (.fieldLink RX0 32 "OnlineHull" "corners" "I") (by decide +kernel)) (fun _ h9 => h9) rfl dX0_diameter_6 ?_
      refine lv_icmp_ge (tgt := 42) hx hb dX0_diameter_9 (by decide) (fun c_9 => ?_) (fun c_9 => ?_)
      · have g_9 : n ≤ i := (nI_leI (a := n) (b := i) (by omega) (by omega)).mp c_9
        refine lv_iload_n hx hb dX0_diameter_42 rfl (lv_at hl 1 rfl) ?_
        exact W.iret (v := gr) hx hb hr (fun t ht hW => ⟨_, rfl, ⟨hG0, fun a b h1 h2 => hG1 a b h1 (by omega), hG2⟩, ht⟩) (fun _ h => by cases h) dX0_diameter_43
      · have g_9 : ¬ n ≤ i := fun q => c_9 ((nI_leI (a := n) (b := i) (by omega) (by omega)).mpr q)
        refine lv_iconst (v := nI 0) hx hb dX0_diameter_12 (by decide) ?_
        refine lv_istore_n (lv' := [(3, .int (nI 0)), (0, .ref h), (1, .int gr), (2, .int (nI i))]) hx hb dX0_diameter_13 rfl hl (by decide) rfl (fun ls hl => ?_)
        have loopj : ∀ (k_loopj : Nat) (j : Nat) (gr : Int32), (j ≤ i) → (i + 1 ≤ j + k_loopj) → (0 ≤ gr.toInt) → (∀ a b, a < b → b < i → oh_d2 (oh_pt fx fy a) (oh_pt fx fy b) ≤ gr.toInt) → (∀ a, a < j → oh_d2 (oh_pt fx fy a) (oh_pt fx fy i) ≤ gr.toInt) → (gr.toInt = 0 ∨ ∃ a b, a < b ∧ b < n ∧ gr.toInt = oh_d2 (oh_pt fx fy a) (oh_pt fx fy b)) → ∀ (ls : Array Slot), lv_has ls 4 [(0, .ref h), (1, .int gr), (2, .int (nI i)), (3, .int (nI j))] → W p l e (headSpec wsX0_diameter ({ frames := 1, cells := 0, slots := 0, locals := 24 })).room s m ([.ref h] : List Value).toArray below meth c s.heap [] 0 0 (MQ below (vp_Si (fun r => oh_dia n (oh_pt fx fy) r)) ([.ref h] : List Value).toArray s 0 0 (fun _ => False)) (F0 m 14 ls []) := by
          clear hl
          intro k_loopj
          induction k_loopj with
          | zero =>
            intro j gr hj hk2 hG0 hG1 hG3 hG2
            exfalso; omega
          | succ k_loopj ih_loopj =>
            intro j gr hj hk2 hG0 hG1 hG3 hG2 ls hl
            refine lv_iload_n hx hb dX0_diameter_14 rfl (lv_at hl 3 rfl) ?_
            refine lv_iload_n hx hb dX0_diameter_15 rfl (lv_at hl 2 rfl) ?_
            refine lv_icmp_ge (tgt := 36) hx hb dX0_diameter_16 (by decide) (fun c_16 => ?_) (fun c_16 => ?_)
            · have g_16 : i ≤ j := (nI_leI (a := i) (b := j) (by omega) (by omega)).mp c_16
              refine lv_iinc (v := nI (i + 1)) (lv' := [(2, .int (nI (i + 1))), (0, .ref h), (1, .int gr), (3, .int (nI j))]) hx hb dX0_diameter_36 hl (k := 2) rfl (nI_1 i) (by decide) rfl (fun ls hl => ?_)
              refine lv_goto (tgt := 4) hx hb dX0_diameter_39 (by decide) ?_
              exact ih_loop (i + 1) gr (by omega) (by omega) (hG0) (fun a b h1 h2 => by by_cases hb : b = i; exact (by subst hb; exact hG3 a (by omega)); exact (hG1 a b h1 (by omega))) (hG2) ls (lv_sub hl [1, 2, 0] rfl)
            · have g_16 : ¬ i ≤ j := fun q => c_16 ((nI_leI (a := i) (b := j) (by omega) (by omega)).mpr q)
              refine lv_iload_n hx hb dX0_diameter_19 rfl (lv_at hl 1 rfl) ?_
              refine lv_aload_n hx hb dX0_diameter_20 rfl (lv_at hl 0 rfl) ?_
              refine lv_iload_n hx hb dX0_diameter_21 rfl (lv_at hl 2 rfl) ?_
              refine lv_iload_n hx hb dX0_diameter_22 rfl (lv_at hl 3 rfl) ?_
              refine vp_callSi (va_Run.run (va_runV (As := [.int (nI i), .int (nI j)]) (rest := [.int gr]) ⟨hx, hb, hml, hown, hts⟩ (k_X0_squaredDistance l dC dI cI h a1 a2 a3 a4 N n came fx fy rx ry i j hN hn (by omega) (by omega) hR) (cwV 2 hts gX0_diameter_X0_squaredDistance rfl rfl rfl (by decide +kernel) ⟨Nat.le_of_ble_eq_true rfl, Nat.le_of_ble_eq_true rfl⟩) (oh_pre (ci := 0) (q0 := 0) hK hP rfl rfl) rfl rfl hl.1 rfl (lv_room (Nat.le_of_ble_eq_true rfl)) dX0_diameter_23 ⟨Nat.zero_le _, Nat.zero_le _⟩)) (fun r_23 hr_23 => ?_)
              refine va_mmax hx hb (by rw [hml]; exact hl.1.symm) hown (hts (.methodLink RX0 74 Lib.Math.max.name) (by decide +kernel)) (hts (.static Lib.Math.max.name) (by decide +kernel)) (hts (.initialized "java/lang/Math") (by decide +kernel)) (hts (.code Lib.Math.max.name Lib.Math.max.code 2 (some .int)) (by decide +kernel)) (Nat.le_of_ble_eq_true rfl) (Nat.le_of_ble_eq_true rfl) (Nat.zero_le _) (Nat.zero_le _) dX0_diameter_26 ?_
              refine lv_topi (fun mx_26 e_26 => ?_)
              have f_26 := oh_mx e_26
              refine lv_istore_n (lv' := [(1, .int mx_26), (0, .ref h), (2, .int (nI i)), (3, .int (nI j))]) hx hb dX0_diameter_29 rfl hl (by decide) rfl (fun ls hl => ?_)
              refine lv_iinc (v := nI (j + 1)) (lv' := [(3, .int (nI (j + 1))), (1, .int mx_26), (0, .ref h), (2, .int (nI i))]) hx hb dX0_diameter_30 hl (k := 3) rfl (nI_1 j) (by decide) rfl (fun ls hl => ?_)
              refine lv_goto (tgt := 14) hx hb dX0_diameter_33 (by decide) ?_
              exact ih_loopj (j + 1) mx_26 (by omega) (by omega) (by rcases f_26 with ⟨f, e⟩ | ⟨f, e⟩ <;> subst e <;> omega) (fun a b h1 h2 => by have := hG1 a b h1 h2; rcases f_26 with ⟨f, e⟩ | ⟨f, e⟩ <;> subst e <;> omega) (lt_s (fun a ha => by have := hG3 a ha; rcases f_26 with ⟨f, e⟩ | ⟨f, e⟩ <;> subst e <;> omega) (by rcases f_26 with ⟨f, e⟩ | ⟨f, e⟩ <;> subst e <;> omega)) (by rcases f_26 with ⟨f, e⟩ | ⟨f, e⟩ <;> subst e; exact (Or.inr ⟨j, i, by omega, by omega, by omega⟩); exact (hG2)) ls (lv_sub hl [2, 1, 3, 0] rfl)
        exact loopj (i + 1) 0 gr (by omega) (by omega) (hG0) (hG1) (fun a ha => by omega) (hG2) ls (lv_sub hl [1, 2, 3, 0] rfl)
  exact loop (n + 1) 0 (nI 0) (by omega) (by omega) (by decide) (fun a b h1 h2 => by omega) (Or.inl (by decide)) ls (lv_sub hl [2, 1, 0] rfl)

set_option maxHeartbeats 4000000 in
set_option maxRecDepth 100000 in
theorem k_X0_leastOfRing (l : Launch) (dC : Nat → ClassId) (dI : Nat → Nat → Nat) (cI : ClassId) (h a1 a2 a3 a4 N n : Nat) (came : Int32) (fx fy rx ry : Nat → Int32) (hN : N ≤ 64) (hn : n ≤ N) (h0 : 0 < n) : Met l yX0_leastOfRing wsX0_leastOfRing ({ frames := 1, cells := 0, slots := 0, locals := 23 }) (va_Pc [.ref h] (fun U => va_P (dC, dI) vwCl [(h, .inr (0, [.int (nI N), .ref a1, .ref a2, .ref a3, .ref a4, .int (nI n), .int came])), (a1, .inl (cI, N, .inl fx)), (a2, .inl (cI, N, .inl fy)), (a3, .inl (cI, N, .inl rx)), (a4, .inl (cI, N, .inl ry))] U.heap ∧ va_K (dC, dI) vwCl [(cI, .int)] U)) (vp_Si (fun r => ∃ b, b < n ∧ r = nI b ∧ ∀ j, j < n → ¬ oh_lx ((oh_pt rx ry) j) ((oh_pt rx ry) b))) 0 0 (fun _ => False) := by
  refine Met.ofW (cc := cX0_leastOfRing) (maxL := 3) (ret := (some .int)) (by decide) rfl ?_
  intro p e s m args below meth c s₁ B hml hv
  obtain ⟨rfl, hP, hK⟩ := hv
  have hx := B.exec
  have hb := B.bytes
  have hr := B.returns
  have hts := atoms_spec (ws := wsX0_leastOfRing) B.pre
  have hown : s.vm.findClass RX0 = some m.cls := findClass_of_methodNamed B.named
  have hlocks := B.notSynchronized
  have hin0 : ∀ w ∈ wsX00, w ∈ wsX0_leastOfRing := fun w h => List.mem_cons_of_mem _ (List.mem_append_right _ h)
  have hl := lv_entry ([.ref h]) (n := 3) (Nat.le_of_ble_eq_true rfl)
  rw [lg_entry_eq]
  generalize (lg_sl ([.ref h]) ++ List.replicate (3 - (lg_sl ([.ref h])).length) Slot.unset).toArray = ls at hl ⊢
  have hl : lv_has ls 3 [(0, .ref h)] := hl
  refine lv_iconst (v := nI 0) hx hb dX0_leastOfRing_0 (by decide) ?_
  refine lv_istore_n (lv' := [(1, .int (nI 0)), (0, .ref h)]) hx hb dX0_leastOfRing_1 rfl hl (by decide) rfl (fun ls hl => ?_)
  refine lv_iconst (v := nI 1) hx hb dX0_leastOfRing_2 (by decide) ?_
  refine lv_istore_n (lv' := [(2, .int (nI 1)), (1, .int (nI 0)), (0, .ref h)]) hx hb dX0_leastOfRing_3 rfl hl (by decide) rfl (fun ls hl => ?_)
  have loop : ∀ (k_loop : Nat) (i : Nat) (b : Nat), (1 ≤ i) → (i ≤ n) → (n + 1 ≤ i + k_loop) → (b < i) → (∀ j, j < i → ¬ oh_lx ((oh_pt rx ry) j) ((oh_pt rx ry) b)) → ∀ (ls : Array Slot), lv_has ls 3 [(0, .ref h), (1, .int (nI b)), (2, .int (nI i))] → W p l e (headSpec wsX0_leastOfRing ({ frames := 1, cells := 0, slots := 0, locals := 23 })).room s m ([.ref h] : List Value).toArray below meth c s.heap [] 0 0 (MQ below (vp_Si (fun r => ∃ b, b < n ∧ r = nI b ∧ ∀ j, j < n → ¬ oh_lx ((oh_pt rx ry) j) ((oh_pt rx ry) b))) ([.ref h] : List Value).toArray s 0 0 (fun _ => False)) (F0 m 4 ls []) := by
    clear hl
    intro k_loop
    induction k_loop with
    | zero =>
      intro i b hi1 hi hk hb9 hI
      exfalso; omega
    | succ k_loop ih_loop =>
      intro i b hi1 hi hk hb9 hI ls hl
      refine lv_iload_n hx hb dX0_leastOfRing_4 rfl (lv_at hl 2 rfl) ?_
      refine lv_aload_n hx hb dX0_leastOfRing_5 rfl (lv_at hl 0 rfl) ?_
      refine va_get (D := (dC, dI)) (ci := 0) (v := .int (nI n)) (C := RX0) (T := TX0) (N := 7) hx hb hts hin0 hown hK hP 0 rfl rfl 5 (by decide) (hts (.fieldLink RX0 32 "OnlineHull" "corners" "I") (by decide +kernel)) (fun _ h9 => h9) rfl dX0_leastOfRing_6 ?_
      refine lv_icmp_ge (tgt := 50) hx hb dX0_leastOfRing_9 (by decide) (fun c_9 => ?_) (fun c_9 => ?_)
      · have g_9 : n ≤ i := (nI_leI (a := n) (b := i) (by omega) (by omega)).mp c_9
        refine lv_iload_n hx hb dX0_leastOfRing_50 rfl (lv_at hl 1 rfl) ?_
        exact W.iret (v := nI b) hx hb hr (fun t ht hW => ⟨_, rfl, ⟨b, by omega, rfl, fun j hj => hI j (by omega)⟩, ht⟩) (fun _ h => by cases h) dX0_leastOfRing_51
      · have g_9 : ¬ n ≤ i := fun q => c_9 ((nI_leI (a := n) (b := i) (by omega) (by omega)).mpr q)
        refine lv_aload_n hx hb dX0_leastOfRing_12 rfl (lv_at hl 0 rfl) ?_
        refine va_get (D := (dC, dI)) (ci := 0) (v := .ref a3) (C := RX0) (T := TX0) (N := 7) hx hb hts hin0 hown hK hP 0 rfl rfl 3 (by decide) (hts (.fieldLink RX0 26 "OnlineHull" "ringX" "[I") (by decide +kernel)) (fun _ h9 => h9) rfl dX0_leastOfRing_13 ?_
        refine lv_iload_n hx hb dX0_leastOfRing_16 rfl (lv_at hl 2 rfl) ?_
        refine oh_ald hx hb hK hP 3 0 rfl rfl (k := i) (by omega) (by omega) dX0_leastOfRing_17 ?_
        refine lv_aload_n hx hb dX0_leastOfRing_18 rfl (lv_at hl 0 rfl) ?_
        refine va_get (D := (dC, dI)) (ci := 0) (v := .ref a4) (C := RX0) (T := TX0) (N := 7) hx hb hts hin0 hown hK hP 0 rfl rfl 4 (by decide) (hts (.fieldLink RX0 29 "OnlineHull" "ringY" "[I") (by decide +kernel)) (fun _ h9 => h9) rfl dX0_leastOfRing_19 ?_
        refine lv_iload_n hx hb dX0_leastOfRing_22 rfl (lv_at hl 2 rfl) ?_
        refine oh_ald hx hb hK hP 4 0 rfl rfl (k := i) (by omega) (by omega) dX0_leastOfRing_23 ?_
        refine lv_aload_n hx hb dX0_leastOfRing_24 rfl (lv_at hl 0 rfl) ?_
        refine va_get (D := (dC, dI)) (ci := 0) (v := .ref a3) (C := RX0) (T := TX0) (N := 7) hx hb hts hin0 hown hK hP 0 rfl rfl 3 (by decide) (hts (.fieldLink RX0 26 "OnlineHull" "ringX" "[I") (by decide +kernel)) (fun _ h9 => h9) rfl dX0_leastOfRing_25 ?_
        refine lv_iload_n hx hb dX0_leastOfRing_28 rfl (lv_at hl 1 rfl) ?_
        refine oh_ald hx hb hK hP 3 0 rfl rfl (k := b) (by omega) (by omega) dX0_leastOfRing_29 ?_
        refine lv_aload_n hx hb dX0_leastOfRing_30 rfl (lv_at hl 0 rfl) ?_
        refine va_get (D := (dC, dI)) (ci := 0) (v := .ref a4) (C := RX0) (T := TX0) (N := 7) hx hb hts hin0 hown hK hP 0 rfl rfl 4 (by decide) (hts (.fieldLink RX0 29 "OnlineHull" "ringY" "[I") (by decide +kernel)) (fun _ h9 => h9) rfl dX0_leastOfRing_31 ?_
        refine lv_iload_n hx hb dX0_leastOfRing_34 rfl (lv_at hl 1 rfl) ?_
        refine oh_ald hx hb hK hP 4 0 rfl rfl (k := b) (by omega) (by omega) dX0_leastOfRing_35 ?_
        refine vp_callSi (va_Run.run (va_runS (As := [.int (rx i), .int (ry i), .int (rx b), .int (ry b)]) (rest := []) ⟨hx, hb, hml, hown, hts⟩ (k_X0_comesBefore l (rx i) (ry i) (rx b) (ry b)) (va_cwS 4 hts gX0_leastOfRing_X0_comesBefore rfl rfl rfl (by decide +kernel) ⟨Nat.le_of_ble_eq_true rfl, Nat.le_of_ble_eq_true rfl⟩) oh_pre0 rfl rfl hl.1 rfl (lv_room (Nat.le_of_ble_eq_true rfl)) dX0_leastOfRing_36 ⟨Nat.zero_le _, Nat.zero_le _⟩)) (fun r_36 hr_36 => ?_)
        rcases hr_36 with ⟨b_36, hr_36⟩ | ⟨b_36, hr_36⟩ <;> subst hr_36
        · refine lv_if_eq (tgt := 44) hx hb dX0_leastOfRing_39 (by decide) (fun q => absurd q (by decide)) (fun _ => ?_)
          refine lv_iload_n hx hb dX0_leastOfRing_42 rfl (lv_at hl 2 rfl) ?_
          refine lv_istore_n (lv' := [(1, .int (nI i)), (0, .ref h), (2, .int (nI i))]) hx hb dX0_leastOfRing_43 rfl hl (by decide) rfl (fun ls hl => ?_)
          refine lv_iinc (v := nI (i + 1)) (lv' := [(2, .int (nI (i + 1))), (1, .int (nI i)), (0, .ref h)]) hx hb dX0_leastOfRing_44 hl (k := 2) rfl (nI_1 i) (by decide) rfl (fun ls hl => ?_)
          refine lv_goto (tgt := 4) hx hb dX0_leastOfRing_47 (by decide) ?_
          exact ih_loop (i + 1) i (by omega) (by omega) (by omega) (by omega) (lt_s (fun j hj w => hI j hj (oh_lx_tr w b_36)) (fun w => oh_lx_as w w)) ls (lv_sub hl [2, 1, 0] rfl)
        · refine lv_if_eq (tgt := 44) hx hb dX0_leastOfRing_39 (by decide) (fun _ => ?_) (fun q => absurd q (by decide))
          refine lv_iinc (v := nI (i + 1)) (lv' := [(2, .int (nI (i + 1))), (0, .ref h), (1, .int (nI b))]) hx hb dX0_leastOfRing_44 hl (k := 2) rfl (nI_1 i) (by decide) rfl (fun ls hl => ?_)
          refine lv_goto (tgt := 4) hx hb dX0_leastOfRing_47 (by decide) ?_
          exact ih_loop (i + 1) b (by omega) (by omega) (by omega) (by omega) (lt_s hI b_36) ls (lv_sub hl [1, 2, 0] rfl)
  exact loop (n + 1) 1 0 (by omega) (by omega) (by omega) (by omega) (fun j hj w => by rw [show j = 0 by omega] at w; exact oh_lx_as w w) ls (lv_sub hl [2, 1, 0] rfl)

set_option maxHeartbeats 4000000 in
set_option maxRecDepth 100000 in
theorem k_X0_placeInLine (l : Launch) (dC : Nat → ClassId) (dI : Nat → Nat → Nat) (cI : ClassId) (h a1 a2 a3 a4 N n : Nat) (came : Int32) (fx fy rx ry : Nat → Int32) (x y : Int32) (hN : N ≤ 64) (hn : n ≤ N) (hR : ∀ j, j < n → oh_inR (fx j) (fy j)) (hq : oh_inR x y) (h1 : 1 ≤ n) : Met l yX0_placeInLine wsX0_placeInLine ({ frames := 2, cells := 0, slots := 0, locals := 47 }) (va_Pc [.ref h, .int x, .int y] (fun U => va_P (dC, dI) vwCl [(h, .inr (0, [.int (nI N), .ref a1, .ref a2, .ref a3, .ref a4, .int (nI n), .int came])), (a1, .inl (cI, N, .inl fx)), (a2, .inl (cI, N, .inl fy)), (a3, .inl (cI, N, .inl rx)), (a4, .inl (cI, N, .inl ry))] U.heap ∧ va_K (dC, dI) vwCl [(cI, .int)] U)) (vp_Si (fun r => oh_plL n (oh_pt fx fy) (x.toInt, y.toInt) r)) 0 0 (fun _ => False) := by
  refine Met.ofW (cc := cX0_placeInLine) (maxL := 5) (ret := (some .int)) (by decide) rfl ?_
  intro p e s m args below meth c s₁ B hml hv
  obtain ⟨rfl, hP, hK⟩ := hv
  have hx := B.exec
  have hb := B.bytes
  have hr := B.returns
  have hts := atoms_spec (ws := wsX0_placeInLine) B.pre
  have hown : s.vm.findClass RX0 = some m.cls := findClass_of_methodNamed B.named
  have hlocks := B.notSynchronized
  have hin0 : ∀ w ∈ wsX00, w ∈ wsX0_placeInLine := fun w h => List.mem_cons_of_mem _ (List.mem_append_right _ h)
  have hl := lv_entry ([.ref h, .int x, .int y]) (n := 5) (Nat.le_of_ble_eq_true rfl)
  rw [lg_entry_eq]
  generalize (lg_sl ([.ref h, .int x, .int y]) ++ List.replicate (5 - (lg_sl ([.ref h, .int x, .int y])).length) Slot.unset).toArray = ls at hl ⊢
  have hl : lv_has ls 5 [(0, .ref h), (1, .int x), (2, .int y)] := hl
  refine lv_aload_n hx hb dX0_placeInLine_0 rfl (lv_at hl 0 rfl) ?_
  refine va_get (D := (dC, dI)) (ci := 0) (v := .int (nI n)) (C := RX0) (T := TX0) (N := 7) hx hb hts hin0 hown hK hP 0 rfl rfl 5 (by decide) (hts (.fieldLink RX0 32 "OnlineHull" "corners" "I") (by decide +kernel)) (fun _ h9 => h9) rfl dX0_placeInLine_1 ?_
  refine lv_iconst (v := nI 1) hx hb dX0_placeInLine_4 (by decide) ?_
  refine lv_isub hx hb dX0_placeInLine_5 ?_
  rw [pk_sub (a := n) (b := 1) (by omega)]
  refine lv_istore_n (lv' := [(3, .int (nI (n - 1))), (0, .ref h), (1, .int x), (2, .int y)]) hx hb dX0_placeInLine_6 rfl hl (by decide) rfl (fun ls hl => ?_)
  refine lv_aload_n hx hb dX0_placeInLine_7 rfl (lv_at hl 1 rfl) ?_
  refine lv_iconst (v := nI 0) hx hb dX0_placeInLine_8 (by decide) ?_
  refine lv_iload_n hx hb dX0_placeInLine_9 rfl (lv_at hl 2 rfl) ?_
  refine lv_iload_n hx hb dX0_placeInLine_10 rfl (lv_at hl 3 rfl) ?_
  refine vp_callSi (va_Run.run (va_runV (As := [.int (nI 0), .int x, .int y]) (rest := []) ⟨hx, hb, hml, hown, hts⟩ (k_X0_turn l dC dI cI h a1 a2 a3 a4 N n came fx fy rx ry 0 x y hN hn (by omega) hR hq) (cwV 3 hts gX0_placeInLine_X0_turn rfl rfl rfl (by decide +kernel) ⟨Nat.le_of_ble_eq_true rfl, Nat.le_of_ble_eq_true rfl⟩) (oh_pre (ci := 0) (q0 := 0) hK hP rfl rfl) rfl rfl hl.1 rfl (lv_room (Nat.le_of_ble_eq_true rfl)) dX0_placeInLine_11 ⟨Nat.zero_le _, Nat.zero_le _⟩)) (fun r_11 hr_11 => ?_)
  refine lv_if_ne (tgt := 61) hx hb dX0_placeInLine_14 (by decide) (fun c_14 => ?_) (fun c_14 => ?_)
  · have g_14 : r_11.toInt ≠ 0 := oh_neI0 c_14
    refine lv_iconst (v := nI 0) hx hb dX0_placeInLine_61 (by decide) ?_
    refine lv_istore (lv' := [(4, .int (nI 0)), (3, .int (nI (n - 1))), (0, .ref h), (1, .int x), (2, .int y)]) hx hb dX0_placeInLine_62 hl (by decide) rfl (fun ls hl => ?_)
    refine lv_iload hx hb dX0_placeInLine_64 (lv_at hl 0 rfl) ?_
    refine lv_if_eq (tgt := 73) hx hb dX0_placeInLine_66 (by decide) (fun _ => ?_) (fun q => absurd q (by decide))
    refine lv_iconst (v := nI 0) hx hb dX0_placeInLine_73 (by decide) ?_
    exact W.iret (v := nI 0) hx hb hr (fun t ht hW => ⟨_, rfl, Or.inr ⟨rfl, fun w => by first | exact w.2.1 b_31 | exact w.2.2 b_51 | exact absurd w.1 (by omega)⟩, ht⟩) (fun _ h => by cases h) dX0_placeInLine_74
  · have g_14 : r_11.toInt = 0 := oh_eqI0 c_14
    refine lv_iload_n hx hb dX0_placeInLine_17 rfl (lv_at hl 2 rfl) ?_
    refine lv_iload_n hx hb dX0_placeInLine_18 rfl (lv_at hl 3 rfl) ?_
    refine lv_aload_n hx hb dX0_placeInLine_19 rfl (lv_at hl 1 rfl) ?_
    refine va_get (D := (dC, dI)) (ci := 0) (v := .ref a1) (C := RX0) (T := TX0) (N := 7) hx hb hts hin0 hown hK hP 0 rfl rfl 1 (by decide) (hts (.fieldLink RX0 19 "OnlineHull" "cornerX" "[I") (by decide +kernel)) (fun _ h9 => h9) rfl dX0_placeInLine_20 ?_
    refine lv_iconst (v := nI 0) hx hb dX0_placeInLine_23 (by decide) ?_
    refine oh_ald hx hb hK hP 1 0 rfl rfl (k := 0) (by omega) (by omega) dX0_placeInLine_24 ?_
    refine lv_aload_n hx hb dX0_placeInLine_25 rfl (lv_at hl 1 rfl) ?_
    refine va_get (D := (dC, dI)) (ci := 0) (v := .ref a2) (C := RX0) (T := TX0) (N := 7) hx hb hts hin0 hown hK hP 0 rfl rfl 2 (by decide) (hts (.fieldLink RX0 23 "OnlineHull" "cornerY" "[I") (by decide +kernel)) (fun _ h9 => h9) rfl dX0_placeInLine_26 ?_
    refine lv_iconst (v := nI 0) hx hb dX0_placeInLine_29 (by decide) ?_
    refine oh_ald hx hb hK hP 2 0 rfl rfl (k := 0) (by omega) (by omega) dX0_placeInLine_30 ?_
    refine vp_callSi (va_Run.run (va_runS (As := [.int x, .int y, .int (fx 0), .int (fy 0)]) (rest := []) ⟨hx, hb, hml, hown, hts⟩ (k_X0_comesBefore l x y (fx 0) (fy 0)) (va_cwS 4 hts gX0_placeInLine_X0_comesBefore rfl rfl rfl (by decide +kernel) ⟨Nat.le_of_ble_eq_true rfl, Nat.le_of_ble_eq_true rfl⟩) oh_pre0 rfl rfl hl.1 rfl (lv_room (Nat.le_of_ble_eq_true rfl)) dX0_placeInLine_31 ⟨Nat.zero_le _, Nat.zero_le _⟩)) (fun r_31 hr_31 => ?_)
    rcases hr_31 with ⟨b_31, hr_31⟩ | ⟨b_31, hr_31⟩ <;> subst hr_31
    · refine lv_if_ne (tgt := 61) hx hb dX0_placeInLine_34 (by decide) (fun _ => ?_) (fun q => absurd q (by decide))
      refine lv_iconst (v := nI 0) hx hb dX0_placeInLine_61 (by decide) ?_
      refine lv_istore (lv' := [(4, .int (nI 0)), (3, .int (nI (n - 1))), (0, .ref h), (1, .int x), (2, .int y)]) hx hb dX0_placeInLine_62 hl (by decide) rfl (fun ls hl => ?_)
      refine lv_iload hx hb dX0_placeInLine_64 (lv_at hl 0 rfl) ?_
      refine lv_if_eq (tgt := 73) hx hb dX0_placeInLine_66 (by decide) (fun _ => ?_) (fun q => absurd q (by decide))
      refine lv_iconst (v := nI 0) hx hb dX0_placeInLine_73 (by decide) ?_
      exact W.iret (v := nI 0) hx hb hr (fun t ht hW => ⟨_, rfl, Or.inr ⟨rfl, fun w => by first | exact w.2.1 b_31 | exact w.2.2 b_51 | exact absurd w.1 (by omega)⟩, ht⟩) (fun _ h => by cases h) dX0_placeInLine_74
    · refine lv_if_ne (tgt := 61) hx hb dX0_placeInLine_34 (by decide) (fun q => absurd q (by decide)) (fun _ => ?_)
      refine lv_aload_n hx hb dX0_placeInLine_37 rfl (lv_at hl 1 rfl) ?_
      refine va_get (D := (dC, dI)) (ci := 0) (v := .ref a1) (C := RX0) (T := TX0) (N := 7) hx hb hts hin0 hown hK hP 0 rfl rfl 1 (by decide) (hts (.fieldLink RX0 19 "OnlineHull" "cornerX" "[I") (by decide +kernel)) (fun _ h9 => h9) rfl dX0_placeInLine_38 ?_
      refine lv_iload_n hx hb dX0_placeInLine_41 rfl (lv_at hl 0 rfl) ?_
      refine oh_ald hx hb hK hP 1 0 rfl rfl (k := (n - 1)) (by omega) (by omega) dX0_placeInLine_42 ?_
      refine lv_aload_n hx hb dX0_placeInLine_43 rfl (lv_at hl 1 rfl) ?_
      refine va_get (D := (dC, dI)) (ci := 0) (v := .ref a2) (C := RX0) (T := TX0) (N := 7) hx hb hts hin0 hown hK hP 0 rfl rfl 2 (by decide) (hts (.fieldLink RX0 23 "OnlineHull" "cornerY" "[I") (by decide +kernel)) (fun _ h9 => h9) rfl dX0_placeInLine_44 ?_
      refine lv_iload_n hx hb dX0_placeInLine_47 rfl (lv_at hl 0 rfl) ?_
      refine oh_ald hx hb hK hP 2 0 rfl rfl (k := (n - 1)) (by omega) (by omega) dX0_placeInLine_48 ?_
      refine lv_iload_n hx hb dX0_placeInLine_49 rfl (lv_at hl 2 rfl) ?_
      refine lv_iload_n hx hb dX0_placeInLine_50 rfl (lv_at hl 3 rfl) ?_
      refine vp_callSi (va_Run.run (va_runS (As := [.int (fx ((n - 1))), .int (fy ((n - 1))), .int x, .int y]) (rest := []) ⟨hx, hb, hml, hown, hts⟩ (k_X0_comesBefore l (fx ((n - 1))) (fy ((n - 1))) x y) (va_cwS 4 hts gX0_placeInLine_X0_comesBefore rfl rfl rfl (by decide +kernel) ⟨Nat.le_of_ble_eq_true rfl, Nat.le_of_ble_eq_true rfl⟩) oh_pre0 rfl rfl hl.1 rfl (lv_room (Nat.le_of_ble_eq_true rfl)) dX0_placeInLine_51 ⟨Nat.zero_le _, Nat.zero_le _⟩)) (fun r_51 hr_51 => ?_)
      rcases hr_51 with ⟨b_51, hr_51⟩ | ⟨b_51, hr_51⟩ <;> subst hr_51
      · refine lv_if_ne (tgt := 61) hx hb dX0_placeInLine_54 (by decide) (fun _ => ?_) (fun q => absurd q (by decide))
        refine lv_iconst (v := nI 0) hx hb dX0_placeInLine_61 (by decide) ?_
        refine lv_istore (lv' := [(4, .int (nI 0)), (3, .int (nI (n - 1))), (0, .ref h), (1, .int x), (2, .int y)]) hx hb dX0_placeInLine_62 hl (by decide) rfl (fun ls hl => ?_)
        refine lv_iload hx hb dX0_placeInLine_64 (lv_at hl 0 rfl) ?_
        refine lv_if_eq (tgt := 73) hx hb dX0_placeInLine_66 (by decide) (fun _ => ?_) (fun q => absurd q (by decide))
        refine lv_iconst (v := nI 0) hx hb dX0_placeInLine_73 (by decide) ?_
        exact W.iret (v := nI 0) hx hb hr (fun t ht hW => ⟨_, rfl, Or.inr ⟨rfl, fun w => by first | exact w.2.1 b_31 | exact w.2.2 b_51 | exact absurd w.1 (by omega)⟩, ht⟩) (fun _ h => by cases h) dX0_placeInLine_74
      · refine lv_if_ne (tgt := 61) hx hb dX0_placeInLine_54 (by decide) (fun q => absurd q (by decide)) (fun _ => ?_)
        refine lv_iconst (v := nI 1) hx hb dX0_placeInLine_57 (by decide) ?_
        refine lv_goto (tgt := 62) hx hb dX0_placeInLine_58 (by decide) ?_
        refine lv_istore (lv' := [(4, .int (nI 1)), (3, .int (nI (n - 1))), (0, .ref h), (1, .int x), (2, .int y)]) hx hb dX0_placeInLine_62 hl (by decide) rfl (fun ls hl => ?_)
        refine lv_iload hx hb dX0_placeInLine_64 (lv_at hl 0 rfl) ?_
        refine lv_if_eq (tgt := 73) hx hb dX0_placeInLine_66 (by decide) (fun q => absurd q (by decide)) (fun _ => ?_)
        refine lv_iconst (v := nI 1) hx hb dX0_placeInLine_69 (by decide) ?_
        refine lv_goto (tgt := 74) hx hb dX0_placeInLine_70 (by decide) ?_
        exact W.iret (v := nI 1) hx hb hr (fun t ht hW => ⟨_, rfl, Or.inl ⟨rfl, by omega, b_31, b_51⟩, ht⟩) (fun _ h => by cases h) dX0_placeInLine_74

set_option maxHeartbeats 4000000 in
set_option maxRecDepth 100000 in
theorem k_X0_placeOf (l : Launch) (dC : Nat → ClassId) (dI : Nat → Nat → Nat) (cI : ClassId) (h a1 a2 a3 a4 N n : Nat) (came : Int32) (fx fy rx ry : Nat → Int32) (x y : Int32) (hN : N ≤ 64) (hn : n ≤ N) (hR : ∀ j, j < n → oh_inR (fx j) (fy j)) (hq : oh_inR x y) : Met l yX0_placeOf wsX0_placeOf ({ frames := 3, cells := 0, slots := 0, locals := 72 }) (va_Pc [.ref h, .int x, .int y] (fun U => va_P (dC, dI) vwCl [(h, .inr (0, [.int (nI N), .ref a1, .ref a2, .ref a3, .ref a4, .int (nI n), .int came])), (a1, .inl (cI, N, .inl fx)), (a2, .inl (cI, N, .inl fy)), (a3, .inl (cI, N, .inl rx)), (a4, .inl (cI, N, .inl ry))] U.heap ∧ va_K (dC, dI) vwCl [(cI, .int)] U)) (vp_Si (fun r => oh_pl3 n (oh_pt fx fy) (x.toInt, y.toInt) r)) 0 0 (fun _ => False) := by
  refine Met.ofW (cc := cX0_placeOf) (maxL := 3) (ret := (some .int)) (by decide) rfl ?_
  intro p e s m args below meth c s₁ B hml hv
  obtain ⟨rfl, hP, hK⟩ := hv
  have hx := B.exec
  have hb := B.bytes
  have hr := B.returns
  have hts := atoms_spec (ws := wsX0_placeOf) B.pre
  have hown : s.vm.findClass RX0 = some m.cls := findClass_of_methodNamed B.named
  have hlocks := B.notSynchronized
  have hin0 : ∀ w ∈ wsX00, w ∈ wsX0_placeOf := fun w h => List.mem_cons_of_mem _ (List.mem_append_right _ h)
  have hl := lv_entry ([.ref h, .int x, .int y]) (n := 3) (Nat.le_of_ble_eq_true rfl)
  rw [lg_entry_eq]
  generalize (lg_sl ([.ref h, .int x, .int y]) ++ List.replicate (3 - (lg_sl ([.ref h, .int x, .int y])).length) Slot.unset).toArray = ls at hl ⊢
  have hl : lv_has ls 3 [(0, .ref h), (1, .int x), (2, .int y)] := hl
  refine lv_aload_n hx hb dX0_placeOf_0 rfl (lv_at hl 0 rfl) ?_
  refine va_get (D := (dC, dI)) (ci := 0) (v := .int (nI n)) (C := RX0) (T := TX0) (N := 7) hx hb hts hin0 hown hK hP 0 rfl rfl 5 (by decide) (hts (.fieldLink RX0 32 "OnlineHull" "corners" "I") (by decide +kernel)) (fun _ h9 => h9) rfl dX0_placeOf_1 ?_
  refine lv_if_ne (tgt := 9) hx hb dX0_placeOf_4 (by decide) (fun c_4 => ?_) (fun c_4 => ?_)
  · have g_4 : n ≠ 0 := fun q => (fun q => c_4 (q.trans nI_0)) ((nI_eq (a := n) (b := 0) (by omega) (by omega)).mpr q)
    refine lv_aload_n hx hb dX0_placeOf_9 rfl (lv_at hl 0 rfl) ?_
    refine va_get (D := (dC, dI)) (ci := 0) (v := .int (nI n)) (C := RX0) (T := TX0) (N := 7) hx hb hts hin0 hown hK hP 0 rfl rfl 5 (by decide) (hts (.fieldLink RX0 32 "OnlineHull" "corners" "I") (by decide +kernel)) (fun _ h9 => h9) rfl dX0_placeOf_10 ?_
    refine lv_iconst (v := nI 3) hx hb dX0_placeOf_13 (by decide) ?_
    refine lv_icmp_ge (tgt := 26) hx hb dX0_placeOf_14 (by decide) (fun c_14 => ?_) (fun c_14 => ?_)
    · have g_14 : 3 ≤ n := (nI_leI (a := 3) (b := n) (by omega) (by omega)).mp c_14
      refine lv_aload_n hx hb dX0_placeOf_26 rfl (lv_at hl 0 rfl) ?_
      refine lv_iload_n hx hb dX0_placeOf_27 rfl (lv_at hl 1 rfl) ?_
      refine lv_iload_n hx hb dX0_placeOf_28 rfl (lv_at hl 2 rfl) ?_
      refine vp_callSi (va_Run.run (va_runV (As := [.int x, .int y]) (rest := []) ⟨hx, hb, hml, hown, hts⟩ (k_X0_placeInRing l dC dI cI h a1 a2 a3 a4 N n came fx fy rx ry x y hN hn hR hq) (cwV 2 hts gX0_placeOf_X0_placeInRing rfl rfl rfl (by decide +kernel) ⟨Nat.le_of_ble_eq_true rfl, Nat.le_of_ble_eq_true rfl⟩) (oh_pre (ci := 0) (q0 := 0) hK hP rfl rfl) rfl rfl hl.1 rfl (lv_room (Nat.le_of_ble_eq_true rfl)) dX0_placeOf_29 ⟨Nat.zero_le _, Nat.zero_le _⟩)) (fun r_29 hr_29 => ?_)
      exact W.iret (v := r_29) hx hb hr (fun t ht hW => ⟨_, rfl, Or.inr (Or.inr ⟨by omega, hr_29⟩), ht⟩) (fun _ h => by cases h) dX0_placeOf_32
    · have g_14 : ¬ 3 ≤ n := fun q => c_14 ((nI_leI (a := 3) (b := n) (by omega) (by omega)).mpr q)
      refine lv_aload_n hx hb dX0_placeOf_17 rfl (lv_at hl 0 rfl) ?_
      refine lv_iload_n hx hb dX0_placeOf_18 rfl (lv_at hl 1 rfl) ?_
      refine lv_iload_n hx hb dX0_placeOf_19 rfl (lv_at hl 2 rfl) ?_
      refine vp_callSi (va_Run.run (va_runV (As := [.int x, .int y]) (rest := []) ⟨hx, hb, hml, hown, hts⟩ (k_X0_placeInLine l dC dI cI h a1 a2 a3 a4 N n came fx fy rx ry x y hN hn hR hq (by omega)) (cwV 2 hts gX0_placeOf_X0_placeInLine rfl rfl rfl (by decide +kernel) ⟨Nat.le_of_ble_eq_true rfl, Nat.le_of_ble_eq_true rfl⟩) (oh_pre (ci := 0) (q0 := 0) hK hP rfl rfl) rfl rfl hl.1 rfl (lv_room (Nat.le_of_ble_eq_true rfl)) dX0_placeOf_20 ⟨Nat.zero_le _, Nat.zero_le _⟩)) (fun r_20 hr_20 => ?_)
      refine lv_goto (tgt := 32) hx hb dX0_placeOf_23 (by decide) ?_
      exact W.iret (v := r_20) hx hb hr (fun t ht hW => ⟨_, rfl, Or.inr (Or.inl ⟨by omega, by omega, hr_20⟩), ht⟩) (fun _ h => by cases h) dX0_placeOf_32
  · have g_4 : n = 0 := (nI_eq (a := n) (b := 0) (by omega) (by omega)).mp (c_4.trans nI_0.symm)
    refine lv_iconst (v := nI 0) hx hb dX0_placeOf_7 (by decide) ?_
    exact W.iret (v := nI 0) hx hb hr (fun t ht hW => ⟨_, rfl, Or.inl ⟨by omega, rfl⟩, ht⟩) (fun _ h => by cases h) dX0_placeOf_8

set_option maxHeartbeats 4000000 in
set_option maxRecDepth 100000 in
theorem k_X0_inside (l : Launch) (dC : Nat → ClassId) (dI : Nat → Nat → Nat) (cI : ClassId) (h a1 a2 a3 a4 N n : Nat) (came : Int32) (fx fy rx ry : Nat → Int32) (x y : Int32) (hN : N ≤ 64) (hn : n ≤ N) (hR : ∀ j, j < n → oh_inR (fx j) (fy j)) : Met l yX0_inside wsX0_inside ({ frames := 4, cells := 0, slots := 0, locals := 94 }) (va_Pc [.ref h, .int x, .int y] (fun U => va_P (dC, dI) vwCl [(h, .inr (0, [.int (nI N), .ref a1, .ref a2, .ref a3, .ref a4, .int (nI n), .int came])), (a1, .inl (cI, N, .inl fx)), (a2, .inl (cI, N, .inl fy)), (a3, .inl (cI, N, .inl rx)), (a4, .inl (cI, N, .inl ry))] U.heap ∧ va_K (dC, dI) vwCl [(cI, .int)] U)) (vp_Si (fun r => (oh_inR x y ∧ oh_pl3 n (oh_pt fx fy) (x.toInt, y.toInt) r) ∨ (¬ oh_inR x y ∧ r = 0))) 0 0 (fun _ => False) := by
  refine Met.ofW (cc := cX0_inside) (maxL := 3) (ret := (some .int)) (by decide) rfl ?_
  intro p e s m args below meth c s₁ B hml hv
  obtain ⟨rfl, hP, hK⟩ := hv
  have hx := B.exec
  have hb := B.bytes
  have hr := B.returns
  have hts := atoms_spec (ws := wsX0_inside) B.pre
  have hown : s.vm.findClass RX0 = some m.cls := findClass_of_methodNamed B.named
  have hlocks := B.notSynchronized
  have hin0 : ∀ w ∈ wsX00, w ∈ wsX0_inside := fun w h => List.mem_cons_of_mem _ (List.mem_append_right _ h)
  have hl := lv_entry ([.ref h, .int x, .int y]) (n := 3) (Nat.le_of_ble_eq_true rfl)
  rw [lg_entry_eq]
  generalize (lg_sl ([.ref h, .int x, .int y]) ++ List.replicate (3 - (lg_sl ([.ref h, .int x, .int y])).length) Slot.unset).toArray = ls at hl ⊢
  have hl : lv_has ls 3 [(0, .ref h), (1, .int x), (2, .int y)] := hl
  refine lv_iload_n hx hb dX0_inside_0 rfl (lv_at hl 1 rfl) ?_
  refine lv_iload_n hx hb dX0_inside_1 rfl (lv_at hl 2 rfl) ?_
  refine vp_callSi (va_Run.run (va_runS (As := [.int x, .int y]) (rest := []) ⟨hx, hb, hml, hown, hts⟩ (k_X0_inRange l x y) (va_cwS 2 hts gX0_inside_X0_inRange rfl rfl rfl (by decide +kernel) ⟨Nat.le_of_ble_eq_true rfl, Nat.le_of_ble_eq_true rfl⟩) oh_pre0 rfl rfl hl.1 rfl (lv_room (Nat.le_of_ble_eq_true rfl)) dX0_inside_2 ⟨Nat.zero_le _, Nat.zero_le _⟩)) (fun r_2 hr_2 => ?_)
  rcases hr_2 with ⟨b_2, hr_2⟩ | ⟨b_2, hr_2⟩ <;> subst hr_2
  · refine lv_if_eq (tgt := 17) hx hb dX0_inside_5 (by decide) (fun q => absurd q (by decide)) (fun _ => ?_)
    refine lv_aload_n hx hb dX0_inside_8 rfl (lv_at hl 0 rfl) ?_
    refine lv_iload_n hx hb dX0_inside_9 rfl (lv_at hl 1 rfl) ?_
    refine lv_iload_n hx hb dX0_inside_10 rfl (lv_at hl 2 rfl) ?_
    refine vp_callSi (va_Run.run (va_runV (As := [.int x, .int y]) (rest := []) ⟨hx, hb, hml, hown, hts⟩ (k_X0_placeOf l dC dI cI h a1 a2 a3 a4 N n came fx fy rx ry x y hN hn hR b_2) (cwV 2 hts gX0_inside_X0_placeOf rfl rfl rfl (by decide +kernel) ⟨Nat.le_of_ble_eq_true rfl, Nat.le_of_ble_eq_true rfl⟩) (oh_pre (ci := 0) (q0 := 0) hK hP rfl rfl) rfl rfl hl.1 rfl (lv_room (Nat.le_of_ble_eq_true rfl)) dX0_inside_11 ⟨Nat.zero_le _, Nat.zero_le _⟩)) (fun r_11 hr_11 => ?_)
    refine lv_goto (tgt := 18) hx hb dX0_inside_14 (by decide) ?_
    exact W.iret (v := r_11) hx hb hr (fun t ht hW => ⟨_, rfl, Or.inl ⟨b_2, hr_11⟩, ht⟩) (fun _ h => by cases h) dX0_inside_18
  · refine lv_if_eq (tgt := 17) hx hb dX0_inside_5 (by decide) (fun _ => ?_) (fun q => absurd q (by decide))
    refine lv_iconst (v := nI 0) hx hb dX0_inside_17 (by decide) ?_
    exact W.iret (v := nI 0) hx hb hr (fun t ht hW => ⟨_, rfl, Or.inr ⟨b_2, rfl⟩, ht⟩) (fun _ h => by cases h) dX0_inside_18

set_option maxHeartbeats 4000000 in
set_option maxRecDepth 100000 in
theorem k_X0_staysInLine (l : Launch) (dC : Nat → ClassId) (dI : Nat → Nat → Nat) (cI : ClassId) (h a1 a2 a3 a4 N n : Nat) (came : Int32) (fx fy rx ry : Nat → Int32) (x y : Int32) (hN : N ≤ 64) (hn : n ≤ N) (hR : ∀ j, j < n → oh_inR (fx j) (fy j)) (hq : oh_inR x y) : Met l yX0_staysInLine wsX0_staysInLine ({ frames := 2, cells := 0, slots := 0, locals := 47 }) (va_Pc [.ref h, .int x, .int y] (fun U => va_P (dC, dI) vwCl [(h, .inr (0, [.int (nI N), .ref a1, .ref a2, .ref a3, .ref a4, .int (nI n), .int came])), (a1, .inl (cI, N, .inl fx)), (a2, .inl (cI, N, .inl fy)), (a3, .inl (cI, N, .inl rx)), (a4, .inl (cI, N, .inl ry))] U.heap ∧ va_K (dC, dI) vwCl [(cI, .int)] U)) (vp_Si (fun r => ((n < 2 ∨ (n = 2 ∧ oh_sd n (oh_pt fx fy) (x.toInt, y.toInt) 0 = 0)) ∧ r = 1) ∨ (¬ (n < 2 ∨ (n = 2 ∧ oh_sd n (oh_pt fx fy) (x.toInt, y.toInt) 0 = 0)) ∧ r = 0))) 0 0 (fun _ => False) := by
  refine Met.ofW (cc := cX0_staysInLine) (maxL := 3) (ret := (some .boolean)) (by decide) rfl ?_
  intro p e s m args below meth c s₁ B hml hv
  obtain ⟨rfl, hP, hK⟩ := hv
  have hx := B.exec
  have hb := B.bytes
  have hr := B.returns
  have hts := atoms_spec (ws := wsX0_staysInLine) B.pre
  have hown : s.vm.findClass RX0 = some m.cls := findClass_of_methodNamed B.named
  have hlocks := B.notSynchronized
  have hin0 : ∀ w ∈ wsX00, w ∈ wsX0_staysInLine := fun w h => List.mem_cons_of_mem _ (List.mem_append_right _ h)
  have hl := lv_entry ([.ref h, .int x, .int y]) (n := 3) (Nat.le_of_ble_eq_true rfl)
  rw [lg_entry_eq]
  generalize (lg_sl ([.ref h, .int x, .int y]) ++ List.replicate (3 - (lg_sl ([.ref h, .int x, .int y])).length) Slot.unset).toArray = ls at hl ⊢
  have hl : lv_has ls 3 [(0, .ref h), (1, .int x), (2, .int y)] := hl
  refine lv_aload_n hx hb dX0_staysInLine_0 rfl (lv_at hl 0 rfl) ?_
  refine va_get (D := (dC, dI)) (ci := 0) (v := .int (nI n)) (C := RX0) (T := TX0) (N := 7) hx hb hts hin0 hown hK hP 0 rfl rfl 5 (by decide) (hts (.fieldLink RX0 32 "OnlineHull" "corners" "I") (by decide +kernel)) (fun _ h9 => h9) rfl dX0_staysInLine_1 ?_
  refine lv_iconst (v := nI 2) hx hb dX0_staysInLine_4 (by decide) ?_
  refine lv_icmp_lt (tgt := 26) hx hb dX0_staysInLine_5 (by decide) (fun c_5 => ?_) (fun c_5 => ?_)
  · have g_5 : n < 2 := (nI_ltI (a := n) (b := 2) (by omega) (by omega)).mp c_5
    refine lv_iconst (v := nI 1) hx hb dX0_staysInLine_26 (by decide) ?_
    refine lv_goto (tgt := 31) hx hb dX0_staysInLine_27 (by decide) ?_
    exact W.zret (v := nI 1) hx hb hr (by decide) (fun t ht hW => ⟨_, rfl, Or.inl ⟨by first | exact Or.inl (by omega) | exact Or.inr ⟨by omega, by omega⟩, rfl⟩, ht⟩) (fun _ h => by cases h) dX0_staysInLine_31
  · have g_5 : ¬ n < 2 := fun q => c_5 ((nI_ltI (a := n) (b := 2) (by omega) (by omega)).mpr q)
    refine lv_aload_n hx hb dX0_staysInLine_8 rfl (lv_at hl 0 rfl) ?_
    refine va_get (D := (dC, dI)) (ci := 0) (v := .int (nI n)) (C := RX0) (T := TX0) (N := 7) hx hb hts hin0 hown hK hP 0 rfl rfl 5 (by decide) (hts (.fieldLink RX0 32 "OnlineHull" "corners" "I") (by decide +kernel)) (fun _ h9 => h9) rfl dX0_staysInLine_9 ?_
    refine lv_iconst (v := nI 2) hx hb dX0_staysInLine_12 (by decide) ?_
    refine lv_icmp_ne (tgt := 30) hx hb dX0_staysInLine_13 (by decide) (fun c_13 => ?_) (fun c_13 => ?_)
    · have g_13 : n ≠ 2 := fun q => c_13 ((nI_eq (a := n) (b := 2) (by omega) (by omega)).mpr q)
      refine lv_iconst (v := nI 0) hx hb dX0_staysInLine_30 (by decide) ?_
      exact W.zret (v := nI 0) hx hb hr (by decide) (fun t ht hW => ⟨_, rfl, Or.inr ⟨by omega, rfl⟩, ht⟩) (fun _ h => by cases h) dX0_staysInLine_31
    · have g_13 : n = 2 := (nI_eq (a := n) (b := 2) (by omega) (by omega)).mp c_13
      refine lv_aload_n hx hb dX0_staysInLine_16 rfl (lv_at hl 0 rfl) ?_
      refine lv_iconst (v := nI 0) hx hb dX0_staysInLine_17 (by decide) ?_
      refine lv_iload_n hx hb dX0_staysInLine_18 rfl (lv_at hl 1 rfl) ?_
      refine lv_iload_n hx hb dX0_staysInLine_19 rfl (lv_at hl 2 rfl) ?_
      refine vp_callSi (va_Run.run (va_runV (As := [.int (nI 0), .int x, .int y]) (rest := []) ⟨hx, hb, hml, hown, hts⟩ (k_X0_turn l dC dI cI h a1 a2 a3 a4 N n came fx fy rx ry 0 x y hN hn (by omega) hR hq) (cwV 3 hts gX0_staysInLine_X0_turn rfl rfl rfl (by decide +kernel) ⟨Nat.le_of_ble_eq_true rfl, Nat.le_of_ble_eq_true rfl⟩) (oh_pre (ci := 0) (q0 := 0) hK hP rfl rfl) rfl rfl hl.1 rfl (lv_room (Nat.le_of_ble_eq_true rfl)) dX0_staysInLine_20 ⟨Nat.zero_le _, Nat.zero_le _⟩)) (fun r_20 hr_20 => ?_)
      refine lv_if_ne (tgt := 30) hx hb dX0_staysInLine_23 (by decide) (fun c_23 => ?_) (fun c_23 => ?_)
      · have g_23 : r_20.toInt ≠ 0 := oh_neI0 c_23
        refine lv_iconst (v := nI 0) hx hb dX0_staysInLine_30 (by decide) ?_
        exact W.zret (v := nI 0) hx hb hr (by decide) (fun t ht hW => ⟨_, rfl, Or.inr ⟨by omega, rfl⟩, ht⟩) (fun _ h => by cases h) dX0_staysInLine_31
      · have g_23 : r_20.toInt = 0 := oh_eqI0 c_23
        refine lv_iconst (v := nI 1) hx hb dX0_staysInLine_26 (by decide) ?_
        refine lv_goto (tgt := 31) hx hb dX0_staysInLine_27 (by decide) ?_
        exact W.zret (v := nI 1) hx hb hr (by decide) (fun t ht hW => ⟨_, rfl, Or.inl ⟨by first | exact Or.inl (by omega) | exact Or.inr ⟨by omega, by omega⟩, rfl⟩, ht⟩) (fun _ h => by cases h) dX0_staysInLine_31

set_option maxHeartbeats 4000000 in
set_option maxRecDepth 100000 in
theorem k_X0_tangent (l : Launch) (dC : Nat → ClassId) (dI : Nat → Nat → Nat) (cI : ClassId) (h a1 a2 a3 a4 N n : Nat) (came : Int32) (fx fy rx ry : Nat → Int32) (x y wh : Int32) (hN : N ≤ 64) (hn : n ≤ N) (hR : ∀ j, j < n → oh_inR (fx j) (fy j)) : Met l yX0_tangent wsX0_tangent ({ frames := 4, cells := 0, slots := 0, locals := 94 }) (va_Pc [.ref h, .int x, .int y, .int wh] (fun U => va_P (dC, dI) vwCl [(h, .inr (0, [.int (nI N), .ref a1, .ref a2, .ref a3, .ref a4, .int (nI n), .int came])), (a1, .inl (cI, N, .inl fx)), (a2, .inl (cI, N, .inl fy)), (a3, .inl (cI, N, .inl rx)), (a4, .inl (cI, N, .inl ry))] U.heap ∧ va_K (dC, dI) vwCl [(cI, .int)] U)) (vp_Si (fun r => oh_tan n (oh_pt fx fy) x y wh r)) 0 0 (fun _ => False) := by
  refine Met.ofW (cc := cX0_tangent) (maxL := 4) (ret := (some .int)) (by decide) rfl ?_
  intro p e s m args below meth c s₁ B hml hv
  obtain ⟨rfl, hP, hK⟩ := hv
  have hx := B.exec
  have hb := B.bytes
  have hr := B.returns
  have hts := atoms_spec (ws := wsX0_tangent) B.pre
  have hown : s.vm.findClass RX0 = some m.cls := findClass_of_methodNamed B.named
  have hlocks := B.notSynchronized
  have hin0 : ∀ w ∈ wsX00, w ∈ wsX0_tangent := fun w h => List.mem_cons_of_mem _ (List.mem_append_right _ h)
  have hl := lv_entry ([.ref h, .int x, .int y, .int wh]) (n := 4) (Nat.le_of_ble_eq_true rfl)
  rw [lg_entry_eq]
  generalize (lg_sl ([.ref h, .int x, .int y, .int wh]) ++ List.replicate (4 - (lg_sl ([.ref h, .int x, .int y, .int wh])).length) Slot.unset).toArray = ls at hl ⊢
  have hl : lv_has ls 4 [(0, .ref h), (1, .int x), (2, .int y), (3, .int wh)] := hl
  refine lv_aload_n hx hb dX0_tangent_0 rfl (lv_at hl 0 rfl) ?_
  refine va_get (D := (dC, dI)) (ci := 0) (v := .int (nI n)) (C := RX0) (T := TX0) (N := 7) hx hb hts hin0 hown hK hP 0 rfl rfl 5 (by decide) (hts (.fieldLink RX0 32 "OnlineHull" "corners" "I") (by decide +kernel)) (fun _ h9 => h9) rfl dX0_tangent_1 ?_
  refine lv_iconst (v := nI 3) hx hb dX0_tangent_4 (by decide) ?_
  refine lv_icmp_lt (tgt := 25) hx hb dX0_tangent_5 (by decide) (fun c_5 => ?_) (fun c_5 => ?_)
  · have g_5 : n < 3 := (nI_ltI (a := n) (b := 3) (by omega) (by omega)).mp c_5
    refine lv_iconst (v := -1) hx hb dX0_tangent_25 (by decide) ?_
    exact W.iret (v := -1) hx hb hr (fun t ht hW => ⟨_, rfl, Or.inr ⟨rfl, fun w => by first | exact b_10 w.2.1 | omega | exact g_22 ((oh_plR0 (oh_pl3R (by omega) hr_19)).1.mpr w.2.2.1)⟩, ht⟩) (fun _ h => by cases h) dX0_tangent_26
  · have g_5 : ¬ n < 3 := fun q => c_5 ((nI_ltI (a := n) (b := 3) (by omega) (by omega)).mpr q)
    refine lv_iload_n hx hb dX0_tangent_8 rfl (lv_at hl 1 rfl) ?_
    refine lv_iload_n hx hb dX0_tangent_9 rfl (lv_at hl 2 rfl) ?_
    refine vp_callSi (va_Run.run (va_runS (As := [.int x, .int y]) (rest := []) ⟨hx, hb, hml, hown, hts⟩ (k_X0_inRange l x y) (va_cwS 2 hts gX0_tangent_X0_inRange rfl rfl rfl (by decide +kernel) ⟨Nat.le_of_ble_eq_true rfl, Nat.le_of_ble_eq_true rfl⟩) oh_pre0 rfl rfl hl.1 rfl (lv_room (Nat.le_of_ble_eq_true rfl)) dX0_tangent_10 ⟨Nat.zero_le _, Nat.zero_le _⟩)) (fun r_10 hr_10 => ?_)
    rcases hr_10 with ⟨b_10, hr_10⟩ | ⟨b_10, hr_10⟩ <;> subst hr_10
    · refine lv_if_eq (tgt := 25) hx hb dX0_tangent_13 (by decide) (fun q => absurd q (by decide)) (fun _ => ?_)
      refine lv_aload_n hx hb dX0_tangent_16 rfl (lv_at hl 0 rfl) ?_
      refine lv_iload_n hx hb dX0_tangent_17 rfl (lv_at hl 1 rfl) ?_
      refine lv_iload_n hx hb dX0_tangent_18 rfl (lv_at hl 2 rfl) ?_
      refine vp_callSi (va_Run.run (va_runV (As := [.int x, .int y]) (rest := []) ⟨hx, hb, hml, hown, hts⟩ (k_X0_placeOf l dC dI cI h a1 a2 a3 a4 N n came fx fy rx ry x y hN hn hR b_10) (cwV 2 hts gX0_tangent_X0_placeOf rfl rfl rfl (by decide +kernel) ⟨Nat.le_of_ble_eq_true rfl, Nat.le_of_ble_eq_true rfl⟩) (oh_pre (ci := 0) (q0 := 0) hK hP rfl rfl) rfl rfl hl.1 rfl (lv_room (Nat.le_of_ble_eq_true rfl)) dX0_tangent_19 ⟨Nat.zero_le _, Nat.zero_le _⟩)) (fun r_19 hr_19 => ?_)
      refine lv_if_eq (tgt := 27) hx hb dX0_tangent_22 (by decide) (fun c_22 => ?_) (fun c_22 => ?_)
      · have g_22 : r_19.toInt = 0 := oh_eqI0 c_22
        refine lv_iload_n hx hb dX0_tangent_27 rfl (lv_at hl 3 rfl) ?_
        refine lv_if_ne (tgt := 39) hx hb dX0_tangent_28 (by decide) (fun c_28 => ?_) (fun c_28 => ?_)
        · have g_28 : wh.toInt ≠ 0 := oh_neI0 c_28
          refine lv_iload_n hx hb dX0_tangent_39 rfl (lv_at hl 3 rfl) ?_
          refine lv_iconst (v := nI 1) hx hb dX0_tangent_40 (by decide) ?_
          refine lv_icmp_ne (tgt := 54) hx hb dX0_tangent_41 (by decide) (fun c_41 => ?_) (fun c_41 => ?_)
          · have g_41 : wh.toInt ≠ (1 : Int) := by have q := oh_neI c_41; rw [nI_toInt (n := 1) (by omega)] at q; exact q
            refine lv_iconst (v := -1) hx hb dX0_tangent_54 (by decide) ?_
            exact W.iret (v := -1) hx hb hr (fun t ht hW => ⟨_, rfl, Or.inr ⟨rfl, fun w => w.2.2.2.elim c_28 c_41⟩, ht⟩) (fun _ h => by cases h) dX0_tangent_55
          · have g_41 : wh.toInt = (1 : Int) := by have q := oh_eqI c_41; rw [nI_toInt (n := 1) (by omega)] at q; exact q
            refine lv_aload_n hx hb dX0_tangent_44 rfl (lv_at hl 0 rfl) ?_
            refine lv_iload_n hx hb dX0_tangent_45 rfl (lv_at hl 1 rfl) ?_
            refine lv_iload_n hx hb dX0_tangent_46 rfl (lv_at hl 2 rfl) ?_
            refine lv_iconst (v := nI 0) hx hb dX0_tangent_47 (by decide) ?_
            refine vp_callSi (va_Run.run (va_runV (As := [.int x, .int y, .int (nI 0)]) (rest := []) ⟨hx, hb, hml, hown, hts⟩ (k_X0_lastSeen l dC dI cI h a1 a2 a3 a4 N n came fx fy rx ry x y (nI 0) hN hn hR b_10) (cwV 3 hts gX0_tangent_X0_lastSeen rfl rfl rfl (by decide +kernel) ⟨Nat.le_of_ble_eq_true rfl, Nat.le_of_ble_eq_true rfl⟩) (oh_pre (ci := 0) (q0 := 0) hK hP rfl rfl) rfl rfl hl.1 rfl (lv_room (Nat.le_of_ble_eq_true rfl)) dX0_tangent_48 ⟨Nat.zero_le _, Nat.zero_le _⟩)) (fun r_48 hr_48 => ?_)
            refine lv_goto (tgt := 55) hx hb dX0_tangent_51 (by decide) ?_
            exact W.iret (v := r_48) hx hb hr (fun t ht hW => ⟨_, rfl, Or.inl ⟨by omega, b_10, (oh_plR0 (oh_pl3R (by omega) hr_19)).1.mp g_22, Or.inr ⟨c_41, hr_48⟩⟩, ht⟩) (fun _ h => by cases h) dX0_tangent_55
        · have g_28 : wh.toInt = 0 := oh_eqI0 c_28
          refine lv_aload_n hx hb dX0_tangent_31 rfl (lv_at hl 0 rfl) ?_
          refine lv_iload_n hx hb dX0_tangent_32 rfl (lv_at hl 1 rfl) ?_
          refine lv_iload_n hx hb dX0_tangent_33 rfl (lv_at hl 2 rfl) ?_
          refine lv_iconst (v := nI 0) hx hb dX0_tangent_34 (by decide) ?_
          refine vp_callSi (va_Run.run (va_runV (As := [.int x, .int y, .int (nI 0)]) (rest := []) ⟨hx, hb, hml, hown, hts⟩ (k_X0_firstSeen l dC dI cI h a1 a2 a3 a4 N n came fx fy rx ry x y (nI 0) hN hn hR b_10) (cwV 3 hts gX0_tangent_X0_firstSeen rfl rfl rfl (by decide +kernel) ⟨Nat.le_of_ble_eq_true rfl, Nat.le_of_ble_eq_true rfl⟩) (oh_pre (ci := 0) (q0 := 0) hK hP rfl rfl) rfl rfl hl.1 rfl (lv_room (Nat.le_of_ble_eq_true rfl)) dX0_tangent_35 ⟨Nat.zero_le _, Nat.zero_le _⟩)) (fun r_35 hr_35 => ?_)
          exact W.iret (v := r_35) hx hb hr (fun t ht hW => ⟨_, rfl, Or.inl ⟨by omega, b_10, (oh_plR0 (oh_pl3R (by omega) hr_19)).1.mp g_22, Or.inl ⟨c_28, hr_35⟩⟩, ht⟩) (fun _ h => by cases h) dX0_tangent_38
      · have g_22 : r_19.toInt ≠ 0 := oh_neI0 c_22
        refine lv_iconst (v := -1) hx hb dX0_tangent_25 (by decide) ?_
        exact W.iret (v := -1) hx hb hr (fun t ht hW => ⟨_, rfl, Or.inr ⟨rfl, fun w => by first | exact b_10 w.2.1 | omega | exact g_22 ((oh_plR0 (oh_pl3R (by omega) hr_19)).1.mpr w.2.2.1)⟩, ht⟩) (fun _ h => by cases h) dX0_tangent_26
    · refine lv_if_eq (tgt := 25) hx hb dX0_tangent_13 (by decide) (fun _ => ?_) (fun q => absurd q (by decide))
      refine lv_iconst (v := -1) hx hb dX0_tangent_25 (by decide) ?_
      exact W.iret (v := -1) hx hb hr (fun t ht hW => ⟨_, rfl, Or.inr ⟨rfl, fun w => by first | exact b_10 w.2.1 | omega | exact g_22 ((oh_plR0 (oh_pl3R (by omega) hr_19)).1.mpr w.2.2.1)⟩, ht⟩) (fun _ h => by cases h) dX0_tangent_26
end
section
/-! how the corners come to be others -/
theorem oh_nn {k : Nat} (h : k < 2 ^ 31) : ¬ nI k = -2 := fun q => by
  have e := congrArg Int32.toInt q
  rw [nI_toInt h] at e
  have : (-2 : Int32).toInt = -2 := by decide
  omega
theorem oh_rot_nx' {n L t : Nat} (h : L < n) (ht : t < n) : oh_nx n (oh_rot n L t) = oh_rot n L (t + 1) := by
  unfold oh_rot oh_nx; split <;> split <;> (try split) <;> omega
def oh_g (n : Nat) (f : Nat → Int32) (x : Int32) : Nat → Int32 := fun i => if i < n then f i else x
theorem oh_gG {n : Nat} {fx fy : Nat → Int32} {x y : Int32} (i : Nat) : oh_pt (oh_g n fx x) (oh_g n fy y) i = oh_G n (oh_pt fx fy) (x.toInt, y.toInt) i := by
  unfold oh_pt oh_g oh_G; by_cases h : i < n
  · simp only [if_pos h]
  · simp only [if_neg h]
def oh_hull (n : Nat) (P : Nat → Int × Int) : Prop := oh_cvx n P ∧ ∀ i, 0 < i → i < n → oh_lx (P 0) (P i)
/-- m corners, by their places among the old ones and the new point -/
def oh_step (n : Nat) (P : Nat → Int × Int) (q : Int × Int) (m : Nat) (ρ : Nat → Nat) : Prop :=
  ((n = 0 ∧ m = 1 ∧ ρ 0 = 0) ∨ (1 ≤ n ∧ oh_ring (n + 1) (oh_G n P q) m ρ)) ∧ oh_cvx m (fun i => oh_G n P q (ρ i))
theorem oh_exF {n : Nat} {P : Nat → Int × Int} {q : Int × Int} (h : oh_cvx n P) (ho : oh_out n P q) : (∃ F, F < n ∧ oh_sd n P q F < 1 ∧ 1 ≤ oh_sd n P q (oh_pv n F)) ∧ ∃ L, L < n ∧ 1 ≤ oh_sd n P q L ∧ oh_sd n P q (oh_pv n L) < 1 := by
  have hex : (∃ i, i < n ∧ oh_sd n P q i < 1) ∧ ∃ i, i < n ∧ ¬ oh_sd n P q i < 1 := by
    rcases ho with ⟨hn, j, hj, hneg⟩ | ⟨hn, hz⟩
    · obtain ⟨i, hi, hp⟩ := oh_left (q := q) h hn
      exact ⟨⟨j, hj, by omega⟩, ⟨i, hi, by omega⟩⟩
    · subst hn
      have e : oh_sd 2 P q 1 = - oh_sd 2 P q 0 := oh_swap _ _ _
      rcases oh_lg (oh_sd 2 P q 0) 1 with g | g
      · exact ⟨⟨0, by omega, g⟩, ⟨1, by omega, by omega⟩⟩
      · exact ⟨⟨1, by omega, by omega⟩, ⟨0, by omega, by omega⟩⟩
  obtain ⟨F, hF, f1, f0⟩ := oh_begin (fun i => oh_sd n P q i < 1) hex.1 hex.2
  obtain ⟨L, hL, l1, l0⟩ := oh_begin (fun i => ¬ oh_sd n P q i < 1) hex.2 (by obtain ⟨i, hi, h9⟩ := hex.1; exact ⟨i, hi, fun w => w h9⟩)
  exact ⟨⟨F, hF, f1, by omega⟩, ⟨L, hL, by omega, by omega⟩⟩
theorem oh_getF {n : Nat} {P : Nat → Int × Int} {q : Int × Int} {r : Int32} (h : oh_cvx n P) (ho : oh_out n P q) (hr : oh_fs n P q (nI 1).toInt r) : ∃ F, F < n ∧ r = nI F ∧ oh_sd n P q F ≤ 0 ∧ 0 < oh_sd n P q (oh_pv n F) := by
  rw [show (nI 1).toInt = 1 by decide] at hr
  rcases hr with ⟨F, hF, e, f1, f0⟩ | ⟨-, hno⟩
  · exact ⟨F, hF, e, by omega, by omega⟩
  · obtain ⟨F, hF, f1, f0⟩ := (oh_exF h ho).1
    exact absurd ⟨f1, f0⟩ (hno F hF)
theorem oh_getL {n : Nat} {P : Nat → Int × Int} {q : Int × Int} {r : Int32} (h : oh_cvx n P) (ho : oh_out n P q) (hr : oh_la n P q (nI 1).toInt r) : ∃ L, L < n ∧ r = nI L ∧ 0 < oh_sd n P q L ∧ oh_sd n P q (oh_pv n L) ≤ 0 := by
  rw [show (nI 1).toInt = 1 by decide] at hr
  rcases hr with ⟨L, hL, e, f1, f0⟩ | ⟨-, hno⟩
  · exact ⟨L, hL, e, by omega, by omega⟩
  · obtain ⟨L, hL, f1, f0⟩ := (oh_exF h ho).2
    exact absurd ⟨f1, f0⟩ (hno L hL)
theorem oh_kp1 {F L : Nat} {d : Int32} (e : d = nI F - nI L) (h : L ≤ F) : d + nI 1 = nI (F + 1 - L) := by
  rw [e, pk_sub h, nI_add]; exact congrArg nI (by omega)
theorem oh_kp2 {F L n : Nat} {d k : Int32} (e : d = nI F - nI L) (e2 : k = d + nI 1 + nI n) (h : L ≤ n) : k = nI (F + n + 1 - L) := by
  have g : nI (F + n + 1 - L) + nI L = nI F + nI 1 + nI n := by rw [nI_add, nI_add, nI_add]; exact congrArg nI (by omega)
  rw [e2, e]
  generalize nI (F + n + 1 - L) = a at *
  generalize nI L = b at *
  generalize nI F = c at *
  generalize nI 1 = d at *
  generalize nI n = e at *
  grind
theorem oh_kfac {n F L K : Nat} (hF : F < n) (hL : L < n) (hne : F ≠ L) (hK : (L ≤ F ∧ K = F + 1 - L) ∨ (F < L ∧ K = F + n + 1 - L)) : 2 ≤ K ∧ K ≤ n ∧ oh_rot n L (K - 1) = F := by
  refine ⟨by omega, by omega, ?_⟩
  unfold oh_rot; split <;> omega
theorem oh_least (Q : Nat → Int × Int) : ∀ m, ∃ b, b < m + 1 ∧ ∀ j, j < m + 1 → ¬ oh_lx (Q j) (Q b) := by
  intro m
  induction m with
  | zero => exact ⟨0, by omega, fun j hj w => by rw [show j = 0 by omega] at w; exact oh_lx_as w w⟩
  | succ m ih =>
    obtain ⟨b, hb, hm⟩ := ih
    by_cases g : oh_lx (Q (m + 1)) (Q b)
    · refine ⟨m + 1, by omega, fun j hj w => ?_⟩
      by_cases e : j = m + 1
      · rw [e] at w; exact oh_lx_as w w
      · exact hm j (by omega) (oh_lx_tr w g)
    · refine ⟨b, by omega, fun j hj w => ?_⟩
      by_cases e : j = m + 1
      · rw [e] at w; exact g w
      · exact hm j (by omega) w
/-- the step of a ring, out of what firstSeen, lastSeen and leastOfRing answer -/
theorem oh_stepR {n : Nat} {P : Nat → Int × Int} {q : Int × Int} {F L K b : Nat} (hh : oh_hull n P) (hn : 2 ≤ n) (ho : oh_out n P q) (hF : F < n) (hL : L < n) (f1 : oh_sd n P q F ≤ 0) (f0 : 0 < oh_sd n P q (oh_pv n F)) (l1 : 0 < oh_sd n P q L) (l0 : oh_sd n P q (oh_pv n L) ≤ 0) (hK : 2 ≤ K ∧ K ≤ n ∧ oh_rot n L (K - 1) = F) (hb : b < K + 1) (hm : ∀ j, j < K + 1 → ¬ oh_lx (oh_G n P q (oh_sg n L j)) (oh_G n P q (oh_sg n L b))) : oh_step n P q (K + 1) (fun i => oh_sg n L (oh_rot (K + 1) b i)) := by
  obtain ⟨g1, g2⟩ := oh_grow hh.1 hh.2 ho hF hL f1 f0 l1 l0 hK.1 hK.2.1 hK.2.2 hb hm
  exact ⟨Or.inr ⟨by omega, g1⟩, g2⟩
theorem oh_stepR0 {n : Nat} {P : Nat → Int × Int} {q : Int × Int} {F L K : Nat} (hh : oh_hull n P) (hn : 2 ≤ n) (ho : oh_out n P q) (hF : F < n) (hL : L < n) (f1 : oh_sd n P q F ≤ 0) (f0 : 0 < oh_sd n P q (oh_pv n F)) (l1 : 0 < oh_sd n P q L) (l0 : oh_sd n P q (oh_pv n L) ≤ 0) (hK : 2 ≤ K ∧ K ≤ n ∧ oh_rot n L (K - 1) = F) : ∃ ρ, oh_step n P q (K + 1) ρ := by
  obtain ⟨b, hb, hm⟩ := oh_least (fun j => oh_G n P q (oh_sg n L j)) K
  exact ⟨_, oh_stepR hh hn ho hF hL f1 f0 l1 l0 hK hb hm⟩
/-- the ring's row: the new point, then the kept corners -/
def oh_rowR (n L K : Nat) (fx fy : Nat → Int32) (x y : Int32) (rx ry : Nat → Int32) : Prop := rx 0 = x ∧ ry 0 = y ∧ ∀ t, t < K → rx (t + 1) = fx (oh_rot n L t) ∧ ry (t + 1) = fy (oh_rot n L t)
theorem oh_rowG {n L K : Nat} {fx fy rx ry : Nat → Int32} {x y : Int32} (h : oh_rowR n L K fx fy x y rx ry) (hL : L < n) (hK : K ≤ n) {j : Nat} (hj : j < K + 1) : rx j = oh_g n fx x (oh_sg n L j) ∧ ry j = oh_g n fy y (oh_sg n L j) := by
  by_cases h0 : j = 0
  · subst h0
    rw [oh_sg0, h.1, h.2.1]
    unfold oh_g
    rw [if_neg (Nat.lt_irrefl n), if_neg (Nat.lt_irrefl n)]
    exact ⟨rfl, rfl⟩
  · obtain ⟨j, rfl⟩ : ∃ j', j = j' + 1 := ⟨j - 1, by omega⟩
    have g := h.2.2 j (by omega)
    rw [oh_sgS, g.1, g.2]
    have := oh_rot_lt hL (show j < n by omega)
    unfold oh_g
    rw [if_pos this, if_pos this]
    exact ⟨rfl, rfl⟩
theorem oh_rowM {n L K : Nat} {fx fy rx ry : Nat → Int32} {x y : Int32} (h : oh_rowR n L K fx fy x y rx ry) (hL : L < n) (hK : K ≤ n) {b : Nat} (hb : b < K + 1) (hm : ∀ j, j < K + 1 → ¬ oh_lx (oh_pt rx ry j) (oh_pt rx ry b)) : ∀ j, j < K + 1 → ¬ oh_lx (oh_G n (oh_pt fx fy) (x.toInt, y.toInt) (oh_sg n L j)) (oh_G n (oh_pt fx fy) (x.toInt, y.toInt) (oh_sg n L b)) := by
  intro j hj w
  apply hm j hj
  have e1 := oh_rowG h hL hK hj
  have e2 := oh_rowG h hL hK hb
  unfold oh_pt
  rw [e1.1, e1.2, e2.1, e2.2]
  rw [← oh_gG, ← oh_gG] at w
  exact w
/-- the new corners, by their places -/
def oh_arr (n m : Nat) (ρ : Nat → Nat) (fx fy : Nat → Int32) (x y : Int32) (gx gy : Nat → Int32) : Prop := ∀ t, t < m → gx t = oh_g n fx x (ρ t) ∧ gy t = oh_g n fy y (ρ t)
theorem oh_rowA {n L K : Nat} {fx fy rx ry gx gy : Nat → Int32} {x y : Int32} (h : oh_rowR n L K fx fy x y rx ry) (hL : L < n) (hK : K ≤ n) {b : Nat} (hb : b < K + 1) (hg : ∀ t, t < K + 1 → gx t = rx (oh_rot (K + 1) b t) ∧ gy t = ry (oh_rot (K + 1) b t)) : oh_arr n (K + 1) (fun i => oh_sg n L (oh_rot (K + 1) b i)) fx fy x y gx gy := by
  intro t ht
  have e := oh_rowG h hL hK (oh_rot_lt hb ht)
  rw [(hg t ht).1, (hg t ht).2, e.1, e.2]
  exact ⟨rfl, rfl⟩
end
section
theorem oh_col3 {a b c : Int × Int} (h1 : oh_lx a b) (h2 : oh_lx b c) (h : oh_cp a b c = 0) : oh_d2 a b < oh_d2 a c ∧ oh_d2 c b < oh_d2 c a := by
  obtain ⟨ux, hux⟩ : ∃ u, u = b.1 - a.1 := ⟨_, rfl⟩
  obtain ⟨uy, huy⟩ : ∃ u, u = b.2 - a.2 := ⟨_, rfl⟩
  obtain ⟨vx, hvx⟩ : ∃ u, u = c.1 - b.1 := ⟨_, rfl⟩
  obtain ⟨vy, hvy⟩ : ∃ u, u = c.2 - b.2 := ⟨_, rfl⟩
  have e : ux * vy - uy * vx = 0 := by
    have : oh_cp a b c = ux * vy - uy * vx := by rw [hux, huy, hvx, hvy]; unfold oh_cp; grind
    omega
  have d1 : oh_d2 a c = oh_d2 a b + (ux * vx + uy * vy) + (ux * vx + uy * vy) + (vx * vx + vy * vy) := by rw [hux, huy, hvx, hvy]; unfold oh_d2; grind
  have d2 : oh_d2 c a = oh_d2 c b + (ux * vx + uy * vy) + (ux * vx + uy * vy) + (ux * ux + uy * uy) := by rw [hux, huy, hvx, hvy]; unfold oh_d2; grind
  have s1 := oh_sq ux
  have s2 := oh_sq uy
  have s3 := oh_sq vx
  have s4 := oh_sq vy
  have key : 0 < ux * vx + uy * vy := by
    unfold oh_lx at h1 h2
    by_cases g : 0 < ux
    · have gv : 0 < vx := by
        rcases h2 with w | w
        · omega
        · exfalso
          have z : vx = 0 := by omega
          have := Int.mul_pos g (show 0 < vy by omega)
          rw [z, Int.mul_zero] at e
          omega
      have p1 := Int.mul_pos g gv
      have p2 : 0 ≤ uy * vy := by
        have e2 : (ux * vx) * (uy * vy) = (ux * vy) * (uy * vx) := by grind
        have e3 : ux * vy = uy * vx := by omega
        rw [e3] at e2
        have := oh_sq (uy * vx)
        rcases oh_lg (uy * vy) 0 with w | w
        · have := oh_mnn p1 w
          omega
        · exact w
      omega
    · have z : ux = 0 := by omega
      have y1 : 0 < uy := by omega
      have z2 : vx = 0 := by
        rw [z, Int.zero_mul] at e
        rcases Int.mul_eq_zero.mp (show uy * vx = 0 by omega) with w | w
        · omega
        · exact w
      have p1 := Int.mul_pos y1 (show 0 < vy by omega)
      rw [z, Int.zero_mul]
      omega
  constructor <;> omega
theorem oh_stepL0 {P : Nat → Int × Int} {q : Int × Int} : oh_step 0 P q 1 (fun _ => 0) := ⟨Or.inl ⟨rfl, rfl, rfl⟩, fun i j k h1 h2 h3 => by omega⟩
def oh_rhoL (n : Nat) (f : Bool) : Nat → Nat := fun t => if f then (if t = 0 then n else n - 1) else (if t = 0 then 0 else n)
theorem oh_stepL {n : Nat} {P : Nat → Int × Int} {q : Int × Int} {f : Bool} (hh : oh_hull n P) (h1 : 1 ≤ n) (h2 : n ≤ 2) (hs : n < 2 ∨ (n = 2 ∧ oh_sd n P q 0 = 0)) (hno : ¬ oh_on n P q) (hf : (f = true ∧ oh_lx q (P 0)) ∨ (f = false ∧ ¬ oh_lx q (P 0))) : oh_step n P q 2 (oh_rhoL n f) := by
  refine ⟨Or.inr ⟨h1, by omega, by omega, ?_, ?_, ?_, ?_⟩, fun i j k h1 h2 h3 => by omega⟩
  · intro i hi
    unfold oh_rhoL; split <;> split <;> omega
  · intro i j hij hj e
    have hi : i = 0 := by omega
    have hj : j = 1 := by omega
    subst hi; subst hj
    unfold oh_rhoL at e
    rcases hf with ⟨e2, -⟩ | ⟨e2, -⟩ <;> subst e2 <;> simp at e <;> omega
  all_goals
    have hz : oh_sd n P q 0 = 0 := by
      rcases hs with g | g
      · have e1 : n = 1 := by omega
        subst e1
        exact oh_s3 _ _
      · exact g.2
    have hlr : oh_lx q (P 0) ∨ (¬ oh_lx q (P 0) ∧ oh_lx (P (n - 1)) q) := by
      by_cases g : oh_lx q (P 0)
      · exact Or.inl g
      · by_cases g2 : oh_lx (P (n - 1)) q
        · exact Or.inr ⟨g, g2⟩
        · exact absurd ⟨hz, g, g2⟩ hno
    rcases (show n = 1 ∨ n = 2 by omega) with e1 | e1 <;> subst e1
  · intro i hi w hw w1 w2
    exfalso
    rcases (show i = 0 ∨ i = 1 by omega) with ei | ei <;> subst ei <;> rcases hf with ⟨e2, -⟩ | ⟨e2, -⟩ <;> subst e2 <;> simp [oh_rhoL, oh_nx] at w1 w2 <;> omega
  · have h01 : oh_lx (P 0) (P 1) := hh.2 1 (by omega) (by omega)
    have hz : oh_cp (P 0) (P 1) q = 0 := hz
    rcases hf with ⟨e2, hq⟩ | ⟨e2, hq⟩ <;> subst e2
    · have c1 : oh_cp q (P 0) (P 1) = 0 := by rw [oh_cyc]; exact hz
      have k := oh_col3 hq h01 c1
      intro i hi w hw w1 w2
      rcases (show i = 0 ∨ i = 1 by omega) with ei | ei <;> subst ei <;> simp [oh_rhoL, oh_nx] at w1 w2 <;> have hw0 : w = 0 := by omega
      · subst hw0
        right
        simp only [oh_rhoL, oh_nx, oh_G]
        simp
        exact ⟨by rw [oh_swap2]; omega, k.1⟩
      · subst hw0
        right
        simp only [oh_rhoL, oh_nx, oh_G]
        simp
        exact ⟨by rw [oh_cyc]; exact c1, k.2⟩
    · have hq2 : oh_lx (P 1) q := by
        rcases hlr with g | g
        · exact absurd g hq
        · exact g.2
      have k := oh_col3 h01 hq2 hz
      intro i hi w hw w1 w2
      rcases (show i = 0 ∨ i = 1 by omega) with ei | ei <;> subst ei <;> simp [oh_rhoL, oh_nx] at w1 w2 <;> have hw0 : w = 1 := by omega
      · subst hw0
        right
        simp only [oh_rhoL, oh_nx, oh_G]
        simp
        exact ⟨by rw [oh_swap2]; omega, k.1⟩
      · subst hw0
        right
        simp only [oh_rhoL, oh_nx, oh_G]
        simp
        exact ⟨by rw [oh_cyc]; exact hz, k.2⟩
  · intro w hw w1
    rcases hf with ⟨e2, hq⟩ | ⟨e2, hq⟩ <;> subst e2 <;> simp [oh_rhoL] at w1
    · have hw0 : w = 0 := by omega
      subst hw0
      simp [oh_rhoL, oh_G]
      exact hq
    · have hw0 : w = 1 := by omega
      subst hw0
      simp [oh_rhoL, oh_G]
      rcases hlr with g | g
      · exact absurd g hq
      · exact g.2
  · have h01 : oh_lx (P 0) (P 1) := hh.2 1 (by omega) (by omega)
    intro w hw w1
    rcases hf with ⟨e2, hq⟩ | ⟨e2, hq⟩ <;> subst e2 <;> simp [oh_rhoL] at w1
    · rcases (show w = 0 ∨ w = 1 by omega) with e | e <;> subst e <;> simp [oh_rhoL, oh_G]
      · exact hq
      · exact oh_lx_tr hq h01
    · have hq2 : oh_lx (P 1) q := by
        rcases hlr with g | g
        · exact absurd g hq
        · exact g.2
      rcases (show w = 1 ∨ w = 2 by omega) with e | e <;> subst e <;> simp [oh_rhoL, oh_G]
      · exact h01
      · exact oh_lx_tr h01 hq2
theorem oh_rowU {n L i c : Nat} {fx fy rx ry : Nat → Int32} {x y : Int32} (hi1 : 1 ≤ i) (hI : oh_rowR n L (i - 1) fx fy x y rx ry) (hc : c = oh_rot n L (i - 1)) : oh_rowR n L (i + 1 - 1) fx fy x y (upd rx i (fx c)) (upd ry i (fy c)) := by
  refine ⟨by rw [pk_un (by omega)]; exact hI.1, by rw [pk_un (by omega)]; exact hI.2.1, fun t ht => ?_⟩
  by_cases e : t + 1 = i
  · subst e
    rw [hc, pk_us, pk_us]
    exact ⟨rfl, rfl⟩
  · rw [pk_un e, pk_un e]
    exact hI.2.2 t (by omega)
theorem oh_rowT {n b i c : Nat} {fx fy rx ry : Nat → Int32} (hI : ∀ t, t < i → fx t = rx (oh_rot n b t) ∧ fy t = ry (oh_rot n b t)) (hc : c = oh_rot n b i) : ∀ t, t < i + 1 → upd fx i (rx c) t = rx (oh_rot n b t) ∧ upd fy i (ry c) t = ry (oh_rot n b t) := by
  intro t ht
  by_cases e : t = i
  · subst e
    rw [hc, pk_us, pk_us]
    exact ⟨rfl, rfl⟩
  · rw [pk_un e, pk_un e]
    exact hI t (by omega)
theorem oh_arrL1 {n : Nat} {fx fy : Nat → Int32} {x y : Int32} (h1 : 1 ≤ n) : oh_arr n 2 (oh_rhoL n true) fx fy x y (upd (upd fx 1 (fx (n - 1))) 0 x) (upd (upd fy 1 (fy (n - 1))) 0 y) := by
  intro t ht
  rcases (show t = 0 ∨ t = 1 by omega) with e | e <;> subst e
  · rw [pk_us, pk_us]; simp [oh_rhoL, oh_g]
  · rw [pk_un (k := 0) (j := 1) (by omega), pk_us, pk_un (k := 0) (j := 1) (by omega), pk_us]
    have : n - 1 < n := by omega
    simp [oh_rhoL, oh_g, this]
theorem oh_arrL2 {n : Nat} {fx fy : Nat → Int32} {x y : Int32} (h1 : 1 ≤ n) : oh_arr n 2 (oh_rhoL n false) fx fy x y (upd fx 1 x) (upd fy 1 y) := by
  intro t ht
  rcases (show t = 0 ∨ t = 1 by omega) with e | e <;> subst e
  · rw [pk_un (by omega), pk_un (by omega)]
    have : 0 < n := by omega
    simp [oh_rhoL, oh_g, this]
  · rw [pk_us, pk_us]; simp [oh_rhoL, oh_g]
theorem oh_stepm {n m : Nat} {P : Nat → Int × Int} {q : Int × Int} {ρ : Nat → Nat} (h : oh_step n P q m ρ) : 1 ≤ m ∧ m ≤ n + 1 := by
  rcases h.1 with ⟨a, b, -⟩ | ⟨a, b, c, -⟩ <;> omega
theorem oh_pl3no {n : Nat} {P : Nat → Int × Int} {q : Int × Int} {r : Int32} (h : oh_pl3 n P q r) (hr : r.toInt = 0) : n = 0 ∨ ¬ oh_on n P q ∨ 3 ≤ n := by
  rcases h with g | ⟨-, -, g⟩ | g
  · exact Or.inl g.1
  · rcases g with ⟨e, -⟩ | ⟨-, e⟩
    · subst e; exact absurd hr (by decide)
    · exact Or.inr (Or.inl e)
  · exact Or.inr (Or.inr g.1)
theorem oh_pl3out {n : Nat} {P : Nat → Int × Int} {q : Int × Int} {r : Int32} (h : oh_pl3 n P q r) (hr : r.toInt = 0) (hs : ¬ (n < 2 ∨ (n = 2 ∧ oh_sd n P q 0 = 0))) : oh_out n P q := by
  by_cases h3 : 3 ≤ n
  · exact Or.inl ⟨h3, (oh_plR0 (oh_pl3R h3 h)).1.mp hr⟩
  · exact Or.inr ⟨by omega, fun e => hs (Or.inr ⟨by omega, e⟩)⟩
theorem oh_pl3no' {n : Nat} {P : Nat → Int × Int} {q : Int × Int} {r : Int32} (h : oh_pl3 n P q r) (hr : r.toInt = 0) (hs : n < 2 ∨ (n = 2 ∧ oh_sd n P q 0 = 0)) : n = 0 ∨ ¬ oh_on n P q := by
  rcases oh_pl3no h hr with g | g | g
  · exact Or.inl g
  · exact Or.inr g
  · omega
theorem oh_stepL0' {n : Nat} {P : Nat → Int × Int} {q : Int × Int} (h : n = 0) : oh_step n P q 1 (fun _ => 0) := by subst h; exact oh_stepL0
theorem oh_arr0 {n : Nat} {fx fy : Nat → Int32} {x y : Int32} (h : n = 0) : oh_arr n 1 (fun _ => 0) fx fy x y (upd fx 0 x) (upd fy 0 y) := by
  subst h
  intro t ht
  rw [show t = 0 by omega, pk_us, pk_us]
  exact ⟨rfl, rfl⟩
def oh_addC (N n : Nat) (fx fy rx ry : Nat → Int32) (came x y r : Int32) (u : (Nat → Int32) × (Nat → Int32) × (Nat → Int32) × (Nat → Int32) × Nat × Int32) : Prop :=
  (¬ oh_inR x y ∧ r = -1 ∧ u = (fx, fy, rx, ry, n, came)) ∨ (oh_inR x y ∧ ∃ pl, oh_pl3 n (oh_pt fx fy) (x.toInt, y.toInt) pl ∧
    ((pl.toInt ≠ 0 ∧ r = 0 ∧ u = (fx, fy, rx, ry, n, came + nI 1)) ∨ (pl.toInt = 0 ∧ ∃ m ρ, oh_step n (oh_pt fx fy) (x.toInt, y.toInt) m ρ ∧
      ((m ≤ N ∧ r = nI (n + 2 - m) ∧ ∃ gx gy rx9 ry9, u = (gx, gy, rx9, ry9, m, came + nI 1) ∧ oh_arr n m ρ fx fy x y gx gy) ∨ (N < m ∧ r = -2 ∧ u = (fx, fy, rx, ry, n, came))))))
end
section
set_option maxHeartbeats 4000000 in
set_option maxRecDepth 100000 in
theorem k_X0_setCorner (l : Launch) (dC : Nat → ClassId) (dI : Nat → Nat → Nat) (cI : ClassId) (h a1 a2 a3 a4 N n : Nat) (came : Int32) (fx fy rx ry : Nat → Int32) (sz : Nat) (i : Nat) (x y : Int32) (hN : N ≤ 64) (hi : i < N) : Met l yX0_setCorner wsX0_setCorner ({ frames := 0, cells := 0, slots := 0, locals := 0 }) (va_Pc [.ref h, .int (nI i), .int x, .int y] (fun U => U.heap.size = sz ∧ va_P (dC, dI) vwCl [(h, .inr (0, [.int (nI N), .ref a1, .ref a2, .ref a3, .ref a4, .int (nI n), .int came])), (a1, .inl (cI, N, .inl fx)), (a2, .inl (cI, N, .inl fy)), (a3, .inl (cI, N, .inl rx)), (a4, .inl (cI, N, .inl ry))] U.heap ∧ va_K (dC, dI) vwCl [(cI, .int)] U ∧ va_D (fun _ => True) [(h, .inr (0, [.int (nI N), .ref a1, .ref a2, .ref a3, .ref a4, .int (nI n), .int came])), (a1, .inl (cI, N, .inl fx)), (a2, .inl (cI, N, .inl fy)), (a3, .inl (cI, N, .inl rx)), (a4, .inl (cI, N, .inl ry))])) (va_Qv (S := (Nat → Int32) × (Nat → Int32) × (Nat → Int32) × (Nat → Int32) × Nat × Int32) (fun u => u = (upd fx i x, upd fy i y, rx, ry, n, came)) (fun u t => va_P (dC, dI) vwCl [(h, .inr (0, [.int (nI N), .ref a1, .ref a2, .ref a3, .ref a4, .int (nI u.2.2.2.2.1), .int u.2.2.2.2.2])), (a1, .inl (cI, N, .inl u.1)), (a2, .inl (cI, N, .inl u.2.1)), (a3, .inl (cI, N, .inl u.2.2.1)), (a4, .inl (cI, N, .inl u.2.2.2.1))] t.heap ∧ va_K (dC, dI) vwCl [(cI, .int)] t ∧ va_D (va_A [(h, .inr (0, [.int (nI N), .ref a1, .ref a2, .ref a3, .ref a4, .int (nI n), .int came])), (a1, .inl (cI, N, .inl fx)), (a2, .inl (cI, N, .inl fy)), (a3, .inl (cI, N, .inl rx)), (a4, .inl (cI, N, .inl ry))] sz) [(h, .inr (0, [.int (nI N), .ref a1, .ref a2, .ref a3, .ref a4, .int (nI u.2.2.2.2.1), .int u.2.2.2.2.2])), (a1, .inl (cI, N, .inl u.1)), (a2, .inl (cI, N, .inl u.2.1)), (a3, .inl (cI, N, .inl u.2.2.1)), (a4, .inl (cI, N, .inl u.2.2.2.1))]) (va_A [(h, .inr (0, [.int (nI N), .ref a1, .ref a2, .ref a3, .ref a4, .int (nI n), .int came])), (a1, .inl (cI, N, .inl fx)), (a2, .inl (cI, N, .inl fy)), (a3, .inl (cI, N, .inl rx)), (a4, .inl (cI, N, .inl ry))] sz)) 0 0 (va_A [(h, .inr (0, [.int (nI N), .ref a1, .ref a2, .ref a3, .ref a4, .int (nI n), .int came])), (a1, .inl (cI, N, .inl fx)), (a2, .inl (cI, N, .inl fy)), (a3, .inl (cI, N, .inl rx)), (a4, .inl (cI, N, .inl ry))] sz) := by
  refine Met.ofW (cc := cX0_setCorner) (maxL := 4) (ret := none) (by decide) rfl ?_
  intro p e s m args below meth c s₁ B hml hv
  obtain ⟨rfl, hsz, hP, hK, hD0⟩ := hv
  have hx := B.exec
  have hb := B.bytes
  have hr := B.returns
  have hts := atoms_spec (ws := wsX0_setCorner) B.pre
  have hown : s.vm.findClass RX0 = some m.cls := findClass_of_methodNamed B.named
  have hlocks := B.notSynchronized
  have hin0 : ∀ w ∈ wsX00, w ∈ wsX0_setCorner := fun w h => List.mem_cons_of_mem _ (List.mem_append_right _ h)
  subst hsz
  have hD := hD0.self (sz := s.heap.size)
  generalize hAe : va_A [(h, .inr (0, [.int (nI N), .ref a1, .ref a2, .ref a3, .ref a4, .int (nI n), .int came])), (a1, .inl (cI, N, .inl fx)), (a2, .inl (cI, N, .inl fy)), (a3, .inl (cI, N, .inl rx)), (a4, .inl (cI, N, .inl ry))] s.heap.size = A at hD ⊢
  have hA : ∀ q : Nat, s.heap.size ≤ q → A q := fun q h => by rw [← hAe]; exact Or.inr h
  have hS : va_S A s.heap s.heap [] := va_S.rf
  have hl := lv_entry ([.ref h, .int (nI i), .int x, .int y]) (n := 4) (Nat.le_of_ble_eq_true rfl)
  rw [lg_entry_eq]
  generalize (lg_sl ([.ref h, .int (nI i), .int x, .int y]) ++ List.replicate (4 - (lg_sl ([.ref h, .int (nI i), .int x, .int y])).length) Slot.unset).toArray = ls at hl ⊢
  have hl : lv_has ls 4 [(0, .ref h), (1, .int (nI i)), (2, .int x), (3, .int y)] := hl
  suffices hgo : ∀ (H : Heap) (locs : List Loc), va_P (dC, dI) vwCl [(h, .inr (0, [.int (nI N), .ref a1, .ref a2, .ref a3, .ref a4, .int (nI n), .int came])), (a1, .inl (cI, N, .inl fx)), (a2, .inl (cI, N, .inl fy)), (a3, .inl (cI, N, .inl rx)), (a4, .inl (cI, N, .inl ry))] H → va_D A [(h, .inr (0, [.int (nI N), .ref a1, .ref a2, .ref a3, .ref a4, .int (nI n), .int came])), (a1, .inl (cI, N, .inl fx)), (a2, .inl (cI, N, .inl fy)), (a3, .inl (cI, N, .inl rx)), (a4, .inl (cI, N, .inl ry))] → va_S A s.heap H locs → W p l e (headSpec wsX0_setCorner ({ frames := 0, cells := 0, slots := 0, locals := 0 })).room s m ([.ref h, .int (nI i), .int x, .int y] : List Value).toArray below meth c H locs 0 0 (MQ below (va_Qv (S := (Nat → Int32) × (Nat → Int32) × (Nat → Int32) × (Nat → Int32) × Nat × Int32) (fun u => u = (upd fx i x, upd fy i y, rx, ry, n, came)) (fun u t => va_P (dC, dI) vwCl [(h, .inr (0, [.int (nI N), .ref a1, .ref a2, .ref a3, .ref a4, .int (nI u.2.2.2.2.1), .int u.2.2.2.2.2])), (a1, .inl (cI, N, .inl u.1)), (a2, .inl (cI, N, .inl u.2.1)), (a3, .inl (cI, N, .inl u.2.2.1)), (a4, .inl (cI, N, .inl u.2.2.2.1))] t.heap ∧ va_K (dC, dI) vwCl [(cI, .int)] t ∧ va_D A [(h, .inr (0, [.int (nI N), .ref a1, .ref a2, .ref a3, .ref a4, .int (nI u.2.2.2.2.1), .int u.2.2.2.2.2])), (a1, .inl (cI, N, .inl u.1)), (a2, .inl (cI, N, .inl u.2.1)), (a3, .inl (cI, N, .inl u.2.2.1)), (a4, .inl (cI, N, .inl u.2.2.2.1))]) A) ([.ref h, .int (nI i), .int x, .int y] : List Value).toArray s 0 0 A) (F0 m 0 ls []) from hgo s.heap [] hP hD hS
  clear hP hD hS hD0
  intro H locs hP hD hS
  refine lv_aload_n hx hb dX0_setCorner_0 rfl (lv_at hl 0 rfl) ?_
  refine va_get (D := (dC, dI)) (ci := 0) (v := .ref a1) (C := RX0) (T := TX0) (N := 7) hx hb hts hin0 hown hK hP 0 rfl rfl 1 (by decide) (hts (.fieldLink RX0 19 "OnlineHull" "cornerX" "[I") (by decide +kernel)) (fun _ h9 => h9) rfl dX0_setCorner_1 ?_
  refine lv_iload_n hx hb dX0_setCorner_4 rfl (lv_at hl 1 rfl) ?_
  refine lv_iload_n hx hb dX0_setCorner_5 rfl (lv_at hl 2 rfl) ?_
  refine oh_ast hx hb hK hP hD hS 1 0 rfl rfl (k := i) (by omega) (by omega) dX0_setCorner_6 (fun H locs hP hD hS => ?_)
  have hP : va_P (dC, dI) vwCl [(h, .inr (0, [.int (nI N), .ref a1, .ref a2, .ref a3, .ref a4, .int (nI n), .int came])), (a1, .inl (cI, N, .inl (upd fx i x))), (a2, .inl (cI, N, .inl fy)), (a3, .inl (cI, N, .inl rx)), (a4, .inl (cI, N, .inl ry))] H := hP
  have hD : va_D A [(h, .inr (0, [.int (nI N), .ref a1, .ref a2, .ref a3, .ref a4, .int (nI n), .int came])), (a1, .inl (cI, N, .inl (upd fx i x))), (a2, .inl (cI, N, .inl fy)), (a3, .inl (cI, N, .inl rx)), (a4, .inl (cI, N, .inl ry))] := hD
  refine lv_aload_n hx hb dX0_setCorner_7 rfl (lv_at hl 0 rfl) ?_
  refine va_get (D := (dC, dI)) (ci := 0) (v := .ref a2) (C := RX0) (T := TX0) (N := 7) hx hb hts hin0 hown hK hP 0 rfl rfl 2 (by decide) (hts (.fieldLink RX0 23 "OnlineHull" "cornerY" "[I") (by decide +kernel)) (fun _ h9 => h9) rfl dX0_setCorner_8 ?_
  refine lv_iload_n hx hb dX0_setCorner_11 rfl (lv_at hl 1 rfl) ?_
  refine lv_iload_n hx hb dX0_setCorner_12 rfl (lv_at hl 3 rfl) ?_
  refine oh_ast hx hb hK hP hD hS 2 0 rfl rfl (k := i) (by omega) (by omega) dX0_setCorner_13 (fun H locs hP hD hS => ?_)
  have hP : va_P (dC, dI) vwCl [(h, .inr (0, [.int (nI N), .ref a1, .ref a2, .ref a3, .ref a4, .int (nI n), .int came])), (a1, .inl (cI, N, .inl (upd fx i x))), (a2, .inl (cI, N, .inl (upd fy i y))), (a3, .inl (cI, N, .inl rx)), (a4, .inl (cI, N, .inl ry))] H := hP
  have hD : va_D A [(h, .inr (0, [.int (nI N), .ref a1, .ref a2, .ref a3, .ref a4, .int (nI n), .int came])), (a1, .inl (cI, N, .inl (upd fx i x))), (a2, .inl (cI, N, .inl (upd fy i y))), (a3, .inl (cI, N, .inl rx)), (a4, .inl (cI, N, .inl ry))] := hD
  exact W.vret hx hb hr (fun t ht hW => ⟨⟨(upd fx i x, upd fy i y, rx, ry, n, came), rfl, rfl, by rw [ht]; exact hP, va_K.moved hW.alike hK, hD⟩, hS.F ht⟩) hS.2.2 dX0_setCorner_14

set_option maxHeartbeats 4000000 in
set_option maxRecDepth 100000 in
theorem k_X0_fillRing (l : Launch) (dC : Nat → ClassId) (dI : Nat → Nat → Nat) (cI : ClassId) (h a1 a2 a3 a4 N n : Nat) (came : Int32) (fx fy rx ry : Nat → Int32) (sz : Nat) (L K : Nat) (x y : Int32) (hN : N ≤ 64) (hn : n ≤ N) (hL : L < n) (hK1 : K < N) (hK2 : K ≤ n) : Met l yX0_fillRing wsX0_fillRing ({ frames := 1, cells := 0, slots := 0, locals := 21 }) (va_Pc [.ref h, .int x, .int y, .int (nI L), .int (nI K)] (fun U => U.heap.size = sz ∧ va_P (dC, dI) vwCl [(h, .inr (0, [.int (nI N), .ref a1, .ref a2, .ref a3, .ref a4, .int (nI n), .int came])), (a1, .inl (cI, N, .inl fx)), (a2, .inl (cI, N, .inl fy)), (a3, .inl (cI, N, .inl rx)), (a4, .inl (cI, N, .inl ry))] U.heap ∧ va_K (dC, dI) vwCl [(cI, .int)] U ∧ va_D (fun _ => True) [(h, .inr (0, [.int (nI N), .ref a1, .ref a2, .ref a3, .ref a4, .int (nI n), .int came])), (a1, .inl (cI, N, .inl fx)), (a2, .inl (cI, N, .inl fy)), (a3, .inl (cI, N, .inl rx)), (a4, .inl (cI, N, .inl ry))])) (va_Qv (S := (Nat → Int32) × (Nat → Int32) × (Nat → Int32) × (Nat → Int32) × Nat × Int32) (fun u => ∃ rx9 ry9, u = (fx, fy, rx9, ry9, n, came) ∧ oh_rowR n L K fx fy x y rx9 ry9) (fun u t => va_P (dC, dI) vwCl [(h, .inr (0, [.int (nI N), .ref a1, .ref a2, .ref a3, .ref a4, .int (nI u.2.2.2.2.1), .int u.2.2.2.2.2])), (a1, .inl (cI, N, .inl u.1)), (a2, .inl (cI, N, .inl u.2.1)), (a3, .inl (cI, N, .inl u.2.2.1)), (a4, .inl (cI, N, .inl u.2.2.2.1))] t.heap ∧ va_K (dC, dI) vwCl [(cI, .int)] t ∧ va_D (va_A [(h, .inr (0, [.int (nI N), .ref a1, .ref a2, .ref a3, .ref a4, .int (nI n), .int came])), (a1, .inl (cI, N, .inl fx)), (a2, .inl (cI, N, .inl fy)), (a3, .inl (cI, N, .inl rx)), (a4, .inl (cI, N, .inl ry))] sz) [(h, .inr (0, [.int (nI N), .ref a1, .ref a2, .ref a3, .ref a4, .int (nI u.2.2.2.2.1), .int u.2.2.2.2.2])), (a1, .inl (cI, N, .inl u.1)), (a2, .inl (cI, N, .inl u.2.1)), (a3, .inl (cI, N, .inl u.2.2.1)), (a4, .inl (cI, N, .inl u.2.2.2.1))]) (va_A [(h, .inr (0, [.int (nI N), .ref a1, .ref a2, .ref a3, .ref a4, .int (nI n), .int came])), (a1, .inl (cI, N, .inl fx)), (a2, .inl (cI, N, .inl fy)), (a3, .inl (cI, N, .inl rx)), (a4, .inl (cI, N, .inl ry))] sz)) 0 0 (va_A [(h, .inr (0, [.int (nI N), .ref a1, .ref a2, .ref a3, .ref a4, .int (nI n), .int came])), (a1, .inl (cI, N, .inl fx)), (a2, .inl (cI, N, .inl fy)), (a3, .inl (cI, N, .inl rx)), (a4, .inl (cI, N, .inl ry))] sz) := by
  refine Met.ofW (cc := cX0_fillRing) (maxL := 7) (ret := none) (by decide) rfl ?_
  intro p e s m args below meth c s₁ B hml hv
  obtain ⟨rfl, hsz, hP, hK, hD0⟩ := hv
  have hx := B.exec
  have hb := B.bytes
  have hr := B.returns
  have hts := atoms_spec (ws := wsX0_fillRing) B.pre
  have hown : s.vm.findClass RX0 = some m.cls := findClass_of_methodNamed B.named
  have hlocks := B.notSynchronized
  have hin0 : ∀ w ∈ wsX00, w ∈ wsX0_fillRing := fun w h => List.mem_cons_of_mem _ (List.mem_append_right _ h)
  subst hsz
  have hD := hD0.self (sz := s.heap.size)
  generalize hAe : va_A [(h, .inr (0, [.int (nI N), .ref a1, .ref a2, .ref a3, .ref a4, .int (nI n), .int came])), (a1, .inl (cI, N, .inl fx)), (a2, .inl (cI, N, .inl fy)), (a3, .inl (cI, N, .inl rx)), (a4, .inl (cI, N, .inl ry))] s.heap.size = A at hD ⊢
  have hA : ∀ q : Nat, s.heap.size ≤ q → A q := fun q h => by rw [← hAe]; exact Or.inr h
  have hS : va_S A s.heap s.heap [] := va_S.rf
  have hl := lv_entry ([.ref h, .int x, .int y, .int (nI L), .int (nI K)]) (n := 7) (Nat.le_of_ble_eq_true rfl)
  rw [lg_entry_eq]
  generalize (lg_sl ([.ref h, .int x, .int y, .int (nI L), .int (nI K)]) ++ List.replicate (7 - (lg_sl ([.ref h, .int x, .int y, .int (nI L), .int (nI K)])).length) Slot.unset).toArray = ls at hl ⊢
  have hl : lv_has ls 7 [(0, .ref h), (1, .int x), (2, .int y), (3, .int (nI L)), (4, .int (nI K))] := hl
  suffices hgo : ∀ (H : Heap) (locs : List Loc), va_P (dC, dI) vwCl [(h, .inr (0, [.int (nI N), .ref a1, .ref a2, .ref a3, .ref a4, .int (nI n), .int came])), (a1, .inl (cI, N, .inl fx)), (a2, .inl (cI, N, .inl fy)), (a3, .inl (cI, N, .inl rx)), (a4, .inl (cI, N, .inl ry))] H → va_D A [(h, .inr (0, [.int (nI N), .ref a1, .ref a2, .ref a3, .ref a4, .int (nI n), .int came])), (a1, .inl (cI, N, .inl fx)), (a2, .inl (cI, N, .inl fy)), (a3, .inl (cI, N, .inl rx)), (a4, .inl (cI, N, .inl ry))] → va_S A s.heap H locs → W p l e (headSpec wsX0_fillRing ({ frames := 1, cells := 0, slots := 0, locals := 21 })).room s m ([.ref h, .int x, .int y, .int (nI L), .int (nI K)] : List Value).toArray below meth c H locs 0 0 (MQ below (va_Qv (S := (Nat → Int32) × (Nat → Int32) × (Nat → Int32) × (Nat → Int32) × Nat × Int32) (fun u => ∃ rx9 ry9, u = (fx, fy, rx9, ry9, n, came) ∧ oh_rowR n L K fx fy x y rx9 ry9) (fun u t => va_P (dC, dI) vwCl [(h, .inr (0, [.int (nI N), .ref a1, .ref a2, .ref a3, .ref a4, .int (nI u.2.2.2.2.1), .int u.2.2.2.2.2])), (a1, .inl (cI, N, .inl u.1)), (a2, .inl (cI, N, .inl u.2.1)), (a3, .inl (cI, N, .inl u.2.2.1)), (a4, .inl (cI, N, .inl u.2.2.2.1))] t.heap ∧ va_K (dC, dI) vwCl [(cI, .int)] t ∧ va_D A [(h, .inr (0, [.int (nI N), .ref a1, .ref a2, .ref a3, .ref a4, .int (nI u.2.2.2.2.1), .int u.2.2.2.2.2])), (a1, .inl (cI, N, .inl u.1)), (a2, .inl (cI, N, .inl u.2.1)), (a3, .inl (cI, N, .inl u.2.2.1)), (a4, .inl (cI, N, .inl u.2.2.2.1))]) A) ([.ref h, .int x, .int y, .int (nI L), .int (nI K)] : List Value).toArray s 0 0 A) (F0 m 0 ls []) from hgo s.heap [] hP hD hS
  clear hP hD hS hD0
  intro H locs hP hD hS
  refine lv_aload_n hx hb dX0_fillRing_0 rfl (lv_at hl 0 rfl) ?_
  refine va_get (D := (dC, dI)) (ci := 0) (v := .ref a3) (C := RX0) (T := TX0) (N := 7) hx hb hts hin0 hown hK hP 0 rfl rfl 3 (by decide) (hts (.fieldLink RX0 26 "OnlineHull" "ringX" "[I") (by decide +kernel)) (fun _ h9 => h9) rfl dX0_fillRing_1 ?_
  refine lv_iconst (v := nI 0) hx hb dX0_fillRing_4 (by decide) ?_
  refine lv_iload_n hx hb dX0_fillRing_5 rfl (lv_at hl 1 rfl) ?_
  refine oh_ast hx hb hK hP hD hS 3 0 rfl rfl (k := 0) (by omega) (by omega) dX0_fillRing_6 (fun H locs hP hD hS => ?_)
  have hP : va_P (dC, dI) vwCl [(h, .inr (0, [.int (nI N), .ref a1, .ref a2, .ref a3, .ref a4, .int (nI n), .int came])), (a1, .inl (cI, N, .inl fx)), (a2, .inl (cI, N, .inl fy)), (a3, .inl (cI, N, .inl (upd rx 0 x))), (a4, .inl (cI, N, .inl ry))] H := hP
  have hD : va_D A [(h, .inr (0, [.int (nI N), .ref a1, .ref a2, .ref a3, .ref a4, .int (nI n), .int came])), (a1, .inl (cI, N, .inl fx)), (a2, .inl (cI, N, .inl fy)), (a3, .inl (cI, N, .inl (upd rx 0 x))), (a4, .inl (cI, N, .inl ry))] := hD
  refine lv_aload_n hx hb dX0_fillRing_7 rfl (lv_at hl 0 rfl) ?_
  refine va_get (D := (dC, dI)) (ci := 0) (v := .ref a4) (C := RX0) (T := TX0) (N := 7) hx hb hts hin0 hown hK hP 0 rfl rfl 4 (by decide) (hts (.fieldLink RX0 29 "OnlineHull" "ringY" "[I") (by decide +kernel)) (fun _ h9 => h9) rfl dX0_fillRing_8 ?_
  refine lv_iconst (v := nI 0) hx hb dX0_fillRing_11 (by decide) ?_
  refine lv_iload_n hx hb dX0_fillRing_12 rfl (lv_at hl 2 rfl) ?_
  refine oh_ast hx hb hK hP hD hS 4 0 rfl rfl (k := 0) (by omega) (by omega) dX0_fillRing_13 (fun H locs hP hD hS => ?_)
  have hP : va_P (dC, dI) vwCl [(h, .inr (0, [.int (nI N), .ref a1, .ref a2, .ref a3, .ref a4, .int (nI n), .int came])), (a1, .inl (cI, N, .inl fx)), (a2, .inl (cI, N, .inl fy)), (a3, .inl (cI, N, .inl (upd rx 0 x))), (a4, .inl (cI, N, .inl (upd ry 0 y)))] H := hP
  have hD : va_D A [(h, .inr (0, [.int (nI N), .ref a1, .ref a2, .ref a3, .ref a4, .int (nI n), .int came])), (a1, .inl (cI, N, .inl fx)), (a2, .inl (cI, N, .inl fy)), (a3, .inl (cI, N, .inl (upd rx 0 x))), (a4, .inl (cI, N, .inl (upd ry 0 y)))] := hD
  refine lv_iload_n hx hb dX0_fillRing_14 rfl (lv_at hl 3 rfl) ?_
  refine lv_istore (lv' := [(5, .int (nI L)), (0, .ref h), (1, .int x), (2, .int y), (3, .int (nI L)), (4, .int (nI K))]) hx hb dX0_fillRing_15 hl (by decide) rfl (fun ls hl => ?_)
  refine lv_iconst (v := nI 1) hx hb dX0_fillRing_17 (by decide) ?_
  refine lv_istore (lv' := [(6, .int (nI 1)), (5, .int (nI L)), (0, .ref h), (1, .int x), (2, .int y), (3, .int (nI L)), (4, .int (nI K))]) hx hb dX0_fillRing_18 hl (by decide) rfl (fun ls hl => ?_)
  have loop : ∀ (k_loop : Nat) (i : Nat) (c9 : Nat) (rx9 : Nat → Int32) (ry9 : Nat → Int32), (1 ≤ i) → (i ≤ K + 1) → (K + 2 ≤ i + k_loop) → (c9 = oh_rot n L (i - 1)) → (oh_rowR n L (i - 1) fx fy x y rx9 ry9) → ∀ (H : Heap) (locs : List Loc), va_P (dC, dI) vwCl [(h, .inr (0, [.int (nI N), .ref a1, .ref a2, .ref a3, .ref a4, .int (nI n), .int came])), (a1, .inl (cI, N, .inl fx)), (a2, .inl (cI, N, .inl fy)), (a3, .inl (cI, N, .inl rx9)), (a4, .inl (cI, N, .inl ry9))] H → va_D A [(h, .inr (0, [.int (nI N), .ref a1, .ref a2, .ref a3, .ref a4, .int (nI n), .int came])), (a1, .inl (cI, N, .inl fx)), (a2, .inl (cI, N, .inl fy)), (a3, .inl (cI, N, .inl rx9)), (a4, .inl (cI, N, .inl ry9))] → va_S A s.heap H locs → ∀ (ls : Array Slot), lv_has ls 7 [(0, .ref h), (1, .int x), (2, .int y), (3, .int (nI L)), (4, .int (nI K)), (5, .int (nI c9)), (6, .int (nI i))] → W p l e (headSpec wsX0_fillRing ({ frames := 1, cells := 0, slots := 0, locals := 21 })).room s m ([.ref h, .int x, .int y, .int (nI L), .int (nI K)] : List Value).toArray below meth c H locs 0 0 (MQ below (va_Qv (S := (Nat → Int32) × (Nat → Int32) × (Nat → Int32) × (Nat → Int32) × Nat × Int32) (fun u => ∃ rx9 ry9, u = (fx, fy, rx9, ry9, n, came) ∧ oh_rowR n L K fx fy x y rx9 ry9) (fun u t => va_P (dC, dI) vwCl [(h, .inr (0, [.int (nI N), .ref a1, .ref a2, .ref a3, .ref a4, .int (nI u.2.2.2.2.1), .int u.2.2.2.2.2])), (a1, .inl (cI, N, .inl u.1)), (a2, .inl (cI, N, .inl u.2.1)), (a3, .inl (cI, N, .inl u.2.2.1)), (a4, .inl (cI, N, .inl u.2.2.2.1))] t.heap ∧ va_K (dC, dI) vwCl [(cI, .int)] t ∧ va_D A [(h, .inr (0, [.int (nI N), .ref a1, .ref a2, .ref a3, .ref a4, .int (nI u.2.2.2.2.1), .int u.2.2.2.2.2])), (a1, .inl (cI, N, .inl u.1)), (a2, .inl (cI, N, .inl u.2.1)), (a3, .inl (cI, N, .inl u.2.2.1)), (a4, .inl (cI, N, .inl u.2.2.2.1))]) A) ([.ref h, .int x, .int y, .int (nI L), .int (nI K)] : List Value).toArray s 0 0 A) (F0 m 20 ls []) := by
    clear hP hD hS
    clear hl
    intro k_loop
    induction k_loop with
    | zero =>
      intro i c9 rx9 ry9 hi1 hi hk hc9 hI
      exfalso; omega
    | succ k_loop ih_loop =>
      intro i c9 rx9 ry9 hi1 hi hk hc9 hI H locs hP hD hS ls hl
      have hro : c9 < n ∨ K < i := by by_cases g : i ≤ K; exact Or.inl (by rw [hc9]; exact oh_rot_lt hL (by omega)); exact Or.inr (by omega)
      refine lv_iload hx hb dX0_fillRing_20 (lv_at hl 6 rfl) ?_
      refine lv_iload hx hb dX0_fillRing_22 (lv_at hl 4 rfl) ?_
      refine lv_icmp_gt (tgt := 69) hx hb dX0_fillRing_24 (by decide) (fun c_24 => ?_) (fun c_24 => ?_)
      · have g_24 : K < i := (nI_ltI (a := K) (b := i) (by omega) (by omega)).mp c_24
        exact W.vret hx hb hr (fun t ht hW => ⟨⟨(fx, fy, rx9, ry9, n, came), rfl, ⟨rx9, ry9, rfl, by rw [show K = i - 1 by omega]; exact hI⟩, by rw [ht]; exact hP, va_K.moved hW.alike hK, hD⟩, hS.F ht⟩) hS.2.2 dX0_fillRing_69
      · have g_24 : ¬ K < i := fun q => c_24 ((nI_ltI (a := K) (b := i) (by omega) (by omega)).mpr q)
        refine lv_aload_n hx hb dX0_fillRing_27 rfl (lv_at hl 0 rfl) ?_
        refine va_get (D := (dC, dI)) (ci := 0) (v := .ref a3) (C := RX0) (T := TX0) (N := 7) hx hb hts hin0 hown hK hP 0 rfl rfl 3 (by decide) (hts (.fieldLink RX0 26 "OnlineHull" "ringX" "[I") (by decide +kernel)) (fun _ h9 => h9) rfl dX0_fillRing_28 ?_
        refine lv_iload hx hb dX0_fillRing_31 (lv_at hl 6 rfl) ?_
        refine lv_aload_n hx hb dX0_fillRing_33 rfl (lv_at hl 0 rfl) ?_
        refine va_get (D := (dC, dI)) (ci := 0) (v := .ref a1) (C := RX0) (T := TX0) (N := 7) hx hb hts hin0 hown hK hP 0 rfl rfl 1 (by decide) (hts (.fieldLink RX0 19 "OnlineHull" "cornerX" "[I") (by decide +kernel)) (fun _ h9 => h9) rfl dX0_fillRing_34 ?_
        refine lv_iload hx hb dX0_fillRing_37 (lv_at hl 5 rfl) ?_
        refine oh_ald hx hb hK hP 1 0 rfl rfl (k := c9) (by omega) (by omega) dX0_fillRing_39 ?_
        refine oh_ast hx hb hK hP hD hS 3 0 rfl rfl (k := i) (by omega) (by omega) dX0_fillRing_40 (fun H locs hP hD hS => ?_)
        have hP : va_P (dC, dI) vwCl [(h, .inr (0, [.int (nI N), .ref a1, .ref a2, .ref a3, .ref a4, .int (nI n), .int came])), (a1, .inl (cI, N, .inl fx)), (a2, .inl (cI, N, .inl fy)), (a3, .inl (cI, N, .inl (upd rx9 i (fx c9)))), (a4, .inl (cI, N, .inl ry9))] H := hP
        have hD : va_D A [(h, .inr (0, [.int (nI N), .ref a1, .ref a2, .ref a3, .ref a4, .int (nI n), .int came])), (a1, .inl (cI, N, .inl fx)), (a2, .inl (cI, N, .inl fy)), (a3, .inl (cI, N, .inl (upd rx9 i (fx c9)))), (a4, .inl (cI, N, .inl ry9))] := hD
        refine lv_aload_n hx hb dX0_fillRing_41 rfl (lv_at hl 0 rfl) ?_
        refine va_get (D := (dC, dI)) (ci := 0) (v := .ref a4) (C := RX0) (T := TX0) (N := 7) hx hb hts hin0 hown hK hP 0 rfl rfl 4 (by decide) (hts (.fieldLink RX0 29 "OnlineHull" "ringY" "[I") (by decide +kernel)) (fun _ h9 => h9) rfl dX0_fillRing_42 ?_
        refine lv_iload hx hb dX0_fillRing_45 (lv_at hl 6 rfl) ?_
        refine lv_aload_n hx hb dX0_fillRing_47 rfl (lv_at hl 0 rfl) ?_
        refine va_get (D := (dC, dI)) (ci := 0) (v := .ref a2) (C := RX0) (T := TX0) (N := 7) hx hb hts hin0 hown hK hP 0 rfl rfl 2 (by decide) (hts (.fieldLink RX0 23 "OnlineHull" "cornerY" "[I") (by decide +kernel)) (fun _ h9 => h9) rfl dX0_fillRing_48 ?_
        refine lv_iload hx hb dX0_fillRing_51 (lv_at hl 5 rfl) ?_
        refine oh_ald hx hb hK hP 2 0 rfl rfl (k := c9) (by omega) (by omega) dX0_fillRing_53 ?_
        refine oh_ast hx hb hK hP hD hS 4 0 rfl rfl (k := i) (by omega) (by omega) dX0_fillRing_54 (fun H locs hP hD hS => ?_)
        have hP : va_P (dC, dI) vwCl [(h, .inr (0, [.int (nI N), .ref a1, .ref a2, .ref a3, .ref a4, .int (nI n), .int came])), (a1, .inl (cI, N, .inl fx)), (a2, .inl (cI, N, .inl fy)), (a3, .inl (cI, N, .inl (upd rx9 i (fx c9)))), (a4, .inl (cI, N, .inl (upd ry9 i (fy c9))))] H := hP
        have hD : va_D A [(h, .inr (0, [.int (nI N), .ref a1, .ref a2, .ref a3, .ref a4, .int (nI n), .int came])), (a1, .inl (cI, N, .inl fx)), (a2, .inl (cI, N, .inl fy)), (a3, .inl (cI, N, .inl (upd rx9 i (fx c9)))), (a4, .inl (cI, N, .inl (upd ry9 i (fy c9))))] := hD
        refine lv_aload_n hx hb dX0_fillRing_55 rfl (lv_at hl 0 rfl) ?_
        refine lv_iload hx hb dX0_fillRing_56 (lv_at hl 5 rfl) ?_
        refine vp_callSi (va_Run.run (va_runV (As := [.int (nI c9)]) (rest := []) ⟨hx, hb, hml, hown, hts⟩ (k_X0_next l dC dI cI h a1 a2 a3 a4 N n came fx fy (upd rx9 i (fx c9)) (upd ry9 i (fy c9)) c9 hN hn (by omega)) (cwV 1 hts gX0_fillRing_X0_next rfl rfl rfl (by decide +kernel) ⟨Nat.le_of_ble_eq_true rfl, Nat.le_of_ble_eq_true rfl⟩) (oh_pre (ci := 0) (q0 := 0) hK hP rfl rfl) rfl rfl hl.1 rfl (lv_room (Nat.le_of_ble_eq_true rfl)) dX0_fillRing_58 ⟨Nat.zero_le _, Nat.zero_le _⟩)) (fun r_58 hr_58 => ?_)
        subst hr_58
        refine lv_istore (lv' := [(5, .int (nI (oh_nx n c9))), (0, .ref h), (1, .int x), (2, .int y), (3, .int (nI L)), (4, .int (nI K)), (6, .int (nI i))]) hx hb dX0_fillRing_61 hl (by decide) rfl (fun ls hl => ?_)
        refine lv_iinc (v := nI (i + 1)) (lv' := [(6, .int (nI (i + 1))), (5, .int (nI (oh_nx n c9))), (0, .ref h), (1, .int x), (2, .int y), (3, .int (nI L)), (4, .int (nI K))]) hx hb dX0_fillRing_63 hl (k := 6) rfl (nI_1 i) (by decide) rfl (fun ls hl => ?_)
        refine lv_goto (tgt := 20) hx hb dX0_fillRing_66 (by decide) ?_
        exact ih_loop (i + 1) (oh_nx n c9) (upd rx9 i (fx c9)) (upd ry9 i (fy c9)) (by omega) (by omega) (by omega) (by rw [hc9, oh_rot_nx' hL (by omega)]; exact congrArg _ (by omega)) (oh_rowU hi1 hI hc9) _ _ hP hD hS ls (lv_sub hl [2, 3, 4, 5, 6, 1, 0] rfl)
  exact loop (K + 2) 1 L (upd rx 0 x) (upd ry 0 y) (by omega) (by omega) (by omega) ((oh_rot0 hL).symm) (⟨pk_us, pk_us, fun t ht => by omega⟩) _ _ hP hD hS ls (lv_sub hl [2, 3, 4, 5, 6, 1, 0] rfl)

set_option maxHeartbeats 4000000 in
set_option maxRecDepth 100000 in
theorem k_X0_takeRing (l : Launch) (dC : Nat → ClassId) (dI : Nat → Nat → Nat) (cI : ClassId) (h a1 a2 a3 a4 N n : Nat) (came : Int32) (fx fy rx ry : Nat → Int32) (sz : Nat) (hN : N ≤ 64) (hn : n ≤ N) (h0 : 0 < n) : Met l yX0_takeRing wsX0_takeRing ({ frames := 2, cells := 0, slots := 0, locals := 45 }) (va_Pc [.ref h] (fun U => U.heap.size = sz ∧ va_P (dC, dI) vwCl [(h, .inr (0, [.int (nI N), .ref a1, .ref a2, .ref a3, .ref a4, .int (nI n), .int came])), (a1, .inl (cI, N, .inl fx)), (a2, .inl (cI, N, .inl fy)), (a3, .inl (cI, N, .inl rx)), (a4, .inl (cI, N, .inl ry))] U.heap ∧ va_K (dC, dI) vwCl [(cI, .int)] U ∧ va_D (fun _ => True) [(h, .inr (0, [.int (nI N), .ref a1, .ref a2, .ref a3, .ref a4, .int (nI n), .int came])), (a1, .inl (cI, N, .inl fx)), (a2, .inl (cI, N, .inl fy)), (a3, .inl (cI, N, .inl rx)), (a4, .inl (cI, N, .inl ry))])) (va_Qv (S := (Nat → Int32) × (Nat → Int32) × (Nat → Int32) × (Nat → Int32) × Nat × Int32) (fun u => ∃ b fx9 fy9, u = (fx9, fy9, rx, ry, n, came) ∧ b < n ∧ (∀ j, j < n → ¬ oh_lx (oh_pt rx ry j) (oh_pt rx ry b)) ∧ ∀ t, t < n → fx9 t = rx (oh_rot n b t) ∧ fy9 t = ry (oh_rot n b t)) (fun u t => va_P (dC, dI) vwCl [(h, .inr (0, [.int (nI N), .ref a1, .ref a2, .ref a3, .ref a4, .int (nI u.2.2.2.2.1), .int u.2.2.2.2.2])), (a1, .inl (cI, N, .inl u.1)), (a2, .inl (cI, N, .inl u.2.1)), (a3, .inl (cI, N, .inl u.2.2.1)), (a4, .inl (cI, N, .inl u.2.2.2.1))] t.heap ∧ va_K (dC, dI) vwCl [(cI, .int)] t ∧ va_D (va_A [(h, .inr (0, [.int (nI N), .ref a1, .ref a2, .ref a3, .ref a4, .int (nI n), .int came])), (a1, .inl (cI, N, .inl fx)), (a2, .inl (cI, N, .inl fy)), (a3, .inl (cI, N, .inl rx)), (a4, .inl (cI, N, .inl ry))] sz) [(h, .inr (0, [.int (nI N), .ref a1, .ref a2, .ref a3, .ref a4, .int (nI u.2.2.2.2.1), .int u.2.2.2.2.2])), (a1, .inl (cI, N, .inl u.1)), (a2, .inl (cI, N, .inl u.2.1)), (a3, .inl (cI, N, .inl u.2.2.1)), (a4, .inl (cI, N, .inl u.2.2.2.1))]) (va_A [(h, .inr (0, [.int (nI N), .ref a1, .ref a2, .ref a3, .ref a4, .int (nI n), .int came])), (a1, .inl (cI, N, .inl fx)), (a2, .inl (cI, N, .inl fy)), (a3, .inl (cI, N, .inl rx)), (a4, .inl (cI, N, .inl ry))] sz)) 0 0 (va_A [(h, .inr (0, [.int (nI N), .ref a1, .ref a2, .ref a3, .ref a4, .int (nI n), .int came])), (a1, .inl (cI, N, .inl fx)), (a2, .inl (cI, N, .inl fy)), (a3, .inl (cI, N, .inl rx)), (a4, .inl (cI, N, .inl ry))] sz) := by
  refine Met.ofW (cc := cX0_takeRing) (maxL := 3) (ret := none) (by decide) rfl ?_
  intro p e s m args below meth c s₁ B hml hv
  obtain ⟨rfl, hsz, hP, hK, hD0⟩ := hv
  have hx := B.exec
  have hb := B.bytes
  have hr := B.returns
  have hts := atoms_spec (ws := wsX0_takeRing) B.pre
  have hown : s.vm.findClass RX0 = some m.cls := findClass_of_methodNamed B.named
  have hlocks := B.notSynchronized
  have hin0 : ∀ w ∈ wsX00, w ∈ wsX0_takeRing := fun w h => List.mem_cons_of_mem _ (List.mem_append_right _ h)
  subst hsz
  have hD := hD0.self (sz := s.heap.size)
  generalize hAe : va_A [(h, .inr (0, [.int (nI N), .ref a1, .ref a2, .ref a3, .ref a4, .int (nI n), .int came])), (a1, .inl (cI, N, .inl fx)), (a2, .inl (cI, N, .inl fy)), (a3, .inl (cI, N, .inl rx)), (a4, .inl (cI, N, .inl ry))] s.heap.size = A at hD ⊢
  have hA : ∀ q : Nat, s.heap.size ≤ q → A q := fun q h => by rw [← hAe]; exact Or.inr h
  have hS : va_S A s.heap s.heap [] := va_S.rf
  have hl := lv_entry ([.ref h]) (n := 3) (Nat.le_of_ble_eq_true rfl)
  rw [lg_entry_eq]
  generalize (lg_sl ([.ref h]) ++ List.replicate (3 - (lg_sl ([.ref h])).length) Slot.unset).toArray = ls at hl ⊢
  have hl : lv_has ls 3 [(0, .ref h)] := hl
  suffices hgo : ∀ (H : Heap) (locs : List Loc), va_P (dC, dI) vwCl [(h, .inr (0, [.int (nI N), .ref a1, .ref a2, .ref a3, .ref a4, .int (nI n), .int came])), (a1, .inl (cI, N, .inl fx)), (a2, .inl (cI, N, .inl fy)), (a3, .inl (cI, N, .inl rx)), (a4, .inl (cI, N, .inl ry))] H → va_D A [(h, .inr (0, [.int (nI N), .ref a1, .ref a2, .ref a3, .ref a4, .int (nI n), .int came])), (a1, .inl (cI, N, .inl fx)), (a2, .inl (cI, N, .inl fy)), (a3, .inl (cI, N, .inl rx)), (a4, .inl (cI, N, .inl ry))] → va_S A s.heap H locs → W p l e (headSpec wsX0_takeRing ({ frames := 2, cells := 0, slots := 0, locals := 45 })).room s m ([.ref h] : List Value).toArray below meth c H locs 0 0 (MQ below (va_Qv (S := (Nat → Int32) × (Nat → Int32) × (Nat → Int32) × (Nat → Int32) × Nat × Int32) (fun u => ∃ b fx9 fy9, u = (fx9, fy9, rx, ry, n, came) ∧ b < n ∧ (∀ j, j < n → ¬ oh_lx (oh_pt rx ry j) (oh_pt rx ry b)) ∧ ∀ t, t < n → fx9 t = rx (oh_rot n b t) ∧ fy9 t = ry (oh_rot n b t)) (fun u t => va_P (dC, dI) vwCl [(h, .inr (0, [.int (nI N), .ref a1, .ref a2, .ref a3, .ref a4, .int (nI u.2.2.2.2.1), .int u.2.2.2.2.2])), (a1, .inl (cI, N, .inl u.1)), (a2, .inl (cI, N, .inl u.2.1)), (a3, .inl (cI, N, .inl u.2.2.1)), (a4, .inl (cI, N, .inl u.2.2.2.1))] t.heap ∧ va_K (dC, dI) vwCl [(cI, .int)] t ∧ va_D A [(h, .inr (0, [.int (nI N), .ref a1, .ref a2, .ref a3, .ref a4, .int (nI u.2.2.2.2.1), .int u.2.2.2.2.2])), (a1, .inl (cI, N, .inl u.1)), (a2, .inl (cI, N, .inl u.2.1)), (a3, .inl (cI, N, .inl u.2.2.1)), (a4, .inl (cI, N, .inl u.2.2.2.1))]) A) ([.ref h] : List Value).toArray s 0 0 A) (F0 m 0 ls []) from hgo s.heap [] hP hD hS
  clear hP hD hS hD0
  intro H locs hP hD hS
  refine lv_aload_n hx hb dX0_takeRing_0 rfl (lv_at hl 0 rfl) ?_
  refine vp_callSi (va_Run.run (va_runV (As := []) (rest := []) ⟨hx, hb, hml, hown, hts⟩ (k_X0_leastOfRing l dC dI cI h a1 a2 a3 a4 N n came fx fy rx ry hN hn (by omega)) (cwV 0 hts gX0_takeRing_X0_leastOfRing rfl rfl rfl (by decide +kernel) ⟨Nat.le_of_ble_eq_true rfl, Nat.le_of_ble_eq_true rfl⟩) (oh_pre (ci := 0) (q0 := 0) hK hP rfl rfl) rfl rfl hl.1 rfl (lv_room (Nat.le_of_ble_eq_true rfl)) dX0_takeRing_1 ⟨Nat.zero_le _, Nat.zero_le _⟩)) (fun r_1 hr_1 => ?_)
  obtain ⟨b, hb9, rfl, hmin⟩ := hr_1
  refine lv_istore_n (lv' := [(1, .int (nI b)), (0, .ref h)]) hx hb dX0_takeRing_4 rfl hl (by decide) rfl (fun ls hl => ?_)
  refine lv_iconst (v := nI 0) hx hb dX0_takeRing_5 (by decide) ?_
  refine lv_istore_n (lv' := [(2, .int (nI 0)), (1, .int (nI b)), (0, .ref h)]) hx hb dX0_takeRing_6 rfl hl (by decide) rfl (fun ls hl => ?_)
  have loop : ∀ (k_loop : Nat) (i : Nat) (c9 : Nat) (fx9 : Nat → Int32) (fy9 : Nat → Int32), (i ≤ n) → (n + 1 ≤ i + k_loop) → (c9 = oh_rot n b i) → (∀ t, t < i → fx9 t = rx (oh_rot n b t) ∧ fy9 t = ry (oh_rot n b t)) → ∀ (H : Heap) (locs : List Loc), va_P (dC, dI) vwCl [(h, .inr (0, [.int (nI N), .ref a1, .ref a2, .ref a3, .ref a4, .int (nI n), .int came])), (a1, .inl (cI, N, .inl fx9)), (a2, .inl (cI, N, .inl fy9)), (a3, .inl (cI, N, .inl rx)), (a4, .inl (cI, N, .inl ry))] H → va_D A [(h, .inr (0, [.int (nI N), .ref a1, .ref a2, .ref a3, .ref a4, .int (nI n), .int came])), (a1, .inl (cI, N, .inl fx9)), (a2, .inl (cI, N, .inl fy9)), (a3, .inl (cI, N, .inl rx)), (a4, .inl (cI, N, .inl ry))] → va_S A s.heap H locs → ∀ (ls : Array Slot), lv_has ls 3 [(0, .ref h), (1, .int (nI c9)), (2, .int (nI i))] → W p l e (headSpec wsX0_takeRing ({ frames := 2, cells := 0, slots := 0, locals := 45 })).room s m ([.ref h] : List Value).toArray below meth c H locs 0 0 (MQ below (va_Qv (S := (Nat → Int32) × (Nat → Int32) × (Nat → Int32) × (Nat → Int32) × Nat × Int32) (fun u => ∃ b fx9 fy9, u = (fx9, fy9, rx, ry, n, came) ∧ b < n ∧ (∀ j, j < n → ¬ oh_lx (oh_pt rx ry j) (oh_pt rx ry b)) ∧ ∀ t, t < n → fx9 t = rx (oh_rot n b t) ∧ fy9 t = ry (oh_rot n b t)) (fun u t => va_P (dC, dI) vwCl [(h, .inr (0, [.int (nI N), .ref a1, .ref a2, .ref a3, .ref a4, .int (nI u.2.2.2.2.1), .int u.2.2.2.2.2])), (a1, .inl (cI, N, .inl u.1)), (a2, .inl (cI, N, .inl u.2.1)), (a3, .inl (cI, N, .inl u.2.2.1)), (a4, .inl (cI, N, .inl u.2.2.2.1))] t.heap ∧ va_K (dC, dI) vwCl [(cI, .int)] t ∧ va_D A [(h, .inr (0, [.int (nI N), .ref a1, .ref a2, .ref a3, .ref a4, .int (nI u.2.2.2.2.1), .int u.2.2.2.2.2])), (a1, .inl (cI, N, .inl u.1)), (a2, .inl (cI, N, .inl u.2.1)), (a3, .inl (cI, N, .inl u.2.2.1)), (a4, .inl (cI, N, .inl u.2.2.2.1))]) A) ([.ref h] : List Value).toArray s 0 0 A) (F0 m 7 ls []) := by
    clear hP hD hS
    clear hl
    intro k_loop
    induction k_loop with
    | zero =>
      intro i c9 fx9 fy9 hi hk hc9 hI
      exfalso; omega
    | succ k_loop ih_loop =>
      intro i c9 fx9 fy9 hi hk hc9 hI H locs hP hD hS ls hl
      have hro : c9 < n ∨ n ≤ i := by by_cases g : i < n; exact Or.inl (by rw [hc9]; exact oh_rot_lt hb9 g); exact Or.inr (by omega)
      refine lv_iload_n hx hb dX0_takeRing_7 rfl (lv_at hl 2 rfl) ?_
      refine lv_aload_n hx hb dX0_takeRing_8 rfl (lv_at hl 0 rfl) ?_
      refine va_get (D := (dC, dI)) (ci := 0) (v := .int (nI n)) (C := RX0) (T := TX0) (N := 7) hx hb hts hin0 hown hK hP 0 rfl rfl 5 (by decide) (hts (.fieldLink RX0 32 "OnlineHull" "corners" "I") (by decide +kernel)) (fun _ h9 => h9) rfl dX0_takeRing_9 ?_
      refine lv_icmp_ge (tgt := 44) hx hb dX0_takeRing_12 (by decide) (fun c_12 => ?_) (fun c_12 => ?_)
      · have g_12 : n ≤ i := (nI_leI (a := n) (b := i) (by omega) (by omega)).mp c_12
        exact W.vret hx hb hr (fun t ht hW => ⟨⟨(fx9, fy9, rx, ry, n, came), rfl, ⟨b, fx9, fy9, rfl, hb9, hmin, fun t ht => hI t (by omega)⟩, by rw [ht]; exact hP, va_K.moved hW.alike hK, hD⟩, hS.F ht⟩) hS.2.2 dX0_takeRing_44
      · have g_12 : ¬ n ≤ i := fun q => c_12 ((nI_leI (a := n) (b := i) (by omega) (by omega)).mpr q)
        refine lv_aload_n hx hb dX0_takeRing_15 rfl (lv_at hl 0 rfl) ?_
        refine lv_iload_n hx hb dX0_takeRing_16 rfl (lv_at hl 2 rfl) ?_
        refine lv_aload_n hx hb dX0_takeRing_17 rfl (lv_at hl 0 rfl) ?_
        refine va_get (D := (dC, dI)) (ci := 0) (v := .ref a3) (C := RX0) (T := TX0) (N := 7) hx hb hts hin0 hown hK hP 0 rfl rfl 3 (by decide) (hts (.fieldLink RX0 26 "OnlineHull" "ringX" "[I") (by decide +kernel)) (fun _ h9 => h9) rfl dX0_takeRing_18 ?_
        refine lv_iload_n hx hb dX0_takeRing_21 rfl (lv_at hl 1 rfl) ?_
        refine oh_ald hx hb hK hP 3 0 rfl rfl (k := c9) (by omega) (by omega) dX0_takeRing_22 ?_
        refine lv_aload_n hx hb dX0_takeRing_23 rfl (lv_at hl 0 rfl) ?_
        refine va_get (D := (dC, dI)) (ci := 0) (v := .ref a4) (C := RX0) (T := TX0) (N := 7) hx hb hts hin0 hown hK hP 0 rfl rfl 4 (by decide) (hts (.fieldLink RX0 29 "OnlineHull" "ringY" "[I") (by decide +kernel)) (fun _ h9 => h9) rfl dX0_takeRing_24 ?_
        refine lv_iload_n hx hb dX0_takeRing_27 rfl (lv_at hl 1 rfl) ?_
        refine oh_ald hx hb hK hP 4 0 rfl rfl (k := c9) (by omega) (by omega) dX0_takeRing_28 ?_
        have hPc := hP.sub (ws' := [(h, .inr (0, [.int (nI N), .ref a1, .ref a2, .ref a3, .ref a4, .int (nI n), .int came])), (a1, .inl (cI, N, .inl fx9)), (a2, .inl (cI, N, .inl fy9)), (a3, .inl (cI, N, .inl rx)), (a4, .inl (cI, N, .inl ry))]) [0, 1, 2, 3, 4] rfl
        have hDc := hD.sub (ws' := [(h, .inr (0, [.int (nI N), .ref a1, .ref a2, .ref a3, .ref a4, .int (nI n), .int came])), (a1, .inl (cI, N, .inl fx9)), (a2, .inl (cI, N, .inl fy9)), (a3, .inl (cI, N, .inl rx)), (a4, .inl (cI, N, .inl ry))]) [0, 1, 2, 3, 4] (by decide) rfl
        have hFc := va_free (wc := [(h, .inr (0, [.int (nI N), .ref a1, .ref a2, .ref a3, .ref a4, .int (nI n), .int came])), (a1, .inl (cI, N, .inl fx9)), (a2, .inl (cI, N, .inl fy9)), (a3, .inl (cI, N, .inl rx)), (a4, .inl (cI, N, .inl ry))]) hD hS hA [0, 1, 2, 3, 4] rfl
        refine va_callv (va_runV (As := [.int (nI i), .int (rx c9), .int (ry c9)]) (rest := []) ⟨hx, hb, hml, hown, hts⟩ (k_X0_setCorner l dC dI cI h a1 a2 a3 a4 N n came fx9 fy9 rx ry H.size i (rx c9) (ry c9) hN (by omega)) (cwV 3 hts gX0_takeRing_X0_setCorner rfl rfl rfl (by decide +kernel) ⟨Nat.le_of_ble_eq_true rfl, Nat.le_of_ble_eq_true rfl⟩) (oh_preM (ci := 0) (q0 := 0) hK hPc hDc rfl rfl) rfl rfl hl.1 rfl (lv_room (Nat.le_of_ble_eq_true rfl)) dX0_takeRing_29 ⟨Nat.zero_le _, Nat.zero_le _⟩) hS (fun q _ h => hFc q h) hFc (fun u_29 t H1 locs ht hvm hw_29 hB hz1 hk1 hS => ?_)
        obtain ⟨hP1, hK1, hD1⟩ := hB
        rw [ht] at hP1
        obtain rfl := hw_29
        obtain ⟨hP, hD⟩ := va_join (wr := []) (w1 := [(h, .inr (0, [.int (nI N), .ref a1, .ref a2, .ref a3, .ref a4, .int (nI n), .int came])), (a1, .inl (cI, N, .inl (upd fx9 i (rx c9)))), (a2, .inl (cI, N, .inl (upd fy9 i (ry c9)))), (a3, .inl (cI, N, .inl rx)), (a4, .inl (cI, N, .inl ry))]) hP hD [0, 1, 2, 3, 4] [] rfl rfl (by decide) (by decide) hk1 hFc hP1 hD1
        generalize H1 = H at hP hS ⊢
        have hP : va_P (dC, dI) vwCl [(h, .inr (0, [.int (nI N), .ref a1, .ref a2, .ref a3, .ref a4, .int (nI n), .int came])), (a1, .inl (cI, N, .inl (upd fx9 i (rx c9)))), (a2, .inl (cI, N, .inl (upd fy9 i (ry c9)))), (a3, .inl (cI, N, .inl rx)), (a4, .inl (cI, N, .inl ry))] H := hP
        have hD : va_D A [(h, .inr (0, [.int (nI N), .ref a1, .ref a2, .ref a3, .ref a4, .int (nI n), .int came])), (a1, .inl (cI, N, .inl (upd fx9 i (rx c9)))), (a2, .inl (cI, N, .inl (upd fy9 i (ry c9)))), (a3, .inl (cI, N, .inl rx)), (a4, .inl (cI, N, .inl ry))] := hD
        clear hPc hDc hFc hP1 hK1 hD1 hk1 hz1 ht
        refine lv_aload_n hx hb dX0_takeRing_32 rfl (lv_at hl 0 rfl) ?_
        refine lv_iload_n hx hb dX0_takeRing_33 rfl (lv_at hl 1 rfl) ?_
        refine vp_callSi (va_Run.run (va_runV (As := [.int (nI c9)]) (rest := []) ⟨hx, hb, hml, hown, hts⟩ (k_X0_next l dC dI cI h a1 a2 a3 a4 N n came (upd fx9 i (rx c9)) (upd fy9 i (ry c9)) rx ry c9 hN hn (by omega)) (cwV 1 hts gX0_takeRing_X0_next rfl rfl rfl (by decide +kernel) ⟨Nat.le_of_ble_eq_true rfl, Nat.le_of_ble_eq_true rfl⟩) (oh_pre (ci := 0) (q0 := 0) hK hP rfl rfl) rfl rfl hl.1 rfl (lv_room (Nat.le_of_ble_eq_true rfl)) dX0_takeRing_34 ⟨Nat.zero_le _, Nat.zero_le _⟩)) (fun r_34 hr_34 => ?_)
        subst hr_34
        refine lv_istore_n (lv' := [(1, .int (nI (oh_nx n c9))), (0, .ref h), (2, .int (nI i))]) hx hb dX0_takeRing_37 rfl hl (by decide) rfl (fun ls hl => ?_)
        refine lv_iinc (v := nI (i + 1)) (lv' := [(2, .int (nI (i + 1))), (1, .int (nI (oh_nx n c9))), (0, .ref h)]) hx hb dX0_takeRing_38 hl (k := 2) rfl (nI_1 i) (by decide) rfl (fun ls hl => ?_)
        refine lv_goto (tgt := 7) hx hb dX0_takeRing_41 (by decide) ?_
        exact ih_loop (i + 1) (oh_nx n c9) (upd fx9 i (rx c9)) (upd fy9 i (ry c9)) (by omega) (by omega) (by rw [hc9, oh_rot_nx' hb9 (by omega)]) (oh_rowT hI hc9) _ _ hP hD hS ls (lv_sub hl [2, 1, 0] rfl)
  exact loop (n + 1) 0 b fx fy (by omega) (by omega) ((oh_rot0 hb9).symm) (fun t ht => by omega) _ _ hP hD hS ls (lv_sub hl [2, 1, 0] rfl)

set_option maxHeartbeats 4000000 in
set_option maxRecDepth 100000 in
theorem k_X0_growLine (l : Launch) (dC : Nat → ClassId) (dI : Nat → Nat → Nat) (cI : ClassId) (h a1 a2 a3 a4 N n : Nat) (came : Int32) (fx fy rx ry : Nat → Int32) (sz : Nat) (x y : Int32) (hN : N ≤ 64) (hn : n ≤ N) (h3 : 3 ≤ N) (hh : oh_hull n (oh_pt fx fy)) (hs : n < 2 ∨ (n = 2 ∧ oh_sd n (oh_pt fx fy) (x.toInt, y.toInt) 0 = 0)) (hno : n = 0 ∨ ¬ oh_on n (oh_pt fx fy) (x.toInt, y.toInt)) : Met l yX0_growLine wsX0_growLine ({ frames := 1, cells := 0, slots := 0, locals := 23 }) (va_Pc [.ref h, .int x, .int y] (fun U => U.heap.size = sz ∧ va_P (dC, dI) vwCl [(h, .inr (0, [.int (nI N), .ref a1, .ref a2, .ref a3, .ref a4, .int (nI n), .int came])), (a1, .inl (cI, N, .inl fx)), (a2, .inl (cI, N, .inl fy)), (a3, .inl (cI, N, .inl rx)), (a4, .inl (cI, N, .inl ry))] U.heap ∧ va_K (dC, dI) vwCl [(cI, .int)] U ∧ va_D (fun _ => True) [(h, .inr (0, [.int (nI N), .ref a1, .ref a2, .ref a3, .ref a4, .int (nI n), .int came])), (a1, .inl (cI, N, .inl fx)), (a2, .inl (cI, N, .inl fy)), (a3, .inl (cI, N, .inl rx)), (a4, .inl (cI, N, .inl ry))])) (va_Qi (S := (Nat → Int32) × (Nat → Int32) × (Nat → Int32) × (Nat → Int32) × Nat × Int32) (fun r u => ∃ m ρ gx gy, u = (gx, gy, rx, ry, m, came) ∧ r = nI (n + 2 - m) ∧ m ≤ N ∧ oh_step n (oh_pt fx fy) (x.toInt, y.toInt) m ρ ∧ oh_arr n m ρ fx fy x y gx gy) (fun u t => va_P (dC, dI) vwCl [(h, .inr (0, [.int (nI N), .ref a1, .ref a2, .ref a3, .ref a4, .int (nI u.2.2.2.2.1), .int u.2.2.2.2.2])), (a1, .inl (cI, N, .inl u.1)), (a2, .inl (cI, N, .inl u.2.1)), (a3, .inl (cI, N, .inl u.2.2.1)), (a4, .inl (cI, N, .inl u.2.2.2.1))] t.heap ∧ va_K (dC, dI) vwCl [(cI, .int)] t ∧ va_D (va_A [(h, .inr (0, [.int (nI N), .ref a1, .ref a2, .ref a3, .ref a4, .int (nI n), .int came])), (a1, .inl (cI, N, .inl fx)), (a2, .inl (cI, N, .inl fy)), (a3, .inl (cI, N, .inl rx)), (a4, .inl (cI, N, .inl ry))] sz) [(h, .inr (0, [.int (nI N), .ref a1, .ref a2, .ref a3, .ref a4, .int (nI u.2.2.2.2.1), .int u.2.2.2.2.2])), (a1, .inl (cI, N, .inl u.1)), (a2, .inl (cI, N, .inl u.2.1)), (a3, .inl (cI, N, .inl u.2.2.1)), (a4, .inl (cI, N, .inl u.2.2.2.1))]) (va_A [(h, .inr (0, [.int (nI N), .ref a1, .ref a2, .ref a3, .ref a4, .int (nI n), .int came])), (a1, .inl (cI, N, .inl fx)), (a2, .inl (cI, N, .inl fy)), (a3, .inl (cI, N, .inl rx)), (a4, .inl (cI, N, .inl ry))] sz)) 0 0 (va_A [(h, .inr (0, [.int (nI N), .ref a1, .ref a2, .ref a3, .ref a4, .int (nI n), .int came])), (a1, .inl (cI, N, .inl fx)), (a2, .inl (cI, N, .inl fy)), (a3, .inl (cI, N, .inl rx)), (a4, .inl (cI, N, .inl ry))] sz) := by
  refine Met.ofW (cc := cX0_growLine) (maxL := 5) (ret := (some .int)) (by decide) rfl ?_
  intro p e s m args below meth c s₁ B hml hv
  obtain ⟨rfl, hsz, hP, hK, hD0⟩ := hv
  have hx := B.exec
  have hb := B.bytes
  have hr := B.returns
  have hts := atoms_spec (ws := wsX0_growLine) B.pre
  have hown : s.vm.findClass RX0 = some m.cls := findClass_of_methodNamed B.named
  have hlocks := B.notSynchronized
  have hin0 : ∀ w ∈ wsX00, w ∈ wsX0_growLine := fun w h => List.mem_cons_of_mem _ (List.mem_append_right _ h)
  subst hsz
  have hD := hD0.self (sz := s.heap.size)
  generalize hAe : va_A [(h, .inr (0, [.int (nI N), .ref a1, .ref a2, .ref a3, .ref a4, .int (nI n), .int came])), (a1, .inl (cI, N, .inl fx)), (a2, .inl (cI, N, .inl fy)), (a3, .inl (cI, N, .inl rx)), (a4, .inl (cI, N, .inl ry))] s.heap.size = A at hD ⊢
  have hA : ∀ q : Nat, s.heap.size ≤ q → A q := fun q h => by rw [← hAe]; exact Or.inr h
  have hS : va_S A s.heap s.heap [] := va_S.rf
  have hl := lv_entry ([.ref h, .int x, .int y]) (n := 5) (Nat.le_of_ble_eq_true rfl)
  rw [lg_entry_eq]
  generalize (lg_sl ([.ref h, .int x, .int y]) ++ List.replicate (5 - (lg_sl ([.ref h, .int x, .int y])).length) Slot.unset).toArray = ls at hl ⊢
  have hl : lv_has ls 5 [(0, .ref h), (1, .int x), (2, .int y)] := hl
  suffices hgo : ∀ (H : Heap) (locs : List Loc), va_P (dC, dI) vwCl [(h, .inr (0, [.int (nI N), .ref a1, .ref a2, .ref a3, .ref a4, .int (nI n), .int came])), (a1, .inl (cI, N, .inl fx)), (a2, .inl (cI, N, .inl fy)), (a3, .inl (cI, N, .inl rx)), (a4, .inl (cI, N, .inl ry))] H → va_D A [(h, .inr (0, [.int (nI N), .ref a1, .ref a2, .ref a3, .ref a4, .int (nI n), .int came])), (a1, .inl (cI, N, .inl fx)), (a2, .inl (cI, N, .inl fy)), (a3, .inl (cI, N, .inl rx)), (a4, .inl (cI, N, .inl ry))] → va_S A s.heap H locs → W p l e (headSpec wsX0_growLine ({ frames := 1, cells := 0, slots := 0, locals := 23 })).room s m ([.ref h, .int x, .int y] : List Value).toArray below meth c H locs 0 0 (MQ below (va_Qi (S := (Nat → Int32) × (Nat → Int32) × (Nat → Int32) × (Nat → Int32) × Nat × Int32) (fun r u => ∃ m ρ gx gy, u = (gx, gy, rx, ry, m, came) ∧ r = nI (n + 2 - m) ∧ m ≤ N ∧ oh_step n (oh_pt fx fy) (x.toInt, y.toInt) m ρ ∧ oh_arr n m ρ fx fy x y gx gy) (fun u t => va_P (dC, dI) vwCl [(h, .inr (0, [.int (nI N), .ref a1, .ref a2, .ref a3, .ref a4, .int (nI u.2.2.2.2.1), .int u.2.2.2.2.2])), (a1, .inl (cI, N, .inl u.1)), (a2, .inl (cI, N, .inl u.2.1)), (a3, .inl (cI, N, .inl u.2.2.1)), (a4, .inl (cI, N, .inl u.2.2.2.1))] t.heap ∧ va_K (dC, dI) vwCl [(cI, .int)] t ∧ va_D A [(h, .inr (0, [.int (nI N), .ref a1, .ref a2, .ref a3, .ref a4, .int (nI u.2.2.2.2.1), .int u.2.2.2.2.2])), (a1, .inl (cI, N, .inl u.1)), (a2, .inl (cI, N, .inl u.2.1)), (a3, .inl (cI, N, .inl u.2.2.1)), (a4, .inl (cI, N, .inl u.2.2.2.1))]) A) ([.ref h, .int x, .int y] : List Value).toArray s 0 0 A) (F0 m 0 ls []) from hgo s.heap [] hP hD hS
  clear hP hD hS hD0
  intro H locs hP hD hS
  refine lv_aload_n hx hb dX0_growLine_0 rfl (lv_at hl 0 rfl) ?_
  refine va_get (D := (dC, dI)) (ci := 0) (v := .int (nI n)) (C := RX0) (T := TX0) (N := 7) hx hb hts hin0 hown hK hP 0 rfl rfl 5 (by decide) (hts (.fieldLink RX0 32 "OnlineHull" "corners" "I") (by decide +kernel)) (fun _ h9 => h9) rfl dX0_growLine_1 ?_
  refine lv_if_ne (tgt := 21) hx hb dX0_growLine_4 (by decide) (fun c_4 => ?_) (fun c_4 => ?_)
  · have g_4 : n ≠ 0 := fun q => (fun q => c_4 (q.trans nI_0)) ((nI_eq (a := n) (b := 0) (by omega) (by omega)).mpr q)
    refine lv_aload_n hx hb dX0_growLine_21 rfl (lv_at hl 0 rfl) ?_
    refine va_get (D := (dC, dI)) (ci := 0) (v := .int (nI n)) (C := RX0) (T := TX0) (N := 7) hx hb hts hin0 hown hK hP 0 rfl rfl 5 (by decide) (hts (.fieldLink RX0 32 "OnlineHull" "corners" "I") (by decide +kernel)) (fun _ h9 => h9) rfl dX0_growLine_22 ?_
    refine lv_iconst (v := nI 1) hx hb dX0_growLine_25 (by decide) ?_
    refine lv_isub hx hb dX0_growLine_26 ?_
    rw [pk_sub (a := n) (b := 1) (by omega)]
    refine lv_istore_n (lv' := [(3, .int (nI (n - 1))), (0, .ref h), (1, .int x), (2, .int y)]) hx hb dX0_growLine_27 rfl hl (by decide) rfl (fun ls hl => ?_)
    refine lv_iload_n hx hb dX0_growLine_28 rfl (lv_at hl 2 rfl) ?_
    refine lv_iload_n hx hb dX0_growLine_29 rfl (lv_at hl 3 rfl) ?_
    refine lv_aload_n hx hb dX0_growLine_30 rfl (lv_at hl 1 rfl) ?_
    refine va_get (D := (dC, dI)) (ci := 0) (v := .ref a1) (C := RX0) (T := TX0) (N := 7) hx hb hts hin0 hown hK hP 0 rfl rfl 1 (by decide) (hts (.fieldLink RX0 19 "OnlineHull" "cornerX" "[I") (by decide +kernel)) (fun _ h9 => h9) rfl dX0_growLine_31 ?_
    refine lv_iconst (v := nI 0) hx hb dX0_growLine_34 (by decide) ?_
    refine oh_ald hx hb hK hP 1 0 rfl rfl (k := 0) (by omega) (by omega) dX0_growLine_35 ?_
    refine lv_aload_n hx hb dX0_growLine_36 rfl (lv_at hl 1 rfl) ?_
    refine va_get (D := (dC, dI)) (ci := 0) (v := .ref a2) (C := RX0) (T := TX0) (N := 7) hx hb hts hin0 hown hK hP 0 rfl rfl 2 (by decide) (hts (.fieldLink RX0 23 "OnlineHull" "cornerY" "[I") (by decide +kernel)) (fun _ h9 => h9) rfl dX0_growLine_37 ?_
    refine lv_iconst (v := nI 0) hx hb dX0_growLine_40 (by decide) ?_
    refine oh_ald hx hb hK hP 2 0 rfl rfl (k := 0) (by omega) (by omega) dX0_growLine_41 ?_
    refine vp_callSi (va_Run.run (va_runS (As := [.int x, .int y, .int (fx 0), .int (fy 0)]) (rest := []) ⟨hx, hb, hml, hown, hts⟩ (k_X0_comesBefore l x y (fx 0) (fy 0)) (va_cwS 4 hts gX0_growLine_X0_comesBefore rfl rfl rfl (by decide +kernel) ⟨Nat.le_of_ble_eq_true rfl, Nat.le_of_ble_eq_true rfl⟩) oh_pre0 rfl rfl hl.1 rfl (lv_room (Nat.le_of_ble_eq_true rfl)) dX0_growLine_42 ⟨Nat.zero_le _, Nat.zero_le _⟩)) (fun r_42 hr_42 => ?_)
    rcases hr_42 with ⟨b_42, hr_42⟩ | ⟨b_42, hr_42⟩ <;> subst hr_42
    · refine lv_if_eq (tgt := 75) hx hb dX0_growLine_45 (by decide) (fun q => absurd q (by decide)) (fun _ => ?_)
      refine lv_aload_n hx hb dX0_growLine_48 rfl (lv_at hl 1 rfl) ?_
      refine lv_iconst (v := nI 1) hx hb dX0_growLine_49 (by decide) ?_
      refine lv_aload_n hx hb dX0_growLine_50 rfl (lv_at hl 1 rfl) ?_
      refine va_get (D := (dC, dI)) (ci := 0) (v := .ref a1) (C := RX0) (T := TX0) (N := 7) hx hb hts hin0 hown hK hP 0 rfl rfl 1 (by decide) (hts (.fieldLink RX0 19 "OnlineHull" "cornerX" "[I") (by decide +kernel)) (fun _ h9 => h9) rfl dX0_growLine_51 ?_
      refine lv_iload_n hx hb dX0_growLine_54 rfl (lv_at hl 0 rfl) ?_
      refine oh_ald hx hb hK hP 1 0 rfl rfl (k := (n - 1)) (by omega) (by omega) dX0_growLine_55 ?_
      refine lv_aload_n hx hb dX0_growLine_56 rfl (lv_at hl 1 rfl) ?_
      refine va_get (D := (dC, dI)) (ci := 0) (v := .ref a2) (C := RX0) (T := TX0) (N := 7) hx hb hts hin0 hown hK hP 0 rfl rfl 2 (by decide) (hts (.fieldLink RX0 23 "OnlineHull" "cornerY" "[I") (by decide +kernel)) (fun _ h9 => h9) rfl dX0_growLine_57 ?_
      refine lv_iload_n hx hb dX0_growLine_60 rfl (lv_at hl 0 rfl) ?_
      refine oh_ald hx hb hK hP 2 0 rfl rfl (k := (n - 1)) (by omega) (by omega) dX0_growLine_61 ?_
      have hPc := hP.sub (ws' := [(h, .inr (0, [.int (nI N), .ref a1, .ref a2, .ref a3, .ref a4, .int (nI n), .int came])), (a1, .inl (cI, N, .inl fx)), (a2, .inl (cI, N, .inl fy)), (a3, .inl (cI, N, .inl rx)), (a4, .inl (cI, N, .inl ry))]) [0, 1, 2, 3, 4] rfl
      have hDc := hD.sub (ws' := [(h, .inr (0, [.int (nI N), .ref a1, .ref a2, .ref a3, .ref a4, .int (nI n), .int came])), (a1, .inl (cI, N, .inl fx)), (a2, .inl (cI, N, .inl fy)), (a3, .inl (cI, N, .inl rx)), (a4, .inl (cI, N, .inl ry))]) [0, 1, 2, 3, 4] (by decide) rfl
      have hFc := va_free (wc := [(h, .inr (0, [.int (nI N), .ref a1, .ref a2, .ref a3, .ref a4, .int (nI n), .int came])), (a1, .inl (cI, N, .inl fx)), (a2, .inl (cI, N, .inl fy)), (a3, .inl (cI, N, .inl rx)), (a4, .inl (cI, N, .inl ry))]) hD hS hA [0, 1, 2, 3, 4] rfl
      refine va_callv (va_runV (As := [.int (nI 1), .int (fx ((n - 1))), .int (fy ((n - 1)))]) (rest := []) ⟨hx, hb, hml, hown, hts⟩ (k_X0_setCorner l dC dI cI h a1 a2 a3 a4 N n came fx fy rx ry H.size 1 (fx ((n - 1))) (fy ((n - 1))) hN (by omega)) (cwV 3 hts gX0_growLine_X0_setCorner rfl rfl rfl (by decide +kernel) ⟨Nat.le_of_ble_eq_true rfl, Nat.le_of_ble_eq_true rfl⟩) (oh_preM (ci := 0) (q0 := 0) hK hPc hDc rfl rfl) rfl rfl hl.1 rfl (lv_room (Nat.le_of_ble_eq_true rfl)) dX0_growLine_62 ⟨Nat.zero_le _, Nat.zero_le _⟩) hS (fun q _ h => hFc q h) hFc (fun u_62 t H1 locs ht hvm hw_62 hB hz1 hk1 hS => ?_)
      obtain ⟨hP1, hK1, hD1⟩ := hB
      rw [ht] at hP1
      obtain rfl := hw_62
      obtain ⟨hP, hD⟩ := va_join (wr := []) (w1 := [(h, .inr (0, [.int (nI N), .ref a1, .ref a2, .ref a3, .ref a4, .int (nI n), .int came])), (a1, .inl (cI, N, .inl (upd fx 1 (fx ((n - 1)))))), (a2, .inl (cI, N, .inl (upd fy 1 (fy ((n - 1)))))), (a3, .inl (cI, N, .inl rx)), (a4, .inl (cI, N, .inl ry))]) hP hD [0, 1, 2, 3, 4] [] rfl rfl (by decide) (by decide) hk1 hFc hP1 hD1
      generalize H1 = H at hP hS ⊢
      have hP : va_P (dC, dI) vwCl [(h, .inr (0, [.int (nI N), .ref a1, .ref a2, .ref a3, .ref a4, .int (nI n), .int came])), (a1, .inl (cI, N, .inl (upd fx 1 (fx ((n - 1)))))), (a2, .inl (cI, N, .inl (upd fy 1 (fy ((n - 1)))))), (a3, .inl (cI, N, .inl rx)), (a4, .inl (cI, N, .inl ry))] H := hP
      have hD : va_D A [(h, .inr (0, [.int (nI N), .ref a1, .ref a2, .ref a3, .ref a4, .int (nI n), .int came])), (a1, .inl (cI, N, .inl (upd fx 1 (fx ((n - 1)))))), (a2, .inl (cI, N, .inl (upd fy 1 (fy ((n - 1)))))), (a3, .inl (cI, N, .inl rx)), (a4, .inl (cI, N, .inl ry))] := hD
      clear hPc hDc hFc hP1 hK1 hD1 hk1 hz1 ht
      refine lv_aload_n hx hb dX0_growLine_65 rfl (lv_at hl 1 rfl) ?_
      refine lv_iconst (v := nI 0) hx hb dX0_growLine_66 (by decide) ?_
      refine lv_iload_n hx hb dX0_growLine_67 rfl (lv_at hl 2 rfl) ?_
      refine lv_iload_n hx hb dX0_growLine_68 rfl (lv_at hl 3 rfl) ?_
      have hPc := hP.sub (ws' := [(h, .inr (0, [.int (nI N), .ref a1, .ref a2, .ref a3, .ref a4, .int (nI n), .int came])), (a1, .inl (cI, N, .inl (upd fx 1 (fx ((n - 1)))))), (a2, .inl (cI, N, .inl (upd fy 1 (fy ((n - 1)))))), (a3, .inl (cI, N, .inl rx)), (a4, .inl (cI, N, .inl ry))]) [0, 1, 2, 3, 4] rfl
      have hDc := hD.sub (ws' := [(h, .inr (0, [.int (nI N), .ref a1, .ref a2, .ref a3, .ref a4, .int (nI n), .int came])), (a1, .inl (cI, N, .inl (upd fx 1 (fx ((n - 1)))))), (a2, .inl (cI, N, .inl (upd fy 1 (fy ((n - 1)))))), (a3, .inl (cI, N, .inl rx)), (a4, .inl (cI, N, .inl ry))]) [0, 1, 2, 3, 4] (by decide) rfl
      have hFc := va_free (wc := [(h, .inr (0, [.int (nI N), .ref a1, .ref a2, .ref a3, .ref a4, .int (nI n), .int came])), (a1, .inl (cI, N, .inl (upd fx 1 (fx ((n - 1)))))), (a2, .inl (cI, N, .inl (upd fy 1 (fy ((n - 1)))))), (a3, .inl (cI, N, .inl rx)), (a4, .inl (cI, N, .inl ry))]) hD hS hA [0, 1, 2, 3, 4] rfl
      refine va_callv (va_runV (As := [.int (nI 0), .int x, .int y]) (rest := []) ⟨hx, hb, hml, hown, hts⟩ (k_X0_setCorner l dC dI cI h a1 a2 a3 a4 N n came (upd fx 1 (fx ((n - 1)))) (upd fy 1 (fy ((n - 1)))) rx ry H.size 0 x y hN (by omega)) (cwV 3 hts gX0_growLine_X0_setCorner rfl rfl rfl (by decide +kernel) ⟨Nat.le_of_ble_eq_true rfl, Nat.le_of_ble_eq_true rfl⟩) (oh_preM (ci := 0) (q0 := 0) hK hPc hDc rfl rfl) rfl rfl hl.1 rfl (lv_room (Nat.le_of_ble_eq_true rfl)) dX0_growLine_69 ⟨Nat.zero_le _, Nat.zero_le _⟩) hS (fun q _ h => hFc q h) hFc (fun u_69 t H1 locs ht hvm hw_69 hB hz1 hk1 hS => ?_)
      obtain ⟨hP1, hK1, hD1⟩ := hB
      rw [ht] at hP1
      obtain rfl := hw_69
      obtain ⟨hP, hD⟩ := va_join (wr := []) (w1 := [(h, .inr (0, [.int (nI N), .ref a1, .ref a2, .ref a3, .ref a4, .int (nI n), .int came])), (a1, .inl (cI, N, .inl (upd (upd fx 1 (fx ((n - 1)))) 0 x))), (a2, .inl (cI, N, .inl (upd (upd fy 1 (fy ((n - 1)))) 0 y))), (a3, .inl (cI, N, .inl rx)), (a4, .inl (cI, N, .inl ry))]) hP hD [0, 1, 2, 3, 4] [] rfl rfl (by decide) (by decide) hk1 hFc hP1 hD1
      generalize H1 = H at hP hS ⊢
      have hP : va_P (dC, dI) vwCl [(h, .inr (0, [.int (nI N), .ref a1, .ref a2, .ref a3, .ref a4, .int (nI n), .int came])), (a1, .inl (cI, N, .inl (upd (upd fx 1 (fx ((n - 1)))) 0 x))), (a2, .inl (cI, N, .inl (upd (upd fy 1 (fy ((n - 1)))) 0 y))), (a3, .inl (cI, N, .inl rx)), (a4, .inl (cI, N, .inl ry))] H := hP
      have hD : va_D A [(h, .inr (0, [.int (nI N), .ref a1, .ref a2, .ref a3, .ref a4, .int (nI n), .int came])), (a1, .inl (cI, N, .inl (upd (upd fx 1 (fx ((n - 1)))) 0 x))), (a2, .inl (cI, N, .inl (upd (upd fy 1 (fy ((n - 1)))) 0 y))), (a3, .inl (cI, N, .inl rx)), (a4, .inl (cI, N, .inl ry))] := hD
      clear hPc hDc hFc hP1 hK1 hD1 hk1 hz1 ht
      refine lv_goto (tgt := 82) hx hb dX0_growLine_72 (by decide) ?_
      refine lv_aload_n hx hb dX0_growLine_82 rfl (lv_at hl 1 rfl) ?_
      refine va_get (D := (dC, dI)) (ci := 0) (v := .int (nI n)) (C := RX0) (T := TX0) (N := 7) hx hb hts hin0 hown hK hP 0 rfl rfl 5 (by decide) (hts (.fieldLink RX0 32 "OnlineHull" "corners" "I") (by decide +kernel)) (fun _ h9 => h9) rfl dX0_growLine_83 ?_
      refine lv_iconst (v := nI 1) hx hb dX0_growLine_86 (by decide) ?_
      refine lv_isub hx hb dX0_growLine_87 ?_
      rw [pk_sub (a := n) (b := 1) (by omega)]
      refine lv_istore (lv' := [(4, .int (nI (n - 1))), (3, .int (nI (n - 1))), (0, .ref h), (1, .int x), (2, .int y)]) hx hb dX0_growLine_88 hl (by decide) rfl (fun ls hl => ?_)
      refine lv_aload_n hx hb dX0_growLine_90 rfl (lv_at hl 2 rfl) ?_
      refine lv_iconst (v := nI 2) hx hb dX0_growLine_91 (by decide) ?_
      refine va_put (D := (dC, dI)) (ci := 0) (v := .int (nI 2)) (ty := .int) (C := RX0) (T := TX0) (N := 7) hx hb hts hin0 tyX0 tyX0_ok nmX0 hown hK hP hD hS 0 rfl rfl 5 (by decide) (hts (.fieldLink RX0 32 "OnlineHull" "corners" "I") (by decide +kernel)) (fun _ h9 => h9) rfl (by decide +kernel) rfl rfl (Nat.le_of_ble_eq_true rfl) dX0_growLine_92 (fun H locs hP hD hS => ?_)
      have hP : va_P (dC, dI) vwCl [(h, .inr (0, [.int (nI N), .ref a1, .ref a2, .ref a3, .ref a4, .int (nI 2), .int came])), (a1, .inl (cI, N, .inl (upd (upd fx 1 (fx ((n - 1)))) 0 x))), (a2, .inl (cI, N, .inl (upd (upd fy 1 (fy ((n - 1)))) 0 y))), (a3, .inl (cI, N, .inl rx)), (a4, .inl (cI, N, .inl ry))] H := hP
      have hD : va_D A [(h, .inr (0, [.int (nI N), .ref a1, .ref a2, .ref a3, .ref a4, .int (nI 2), .int came])), (a1, .inl (cI, N, .inl (upd (upd fx 1 (fx ((n - 1)))) 0 x))), (a2, .inl (cI, N, .inl (upd (upd fy 1 (fy ((n - 1)))) 0 y))), (a3, .inl (cI, N, .inl rx)), (a4, .inl (cI, N, .inl ry))] := hD
      refine lv_iconst (v := nI 1) hx hb dX0_growLine_95 (by decide) ?_
      refine lv_iload hx hb dX0_growLine_96 (lv_at hl 0 rfl) ?_
      refine lv_iadd hx hb dX0_growLine_98 ?_
      rw [nI_add 1 ((n - 1))]
      exact W.iret (v := nI (1 + (n - 1))) hx hb hr (fun t ht hW => ⟨⟨_, (upd (upd fx 1 (fx ((n - 1)))) 0 x, upd (upd fy 1 (fy ((n - 1)))) 0 y, rx, ry, 2, came), rfl, ⟨2, oh_rhoL n true, _, _, rfl, congrArg nI (by omega), by omega, oh_stepL hh (by omega) (by omega) hs (hno.resolve_left (by omega)) (Or.inl ⟨rfl, b_42⟩), oh_arrL1 (by omega)⟩, by rw [ht]; exact hP, va_K.moved hW.alike hK, hD⟩, hS.F ht⟩) hS.2.2 dX0_growLine_99
    · refine lv_if_eq (tgt := 75) hx hb dX0_growLine_45 (by decide) (fun _ => ?_) (fun q => absurd q (by decide))
      refine lv_aload_n hx hb dX0_growLine_75 rfl (lv_at hl 1 rfl) ?_
      refine lv_iconst (v := nI 1) hx hb dX0_growLine_76 (by decide) ?_
      refine lv_iload_n hx hb dX0_growLine_77 rfl (lv_at hl 2 rfl) ?_
      refine lv_iload_n hx hb dX0_growLine_78 rfl (lv_at hl 3 rfl) ?_
      have hPc := hP.sub (ws' := [(h, .inr (0, [.int (nI N), .ref a1, .ref a2, .ref a3, .ref a4, .int (nI n), .int came])), (a1, .inl (cI, N, .inl fx)), (a2, .inl (cI, N, .inl fy)), (a3, .inl (cI, N, .inl rx)), (a4, .inl (cI, N, .inl ry))]) [0, 1, 2, 3, 4] rfl
      have hDc := hD.sub (ws' := [(h, .inr (0, [.int (nI N), .ref a1, .ref a2, .ref a3, .ref a4, .int (nI n), .int came])), (a1, .inl (cI, N, .inl fx)), (a2, .inl (cI, N, .inl fy)), (a3, .inl (cI, N, .inl rx)), (a4, .inl (cI, N, .inl ry))]) [0, 1, 2, 3, 4] (by decide) rfl
      have hFc := va_free (wc := [(h, .inr (0, [.int (nI N), .ref a1, .ref a2, .ref a3, .ref a4, .int (nI n), .int came])), (a1, .inl (cI, N, .inl fx)), (a2, .inl (cI, N, .inl fy)), (a3, .inl (cI, N, .inl rx)), (a4, .inl (cI, N, .inl ry))]) hD hS hA [0, 1, 2, 3, 4] rfl
      refine va_callv (va_runV (As := [.int (nI 1), .int x, .int y]) (rest := []) ⟨hx, hb, hml, hown, hts⟩ (k_X0_setCorner l dC dI cI h a1 a2 a3 a4 N n came fx fy rx ry H.size 1 x y hN (by omega)) (cwV 3 hts gX0_growLine_X0_setCorner rfl rfl rfl (by decide +kernel) ⟨Nat.le_of_ble_eq_true rfl, Nat.le_of_ble_eq_true rfl⟩) (oh_preM (ci := 0) (q0 := 0) hK hPc hDc rfl rfl) rfl rfl hl.1 rfl (lv_room (Nat.le_of_ble_eq_true rfl)) dX0_growLine_79 ⟨Nat.zero_le _, Nat.zero_le _⟩) hS (fun q _ h => hFc q h) hFc (fun u_79 t H1 locs ht hvm hw_79 hB hz1 hk1 hS => ?_)
      obtain ⟨hP1, hK1, hD1⟩ := hB
      rw [ht] at hP1
      obtain rfl := hw_79
      obtain ⟨hP, hD⟩ := va_join (wr := []) (w1 := [(h, .inr (0, [.int (nI N), .ref a1, .ref a2, .ref a3, .ref a4, .int (nI n), .int came])), (a1, .inl (cI, N, .inl (upd fx 1 x))), (a2, .inl (cI, N, .inl (upd fy 1 y))), (a3, .inl (cI, N, .inl rx)), (a4, .inl (cI, N, .inl ry))]) hP hD [0, 1, 2, 3, 4] [] rfl rfl (by decide) (by decide) hk1 hFc hP1 hD1
      generalize H1 = H at hP hS ⊢
      have hP : va_P (dC, dI) vwCl [(h, .inr (0, [.int (nI N), .ref a1, .ref a2, .ref a3, .ref a4, .int (nI n), .int came])), (a1, .inl (cI, N, .inl (upd fx 1 x))), (a2, .inl (cI, N, .inl (upd fy 1 y))), (a3, .inl (cI, N, .inl rx)), (a4, .inl (cI, N, .inl ry))] H := hP
      have hD : va_D A [(h, .inr (0, [.int (nI N), .ref a1, .ref a2, .ref a3, .ref a4, .int (nI n), .int came])), (a1, .inl (cI, N, .inl (upd fx 1 x))), (a2, .inl (cI, N, .inl (upd fy 1 y))), (a3, .inl (cI, N, .inl rx)), (a4, .inl (cI, N, .inl ry))] := hD
      clear hPc hDc hFc hP1 hK1 hD1 hk1 hz1 ht
      refine lv_aload_n hx hb dX0_growLine_82 rfl (lv_at hl 1 rfl) ?_
      refine va_get (D := (dC, dI)) (ci := 0) (v := .int (nI n)) (C := RX0) (T := TX0) (N := 7) hx hb hts hin0 hown hK hP 0 rfl rfl 5 (by decide) (hts (.fieldLink RX0 32 "OnlineHull" "corners" "I") (by decide +kernel)) (fun _ h9 => h9) rfl dX0_growLine_83 ?_
      refine lv_iconst (v := nI 1) hx hb dX0_growLine_86 (by decide) ?_
      refine lv_isub hx hb dX0_growLine_87 ?_
      rw [pk_sub (a := n) (b := 1) (by omega)]
      refine lv_istore (lv' := [(4, .int (nI (n - 1))), (3, .int (nI (n - 1))), (0, .ref h), (1, .int x), (2, .int y)]) hx hb dX0_growLine_88 hl (by decide) rfl (fun ls hl => ?_)
      refine lv_aload_n hx hb dX0_growLine_90 rfl (lv_at hl 2 rfl) ?_
      refine lv_iconst (v := nI 2) hx hb dX0_growLine_91 (by decide) ?_
      refine va_put (D := (dC, dI)) (ci := 0) (v := .int (nI 2)) (ty := .int) (C := RX0) (T := TX0) (N := 7) hx hb hts hin0 tyX0 tyX0_ok nmX0 hown hK hP hD hS 0 rfl rfl 5 (by decide) (hts (.fieldLink RX0 32 "OnlineHull" "corners" "I") (by decide +kernel)) (fun _ h9 => h9) rfl (by decide +kernel) rfl rfl (Nat.le_of_ble_eq_true rfl) dX0_growLine_92 (fun H locs hP hD hS => ?_)
      have hP : va_P (dC, dI) vwCl [(h, .inr (0, [.int (nI N), .ref a1, .ref a2, .ref a3, .ref a4, .int (nI 2), .int came])), (a1, .inl (cI, N, .inl (upd fx 1 x))), (a2, .inl (cI, N, .inl (upd fy 1 y))), (a3, .inl (cI, N, .inl rx)), (a4, .inl (cI, N, .inl ry))] H := hP
      have hD : va_D A [(h, .inr (0, [.int (nI N), .ref a1, .ref a2, .ref a3, .ref a4, .int (nI 2), .int came])), (a1, .inl (cI, N, .inl (upd fx 1 x))), (a2, .inl (cI, N, .inl (upd fy 1 y))), (a3, .inl (cI, N, .inl rx)), (a4, .inl (cI, N, .inl ry))] := hD
      refine lv_iconst (v := nI 1) hx hb dX0_growLine_95 (by decide) ?_
      refine lv_iload hx hb dX0_growLine_96 (lv_at hl 0 rfl) ?_
      refine lv_iadd hx hb dX0_growLine_98 ?_
      rw [nI_add 1 ((n - 1))]
      exact W.iret (v := nI (1 + (n - 1))) hx hb hr (fun t ht hW => ⟨⟨_, (upd fx 1 x, upd fy 1 y, rx, ry, 2, came), rfl, ⟨2, oh_rhoL n false, _, _, rfl, congrArg nI (by omega), by omega, oh_stepL hh (by omega) (by omega) hs (hno.resolve_left (by omega)) (Or.inr ⟨rfl, b_42⟩), oh_arrL2 (by omega)⟩, by rw [ht]; exact hP, va_K.moved hW.alike hK, hD⟩, hS.F ht⟩) hS.2.2 dX0_growLine_99
  · have g_4 : n = 0 := (nI_eq (a := n) (b := 0) (by omega) (by omega)).mp (c_4.trans nI_0.symm)
    refine lv_aload_n hx hb dX0_growLine_7 rfl (lv_at hl 0 rfl) ?_
    refine lv_iconst (v := nI 0) hx hb dX0_growLine_8 (by decide) ?_
    refine lv_iload_n hx hb dX0_growLine_9 rfl (lv_at hl 1 rfl) ?_
    refine lv_iload_n hx hb dX0_growLine_10 rfl (lv_at hl 2 rfl) ?_
    have hPc := hP.sub (ws' := [(h, .inr (0, [.int (nI N), .ref a1, .ref a2, .ref a3, .ref a4, .int (nI n), .int came])), (a1, .inl (cI, N, .inl fx)), (a2, .inl (cI, N, .inl fy)), (a3, .inl (cI, N, .inl rx)), (a4, .inl (cI, N, .inl ry))]) [0, 1, 2, 3, 4] rfl
    have hDc := hD.sub (ws' := [(h, .inr (0, [.int (nI N), .ref a1, .ref a2, .ref a3, .ref a4, .int (nI n), .int came])), (a1, .inl (cI, N, .inl fx)), (a2, .inl (cI, N, .inl fy)), (a3, .inl (cI, N, .inl rx)), (a4, .inl (cI, N, .inl ry))]) [0, 1, 2, 3, 4] (by decide) rfl
    have hFc := va_free (wc := [(h, .inr (0, [.int (nI N), .ref a1, .ref a2, .ref a3, .ref a4, .int (nI n), .int came])), (a1, .inl (cI, N, .inl fx)), (a2, .inl (cI, N, .inl fy)), (a3, .inl (cI, N, .inl rx)), (a4, .inl (cI, N, .inl ry))]) hD hS hA [0, 1, 2, 3, 4] rfl
    refine va_callv (va_runV (As := [.int (nI 0), .int x, .int y]) (rest := []) ⟨hx, hb, hml, hown, hts⟩ (k_X0_setCorner l dC dI cI h a1 a2 a3 a4 N n came fx fy rx ry H.size 0 x y hN (by omega)) (cwV 3 hts gX0_growLine_X0_setCorner rfl rfl rfl (by decide +kernel) ⟨Nat.le_of_ble_eq_true rfl, Nat.le_of_ble_eq_true rfl⟩) (oh_preM (ci := 0) (q0 := 0) hK hPc hDc rfl rfl) rfl rfl hl.1 rfl (lv_room (Nat.le_of_ble_eq_true rfl)) dX0_growLine_11 ⟨Nat.zero_le _, Nat.zero_le _⟩) hS (fun q _ h => hFc q h) hFc (fun u_11 t H1 locs ht hvm hw_11 hB hz1 hk1 hS => ?_)
    obtain ⟨hP1, hK1, hD1⟩ := hB
    rw [ht] at hP1
    obtain rfl := hw_11
    obtain ⟨hP, hD⟩ := va_join (wr := []) (w1 := [(h, .inr (0, [.int (nI N), .ref a1, .ref a2, .ref a3, .ref a4, .int (nI n), .int came])), (a1, .inl (cI, N, .inl (upd fx 0 x))), (a2, .inl (cI, N, .inl (upd fy 0 y))), (a3, .inl (cI, N, .inl rx)), (a4, .inl (cI, N, .inl ry))]) hP hD [0, 1, 2, 3, 4] [] rfl rfl (by decide) (by decide) hk1 hFc hP1 hD1
    generalize H1 = H at hP hS ⊢
    have hP : va_P (dC, dI) vwCl [(h, .inr (0, [.int (nI N), .ref a1, .ref a2, .ref a3, .ref a4, .int (nI n), .int came])), (a1, .inl (cI, N, .inl (upd fx 0 x))), (a2, .inl (cI, N, .inl (upd fy 0 y))), (a3, .inl (cI, N, .inl rx)), (a4, .inl (cI, N, .inl ry))] H := hP
    have hD : va_D A [(h, .inr (0, [.int (nI N), .ref a1, .ref a2, .ref a3, .ref a4, .int (nI n), .int came])), (a1, .inl (cI, N, .inl (upd fx 0 x))), (a2, .inl (cI, N, .inl (upd fy 0 y))), (a3, .inl (cI, N, .inl rx)), (a4, .inl (cI, N, .inl ry))] := hD
    clear hPc hDc hFc hP1 hK1 hD1 hk1 hz1 ht
    refine lv_aload_n hx hb dX0_growLine_14 rfl (lv_at hl 0 rfl) ?_
    refine lv_iconst (v := nI 1) hx hb dX0_growLine_15 (by decide) ?_
    refine va_put (D := (dC, dI)) (ci := 0) (v := .int (nI 1)) (ty := .int) (C := RX0) (T := TX0) (N := 7) hx hb hts hin0 tyX0 tyX0_ok nmX0 hown hK hP hD hS 0 rfl rfl 5 (by decide) (hts (.fieldLink RX0 32 "OnlineHull" "corners" "I") (by decide +kernel)) (fun _ h9 => h9) rfl (by decide +kernel) rfl rfl (Nat.le_of_ble_eq_true rfl) dX0_growLine_16 (fun H locs hP hD hS => ?_)
    have hP : va_P (dC, dI) vwCl [(h, .inr (0, [.int (nI N), .ref a1, .ref a2, .ref a3, .ref a4, .int (nI 1), .int came])), (a1, .inl (cI, N, .inl (upd fx 0 x))), (a2, .inl (cI, N, .inl (upd fy 0 y))), (a3, .inl (cI, N, .inl rx)), (a4, .inl (cI, N, .inl ry))] H := hP
    have hD : va_D A [(h, .inr (0, [.int (nI N), .ref a1, .ref a2, .ref a3, .ref a4, .int (nI 1), .int came])), (a1, .inl (cI, N, .inl (upd fx 0 x))), (a2, .inl (cI, N, .inl (upd fy 0 y))), (a3, .inl (cI, N, .inl rx)), (a4, .inl (cI, N, .inl ry))] := hD
    refine lv_iconst (v := nI 1) hx hb dX0_growLine_19 (by decide) ?_
    exact W.iret (v := nI 1) hx hb hr (fun t ht hW => ⟨⟨_, (upd fx 0 x, upd fy 0 y, rx, ry, 1, came), rfl, ⟨1, fun _ => 0, _, _, rfl, congrArg nI (by omega), by omega, oh_stepL0' (by omega), oh_arr0 (by omega)⟩, by rw [ht]; exact hP, va_K.moved hW.alike hK, hD⟩, hS.F ht⟩) hS.2.2 dX0_growLine_20

set_option maxHeartbeats 4000000 in
set_option maxRecDepth 100000 in
theorem k_X0_growRing (l : Launch) (dC : Nat → ClassId) (dI : Nat → Nat → Nat) (cI : ClassId) (h a1 a2 a3 a4 N n : Nat) (came : Int32) (fx fy rx ry : Nat → Int32) (sz : Nat) (x y : Int32) (hN : N ≤ 64) (hn : n ≤ N) (hR : ∀ j, j < n → oh_inR (fx j) (fy j)) (hq : oh_inR x y) (hh : oh_hull n (oh_pt fx fy)) (h2 : 2 ≤ n) (ho : oh_out n (oh_pt fx fy) (x.toInt, y.toInt)) : Met l yX0_growRing wsX0_growRing ({ frames := 3, cells := 0, slots := 0, locals := 71 }) (va_Pc [.ref h, .int x, .int y] (fun U => U.heap.size = sz ∧ va_P (dC, dI) vwCl [(h, .inr (0, [.int (nI N), .ref a1, .ref a2, .ref a3, .ref a4, .int (nI n), .int came])), (a1, .inl (cI, N, .inl fx)), (a2, .inl (cI, N, .inl fy)), (a3, .inl (cI, N, .inl rx)), (a4, .inl (cI, N, .inl ry))] U.heap ∧ va_K (dC, dI) vwCl [(cI, .int)] U ∧ va_D (fun _ => True) [(h, .inr (0, [.int (nI N), .ref a1, .ref a2, .ref a3, .ref a4, .int (nI n), .int came])), (a1, .inl (cI, N, .inl fx)), (a2, .inl (cI, N, .inl fy)), (a3, .inl (cI, N, .inl rx)), (a4, .inl (cI, N, .inl ry))])) (va_Qi (S := (Nat → Int32) × (Nat → Int32) × (Nat → Int32) × (Nat → Int32) × Nat × Int32) (fun r u => ∃ m ρ, oh_step n (oh_pt fx fy) (x.toInt, y.toInt) m ρ ∧ ((m ≤ N ∧ r = nI (n + 2 - m) ∧ ∃ gx gy rx9 ry9, u = (gx, gy, rx9, ry9, m, came) ∧ oh_arr n m ρ fx fy x y gx gy) ∨ (N < m ∧ r = -2 ∧ u = (fx, fy, rx, ry, n, came)))) (fun u t => va_P (dC, dI) vwCl [(h, .inr (0, [.int (nI N), .ref a1, .ref a2, .ref a3, .ref a4, .int (nI u.2.2.2.2.1), .int u.2.2.2.2.2])), (a1, .inl (cI, N, .inl u.1)), (a2, .inl (cI, N, .inl u.2.1)), (a3, .inl (cI, N, .inl u.2.2.1)), (a4, .inl (cI, N, .inl u.2.2.2.1))] t.heap ∧ va_K (dC, dI) vwCl [(cI, .int)] t ∧ va_D (va_A [(h, .inr (0, [.int (nI N), .ref a1, .ref a2, .ref a3, .ref a4, .int (nI n), .int came])), (a1, .inl (cI, N, .inl fx)), (a2, .inl (cI, N, .inl fy)), (a3, .inl (cI, N, .inl rx)), (a4, .inl (cI, N, .inl ry))] sz) [(h, .inr (0, [.int (nI N), .ref a1, .ref a2, .ref a3, .ref a4, .int (nI u.2.2.2.2.1), .int u.2.2.2.2.2])), (a1, .inl (cI, N, .inl u.1)), (a2, .inl (cI, N, .inl u.2.1)), (a3, .inl (cI, N, .inl u.2.2.1)), (a4, .inl (cI, N, .inl u.2.2.2.1))]) (va_A [(h, .inr (0, [.int (nI N), .ref a1, .ref a2, .ref a3, .ref a4, .int (nI n), .int came])), (a1, .inl (cI, N, .inl fx)), (a2, .inl (cI, N, .inl fy)), (a3, .inl (cI, N, .inl rx)), (a4, .inl (cI, N, .inl ry))] sz)) 0 0 (va_A [(h, .inr (0, [.int (nI N), .ref a1, .ref a2, .ref a3, .ref a4, .int (nI n), .int came])), (a1, .inl (cI, N, .inl fx)), (a2, .inl (cI, N, .inl fy)), (a3, .inl (cI, N, .inl rx)), (a4, .inl (cI, N, .inl ry))] sz) := by
  refine Met.ofW (cc := cX0_growRing) (maxL := 7) (ret := (some .int)) (by decide) rfl ?_
  intro p e s m args below meth c s₁ B hml hv
  obtain ⟨rfl, hsz, hP, hK, hD0⟩ := hv
  have hx := B.exec
  have hb := B.bytes
  have hr := B.returns
  have hts := atoms_spec (ws := wsX0_growRing) B.pre
  have hown : s.vm.findClass RX0 = some m.cls := findClass_of_methodNamed B.named
  have hlocks := B.notSynchronized
  have hin0 : ∀ w ∈ wsX00, w ∈ wsX0_growRing := fun w h => List.mem_cons_of_mem _ (List.mem_append_right _ h)
  subst hsz
  have hD := hD0.self (sz := s.heap.size)
  generalize hAe : va_A [(h, .inr (0, [.int (nI N), .ref a1, .ref a2, .ref a3, .ref a4, .int (nI n), .int came])), (a1, .inl (cI, N, .inl fx)), (a2, .inl (cI, N, .inl fy)), (a3, .inl (cI, N, .inl rx)), (a4, .inl (cI, N, .inl ry))] s.heap.size = A at hD ⊢
  have hA : ∀ q : Nat, s.heap.size ≤ q → A q := fun q h => by rw [← hAe]; exact Or.inr h
  have hS : va_S A s.heap s.heap [] := va_S.rf
  have hl := lv_entry ([.ref h, .int x, .int y]) (n := 7) (Nat.le_of_ble_eq_true rfl)
  rw [lg_entry_eq]
  generalize (lg_sl ([.ref h, .int x, .int y]) ++ List.replicate (7 - (lg_sl ([.ref h, .int x, .int y])).length) Slot.unset).toArray = ls at hl ⊢
  have hl : lv_has ls 7 [(0, .ref h), (1, .int x), (2, .int y)] := hl
  suffices hgo : ∀ (H : Heap) (locs : List Loc), va_P (dC, dI) vwCl [(h, .inr (0, [.int (nI N), .ref a1, .ref a2, .ref a3, .ref a4, .int (nI n), .int came])), (a1, .inl (cI, N, .inl fx)), (a2, .inl (cI, N, .inl fy)), (a3, .inl (cI, N, .inl rx)), (a4, .inl (cI, N, .inl ry))] H → va_D A [(h, .inr (0, [.int (nI N), .ref a1, .ref a2, .ref a3, .ref a4, .int (nI n), .int came])), (a1, .inl (cI, N, .inl fx)), (a2, .inl (cI, N, .inl fy)), (a3, .inl (cI, N, .inl rx)), (a4, .inl (cI, N, .inl ry))] → va_S A s.heap H locs → W p l e (headSpec wsX0_growRing ({ frames := 3, cells := 0, slots := 0, locals := 71 })).room s m ([.ref h, .int x, .int y] : List Value).toArray below meth c H locs 0 0 (MQ below (va_Qi (S := (Nat → Int32) × (Nat → Int32) × (Nat → Int32) × (Nat → Int32) × Nat × Int32) (fun r u => ∃ m ρ, oh_step n (oh_pt fx fy) (x.toInt, y.toInt) m ρ ∧ ((m ≤ N ∧ r = nI (n + 2 - m) ∧ ∃ gx gy rx9 ry9, u = (gx, gy, rx9, ry9, m, came) ∧ oh_arr n m ρ fx fy x y gx gy) ∨ (N < m ∧ r = -2 ∧ u = (fx, fy, rx, ry, n, came)))) (fun u t => va_P (dC, dI) vwCl [(h, .inr (0, [.int (nI N), .ref a1, .ref a2, .ref a3, .ref a4, .int (nI u.2.2.2.2.1), .int u.2.2.2.2.2])), (a1, .inl (cI, N, .inl u.1)), (a2, .inl (cI, N, .inl u.2.1)), (a3, .inl (cI, N, .inl u.2.2.1)), (a4, .inl (cI, N, .inl u.2.2.2.1))] t.heap ∧ va_K (dC, dI) vwCl [(cI, .int)] t ∧ va_D A [(h, .inr (0, [.int (nI N), .ref a1, .ref a2, .ref a3, .ref a4, .int (nI u.2.2.2.2.1), .int u.2.2.2.2.2])), (a1, .inl (cI, N, .inl u.1)), (a2, .inl (cI, N, .inl u.2.1)), (a3, .inl (cI, N, .inl u.2.2.1)), (a4, .inl (cI, N, .inl u.2.2.2.1))]) A) ([.ref h, .int x, .int y] : List Value).toArray s 0 0 A) (F0 m 0 ls []) from hgo s.heap [] hP hD hS
  clear hP hD hS hD0
  intro H locs hP hD hS
  refine lv_aload_n hx hb dX0_growRing_0 rfl (lv_at hl 0 rfl) ?_
  refine lv_iload_n hx hb dX0_growRing_1 rfl (lv_at hl 1 rfl) ?_
  refine lv_iload_n hx hb dX0_growRing_2 rfl (lv_at hl 2 rfl) ?_
  refine lv_iconst (v := nI 1) hx hb dX0_growRing_3 (by decide) ?_
  refine vp_callSi (va_Run.run (va_runV (As := [.int x, .int y, .int (nI 1)]) (rest := []) ⟨hx, hb, hml, hown, hts⟩ (k_X0_firstSeen l dC dI cI h a1 a2 a3 a4 N n came fx fy rx ry x y (nI 1) hN hn hR hq) (cwV 3 hts gX0_growRing_X0_firstSeen rfl rfl rfl (by decide +kernel) ⟨Nat.le_of_ble_eq_true rfl, Nat.le_of_ble_eq_true rfl⟩) (oh_pre (ci := 0) (q0 := 0) hK hP rfl rfl) rfl rfl hl.1 rfl (lv_room (Nat.le_of_ble_eq_true rfl)) dX0_growRing_4 ⟨Nat.zero_le _, Nat.zero_le _⟩)) (fun r_4 hr_4 => ?_)
  obtain ⟨F, hF, rfl, f1, f0⟩ := oh_getF hh.1 ho hr_4
  refine lv_istore_n (lv' := [(3, .int (nI F)), (0, .ref h), (1, .int x), (2, .int y)]) hx hb dX0_growRing_7 rfl hl (by decide) rfl (fun ls hl => ?_)
  refine lv_aload_n hx hb dX0_growRing_8 rfl (lv_at hl 1 rfl) ?_
  refine lv_iload_n hx hb dX0_growRing_9 rfl (lv_at hl 2 rfl) ?_
  refine lv_iload_n hx hb dX0_growRing_10 rfl (lv_at hl 3 rfl) ?_
  refine lv_iconst (v := nI 1) hx hb dX0_growRing_11 (by decide) ?_
  refine vp_callSi (va_Run.run (va_runV (As := [.int x, .int y, .int (nI 1)]) (rest := []) ⟨hx, hb, hml, hown, hts⟩ (k_X0_lastSeen l dC dI cI h a1 a2 a3 a4 N n came fx fy rx ry x y (nI 1) hN hn hR hq) (cwV 3 hts gX0_growRing_X0_lastSeen rfl rfl rfl (by decide +kernel) ⟨Nat.le_of_ble_eq_true rfl, Nat.le_of_ble_eq_true rfl⟩) (oh_pre (ci := 0) (q0 := 0) hK hP rfl rfl) rfl rfl hl.1 rfl (lv_room (Nat.le_of_ble_eq_true rfl)) dX0_growRing_12 ⟨Nat.zero_le _, Nat.zero_le _⟩)) (fun r_12 hr_12 => ?_)
  obtain ⟨L, hL, rfl, l1, l0⟩ := oh_getL hh.1 ho hr_12
  have hne : F ≠ L := fun e => by subst e; omega
  refine lv_istore (lv' := [(4, .int (nI L)), (3, .int (nI F)), (0, .ref h), (1, .int x), (2, .int y)]) hx hb dX0_growRing_15 hl (by decide) rfl (fun ls hl => ?_)
  refine lv_aload_n hx hb dX0_growRing_17 rfl (lv_at hl 2 rfl) ?_
  refine lv_iload_n hx hb dX0_growRing_18 rfl (lv_at hl 1 rfl) ?_
  refine vp_callSi (va_Run.run (va_runV (As := [.int (nI F)]) (rest := []) ⟨hx, hb, hml, hown, hts⟩ (k_X0_isCorner l dC dI cI h a1 a2 a3 a4 N n came fx fy rx ry (nI F) hN hn) (cwV 1 hts gX0_growRing_X0_isCorner rfl rfl rfl (by decide +kernel) ⟨Nat.le_of_ble_eq_true rfl, Nat.le_of_ble_eq_true rfl⟩) (oh_pre (ci := 0) (q0 := 0) hK hP rfl rfl) rfl rfl hl.1 rfl (lv_room (Nat.le_of_ble_eq_true rfl)) dX0_growRing_19 ⟨Nat.zero_le _, Nat.zero_le _⟩)) (fun r_19 hr_19 => ?_)
  rcases hr_19 with ⟨b_19, hr_19⟩ | ⟨b_19, hr_19⟩ <;> subst hr_19
  · refine lv_if_eq (tgt := 34) hx hb dX0_growRing_22 (by decide) (fun q => absurd q (by decide)) (fun _ => ?_)
    refine lv_aload_n hx hb dX0_growRing_25 rfl (lv_at hl 2 rfl) ?_
    refine lv_iload hx hb dX0_growRing_26 (lv_at hl 0 rfl) ?_
    refine vp_callSi (va_Run.run (va_runV (As := [.int (nI L)]) (rest := []) ⟨hx, hb, hml, hown, hts⟩ (k_X0_isCorner l dC dI cI h a1 a2 a3 a4 N n came fx fy rx ry (nI L) hN hn) (cwV 1 hts gX0_growRing_X0_isCorner rfl rfl rfl (by decide +kernel) ⟨Nat.le_of_ble_eq_true rfl, Nat.le_of_ble_eq_true rfl⟩) (oh_pre (ci := 0) (q0 := 0) hK hP rfl rfl) rfl rfl hl.1 rfl (lv_room (Nat.le_of_ble_eq_true rfl)) dX0_growRing_28 ⟨Nat.zero_le _, Nat.zero_le _⟩)) (fun r_28 hr_28 => ?_)
    rcases hr_28 with ⟨b_28, hr_28⟩ | ⟨b_28, hr_28⟩ <;> subst hr_28
    · refine lv_if_ne (tgt := 36) hx hb dX0_growRing_31 (by decide) (fun _ => ?_) (fun q => absurd q (by decide))
      refine lv_iload_n hx hb dX0_growRing_36 rfl (lv_at hl 1 rfl) ?_
      refine lv_iload hx hb dX0_growRing_37 (lv_at hl 0 rfl) ?_
      refine lv_isub hx hb dX0_growRing_39 ?_
      refine lv_topi (fun d_39 e_39 => ?_)
      refine lv_iconst (v := nI 1) hx hb dX0_growRing_40 (by decide) ?_
      refine lv_iadd hx hb dX0_growRing_41 ?_
      refine lv_istore (lv' := [(5, .int (d_39 + (nI 1))), (4, .int (nI L)), (3, .int (nI F)), (0, .ref h), (1, .int x), (2, .int y)]) hx hb dX0_growRing_42 hl (by decide) rfl (fun ls hl => ?_)
      refine lv_iload_n hx hb dX0_growRing_44 rfl (lv_at hl 2 rfl) ?_
      refine lv_iload hx hb dX0_growRing_45 (lv_at hl 1 rfl) ?_
      refine lv_icmp_ge (tgt := 59) hx hb dX0_growRing_47 (by decide) (fun c_47 => ?_) (fun c_47 => ?_)
      · have g_47 : L ≤ F := (nI_leI (a := L) (b := F) (by omega) (by omega)).mp c_47
        obtain ⟨K, hKe⟩ : ∃ K, K = F + 1 - L := ⟨_, rfl⟩
        have hKf := oh_kfac hF hL hne (Or.inl ⟨g_47, hKe⟩)
        have e5 := oh_kp1 e_39 g_47
        rw [e5, ← hKe] at hl
        refine lv_iload hx hb dX0_growRing_59 (lv_at hl 0 rfl) ?_
        refine lv_iconst (v := nI 1) hx hb dX0_growRing_61 (by decide) ?_
        refine lv_iadd hx hb dX0_growRing_62 ?_
        rw [nI_add K 1]
        refine lv_aload_n hx hb dX0_growRing_63 rfl (lv_at hl 3 rfl) ?_
        refine va_get (D := (dC, dI)) (ci := 0) (v := .int (nI N)) (C := RX0) (T := TX0) (N := 7) hx hb hts hin0 hown hK hP 0 rfl rfl 0 (by decide) (hts (.fieldLink RX0 15 "OnlineHull" "cap" "I") (by decide +kernel)) (fun _ h9 => h9) rfl dX0_growRing_64 ?_
        refine lv_icmp_le (tgt := 73) hx hb dX0_growRing_67 (by decide) (fun c_67 => ?_) (fun c_67 => ?_)
        · have g_67 : (K + 1) ≤ N := (nI_leI (a := (K + 1)) (b := N) (by omega) (by omega)).mp c_67
          refine lv_aload_n hx hb dX0_growRing_73 rfl (lv_at hl 3 rfl) ?_
          refine va_get (D := (dC, dI)) (ci := 0) (v := .int (nI n)) (C := RX0) (T := TX0) (N := 7) hx hb hts hin0 hown hK hP 0 rfl rfl 5 (by decide) (hts (.fieldLink RX0 32 "OnlineHull" "corners" "I") (by decide +kernel)) (fun _ h9 => h9) rfl dX0_growRing_74 ?_
          refine lv_iload hx hb dX0_growRing_77 (lv_at hl 0 rfl) ?_
          refine lv_isub hx hb dX0_growRing_79 ?_
          rw [pk_sub (a := n) (b := K) (by omega)]
          refine lv_istore (lv' := [(6, .int (nI (n - K))), (5, .int (nI K)), (4, .int (nI L)), (3, .int (nI F)), (0, .ref h), (1, .int x), (2, .int y)]) hx hb dX0_growRing_80 hl (by decide) rfl (fun ls hl => ?_)
          refine lv_aload_n hx hb dX0_growRing_82 rfl (lv_at hl 4 rfl) ?_
          refine lv_iload_n hx hb dX0_growRing_83 rfl (lv_at hl 5 rfl) ?_
          refine lv_iload_n hx hb dX0_growRing_84 rfl (lv_at hl 6 rfl) ?_
          refine lv_iload hx hb dX0_growRing_85 (lv_at hl 2 rfl) ?_
          refine lv_iload hx hb dX0_growRing_87 (lv_at hl 1 rfl) ?_
          have hPc := hP.sub (ws' := [(h, .inr (0, [.int (nI N), .ref a1, .ref a2, .ref a3, .ref a4, .int (nI n), .int came])), (a1, .inl (cI, N, .inl fx)), (a2, .inl (cI, N, .inl fy)), (a3, .inl (cI, N, .inl rx)), (a4, .inl (cI, N, .inl ry))]) [0, 1, 2, 3, 4] rfl
          have hDc := hD.sub (ws' := [(h, .inr (0, [.int (nI N), .ref a1, .ref a2, .ref a3, .ref a4, .int (nI n), .int came])), (a1, .inl (cI, N, .inl fx)), (a2, .inl (cI, N, .inl fy)), (a3, .inl (cI, N, .inl rx)), (a4, .inl (cI, N, .inl ry))]) [0, 1, 2, 3, 4] (by decide) rfl
          have hFc := va_free (wc := [(h, .inr (0, [.int (nI N), .ref a1, .ref a2, .ref a3, .ref a4, .int (nI n), .int came])), (a1, .inl (cI, N, .inl fx)), (a2, .inl (cI, N, .inl fy)), (a3, .inl (cI, N, .inl rx)), (a4, .inl (cI, N, .inl ry))]) hD hS hA [0, 1, 2, 3, 4] rfl
          refine va_callv (va_runV (As := [.int x, .int y, .int (nI L), .int (nI K)]) (rest := []) ⟨hx, hb, hml, hown, hts⟩ (k_X0_fillRing l dC dI cI h a1 a2 a3 a4 N n came fx fy rx ry H.size L K x y hN hn (by omega) (by omega) (by omega)) (cwV 4 hts gX0_growRing_X0_fillRing rfl rfl rfl (by decide +kernel) ⟨Nat.le_of_ble_eq_true rfl, Nat.le_of_ble_eq_true rfl⟩) (oh_preM (ci := 0) (q0 := 0) hK hPc hDc rfl rfl) rfl rfl hl.1 rfl (lv_room (Nat.le_of_ble_eq_true rfl)) dX0_growRing_89 ⟨Nat.zero_le _, Nat.zero_le _⟩) hS (fun q _ h => hFc q h) hFc (fun u_89 t H1 locs ht hvm hw_89 hB hz1 hk1 hS => ?_)
          obtain ⟨hP1, hK1, hD1⟩ := hB
          rw [ht] at hP1
          obtain ⟨rx_89, ry_89, rfl, hf_89⟩ := hw_89
          obtain ⟨hP, hD⟩ := va_join (wr := []) (w1 := [(h, .inr (0, [.int (nI N), .ref a1, .ref a2, .ref a3, .ref a4, .int (nI n), .int came])), (a1, .inl (cI, N, .inl fx)), (a2, .inl (cI, N, .inl fy)), (a3, .inl (cI, N, .inl rx_89)), (a4, .inl (cI, N, .inl ry_89))]) hP hD [0, 1, 2, 3, 4] [] rfl rfl (by decide) (by decide) hk1 hFc hP1 hD1
          generalize H1 = H at hP hS ⊢
          have hP : va_P (dC, dI) vwCl [(h, .inr (0, [.int (nI N), .ref a1, .ref a2, .ref a3, .ref a4, .int (nI n), .int came])), (a1, .inl (cI, N, .inl fx)), (a2, .inl (cI, N, .inl fy)), (a3, .inl (cI, N, .inl rx_89)), (a4, .inl (cI, N, .inl ry_89))] H := hP
          have hD : va_D A [(h, .inr (0, [.int (nI N), .ref a1, .ref a2, .ref a3, .ref a4, .int (nI n), .int came])), (a1, .inl (cI, N, .inl fx)), (a2, .inl (cI, N, .inl fy)), (a3, .inl (cI, N, .inl rx_89)), (a4, .inl (cI, N, .inl ry_89))] := hD
          clear hPc hDc hFc hP1 hK1 hD1 hk1 hz1 ht
          refine lv_aload_n hx hb dX0_growRing_92 rfl (lv_at hl 4 rfl) ?_
          refine lv_iload hx hb dX0_growRing_93 (lv_at hl 1 rfl) ?_
          refine lv_iconst (v := nI 1) hx hb dX0_growRing_95 (by decide) ?_
          refine lv_iadd hx hb dX0_growRing_96 ?_
          rw [nI_add K 1]
          refine va_put (D := (dC, dI)) (ci := 0) (v := .int (nI (K + 1))) (ty := .int) (C := RX0) (T := TX0) (N := 7) hx hb hts hin0 tyX0 tyX0_ok nmX0 hown hK hP hD hS 0 rfl rfl 5 (by decide) (hts (.fieldLink RX0 32 "OnlineHull" "corners" "I") (by decide +kernel)) (fun _ h9 => h9) rfl (by decide +kernel) rfl rfl (Nat.le_of_ble_eq_true rfl) dX0_growRing_97 (fun H locs hP hD hS => ?_)
          have hP : va_P (dC, dI) vwCl [(h, .inr (0, [.int (nI N), .ref a1, .ref a2, .ref a3, .ref a4, .int (nI (K + 1)), .int came])), (a1, .inl (cI, N, .inl fx)), (a2, .inl (cI, N, .inl fy)), (a3, .inl (cI, N, .inl rx_89)), (a4, .inl (cI, N, .inl ry_89))] H := hP
          have hD : va_D A [(h, .inr (0, [.int (nI N), .ref a1, .ref a2, .ref a3, .ref a4, .int (nI (K + 1)), .int came])), (a1, .inl (cI, N, .inl fx)), (a2, .inl (cI, N, .inl fy)), (a3, .inl (cI, N, .inl rx_89)), (a4, .inl (cI, N, .inl ry_89))] := hD
          refine lv_aload_n hx hb dX0_growRing_100 rfl (lv_at hl 4 rfl) ?_
          have hPc := hP.sub (ws' := [(h, .inr (0, [.int (nI N), .ref a1, .ref a2, .ref a3, .ref a4, .int (nI (K + 1)), .int came])), (a1, .inl (cI, N, .inl fx)), (a2, .inl (cI, N, .inl fy)), (a3, .inl (cI, N, .inl rx_89)), (a4, .inl (cI, N, .inl ry_89))]) [0, 1, 2, 3, 4] rfl
          have hDc := hD.sub (ws' := [(h, .inr (0, [.int (nI N), .ref a1, .ref a2, .ref a3, .ref a4, .int (nI (K + 1)), .int came])), (a1, .inl (cI, N, .inl fx)), (a2, .inl (cI, N, .inl fy)), (a3, .inl (cI, N, .inl rx_89)), (a4, .inl (cI, N, .inl ry_89))]) [0, 1, 2, 3, 4] (by decide) rfl
          have hFc := va_free (wc := [(h, .inr (0, [.int (nI N), .ref a1, .ref a2, .ref a3, .ref a4, .int (nI (K + 1)), .int came])), (a1, .inl (cI, N, .inl fx)), (a2, .inl (cI, N, .inl fy)), (a3, .inl (cI, N, .inl rx_89)), (a4, .inl (cI, N, .inl ry_89))]) hD hS hA [0, 1, 2, 3, 4] rfl
          refine va_callv (va_runV (As := []) (rest := []) ⟨hx, hb, hml, hown, hts⟩ (k_X0_takeRing l dC dI cI h a1 a2 a3 a4 N ((K + 1)) came fx fy rx_89 ry_89 H.size hN (by omega) (by omega)) (cwV 0 hts gX0_growRing_X0_takeRing rfl rfl rfl (by decide +kernel) ⟨Nat.le_of_ble_eq_true rfl, Nat.le_of_ble_eq_true rfl⟩) (oh_preM (ci := 0) (q0 := 0) hK hPc hDc rfl rfl) rfl rfl hl.1 rfl (lv_room (Nat.le_of_ble_eq_true rfl)) dX0_growRing_101 ⟨Nat.zero_le _, Nat.zero_le _⟩) hS (fun q _ h => hFc q h) hFc (fun u_101 t H1 locs ht hvm hw_101 hB hz1 hk1 hS => ?_)
          obtain ⟨hP1, hK1, hD1⟩ := hB
          rw [ht] at hP1
          obtain ⟨b_101, fx_101, fy_101, rfl, hb_101, hm_101, hg_101⟩ := hw_101
          obtain ⟨hP, hD⟩ := va_join (wr := []) (w1 := [(h, .inr (0, [.int (nI N), .ref a1, .ref a2, .ref a3, .ref a4, .int (nI ((K + 1))), .int came])), (a1, .inl (cI, N, .inl fx_101)), (a2, .inl (cI, N, .inl fy_101)), (a3, .inl (cI, N, .inl rx_89)), (a4, .inl (cI, N, .inl ry_89))]) hP hD [0, 1, 2, 3, 4] [] rfl rfl (by decide) (by decide) hk1 hFc hP1 hD1
          generalize H1 = H at hP hS ⊢
          have hP : va_P (dC, dI) vwCl [(h, .inr (0, [.int (nI N), .ref a1, .ref a2, .ref a3, .ref a4, .int (nI ((K + 1))), .int came])), (a1, .inl (cI, N, .inl fx_101)), (a2, .inl (cI, N, .inl fy_101)), (a3, .inl (cI, N, .inl rx_89)), (a4, .inl (cI, N, .inl ry_89))] H := hP
          have hD : va_D A [(h, .inr (0, [.int (nI N), .ref a1, .ref a2, .ref a3, .ref a4, .int (nI ((K + 1))), .int came])), (a1, .inl (cI, N, .inl fx_101)), (a2, .inl (cI, N, .inl fy_101)), (a3, .inl (cI, N, .inl rx_89)), (a4, .inl (cI, N, .inl ry_89))] := hD
          clear hPc hDc hFc hP1 hK1 hD1 hk1 hz1 ht
          refine lv_iconst (v := nI 1) hx hb dX0_growRing_104 (by decide) ?_
          refine lv_iload hx hb dX0_growRing_105 (lv_at hl 0 rfl) ?_
          refine lv_iadd hx hb dX0_growRing_107 ?_
          rw [nI_add 1 ((n - K))]
          exact W.iret (v := nI (1 + (n - K))) hx hb hr (fun t ht hW => ⟨⟨_, (fx_101, fy_101, rx_89, ry_89, ((K + 1)), came), rfl, ⟨K + 1, _, oh_stepR hh h2 ho hF hL f1 f0 l1 l0 hKf hb_101 (oh_rowM hf_89 hL hKf.2.1 hb_101 hm_101), Or.inl ⟨by omega, congrArg nI (by omega), _, _, _, _, rfl, oh_rowA hf_89 hL hKf.2.1 hb_101 hg_101⟩⟩, by rw [ht]; exact hP, va_K.moved hW.alike hK, hD⟩, hS.F ht⟩) hS.2.2 dX0_growRing_108
        · have g_67 : ¬ (K + 1) ≤ N := fun q => c_67 ((nI_leI (a := (K + 1)) (b := N) (by omega) (by omega)).mpr q)
          refine lv_bipush (v := -2) hx hb dX0_growRing_70 (by decide) ?_
          exact W.iret (v := -2) hx hb hr (fun t ht hW => ⟨⟨_, (fx, fy, rx, ry, n, came), rfl, by obtain ⟨ρ9, hst⟩ := oh_stepR0 hh h2 ho hF hL f1 f0 l1 l0 hKf; exact ⟨K + 1, ρ9, hst, Or.inr ⟨by omega, rfl, rfl⟩⟩, by rw [ht]; exact hP, va_K.moved hW.alike hK, hD⟩, hS.F ht⟩) hS.2.2 dX0_growRing_72
      · have g_47 : ¬ L ≤ F := fun q => c_47 ((nI_leI (a := L) (b := F) (by omega) (by omega)).mpr q)
        refine lv_iload hx hb dX0_growRing_50 (lv_at hl 0 rfl) ?_
        refine lv_aload_n hx hb dX0_growRing_52 rfl (lv_at hl 3 rfl) ?_
        refine va_get (D := (dC, dI)) (ci := 0) (v := .int (nI n)) (C := RX0) (T := TX0) (N := 7) hx hb hts hin0 hown hK hP 0 rfl rfl 5 (by decide) (hts (.fieldLink RX0 32 "OnlineHull" "corners" "I") (by decide +kernel)) (fun _ h9 => h9) rfl dX0_growRing_53 ?_
        refine lv_iadd hx hb dX0_growRing_56 ?_
        refine lv_topi (fun k_56 e_56 => ?_)
        have e6 := oh_kp2 e_39 e_56 (by omega)
        obtain ⟨K, hKe⟩ : ∃ K, K = F + n + 1 - L := ⟨_, rfl⟩
        rw [← hKe] at e6
        have hKf := oh_kfac hF hL hne (Or.inr ⟨by omega, hKe⟩)
        subst e6
        refine lv_istore (lv' := [(5, .int (nI K)), (4, .int (nI L)), (3, .int (nI F)), (0, .ref h), (1, .int x), (2, .int y)]) hx hb dX0_growRing_57 hl (by decide) rfl (fun ls hl => ?_)
        refine lv_iload hx hb dX0_growRing_59 (lv_at hl 0 rfl) ?_
        refine lv_iconst (v := nI 1) hx hb dX0_growRing_61 (by decide) ?_
        refine lv_iadd hx hb dX0_growRing_62 ?_
        rw [nI_add K 1]
        refine lv_aload_n hx hb dX0_growRing_63 rfl (lv_at hl 3 rfl) ?_
        refine va_get (D := (dC, dI)) (ci := 0) (v := .int (nI N)) (C := RX0) (T := TX0) (N := 7) hx hb hts hin0 hown hK hP 0 rfl rfl 0 (by decide) (hts (.fieldLink RX0 15 "OnlineHull" "cap" "I") (by decide +kernel)) (fun _ h9 => h9) rfl dX0_growRing_64 ?_
        refine lv_icmp_le (tgt := 73) hx hb dX0_growRing_67 (by decide) (fun c_67 => ?_) (fun c_67 => ?_)
        · have g_67 : (K + 1) ≤ N := (nI_leI (a := (K + 1)) (b := N) (by omega) (by omega)).mp c_67
          refine lv_aload_n hx hb dX0_growRing_73 rfl (lv_at hl 3 rfl) ?_
          refine va_get (D := (dC, dI)) (ci := 0) (v := .int (nI n)) (C := RX0) (T := TX0) (N := 7) hx hb hts hin0 hown hK hP 0 rfl rfl 5 (by decide) (hts (.fieldLink RX0 32 "OnlineHull" "corners" "I") (by decide +kernel)) (fun _ h9 => h9) rfl dX0_growRing_74 ?_
          refine lv_iload hx hb dX0_growRing_77 (lv_at hl 0 rfl) ?_
          refine lv_isub hx hb dX0_growRing_79 ?_
          rw [pk_sub (a := n) (b := K) (by omega)]
          refine lv_istore (lv' := [(6, .int (nI (n - K))), (5, .int (nI K)), (4, .int (nI L)), (3, .int (nI F)), (0, .ref h), (1, .int x), (2, .int y)]) hx hb dX0_growRing_80 hl (by decide) rfl (fun ls hl => ?_)
          refine lv_aload_n hx hb dX0_growRing_82 rfl (lv_at hl 4 rfl) ?_
          refine lv_iload_n hx hb dX0_growRing_83 rfl (lv_at hl 5 rfl) ?_
          refine lv_iload_n hx hb dX0_growRing_84 rfl (lv_at hl 6 rfl) ?_
          refine lv_iload hx hb dX0_growRing_85 (lv_at hl 2 rfl) ?_
          refine lv_iload hx hb dX0_growRing_87 (lv_at hl 1 rfl) ?_
          have hPc := hP.sub (ws' := [(h, .inr (0, [.int (nI N), .ref a1, .ref a2, .ref a3, .ref a4, .int (nI n), .int came])), (a1, .inl (cI, N, .inl fx)), (a2, .inl (cI, N, .inl fy)), (a3, .inl (cI, N, .inl rx)), (a4, .inl (cI, N, .inl ry))]) [0, 1, 2, 3, 4] rfl
          have hDc := hD.sub (ws' := [(h, .inr (0, [.int (nI N), .ref a1, .ref a2, .ref a3, .ref a4, .int (nI n), .int came])), (a1, .inl (cI, N, .inl fx)), (a2, .inl (cI, N, .inl fy)), (a3, .inl (cI, N, .inl rx)), (a4, .inl (cI, N, .inl ry))]) [0, 1, 2, 3, 4] (by decide) rfl
          have hFc := va_free (wc := [(h, .inr (0, [.int (nI N), .ref a1, .ref a2, .ref a3, .ref a4, .int (nI n), .int came])), (a1, .inl (cI, N, .inl fx)), (a2, .inl (cI, N, .inl fy)), (a3, .inl (cI, N, .inl rx)), (a4, .inl (cI, N, .inl ry))]) hD hS hA [0, 1, 2, 3, 4] rfl
          refine va_callv (va_runV (As := [.int x, .int y, .int (nI L), .int (nI K)]) (rest := []) ⟨hx, hb, hml, hown, hts⟩ (k_X0_fillRing l dC dI cI h a1 a2 a3 a4 N n came fx fy rx ry H.size L K x y hN hn (by omega) (by omega) (by omega)) (cwV 4 hts gX0_growRing_X0_fillRing rfl rfl rfl (by decide +kernel) ⟨Nat.le_of_ble_eq_true rfl, Nat.le_of_ble_eq_true rfl⟩) (oh_preM (ci := 0) (q0 := 0) hK hPc hDc rfl rfl) rfl rfl hl.1 rfl (lv_room (Nat.le_of_ble_eq_true rfl)) dX0_growRing_89 ⟨Nat.zero_le _, Nat.zero_le _⟩) hS (fun q _ h => hFc q h) hFc (fun u_89 t H1 locs ht hvm hw_89 hB hz1 hk1 hS => ?_)
          obtain ⟨hP1, hK1, hD1⟩ := hB
          rw [ht] at hP1
          obtain ⟨rx_89, ry_89, rfl, hf_89⟩ := hw_89
          obtain ⟨hP, hD⟩ := va_join (wr := []) (w1 := [(h, .inr (0, [.int (nI N), .ref a1, .ref a2, .ref a3, .ref a4, .int (nI n), .int came])), (a1, .inl (cI, N, .inl fx)), (a2, .inl (cI, N, .inl fy)), (a3, .inl (cI, N, .inl rx_89)), (a4, .inl (cI, N, .inl ry_89))]) hP hD [0, 1, 2, 3, 4] [] rfl rfl (by decide) (by decide) hk1 hFc hP1 hD1
          generalize H1 = H at hP hS ⊢
          have hP : va_P (dC, dI) vwCl [(h, .inr (0, [.int (nI N), .ref a1, .ref a2, .ref a3, .ref a4, .int (nI n), .int came])), (a1, .inl (cI, N, .inl fx)), (a2, .inl (cI, N, .inl fy)), (a3, .inl (cI, N, .inl rx_89)), (a4, .inl (cI, N, .inl ry_89))] H := hP
          have hD : va_D A [(h, .inr (0, [.int (nI N), .ref a1, .ref a2, .ref a3, .ref a4, .int (nI n), .int came])), (a1, .inl (cI, N, .inl fx)), (a2, .inl (cI, N, .inl fy)), (a3, .inl (cI, N, .inl rx_89)), (a4, .inl (cI, N, .inl ry_89))] := hD
          clear hPc hDc hFc hP1 hK1 hD1 hk1 hz1 ht
          refine lv_aload_n hx hb dX0_growRing_92 rfl (lv_at hl 4 rfl) ?_
          refine lv_iload hx hb dX0_growRing_93 (lv_at hl 1 rfl) ?_
          refine lv_iconst (v := nI 1) hx hb dX0_growRing_95 (by decide) ?_
          refine lv_iadd hx hb dX0_growRing_96 ?_
          rw [nI_add K 1]
          refine va_put (D := (dC, dI)) (ci := 0) (v := .int (nI (K + 1))) (ty := .int) (C := RX0) (T := TX0) (N := 7) hx hb hts hin0 tyX0 tyX0_ok nmX0 hown hK hP hD hS 0 rfl rfl 5 (by decide) (hts (.fieldLink RX0 32 "OnlineHull" "corners" "I") (by decide +kernel)) (fun _ h9 => h9) rfl (by decide +kernel) rfl rfl (Nat.le_of_ble_eq_true rfl) dX0_growRing_97 (fun H locs hP hD hS => ?_)
          have hP : va_P (dC, dI) vwCl [(h, .inr (0, [.int (nI N), .ref a1, .ref a2, .ref a3, .ref a4, .int (nI (K + 1)), .int came])), (a1, .inl (cI, N, .inl fx)), (a2, .inl (cI, N, .inl fy)), (a3, .inl (cI, N, .inl rx_89)), (a4, .inl (cI, N, .inl ry_89))] H := hP
          have hD : va_D A [(h, .inr (0, [.int (nI N), .ref a1, .ref a2, .ref a3, .ref a4, .int (nI (K + 1)), .int came])), (a1, .inl (cI, N, .inl fx)), (a2, .inl (cI, N, .inl fy)), (a3, .inl (cI, N, .inl rx_89)), (a4, .inl (cI, N, .inl ry_89))] := hD
          refine lv_aload_n hx hb dX0_growRing_100 rfl (lv_at hl 4 rfl) ?_
          have hPc := hP.sub (ws' := [(h, .inr (0, [.int (nI N), .ref a1, .ref a2, .ref a3, .ref a4, .int (nI (K + 1)), .int came])), (a1, .inl (cI, N, .inl fx)), (a2, .inl (cI, N, .inl fy)), (a3, .inl (cI, N, .inl rx_89)), (a4, .inl (cI, N, .inl ry_89))]) [0, 1, 2, 3, 4] rfl
          have hDc := hD.sub (ws' := [(h, .inr (0, [.int (nI N), .ref a1, .ref a2, .ref a3, .ref a4, .int (nI (K + 1)), .int came])), (a1, .inl (cI, N, .inl fx)), (a2, .inl (cI, N, .inl fy)), (a3, .inl (cI, N, .inl rx_89)), (a4, .inl (cI, N, .inl ry_89))]) [0, 1, 2, 3, 4] (by decide) rfl
          have hFc := va_free (wc := [(h, .inr (0, [.int (nI N), .ref a1, .ref a2, .ref a3, .ref a4, .int (nI (K + 1)), .int came])), (a1, .inl (cI, N, .inl fx)), (a2, .inl (cI, N, .inl fy)), (a3, .inl (cI, N, .inl rx_89)), (a4, .inl (cI, N, .inl ry_89))]) hD hS hA [0, 1, 2, 3, 4] rfl
          refine va_callv (va_runV (As := []) (rest := []) ⟨hx, hb, hml, hown, hts⟩ (k_X0_takeRing l dC dI cI h a1 a2 a3 a4 N ((K + 1)) came fx fy rx_89 ry_89 H.size hN (by omega) (by omega)) (cwV 0 hts gX0_growRing_X0_takeRing rfl rfl rfl (by decide +kernel) ⟨Nat.le_of_ble_eq_true rfl, Nat.le_of_ble_eq_true rfl⟩) (oh_preM (ci := 0) (q0 := 0) hK hPc hDc rfl rfl) rfl rfl hl.1 rfl (lv_room (Nat.le_of_ble_eq_true rfl)) dX0_growRing_101 ⟨Nat.zero_le _, Nat.zero_le _⟩) hS (fun q _ h => hFc q h) hFc (fun u_101 t H1 locs ht hvm hw_101 hB hz1 hk1 hS => ?_)
          obtain ⟨hP1, hK1, hD1⟩ := hB
          rw [ht] at hP1
          obtain ⟨b_101, fx_101, fy_101, rfl, hb_101, hm_101, hg_101⟩ := hw_101
          obtain ⟨hP, hD⟩ := va_join (wr := []) (w1 := [(h, .inr (0, [.int (nI N), .ref a1, .ref a2, .ref a3, .ref a4, .int (nI ((K + 1))), .int came])), (a1, .inl (cI, N, .inl fx_101)), (a2, .inl (cI, N, .inl fy_101)), (a3, .inl (cI, N, .inl rx_89)), (a4, .inl (cI, N, .inl ry_89))]) hP hD [0, 1, 2, 3, 4] [] rfl rfl (by decide) (by decide) hk1 hFc hP1 hD1
          generalize H1 = H at hP hS ⊢
          have hP : va_P (dC, dI) vwCl [(h, .inr (0, [.int (nI N), .ref a1, .ref a2, .ref a3, .ref a4, .int (nI ((K + 1))), .int came])), (a1, .inl (cI, N, .inl fx_101)), (a2, .inl (cI, N, .inl fy_101)), (a3, .inl (cI, N, .inl rx_89)), (a4, .inl (cI, N, .inl ry_89))] H := hP
          have hD : va_D A [(h, .inr (0, [.int (nI N), .ref a1, .ref a2, .ref a3, .ref a4, .int (nI ((K + 1))), .int came])), (a1, .inl (cI, N, .inl fx_101)), (a2, .inl (cI, N, .inl fy_101)), (a3, .inl (cI, N, .inl rx_89)), (a4, .inl (cI, N, .inl ry_89))] := hD
          clear hPc hDc hFc hP1 hK1 hD1 hk1 hz1 ht
          refine lv_iconst (v := nI 1) hx hb dX0_growRing_104 (by decide) ?_
          refine lv_iload hx hb dX0_growRing_105 (lv_at hl 0 rfl) ?_
          refine lv_iadd hx hb dX0_growRing_107 ?_
          rw [nI_add 1 ((n - K))]
          exact W.iret (v := nI (1 + (n - K))) hx hb hr (fun t ht hW => ⟨⟨_, (fx_101, fy_101, rx_89, ry_89, ((K + 1)), came), rfl, ⟨K + 1, _, oh_stepR hh h2 ho hF hL f1 f0 l1 l0 hKf hb_101 (oh_rowM hf_89 hL hKf.2.1 hb_101 hm_101), Or.inl ⟨by omega, congrArg nI (by omega), _, _, _, _, rfl, oh_rowA hf_89 hL hKf.2.1 hb_101 hg_101⟩⟩, by rw [ht]; exact hP, va_K.moved hW.alike hK, hD⟩, hS.F ht⟩) hS.2.2 dX0_growRing_108
        · have g_67 : ¬ (K + 1) ≤ N := fun q => c_67 ((nI_leI (a := (K + 1)) (b := N) (by omega) (by omega)).mpr q)
          refine lv_bipush (v := -2) hx hb dX0_growRing_70 (by decide) ?_
          exact W.iret (v := -2) hx hb hr (fun t ht hW => ⟨⟨_, (fx, fy, rx, ry, n, came), rfl, by obtain ⟨ρ9, hst⟩ := oh_stepR0 hh h2 ho hF hL f1 f0 l1 l0 hKf; exact ⟨K + 1, ρ9, hst, Or.inr ⟨by omega, rfl, rfl⟩⟩, by rw [ht]; exact hP, va_K.moved hW.alike hK, hD⟩, hS.F ht⟩) hS.2.2 dX0_growRing_72
    · exact absurd ⟨by rw [nI_toInt (by omega)]; omega, by rw [nI_toInt (by omega)]; omega⟩ b_28
  · exact absurd ⟨by rw [nI_toInt (by omega)]; omega, by rw [nI_toInt (by omega)]; omega⟩ b_19

set_option maxHeartbeats 4000000 in
set_option maxRecDepth 100000 in
theorem k_X0_add (l : Launch) (dC : Nat → ClassId) (dI : Nat → Nat → Nat) (cI : ClassId) (h a1 a2 a3 a4 N n : Nat) (came : Int32) (fx fy rx ry : Nat → Int32) (sz : Nat) (x y : Int32) (hN : N ≤ 64) (hn : n ≤ N) (h3 : 3 ≤ N) (hR : ∀ j, j < n → oh_inR (fx j) (fy j)) (hh : oh_hull n (oh_pt fx fy)) : Met l yX0_add wsX0_add ({ frames := 4, cells := 0, slots := 0, locals := 97 }) (va_Pc [.ref h, .int x, .int y] (fun U => U.heap.size = sz ∧ va_P (dC, dI) vwCl [(h, .inr (0, [.int (nI N), .ref a1, .ref a2, .ref a3, .ref a4, .int (nI n), .int came])), (a1, .inl (cI, N, .inl fx)), (a2, .inl (cI, N, .inl fy)), (a3, .inl (cI, N, .inl rx)), (a4, .inl (cI, N, .inl ry))] U.heap ∧ va_K (dC, dI) vwCl [(cI, .int)] U ∧ va_D (fun _ => True) [(h, .inr (0, [.int (nI N), .ref a1, .ref a2, .ref a3, .ref a4, .int (nI n), .int came])), (a1, .inl (cI, N, .inl fx)), (a2, .inl (cI, N, .inl fy)), (a3, .inl (cI, N, .inl rx)), (a4, .inl (cI, N, .inl ry))])) (va_Qi (S := (Nat → Int32) × (Nat → Int32) × (Nat → Int32) × (Nat → Int32) × Nat × Int32) (fun r u => oh_addC N n fx fy rx ry came x y r u) (fun u t => va_P (dC, dI) vwCl [(h, .inr (0, [.int (nI N), .ref a1, .ref a2, .ref a3, .ref a4, .int (nI u.2.2.2.2.1), .int u.2.2.2.2.2])), (a1, .inl (cI, N, .inl u.1)), (a2, .inl (cI, N, .inl u.2.1)), (a3, .inl (cI, N, .inl u.2.2.1)), (a4, .inl (cI, N, .inl u.2.2.2.1))] t.heap ∧ va_K (dC, dI) vwCl [(cI, .int)] t ∧ va_D (va_A [(h, .inr (0, [.int (nI N), .ref a1, .ref a2, .ref a3, .ref a4, .int (nI n), .int came])), (a1, .inl (cI, N, .inl fx)), (a2, .inl (cI, N, .inl fy)), (a3, .inl (cI, N, .inl rx)), (a4, .inl (cI, N, .inl ry))] sz) [(h, .inr (0, [.int (nI N), .ref a1, .ref a2, .ref a3, .ref a4, .int (nI u.2.2.2.2.1), .int u.2.2.2.2.2])), (a1, .inl (cI, N, .inl u.1)), (a2, .inl (cI, N, .inl u.2.1)), (a3, .inl (cI, N, .inl u.2.2.1)), (a4, .inl (cI, N, .inl u.2.2.2.1))]) (va_A [(h, .inr (0, [.int (nI N), .ref a1, .ref a2, .ref a3, .ref a4, .int (nI n), .int came])), (a1, .inl (cI, N, .inl fx)), (a2, .inl (cI, N, .inl fy)), (a3, .inl (cI, N, .inl rx)), (a4, .inl (cI, N, .inl ry))] sz)) 0 0 (va_A [(h, .inr (0, [.int (nI N), .ref a1, .ref a2, .ref a3, .ref a4, .int (nI n), .int came])), (a1, .inl (cI, N, .inl fx)), (a2, .inl (cI, N, .inl fy)), (a3, .inl (cI, N, .inl rx)), (a4, .inl (cI, N, .inl ry))] sz) := by
  refine Met.ofW (cc := cX0_add) (maxL := 4) (ret := (some .int)) (by decide) rfl ?_
  intro p e s m args below meth c s₁ B hml hv
  obtain ⟨rfl, hsz, hP, hK, hD0⟩ := hv
  have hx := B.exec
  have hb := B.bytes
  have hr := B.returns
  have hts := atoms_spec (ws := wsX0_add) B.pre
  have hown : s.vm.findClass RX0 = some m.cls := findClass_of_methodNamed B.named
  have hlocks := B.notSynchronized
  have hin0 : ∀ w ∈ wsX00, w ∈ wsX0_add := fun w h => List.mem_cons_of_mem _ (List.mem_append_right _ h)
  subst hsz
  have hD := hD0.self (sz := s.heap.size)
  generalize hAe : va_A [(h, .inr (0, [.int (nI N), .ref a1, .ref a2, .ref a3, .ref a4, .int (nI n), .int came])), (a1, .inl (cI, N, .inl fx)), (a2, .inl (cI, N, .inl fy)), (a3, .inl (cI, N, .inl rx)), (a4, .inl (cI, N, .inl ry))] s.heap.size = A at hD ⊢
  have hA : ∀ q : Nat, s.heap.size ≤ q → A q := fun q h => by rw [← hAe]; exact Or.inr h
  have hS : va_S A s.heap s.heap [] := va_S.rf
  have hl := lv_entry ([.ref h, .int x, .int y]) (n := 4) (Nat.le_of_ble_eq_true rfl)
  rw [lg_entry_eq]
  generalize (lg_sl ([.ref h, .int x, .int y]) ++ List.replicate (4 - (lg_sl ([.ref h, .int x, .int y])).length) Slot.unset).toArray = ls at hl ⊢
  have hl : lv_has ls 4 [(0, .ref h), (1, .int x), (2, .int y)] := hl
  suffices hgo : ∀ (H : Heap) (locs : List Loc), va_P (dC, dI) vwCl [(h, .inr (0, [.int (nI N), .ref a1, .ref a2, .ref a3, .ref a4, .int (nI n), .int came])), (a1, .inl (cI, N, .inl fx)), (a2, .inl (cI, N, .inl fy)), (a3, .inl (cI, N, .inl rx)), (a4, .inl (cI, N, .inl ry))] H → va_D A [(h, .inr (0, [.int (nI N), .ref a1, .ref a2, .ref a3, .ref a4, .int (nI n), .int came])), (a1, .inl (cI, N, .inl fx)), (a2, .inl (cI, N, .inl fy)), (a3, .inl (cI, N, .inl rx)), (a4, .inl (cI, N, .inl ry))] → va_S A s.heap H locs → W p l e (headSpec wsX0_add ({ frames := 4, cells := 0, slots := 0, locals := 97 })).room s m ([.ref h, .int x, .int y] : List Value).toArray below meth c H locs 0 0 (MQ below (va_Qi (S := (Nat → Int32) × (Nat → Int32) × (Nat → Int32) × (Nat → Int32) × Nat × Int32) (fun r u => oh_addC N n fx fy rx ry came x y r u) (fun u t => va_P (dC, dI) vwCl [(h, .inr (0, [.int (nI N), .ref a1, .ref a2, .ref a3, .ref a4, .int (nI u.2.2.2.2.1), .int u.2.2.2.2.2])), (a1, .inl (cI, N, .inl u.1)), (a2, .inl (cI, N, .inl u.2.1)), (a3, .inl (cI, N, .inl u.2.2.1)), (a4, .inl (cI, N, .inl u.2.2.2.1))] t.heap ∧ va_K (dC, dI) vwCl [(cI, .int)] t ∧ va_D A [(h, .inr (0, [.int (nI N), .ref a1, .ref a2, .ref a3, .ref a4, .int (nI u.2.2.2.2.1), .int u.2.2.2.2.2])), (a1, .inl (cI, N, .inl u.1)), (a2, .inl (cI, N, .inl u.2.1)), (a3, .inl (cI, N, .inl u.2.2.1)), (a4, .inl (cI, N, .inl u.2.2.2.1))]) A) ([.ref h, .int x, .int y] : List Value).toArray s 0 0 A) (F0 m 0 ls []) from hgo s.heap [] hP hD hS
  clear hP hD hS hD0
  intro H locs hP hD hS
  refine lv_iload_n hx hb dX0_add_0 rfl (lv_at hl 1 rfl) ?_
  refine lv_iload_n hx hb dX0_add_1 rfl (lv_at hl 2 rfl) ?_
  refine vp_callSi (va_Run.run (va_runS (As := [.int x, .int y]) (rest := []) ⟨hx, hb, hml, hown, hts⟩ (k_X0_inRange l x y) (va_cwS 2 hts gX0_add_X0_inRange rfl rfl rfl (by decide +kernel) ⟨Nat.le_of_ble_eq_true rfl, Nat.le_of_ble_eq_true rfl⟩) oh_pre0 rfl rfl hl.1 rfl (lv_room (Nat.le_of_ble_eq_true rfl)) dX0_add_2 ⟨Nat.zero_le _, Nat.zero_le _⟩)) (fun r_2 hr_2 => ?_)
  rcases hr_2 with ⟨b_2, hr_2⟩ | ⟨b_2, hr_2⟩ <;> subst hr_2
  · refine lv_if_ne (tgt := 10) hx hb dX0_add_5 (by decide) (fun _ => ?_) (fun q => absurd q (by decide))
    refine lv_iconst (v := nI 0) hx hb dX0_add_10 (by decide) ?_
    refine lv_istore_n (lv' := [(3, .int (nI 0)), (0, .ref h), (1, .int x), (2, .int y)]) hx hb dX0_add_11 rfl hl (by decide) rfl (fun ls hl => ?_)
    refine lv_aload_n hx hb dX0_add_12 rfl (lv_at hl 1 rfl) ?_
    refine lv_iload_n hx hb dX0_add_13 rfl (lv_at hl 2 rfl) ?_
    refine lv_iload_n hx hb dX0_add_14 rfl (lv_at hl 3 rfl) ?_
    refine vp_callSi (va_Run.run (va_runV (As := [.int x, .int y]) (rest := []) ⟨hx, hb, hml, hown, hts⟩ (k_X0_placeOf l dC dI cI h a1 a2 a3 a4 N n came fx fy rx ry x y hN hn hR b_2) (cwV 2 hts gX0_add_X0_placeOf rfl rfl rfl (by decide +kernel) ⟨Nat.le_of_ble_eq_true rfl, Nat.le_of_ble_eq_true rfl⟩) (oh_pre (ci := 0) (q0 := 0) hK hP rfl rfl) rfl rfl hl.1 rfl (lv_room (Nat.le_of_ble_eq_true rfl)) dX0_add_15 ⟨Nat.zero_le _, Nat.zero_le _⟩)) (fun r_15 hr_15 => ?_)
    refine lv_if_ne (tgt := 46) hx hb dX0_add_18 (by decide) (fun c_18 => ?_) (fun c_18 => ?_)
    · have g_18 : r_15.toInt ≠ 0 := oh_neI0 c_18
      refine lv_iload_n hx hb dX0_add_46 rfl (lv_at hl 0 rfl) ?_
      refine lv_bipush (v := -2) hx hb dX0_add_47 (by decide) ?_
      refine lv_icmp_eq (tgt := 62) hx hb dX0_add_49 (by decide) (fun q => absurd q (by decide)) (fun _ => ?_)
      refine lv_aload_n hx hb dX0_add_52 rfl (lv_at hl 1 rfl) ?_
      refine lv_dup hx hb dX0_add_53 rfl ?_
      refine va_get (D := (dC, dI)) (ci := 0) (v := .int came) (C := RX0) (T := TX0) (N := 7) hx hb hts hin0 hown hK hP 0 rfl rfl 6 (by decide) (hts (.fieldLink RX0 35 "OnlineHull" "came" "I") (by decide +kernel)) (fun _ h9 => h9) rfl dX0_add_54 ?_
      refine lv_iconst (v := nI 1) hx hb dX0_add_57 (by decide) ?_
      refine lv_iadd hx hb dX0_add_58 ?_
      refine va_put (D := (dC, dI)) (ci := 0) (v := .int (came + (nI 1))) (ty := .int) (C := RX0) (T := TX0) (N := 7) hx hb hts hin0 tyX0 tyX0_ok nmX0 hown hK hP hD hS 0 rfl rfl 6 (by decide) (hts (.fieldLink RX0 35 "OnlineHull" "came" "I") (by decide +kernel)) (fun _ h9 => h9) rfl (by decide +kernel) rfl rfl (Nat.le_of_ble_eq_true rfl) dX0_add_59 (fun H locs hP hD hS => ?_)
      have hP : va_P (dC, dI) vwCl [(h, .inr (0, [.int (nI N), .ref a1, .ref a2, .ref a3, .ref a4, .int (nI n), .int (came + (nI 1))])), (a1, .inl (cI, N, .inl fx)), (a2, .inl (cI, N, .inl fy)), (a3, .inl (cI, N, .inl rx)), (a4, .inl (cI, N, .inl ry))] H := hP
      have hD : va_D A [(h, .inr (0, [.int (nI N), .ref a1, .ref a2, .ref a3, .ref a4, .int (nI n), .int (came + (nI 1))])), (a1, .inl (cI, N, .inl fx)), (a2, .inl (cI, N, .inl fy)), (a3, .inl (cI, N, .inl rx)), (a4, .inl (cI, N, .inl ry))] := hD
      refine lv_iload_n hx hb dX0_add_62 rfl (lv_at hl 0 rfl) ?_
      exact W.iret (v := nI 0) hx hb hr (fun t ht hW => ⟨⟨_, (fx, fy, rx, ry, n, came + (nI 1)), rfl, Or.inr ⟨b_2, r_15, hr_15, Or.inl ⟨g_18, rfl, rfl⟩⟩, by rw [ht]; exact hP, va_K.moved hW.alike hK, hD⟩, hS.F ht⟩) hS.2.2 dX0_add_63
    · have g_18 : r_15.toInt = 0 := oh_eqI0 c_18
      refine lv_aload_n hx hb dX0_add_21 rfl (lv_at hl 1 rfl) ?_
      refine lv_iload_n hx hb dX0_add_22 rfl (lv_at hl 2 rfl) ?_
      refine lv_iload_n hx hb dX0_add_23 rfl (lv_at hl 3 rfl) ?_
      refine vp_callSi (va_Run.run (va_runV (As := [.int x, .int y]) (rest := []) ⟨hx, hb, hml, hown, hts⟩ (k_X0_staysInLine l dC dI cI h a1 a2 a3 a4 N n came fx fy rx ry x y hN hn hR b_2) (cwV 2 hts gX0_add_X0_staysInLine rfl rfl rfl (by decide +kernel) ⟨Nat.le_of_ble_eq_true rfl, Nat.le_of_ble_eq_true rfl⟩) (oh_pre (ci := 0) (q0 := 0) hK hP rfl rfl) rfl rfl hl.1 rfl (lv_room (Nat.le_of_ble_eq_true rfl)) dX0_add_24 ⟨Nat.zero_le _, Nat.zero_le _⟩)) (fun r_24 hr_24 => ?_)
      rcases hr_24 with ⟨b_24, hr_24⟩ | ⟨b_24, hr_24⟩ <;> subst hr_24
      · refine lv_if_eq (tgt := 39) hx hb dX0_add_27 (by decide) (fun q => absurd q (by decide)) (fun _ => ?_)
        refine lv_aload_n hx hb dX0_add_30 rfl (lv_at hl 1 rfl) ?_
        refine lv_iload_n hx hb dX0_add_31 rfl (lv_at hl 2 rfl) ?_
        refine lv_iload_n hx hb dX0_add_32 rfl (lv_at hl 3 rfl) ?_
        have hPc := hP.sub (ws' := [(h, .inr (0, [.int (nI N), .ref a1, .ref a2, .ref a3, .ref a4, .int (nI n), .int came])), (a1, .inl (cI, N, .inl fx)), (a2, .inl (cI, N, .inl fy)), (a3, .inl (cI, N, .inl rx)), (a4, .inl (cI, N, .inl ry))]) [0, 1, 2, 3, 4] rfl
        have hDc := hD.sub (ws' := [(h, .inr (0, [.int (nI N), .ref a1, .ref a2, .ref a3, .ref a4, .int (nI n), .int came])), (a1, .inl (cI, N, .inl fx)), (a2, .inl (cI, N, .inl fy)), (a3, .inl (cI, N, .inl rx)), (a4, .inl (cI, N, .inl ry))]) [0, 1, 2, 3, 4] (by decide) rfl
        have hFc := va_free (wc := [(h, .inr (0, [.int (nI N), .ref a1, .ref a2, .ref a3, .ref a4, .int (nI n), .int came])), (a1, .inl (cI, N, .inl fx)), (a2, .inl (cI, N, .inl fy)), (a3, .inl (cI, N, .inl rx)), (a4, .inl (cI, N, .inl ry))]) hD hS hA [0, 1, 2, 3, 4] rfl
        refine va_calli (va_runV (As := [.int x, .int y]) (rest := []) ⟨hx, hb, hml, hown, hts⟩ (k_X0_growLine l dC dI cI h a1 a2 a3 a4 N n came fx fy rx ry H.size x y hN hn h3 hh b_24 (oh_pl3no' hr_15 g_18 b_24)) (cwV 2 hts gX0_add_X0_growLine rfl rfl rfl (by decide +kernel) ⟨Nat.le_of_ble_eq_true rfl, Nat.le_of_ble_eq_true rfl⟩) (oh_preM (ci := 0) (q0 := 0) hK hPc hDc rfl rfl) rfl rfl hl.1 rfl (lv_room (Nat.le_of_ble_eq_true rfl)) dX0_add_33 ⟨Nat.zero_le _, Nat.zero_le _⟩) hS (fun q _ h => hFc q h) hFc (fun r_33 u_33 t H1 locs ht hvm hw_33 hB hz1 hk1 hS => ?_)
        obtain ⟨hP1, hK1, hD1⟩ := hB
        rw [ht] at hP1
        obtain ⟨m9, ρ9, gx9, gy9, rfl, rfl, hmN, hst, har⟩ := hw_33
        obtain ⟨hP, hD⟩ := va_join (wr := []) (w1 := [(h, .inr (0, [.int (nI N), .ref a1, .ref a2, .ref a3, .ref a4, .int (nI m9), .int came])), (a1, .inl (cI, N, .inl gx9)), (a2, .inl (cI, N, .inl gy9)), (a3, .inl (cI, N, .inl rx)), (a4, .inl (cI, N, .inl ry))]) hP hD [0, 1, 2, 3, 4] [] rfl rfl (by decide) (by decide) hk1 hFc hP1 hD1
        generalize H1 = H at hP hS ⊢
        have hP : va_P (dC, dI) vwCl [(h, .inr (0, [.int (nI N), .ref a1, .ref a2, .ref a3, .ref a4, .int (nI m9), .int came])), (a1, .inl (cI, N, .inl gx9)), (a2, .inl (cI, N, .inl gy9)), (a3, .inl (cI, N, .inl rx)), (a4, .inl (cI, N, .inl ry))] H := hP
        have hD : va_D A [(h, .inr (0, [.int (nI N), .ref a1, .ref a2, .ref a3, .ref a4, .int (nI m9), .int came])), (a1, .inl (cI, N, .inl gx9)), (a2, .inl (cI, N, .inl gy9)), (a3, .inl (cI, N, .inl rx)), (a4, .inl (cI, N, .inl ry))] := hD
        clear hPc hDc hFc hP1 hK1 hD1 hk1 hz1 ht
        refine lv_goto (tgt := 45) hx hb dX0_add_36 (by decide) ?_
        refine lv_istore_n (lv' := [(3, .int (nI (n + 2 - m9))), (0, .ref h), (1, .int x), (2, .int y)]) hx hb dX0_add_45 rfl hl (by decide) rfl (fun ls hl => ?_)
        refine lv_iload_n hx hb dX0_add_46 rfl (lv_at hl 0 rfl) ?_
        refine lv_bipush (v := -2) hx hb dX0_add_47 (by decide) ?_
        refine lv_icmp_eq (tgt := 62) hx hb dX0_add_49 (by decide) (fun q => absurd q (oh_nn (by omega))) (fun _ => ?_)
        refine lv_aload_n hx hb dX0_add_52 rfl (lv_at hl 1 rfl) ?_
        refine lv_dup hx hb dX0_add_53 rfl ?_
        refine va_get (D := (dC, dI)) (ci := 0) (v := .int came) (C := RX0) (T := TX0) (N := 7) hx hb hts hin0 hown hK hP 0 rfl rfl 6 (by decide) (hts (.fieldLink RX0 35 "OnlineHull" "came" "I") (by decide +kernel)) (fun _ h9 => h9) rfl dX0_add_54 ?_
        refine lv_iconst (v := nI 1) hx hb dX0_add_57 (by decide) ?_
        refine lv_iadd hx hb dX0_add_58 ?_
        refine va_put (D := (dC, dI)) (ci := 0) (v := .int (came + (nI 1))) (ty := .int) (C := RX0) (T := TX0) (N := 7) hx hb hts hin0 tyX0 tyX0_ok nmX0 hown hK hP hD hS 0 rfl rfl 6 (by decide) (hts (.fieldLink RX0 35 "OnlineHull" "came" "I") (by decide +kernel)) (fun _ h9 => h9) rfl (by decide +kernel) rfl rfl (Nat.le_of_ble_eq_true rfl) dX0_add_59 (fun H locs hP hD hS => ?_)
        have hP : va_P (dC, dI) vwCl [(h, .inr (0, [.int (nI N), .ref a1, .ref a2, .ref a3, .ref a4, .int (nI m9), .int (came + (nI 1))])), (a1, .inl (cI, N, .inl gx9)), (a2, .inl (cI, N, .inl gy9)), (a3, .inl (cI, N, .inl rx)), (a4, .inl (cI, N, .inl ry))] H := hP
        have hD : va_D A [(h, .inr (0, [.int (nI N), .ref a1, .ref a2, .ref a3, .ref a4, .int (nI m9), .int (came + (nI 1))])), (a1, .inl (cI, N, .inl gx9)), (a2, .inl (cI, N, .inl gy9)), (a3, .inl (cI, N, .inl rx)), (a4, .inl (cI, N, .inl ry))] := hD
        refine lv_iload_n hx hb dX0_add_62 rfl (lv_at hl 0 rfl) ?_
        exact W.iret (v := nI (n + 2 - m9)) hx hb hr (fun t ht hW => ⟨⟨_, (gx9, gy9, rx, ry, m9, came + (nI 1)), rfl, Or.inr ⟨b_2, r_15, hr_15, Or.inr ⟨g_18, m9, ρ9, hst, Or.inl ⟨hmN, rfl, _, _, _, _, rfl, har⟩⟩⟩, by rw [ht]; exact hP, va_K.moved hW.alike hK, hD⟩, hS.F ht⟩) hS.2.2 dX0_add_63
      · refine lv_if_eq (tgt := 39) hx hb dX0_add_27 (by decide) (fun _ => ?_) (fun q => absurd q (by decide))
        refine lv_aload_n hx hb dX0_add_39 rfl (lv_at hl 1 rfl) ?_
        refine lv_iload_n hx hb dX0_add_40 rfl (lv_at hl 2 rfl) ?_
        refine lv_iload_n hx hb dX0_add_41 rfl (lv_at hl 3 rfl) ?_
        have hPc := hP.sub (ws' := [(h, .inr (0, [.int (nI N), .ref a1, .ref a2, .ref a3, .ref a4, .int (nI n), .int came])), (a1, .inl (cI, N, .inl fx)), (a2, .inl (cI, N, .inl fy)), (a3, .inl (cI, N, .inl rx)), (a4, .inl (cI, N, .inl ry))]) [0, 1, 2, 3, 4] rfl
        have hDc := hD.sub (ws' := [(h, .inr (0, [.int (nI N), .ref a1, .ref a2, .ref a3, .ref a4, .int (nI n), .int came])), (a1, .inl (cI, N, .inl fx)), (a2, .inl (cI, N, .inl fy)), (a3, .inl (cI, N, .inl rx)), (a4, .inl (cI, N, .inl ry))]) [0, 1, 2, 3, 4] (by decide) rfl
        have hFc := va_free (wc := [(h, .inr (0, [.int (nI N), .ref a1, .ref a2, .ref a3, .ref a4, .int (nI n), .int came])), (a1, .inl (cI, N, .inl fx)), (a2, .inl (cI, N, .inl fy)), (a3, .inl (cI, N, .inl rx)), (a4, .inl (cI, N, .inl ry))]) hD hS hA [0, 1, 2, 3, 4] rfl
        refine va_calli (va_runV (As := [.int x, .int y]) (rest := []) ⟨hx, hb, hml, hown, hts⟩ (k_X0_growRing l dC dI cI h a1 a2 a3 a4 N n came fx fy rx ry H.size x y hN hn hR b_2 hh (by omega) (oh_pl3out hr_15 g_18 b_24)) (cwV 2 hts gX0_add_X0_growRing rfl rfl rfl (by decide +kernel) ⟨Nat.le_of_ble_eq_true rfl, Nat.le_of_ble_eq_true rfl⟩) (oh_preM (ci := 0) (q0 := 0) hK hPc hDc rfl rfl) rfl rfl hl.1 rfl (lv_room (Nat.le_of_ble_eq_true rfl)) dX0_add_42 ⟨Nat.zero_le _, Nat.zero_le _⟩) hS (fun q _ h => hFc q h) hFc (fun r_42 u_42 t H1 locs ht hvm hw_42 hB hz1 hk1 hS => ?_)
        obtain ⟨hP1, hK1, hD1⟩ := hB
        rw [ht] at hP1
        obtain ⟨m9, ρ9, hst, ⟨hmN, rfl, gx9, gy9, rx9, ry9, rfl, har⟩ | ⟨hmN, rfl, rfl⟩⟩ := hw_42
        · obtain ⟨hP, hD⟩ := va_join (wr := []) (w1 := [(h, .inr (0, [.int (nI N), .ref a1, .ref a2, .ref a3, .ref a4, .int (nI m9), .int came])), (a1, .inl (cI, N, .inl gx9)), (a2, .inl (cI, N, .inl gy9)), (a3, .inl (cI, N, .inl rx9)), (a4, .inl (cI, N, .inl ry9))]) hP hD [0, 1, 2, 3, 4] [] rfl rfl (by decide) (by decide) hk1 hFc hP1 hD1
          generalize H1 = H at hP hS ⊢
          have hP : va_P (dC, dI) vwCl [(h, .inr (0, [.int (nI N), .ref a1, .ref a2, .ref a3, .ref a4, .int (nI m9), .int came])), (a1, .inl (cI, N, .inl gx9)), (a2, .inl (cI, N, .inl gy9)), (a3, .inl (cI, N, .inl rx9)), (a4, .inl (cI, N, .inl ry9))] H := hP
          have hD : va_D A [(h, .inr (0, [.int (nI N), .ref a1, .ref a2, .ref a3, .ref a4, .int (nI m9), .int came])), (a1, .inl (cI, N, .inl gx9)), (a2, .inl (cI, N, .inl gy9)), (a3, .inl (cI, N, .inl rx9)), (a4, .inl (cI, N, .inl ry9))] := hD
          clear hPc hDc hFc hP1 hK1 hD1 hk1 hz1 ht
          have hm9 := oh_stepm hst
          refine lv_istore_n (lv' := [(3, .int (nI (n + 2 - m9))), (0, .ref h), (1, .int x), (2, .int y)]) hx hb dX0_add_45 rfl hl (by decide) rfl (fun ls hl => ?_)
          refine lv_iload_n hx hb dX0_add_46 rfl (lv_at hl 0 rfl) ?_
          refine lv_bipush (v := -2) hx hb dX0_add_47 (by decide) ?_
          refine lv_icmp_eq (tgt := 62) hx hb dX0_add_49 (by decide) (fun q => absurd q (oh_nn (by omega))) (fun _ => ?_)
          refine lv_aload_n hx hb dX0_add_52 rfl (lv_at hl 1 rfl) ?_
          refine lv_dup hx hb dX0_add_53 rfl ?_
          refine va_get (D := (dC, dI)) (ci := 0) (v := .int came) (C := RX0) (T := TX0) (N := 7) hx hb hts hin0 hown hK hP 0 rfl rfl 6 (by decide) (hts (.fieldLink RX0 35 "OnlineHull" "came" "I") (by decide +kernel)) (fun _ h9 => h9) rfl dX0_add_54 ?_
          refine lv_iconst (v := nI 1) hx hb dX0_add_57 (by decide) ?_
          refine lv_iadd hx hb dX0_add_58 ?_
          refine va_put (D := (dC, dI)) (ci := 0) (v := .int (came + (nI 1))) (ty := .int) (C := RX0) (T := TX0) (N := 7) hx hb hts hin0 tyX0 tyX0_ok nmX0 hown hK hP hD hS 0 rfl rfl 6 (by decide) (hts (.fieldLink RX0 35 "OnlineHull" "came" "I") (by decide +kernel)) (fun _ h9 => h9) rfl (by decide +kernel) rfl rfl (Nat.le_of_ble_eq_true rfl) dX0_add_59 (fun H locs hP hD hS => ?_)
          have hP : va_P (dC, dI) vwCl [(h, .inr (0, [.int (nI N), .ref a1, .ref a2, .ref a3, .ref a4, .int (nI m9), .int (came + (nI 1))])), (a1, .inl (cI, N, .inl gx9)), (a2, .inl (cI, N, .inl gy9)), (a3, .inl (cI, N, .inl rx9)), (a4, .inl (cI, N, .inl ry9))] H := hP
          have hD : va_D A [(h, .inr (0, [.int (nI N), .ref a1, .ref a2, .ref a3, .ref a4, .int (nI m9), .int (came + (nI 1))])), (a1, .inl (cI, N, .inl gx9)), (a2, .inl (cI, N, .inl gy9)), (a3, .inl (cI, N, .inl rx9)), (a4, .inl (cI, N, .inl ry9))] := hD
          refine lv_iload_n hx hb dX0_add_62 rfl (lv_at hl 0 rfl) ?_
          exact W.iret (v := nI (n + 2 - m9)) hx hb hr (fun t ht hW => ⟨⟨_, (gx9, gy9, rx9, ry9, m9, came + (nI 1)), rfl, Or.inr ⟨b_2, r_15, hr_15, Or.inr ⟨g_18, m9, ρ9, hst, Or.inl ⟨hmN, rfl, _, _, _, _, rfl, har⟩⟩⟩, by rw [ht]; exact hP, va_K.moved hW.alike hK, hD⟩, hS.F ht⟩) hS.2.2 dX0_add_63
        · obtain ⟨hP, hD⟩ := va_join (wr := []) (w1 := [(h, .inr (0, [.int (nI N), .ref a1, .ref a2, .ref a3, .ref a4, .int (nI n), .int came])), (a1, .inl (cI, N, .inl fx)), (a2, .inl (cI, N, .inl fy)), (a3, .inl (cI, N, .inl rx)), (a4, .inl (cI, N, .inl ry))]) hP hD [0, 1, 2, 3, 4] [] rfl rfl (by decide) (by decide) hk1 hFc hP1 hD1
          generalize H1 = H at hP hS ⊢
          have hP : va_P (dC, dI) vwCl [(h, .inr (0, [.int (nI N), .ref a1, .ref a2, .ref a3, .ref a4, .int (nI n), .int came])), (a1, .inl (cI, N, .inl fx)), (a2, .inl (cI, N, .inl fy)), (a3, .inl (cI, N, .inl rx)), (a4, .inl (cI, N, .inl ry))] H := hP
          have hD : va_D A [(h, .inr (0, [.int (nI N), .ref a1, .ref a2, .ref a3, .ref a4, .int (nI n), .int came])), (a1, .inl (cI, N, .inl fx)), (a2, .inl (cI, N, .inl fy)), (a3, .inl (cI, N, .inl rx)), (a4, .inl (cI, N, .inl ry))] := hD
          clear hPc hDc hFc hP1 hK1 hD1 hk1 hz1 ht
          refine lv_istore_n (lv' := [(3, .int (-2)), (0, .ref h), (1, .int x), (2, .int y)]) hx hb dX0_add_45 rfl hl (by decide) rfl (fun ls hl => ?_)
          refine lv_iload_n hx hb dX0_add_46 rfl (lv_at hl 0 rfl) ?_
          refine lv_bipush (v := -2) hx hb dX0_add_47 (by decide) ?_
          refine lv_icmp_eq (tgt := 62) hx hb dX0_add_49 (by decide) (fun _ => ?_) (fun q => absurd q (by decide))
          refine lv_iload_n hx hb dX0_add_62 rfl (lv_at hl 0 rfl) ?_
          exact W.iret (v := -2) hx hb hr (fun t ht hW => ⟨⟨_, (fx, fy, rx, ry, n, came), rfl, Or.inr ⟨b_2, r_15, hr_15, Or.inr ⟨g_18, m9, ρ9, hst, Or.inr ⟨hmN, rfl, rfl⟩⟩⟩, by rw [ht]; exact hP, va_K.moved hW.alike hK, hD⟩, hS.F ht⟩) hS.2.2 dX0_add_63
  · refine lv_if_ne (tgt := 10) hx hb dX0_add_5 (by decide) (fun q => absurd q (by decide)) (fun _ => ?_)
    refine lv_iconst (v := -1) hx hb dX0_add_8 (by decide) ?_
    exact W.iret (v := -1) hx hb hr (fun t ht hW => ⟨⟨_, (fx, fy, rx, ry, n, came), rfl, Or.inl ⟨b_2, rfl, rfl⟩, by rw [ht]; exact hP, va_K.moved hW.alike hK, hD⟩, hS.F ht⟩) hS.2.2 dX0_add_9
end
section
theorem oh_lc_eq {x y : Int64} (c : lg_cmp x y = 0) : x.toInt = y.toInt := by have q := (lg_cmp_eq x y).mp c; rw [← Int64.toInt_inj] at q; exact q
theorem oh_lc_neq {x y : Int64} (c : ¬ lg_cmp x y = 0) : x.toInt ≠ y.toInt := by have q := mt (lg_cmp_eq x y).mpr c; rw [← Int64.toInt_inj] at q; omega
theorem oh_lc_lt {x y : Int64} (c : lg_cmp x y < 0) : x.toInt < y.toInt := by have q := (lg_cmp_lt x y).mp c; rw [Int64.lt_iff_toInt_lt] at q; exact q
theorem oh_lc_nlt {x y : Int64} (c : ¬ lg_cmp x y < 0) : x.toInt ≥ y.toInt := by have q := mt (lg_cmp_lt x y).mpr c; rw [Int64.lt_iff_toInt_lt] at q; omega
theorem oh_lc_ge {x y : Int64} (c : 0 ≤ lg_cmp x y) : x.toInt ≥ y.toInt := by have q := (lg_cmp_ge x y).mp c; rw [Int64.le_iff_toInt_le] at q; exact q
theorem oh_lc_nge {x y : Int64} (c : ¬ 0 ≤ lg_cmp x y) : x.toInt < y.toInt := by have q := mt (lg_cmp_ge x y).mpr c; rw [Int64.le_iff_toInt_le] at q; omega
theorem oh_lc_gt {x y : Int64} (c : 0 < lg_cmp x y) : x.toInt > y.toInt := by have q := (lg_cmp_gt x y).mp c; rw [Int64.lt_iff_toInt_lt] at q; exact q
theorem oh_lc_ngt {x y : Int64} (c : ¬ 0 < lg_cmp x y) : x.toInt ≤ y.toInt := by have q := mt (lg_cmp_gt x y).mpr c; rw [Int64.lt_iff_toInt_lt] at q; omega
theorem oh_lc_le {x y : Int64} (c : lg_cmp x y ≤ 0) : x.toInt ≤ y.toInt := by have q := (lg_cmp_le x y).mp c; rw [Int64.le_iff_toInt_le] at q; exact q
theorem oh_lc_nle {x y : Int64} (c : ¬ lg_cmp x y ≤ 0) : x.toInt > y.toInt := by have q := mt (lg_cmp_le x y).mpr c; rw [Int64.le_iff_toInt_le] at q; omega
theorem oh_lc_ne {x y : Int64} (c : ¬ lg_cmp x y = 0) : x.toInt ≠ y.toInt := oh_lc_neq c
theorem oh_lc_nne {x y : Int64} (c : lg_cmp x y = 0) : x.toInt = y.toInt := oh_lc_eq c
theorem oh_zl : (0 : Int64).toInt = 0 := by decide
theorem oh_lc_eq0 {x : Int64} (c : lg_cmp x 0 = 0) : x.toInt = 0 := by have q := oh_lc_eq c; rw [oh_zl] at q; exact q
theorem oh_lc_neq0 {x : Int64} (c : ¬ lg_cmp x 0 = 0) : x.toInt ≠ 0 := by have q := oh_lc_neq c; rw [oh_zl] at q; exact q
theorem oh_lc_lt0 {x : Int64} (c : lg_cmp x 0 < 0) : x.toInt < 0 := by have q := oh_lc_lt c; rw [oh_zl] at q; exact q
theorem oh_lc_nlt0 {x : Int64} (c : ¬ lg_cmp x 0 < 0) : x.toInt ≥ 0 := by have q := oh_lc_nlt c; rw [oh_zl] at q; exact q
theorem oh_lc_ge0 {x : Int64} (c : 0 ≤ lg_cmp x 0) : x.toInt ≥ 0 := by have q := oh_lc_ge c; rw [oh_zl] at q; exact q
theorem oh_lc_nge0 {x : Int64} (c : ¬ 0 ≤ lg_cmp x 0) : x.toInt < 0 := by have q := oh_lc_nge c; rw [oh_zl] at q; exact q
theorem oh_lc_gt0 {x : Int64} (c : 0 < lg_cmp x 0) : x.toInt > 0 := by have q := oh_lc_gt c; rw [oh_zl] at q; exact q
theorem oh_lc_ngt0 {x : Int64} (c : ¬ 0 < lg_cmp x 0) : x.toInt ≤ 0 := by have q := oh_lc_ngt c; rw [oh_zl] at q; exact q
theorem oh_lc_le0 {x : Int64} (c : lg_cmp x 0 ≤ 0) : x.toInt ≤ 0 := by have q := oh_lc_le c; rw [oh_zl] at q; exact q
theorem oh_lc_nle0 {x : Int64} (c : ¬ lg_cmp x 0 ≤ 0) : x.toInt > 0 := by have q := oh_lc_nle c; rw [oh_zl] at q; exact q
theorem oh_lc_ne0 {x : Int64} (c : ¬ lg_cmp x 0 = 0) : x.toInt ≠ 0 := by have q := oh_lc_ne c; rw [oh_zl] at q; exact q
theorem oh_lc_nne0 {x : Int64} (c : lg_cmp x 0 = 0) : x.toInt = 0 := by have q := oh_lc_nne c; rw [oh_zl] at q; exact q
theorem oh_q64 {ax ay bx bY : Int32} (ha : oh_inR ax ay) (hb : oh_inR bx bY) : ((ax - bx).toInt64 * (ax - bx).toInt64 + (ay - bY).toInt64 * (ay - bY).toInt64).toInt = oh_d2 (bx.toInt, bY.toInt) (ax.toInt, ay.toInt) := by
  obtain ⟨a1, a2, a3, a4⟩ := ha
  obtain ⟨b1, b2, b3, b4⟩ := hb
  have e1 : (ax - bx).toInt64.toInt = ax.toInt - bx.toInt := by rw [Int32.toInt_toInt64]; exact oh_sub (by omega) (by omega)
  have e3 : (ay - bY).toInt64.toInt = ay.toInt - bY.toInt := by rw [Int32.toInt_toInt64]; exact oh_sub (by omega) (by omega)
  have m1 := oh_mb (a := ax.toInt - bx.toInt) (b := ax.toInt - bx.toInt) (A := 32766) (B := 32766) (by omega) (by omega) (by omega) (by omega)
  have m2 := oh_mb (a := ay.toInt - bY.toInt) (b := ay.toInt - bY.toInt) (A := 32766) (B := 32766) (by omega) (by omega) (by omega) (by omega)
  have e5 : ((ax - bx).toInt64 * (ax - bx).toInt64).toInt = (ax.toInt - bx.toInt) * (ax.toInt - bx.toInt) := by rw [oh_mulL (by rw [e1]; omega) (by rw [e1]; omega), e1]
  have e6 : ((ay - bY).toInt64 * (ay - bY).toInt64).toInt = (ay.toInt - bY.toInt) * (ay.toInt - bY.toInt) := by rw [oh_mulL (by rw [e3]; omega) (by rw [e3]; omega), e3]
  rw [oh_addL (by rw [e5, e6]; omega) (by rw [e5, e6]; omega), e5, e6]
  rfl
theorem oh_t64i {ax ay bx bY cx cy : Int32} (ha : oh_inR ax ay) (hb : oh_inR bx bY) (hc : oh_inR cx cy) : ((bx.toInt64 - ax.toInt64) * (cy.toInt64 - ay.toInt64) - (bY.toInt64 - ay.toInt64) * (cx.toInt64 - ax.toInt64)).toInt = oh_cp (ax.toInt, ay.toInt) (bx.toInt, bY.toInt) (cx.toInt, cy.toInt) := by
  obtain ⟨a1, a2, a3, a4⟩ := ha
  obtain ⟨b1, b2, b3, b4⟩ := hb
  obtain ⟨c1, c2, c3, c4⟩ := hc
  exact oh_t64 (Int32.toInt_toInt64 _) (Int32.toInt_toInt64 _) (Int32.toInt_toInt64 _) (Int32.toInt_toInt64 _) (Int32.toInt_toInt64 _) (Int32.toInt_toInt64 _) a1 a2 a3 a4 b1 b2 b3 b4 c1 c2 c3 c4
def oh_bt (v a b : Int) : Prop := (a ≤ v ∧ v ≤ b) ∨ (b ≤ v ∧ v ≤ a)
theorem oh_bt_on {a b q : Int × Int} (h : oh_lx a b) (hz : oh_cp a b q = 0) : (¬ oh_lx q a ∧ ¬ oh_lx b q) ↔ (oh_bt q.1 a.1 b.1 ∧ oh_bt q.2 a.2 b.2) := by
  obtain ⟨ux, hux⟩ : ∃ u, u = b.1 - a.1 := ⟨_, rfl⟩
  obtain ⟨uy, huy⟩ : ∃ u, u = b.2 - a.2 := ⟨_, rfl⟩
  obtain ⟨zx, hzx⟩ : ∃ u, u = q.1 - a.1 := ⟨_, rfl⟩
  obtain ⟨zy, hzy⟩ : ∃ u, u = q.2 - a.2 := ⟨_, rfl⟩
  have e : ux * zy - uy * zx = 0 := by
    have : oh_cp a b q = ux * zy - uy * zx := by rw [hux, huy, hzx, hzy]; rfl
    omega
  unfold oh_lx at *
  unfold oh_bt
  by_cases g : 0 < ux
  · constructor
    · rintro ⟨h1, h2⟩
      refine ⟨by omega, ?_⟩
      have z0 : 0 ≤ zx := by omega
      have z1 : zx ≤ ux := by omega
      rcases oh_lg uy 0 with y | y
      · have p1 : 0 ≤ (-uy) * zx := Int.mul_nonneg (by omega) z0
        have p2 : 0 ≤ (-uy) * (ux - zx) := Int.mul_nonneg (by omega) (by omega)
        have q1 : ux * (-zy) = (-uy) * zx := by grind
        have q2 : ux * (zy - uy) = (-uy) * (ux - zx) := by grind
        have r1 : 0 ≤ -zy := by
          rcases oh_lg (-zy) 0 with w | w
          · have := oh_mnn g w; omega
          · exact w
        have r2 : 0 ≤ zy - uy := by
          rcases oh_lg (zy - uy) 0 with w | w
          · have := oh_mnn g w; omega
          · exact w
        omega
      · have p1 : 0 ≤ uy * zx := Int.mul_nonneg y z0
        have p2 : 0 ≤ uy * (ux - zx) := Int.mul_nonneg y (by omega)
        have q1 : ux * zy = uy * zx := by omega
        have q2 : ux * (uy - zy) = uy * (ux - zx) := by grind
        have r1 : 0 ≤ zy := by
          rcases oh_lg zy 0 with w | w
          · have := oh_mnn g w; omega
          · exact w
        have r2 : 0 ≤ uy - zy := by
          rcases oh_lg (uy - zy) 0 with w | w
          · have := oh_mnn g w; omega
          · exact w
        omega
    · rintro ⟨h1, h2⟩
      constructor
      · intro w
        have z0 : zx = 0 := by omega
        rw [z0, Int.mul_zero] at e
        rcases Int.mul_eq_zero.mp (show ux * zy = 0 by omega) with k | k <;> omega
      · intro w
        have z0 : zx = ux := by omega
        have e2 : ux * (zy - uy) = 0 := by rw [z0] at e; grind
        rcases Int.mul_eq_zero.mp e2 with k | k <;> omega
  · have u0 : ux = 0 := by omega
    have y0 : 0 < uy := by omega
    rw [u0, Int.zero_mul] at e
    have z0 : zx = 0 := by
      rcases Int.mul_eq_zero.mp (show uy * zx = 0 by omega) with k | k
      · omega
      · exact k
    omega
/-- on a hull without area, by the reference's words -/
theorem oh_on_bt {n : Nat} {P : Nat → Int × Int} {q : Int × Int} (hh : oh_hull n P) (h1 : 1 ≤ n) (h2 : n ≤ 2) : oh_on n P q ↔ (oh_cp (P 0) (P (n - 1)) q = 0 ∧ oh_bt q.1 (P 0).1 (P (n - 1)).1 ∧ oh_bt q.2 (P 0).2 (P (n - 1)).2) := by
  have es : oh_sd n P q 0 = oh_cp (P 0) (P (n - 1)) q := by
    unfold oh_sd oh_nx
    split
    · rw [show n - 1 = 0 + 1 by omega]
    · rw [show n - 1 = 0 by omega]
  unfold oh_on
  rw [es]
  rcases (show n = 1 ∨ n = 2 by omega) with e | e <;> subst e
  · show (_ ∧ ¬ oh_lx q (P 0) ∧ ¬ oh_lx (P 0) q) ↔ (_ ∧ oh_bt q.1 (P 0).1 (P 0).1 ∧ oh_bt q.2 (P 0).2 (P 0).2)
    have ez : oh_cp (P 0) (P (1 - 1)) q = 0 := oh_s3 _ _
    rw [ez]
    unfold oh_lx oh_bt
    omega
  · have hl := hh.2 1 (by omega) (by omega)
    constructor
    · rintro ⟨a, b, c⟩
      exact ⟨a, (oh_bt_on hl a).mp ⟨b, c⟩⟩
    · rintro ⟨a, b⟩
      exact ⟨a, (oh_bt_on hl a).mpr b⟩
def oh_Nx (G : Nat → Int × Int) (i v k : Nat) : Prop := oh_cp (G i) (G v) (G k) < 0 ∨ (oh_cp (G i) (G v) (G k) = 0 ∧ oh_d2 (G i) (G v) < oh_d2 (G i) (G k))
theorem oh_arL {i : Nat} {fx fy : Nat → Int32} {sum r : Int64} (hI : sum = Int64.ofInt (oh_ar (oh_pt fx fy) (i - 1))) (hr : r.toInt = oh_cp ((fx 0).toInt, (fy 0).toInt) ((fx i).toInt, (fy i).toInt) ((fx (i + 1)).toInt, (fy (i + 1)).toInt)) (h1 : 1 ≤ i) : sum + r = Int64.ofInt (oh_ar (oh_pt fx fy) (i + 1 - 1)) := by
  have e : r = Int64.ofInt (oh_cp (oh_pt fx fy 0) (oh_pt fx fy i) (oh_pt fx fy (i + 1))) := by
    rw [← Int64.ofInt_toInt r, hr]; rfl
  rw [hI, e, ← Int64.ofInt_add]
  congr 1
  rw [show i + 1 - 1 = (i - 1) + 1 by omega]
  show _ = oh_ar _ (i - 1) + _
  rw [show i - 1 + 1 = i by omega, show i - 1 + 2 = i + 1 by omega]
theorem oh_rc32 {x y u v t : Int32} (e : t = u * x + v * y) (h1 : oh_inR x y) (h2 : oh_inR u v) : t.toInt = x.toInt * u.toInt + y.toInt * v.toInt := by
  rw [e, oh_r32 h2 h1, Int.mul_comm, Int.mul_comm v.toInt]
theorem oh_diaL {n : Nat} {fx fy : Nat → Int32} {g : Int64} (hR : ∀ j, j < n → oh_inR (fx j) (fy j)) (h0 : 0 ≤ g.toInt) (h1 : ∀ a b, a < b → b < n → oh_d2 (oh_pt fx fy a) (oh_pt fx fy b) ≤ g.toInt) (h2 : g.toInt = 0 ∨ ∃ a b, a < b ∧ b < n ∧ g.toInt = oh_d2 (oh_pt fx fy a) (oh_pt fx fy b)) : oh_dia n (oh_pt fx fy) g.toInt32 := by
  have hb : g.toInt < 2147483648 := by
    rcases h2 with e | ⟨a, b, hab, hbn, e⟩
    · omega
    · obtain ⟨p1, p2, p3, p4⟩ := hR a (by omega)
      obtain ⟨q1, q2, q3, q4⟩ := hR b hbn
      have m1 := oh_mb (a := (fx b).toInt - (fx a).toInt) (b := (fx b).toInt - (fx a).toInt) (A := 32766) (B := 32766) (by omega) (by omega) (by omega) (by omega)
      have m2 := oh_mb (a := (fy b).toInt - (fy a).toInt) (b := (fy b).toInt - (fy a).toInt) (A := 32766) (B := 32766) (by omega) (by omega) (by omega) (by omega)
      rw [e]
      unfold oh_d2 oh_pt
      dsimp only
      omega
  have e : g.toInt32.toInt = g.toInt := by rw [Int64.toInt_toInt32]; exact oh_bm (by omega) hb
  unfold oh_dia
  rw [e]
  exact ⟨h0, h1, h2⟩
theorem oh_tanK {C : Nat → Prop} {i : Nat} {fo : Int32} (hI : (fo = -1 ∧ ∀ j, j < i → ¬ C j) ∨ (∃ j, j < i ∧ fo = nI j ∧ C j)) (h : ¬ C i) : (fo = -1 ∧ ∀ j, j < i + 1 → ¬ C j) ∨ (∃ j, j < i + 1 ∧ fo = nI j ∧ C j) := by
  rcases hI with ⟨e, a⟩ | ⟨j, h1, h2⟩
  · exact Or.inl ⟨e, lt_s a h⟩
  · exact Or.inr ⟨j, by omega, h2⟩
theorem oh_tanR {n : Nat} {P : Nat → Int × Int} {x y wh fo : Int32} (h3 : 3 ≤ n) (hq : oh_inR x y) (hout : ∃ j, j < n ∧ oh_sd n P (x.toInt, y.toInt) j < 0) (hwh : wh = 0 ∨ wh = 1)
    (hI : (fo = -1 ∧ ∀ j, j < n → ¬ ((wh = 0 ∧ oh_sd n P (x.toInt, y.toInt) j < 0 ∧ 0 ≤ oh_sd n P (x.toInt, y.toInt) (oh_pv n j)) ∨ (wh = 1 ∧ 0 ≤ oh_sd n P (x.toInt, y.toInt) j ∧ oh_sd n P (x.toInt, y.toInt) (oh_pv n j) < 0))) ∨ (∃ j, j < n ∧ fo = nI j ∧ ((wh = 0 ∧ oh_sd n P (x.toInt, y.toInt) j < 0 ∧ 0 ≤ oh_sd n P (x.toInt, y.toInt) (oh_pv n j)) ∨ (wh = 1 ∧ 0 ≤ oh_sd n P (x.toInt, y.toInt) j ∧ oh_sd n P (x.toInt, y.toInt) (oh_pv n j) < 0)))) : oh_tan n P x y wh fo := by
  have n01 : (0 : Int32) ≠ 1 := by decide
  refine Or.inl ⟨h3, hq, hout, ?_⟩
  rcases hwh with e | e <;> subst e
  · left
    refine ⟨rfl, ?_⟩
    rcases hI with ⟨e, a⟩ | ⟨j, h1, h2, h4⟩
    · exact Or.inr ⟨e, fun j hj w => a j hj (Or.inl ⟨rfl, w⟩)⟩
    · rcases h4 with w | w
      · exact Or.inl ⟨j, h1, h2, w.2⟩
      · exact absurd w.1 n01
  · right
    refine ⟨rfl, ?_⟩
    rcases hI with ⟨e, a⟩ | ⟨j, h1, h2, h4⟩
    · exact Or.inr ⟨e, fun j hj w => a j hj (Or.inr ⟨rfl, w⟩)⟩
    · rcases h4 with w | w
      · exact absurd w.1.symm n01
      · exact Or.inl ⟨j, h1, h2, w.2⟩
theorem oh_sdE1 {n i : Nat} {P : Nat → Int × Int} {q : Int × Int} (h : i + 1 = n) : oh_cp (P i) (P 0) q = oh_sd n P q i := by unfold oh_sd oh_nx; rw [if_neg (by omega)]
theorem oh_sdE2 {n i : Nat} {P : Nat → Int × Int} {q : Int × Int} (h : i + 1 < n) : oh_cp (P i) (P (i + 1)) q = oh_sd n P q i := by unfold oh_sd oh_nx; rw [if_pos h]
end
section
set_option maxHeartbeats 4000000 in
set_option maxRecDepth 100000 in
theorem k_X1_inRange (l : Launch) (x y : Int32) : Met l yX1_inRange wsX1_inRange ({ frames := 0, cells := 0, slots := 0, locals := 0 }) (va_Pc [.int x, .int y] (fun _ => True)) (vp_Si (fun r => (oh_inR x y ∧ r = 1) ∨ (¬ oh_inR x y ∧ r = 0))) 0 0 (fun _ => False) := by
  refine Met.ofW (cc := cX1_inRange) (maxL := 2) (ret := (some .boolean)) (by decide) rfl ?_
  intro p e s m args below meth c s₁ B hml hv
  obtain ⟨rfl, -⟩ := hv
  have hx := B.exec
  have hb := B.bytes
  have hr := B.returns
  have hts := atoms_spec (ws := wsX1_inRange) B.pre
  have hown : s.vm.findClass RX1 = some m.cls := findClass_of_methodNamed B.named
  have hlocks := B.notSynchronized
  have hl := lv_entry ([.int x, .int y]) (n := 2) (Nat.le_of_ble_eq_true rfl)
  rw [lg_entry_eq]
  generalize (lg_sl ([.int x, .int y]) ++ List.replicate (2 - (lg_sl ([.int x, .int y])).length) Slot.unset).toArray = ls at hl ⊢
  have hl : lv_has ls 2 [(0, .int x), (1, .int y)] := hl
  refine lv_iload_n hx hb dX1_inRange_0 rfl (lv_at hl 0 rfl) ?_
  refine lv_sipush (v := -16383) hx hb dX1_inRange_1 (by decide) ?_
  refine lv_icmp_lt (tgt := 32) hx hb dX1_inRange_4 (by decide) (fun c_4 => ?_) (fun c_4 => ?_)
  · have g_4 : x.toInt < (-16383) := by have q := oh_ltI c_4; rw [(show (-16383 : Int32).toInt = -16383 by decide)] at q; exact q
    refine lv_iconst (v := nI 0) hx hb dX1_inRange_32 (by decide) ?_
    exact W.zret (v := nI 0) hx hb hr (by decide) (fun t ht hW => ⟨_, rfl, Or.inr ⟨fun q => by unfold oh_inR at q; omega, rfl⟩, ht⟩) (fun _ h => by cases h) dX1_inRange_33
  · have g_4 : (-16383) ≤ x.toInt := by have q := oh_nltI c_4; rw [(show (-16383 : Int32).toInt = -16383 by decide)] at q; exact q
    refine lv_iload_n hx hb dX1_inRange_7 rfl (lv_at hl 0 rfl) ?_
    refine lv_sipush (v := nI 16383) hx hb dX1_inRange_8 (by decide) ?_
    refine lv_icmp_gt (tgt := 32) hx hb dX1_inRange_11 (by decide) (fun c_11 => ?_) (fun c_11 => ?_)
    · have g_11 : (16383 : Int) < x.toInt := by have q := oh_ltI c_11; rw [nI_toInt (n := 16383) (by omega)] at q; exact q
      refine lv_iconst (v := nI 0) hx hb dX1_inRange_32 (by decide) ?_
      exact W.zret (v := nI 0) hx hb hr (by decide) (fun t ht hW => ⟨_, rfl, Or.inr ⟨fun q => by unfold oh_inR at q; omega, rfl⟩, ht⟩) (fun _ h => by cases h) dX1_inRange_33
    · have g_11 : x.toInt ≤ (16383 : Int) := by have q := oh_nltI c_11; rw [nI_toInt (n := 16383) (by omega)] at q; exact q
      refine lv_iload_n hx hb dX1_inRange_14 rfl (lv_at hl 1 rfl) ?_
      refine lv_sipush (v := -16383) hx hb dX1_inRange_15 (by decide) ?_
      refine lv_icmp_lt (tgt := 32) hx hb dX1_inRange_18 (by decide) (fun c_18 => ?_) (fun c_18 => ?_)
      · have g_18 : y.toInt < (-16383) := by have q := oh_ltI c_18; rw [(show (-16383 : Int32).toInt = -16383 by decide)] at q; exact q
        refine lv_iconst (v := nI 0) hx hb dX1_inRange_32 (by decide) ?_
        exact W.zret (v := nI 0) hx hb hr (by decide) (fun t ht hW => ⟨_, rfl, Or.inr ⟨fun q => by unfold oh_inR at q; omega, rfl⟩, ht⟩) (fun _ h => by cases h) dX1_inRange_33
      · have g_18 : (-16383) ≤ y.toInt := by have q := oh_nltI c_18; rw [(show (-16383 : Int32).toInt = -16383 by decide)] at q; exact q
        refine lv_iload_n hx hb dX1_inRange_21 rfl (lv_at hl 1 rfl) ?_
        refine lv_sipush (v := nI 16383) hx hb dX1_inRange_22 (by decide) ?_
        refine lv_icmp_gt (tgt := 32) hx hb dX1_inRange_25 (by decide) (fun c_25 => ?_) (fun c_25 => ?_)
        · have g_25 : (16383 : Int) < y.toInt := by have q := oh_ltI c_25; rw [nI_toInt (n := 16383) (by omega)] at q; exact q
          refine lv_iconst (v := nI 0) hx hb dX1_inRange_32 (by decide) ?_
          exact W.zret (v := nI 0) hx hb hr (by decide) (fun t ht hW => ⟨_, rfl, Or.inr ⟨fun q => by unfold oh_inR at q; omega, rfl⟩, ht⟩) (fun _ h => by cases h) dX1_inRange_33
        · have g_25 : y.toInt ≤ (16383 : Int) := by have q := oh_nltI c_25; rw [nI_toInt (n := 16383) (by omega)] at q; exact q
          refine lv_iconst (v := nI 1) hx hb dX1_inRange_28 (by decide) ?_
          refine lv_goto (tgt := 33) hx hb dX1_inRange_29 (by decide) ?_
          exact W.zret (v := nI 1) hx hb hr (by decide) (fun t ht hW => ⟨_, rfl, Or.inl ⟨⟨by omega, by omega, by omega, by omega⟩, rfl⟩, ht⟩) (fun _ h => by cases h) dX1_inRange_33

set_option maxHeartbeats 4000000 in
set_option maxRecDepth 100000 in
theorem k_X1_turn (l : Launch) (ax ay bx bY cx cy : Int32) (ha : oh_inR ax ay) (hb9 : oh_inR bx bY) (hc : oh_inR cx cy) : Met l yX1_turn wsX1_turn ({ frames := 0, cells := 0, slots := 0, locals := 0 }) (va_Pc [.long ax.toInt64, .long ay.toInt64, .long bx.toInt64, .long bY.toInt64, .long cx.toInt64, .long cy.toInt64] (fun _ => True)) (vp_Sl (fun r => r.toInt = oh_cp (ax.toInt, ay.toInt) (bx.toInt, bY.toInt) (cx.toInt, cy.toInt))) 0 0 (fun _ => False) := by
  refine Met.ofW (cc := cX1_turn) (maxL := 12) (ret := (some .long)) (by decide) rfl ?_
  intro p e s m args below meth c s₁ B hml hv
  obtain ⟨rfl, -⟩ := hv
  have hx := B.exec
  have hb := B.bytes
  have hr := B.returns
  have hts := atoms_spec (ws := wsX1_turn) B.pre
  have hown : s.vm.findClass RX1 = some m.cls := findClass_of_methodNamed B.named
  have hlocks := B.notSynchronized
  have hl := lv_entry ([.long ax.toInt64, .long ay.toInt64, .long bx.toInt64, .long bY.toInt64, .long cx.toInt64, .long cy.toInt64]) (n := 12) (Nat.le_of_ble_eq_true rfl)
  rw [lg_entry_eq]
  generalize (lg_sl ([.long ax.toInt64, .long ay.toInt64, .long bx.toInt64, .long bY.toInt64, .long cx.toInt64, .long cy.toInt64]) ++ List.replicate (12 - (lg_sl ([.long ax.toInt64, .long ay.toInt64, .long bx.toInt64, .long bY.toInt64, .long cx.toInt64, .long cy.toInt64])).length) Slot.unset).toArray = ls at hl ⊢
  have hl : lv_has ls 12 [(0, .long ax.toInt64), (2, .long ay.toInt64), (4, .long bx.toInt64), (6, .long bY.toInt64), (8, .long cx.toInt64), (10, .long cy.toInt64)] := hl
  refine lv_lload hx hb dX1_turn_0 (lv_at hl 2 rfl) ?_
  refine lv_lload_n hx hb dX1_turn_2 rfl (lv_at hl 0 rfl) ?_
  refine lv_lsub hx hb dX1_turn_3 ?_
  refine lv_lload hx hb dX1_turn_4 (lv_at hl 5 rfl) ?_
  refine lv_lload_n hx hb dX1_turn_6 rfl (lv_at hl 1 rfl) ?_
  refine lv_lsub hx hb dX1_turn_7 ?_
  refine lv_lmul hx hb dX1_turn_8 ?_
  refine lv_lload hx hb dX1_turn_9 (lv_at hl 3 rfl) ?_
  refine lv_lload_n hx hb dX1_turn_11 rfl (lv_at hl 1 rfl) ?_
  refine lv_lsub hx hb dX1_turn_12 ?_
  refine lv_lload hx hb dX1_turn_13 (lv_at hl 4 rfl) ?_
  refine lv_lload_n hx hb dX1_turn_15 rfl (lv_at hl 0 rfl) ?_
  refine lv_lsub hx hb dX1_turn_16 ?_
  refine lv_lmul hx hb dX1_turn_17 ?_
  refine lv_lsub hx hb dX1_turn_18 ?_
  exact W.lret (v := ((bx.toInt64 - ax.toInt64) * (cy.toInt64 - ay.toInt64)) - ((bY.toInt64 - ay.toInt64) * (cx.toInt64 - ax.toInt64))) hx hb hr (fun t ht hW => ⟨_, rfl, oh_t64i ha hb9 hc, ht⟩) (fun _ h => by cases h) dX1_turn_19

set_option maxHeartbeats 4000000 in
set_option maxRecDepth 100000 in
theorem k_X1_between (l : Launch) (v a b : Int32) : Met l yX1_between wsX1_between ({ frames := 0, cells := 0, slots := 0, locals := 0 }) (va_Pc [.int v, .int a, .int b] (fun _ => True)) (vp_Si (fun r => (oh_bt v.toInt a.toInt b.toInt ∧ r = 1) ∨ (¬ oh_bt v.toInt a.toInt b.toInt ∧ r = 0))) 0 0 (fun _ => False) := by
  refine Met.ofW (cc := cX1_between) (maxL := 3) (ret := (some .boolean)) (by decide) rfl ?_
  intro p e s m args below meth c s₁ B hml hv
  obtain ⟨rfl, -⟩ := hv
  have hx := B.exec
  have hb := B.bytes
  have hr := B.returns
  have hts := atoms_spec (ws := wsX1_between) B.pre
  have hown : s.vm.findClass RX1 = some m.cls := findClass_of_methodNamed B.named
  have hlocks := B.notSynchronized
  have hl := lv_entry ([.int v, .int a, .int b]) (n := 3) (Nat.le_of_ble_eq_true rfl)
  rw [lg_entry_eq]
  generalize (lg_sl ([.int v, .int a, .int b]) ++ List.replicate (3 - (lg_sl ([.int v, .int a, .int b])).length) Slot.unset).toArray = ls at hl ⊢
  have hl : lv_has ls 3 [(0, .int v), (1, .int a), (2, .int b)] := hl
  refine lv_iload_n hx hb dX1_between_0 rfl (lv_at hl 0 rfl) ?_
  refine lv_iload_n hx hb dX1_between_1 rfl (lv_at hl 1 rfl) ?_
  refine lv_icmp_lt (tgt := 10) hx hb dX1_between_2 (by decide) (fun c_2 => ?_) (fun c_2 => ?_)
  · have g_2 : v.toInt < a.toInt := oh_ltI c_2
    refine lv_iload_n hx hb dX1_between_10 rfl (lv_at hl 0 rfl) ?_
    refine lv_iload_n hx hb dX1_between_11 rfl (lv_at hl 2 rfl) ?_
    refine lv_icmp_lt (tgt := 24) hx hb dX1_between_12 (by decide) (fun c_12 => ?_) (fun c_12 => ?_)
    · have g_12 : v.toInt < b.toInt := oh_ltI c_12
      refine lv_iconst (v := nI 0) hx hb dX1_between_24 (by decide) ?_
      exact W.zret (v := nI 0) hx hb hr (by decide) (fun t ht hW => ⟨_, rfl, Or.inr ⟨fun q => by unfold oh_bt at q; omega, rfl⟩, ht⟩) (fun _ h => by cases h) dX1_between_25
    · have g_12 : b.toInt ≤ v.toInt := oh_nltI c_12
      refine lv_iload_n hx hb dX1_between_15 rfl (lv_at hl 0 rfl) ?_
      refine lv_iload_n hx hb dX1_between_16 rfl (lv_at hl 1 rfl) ?_
      refine lv_icmp_gt (tgt := 24) hx hb dX1_between_17 (by decide) (fun c_17 => ?_) (fun c_17 => ?_)
      · have g_17 : a.toInt < v.toInt := oh_ltI c_17
        refine lv_iconst (v := nI 0) hx hb dX1_between_24 (by decide) ?_
        exact W.zret (v := nI 0) hx hb hr (by decide) (fun t ht hW => ⟨_, rfl, Or.inr ⟨fun q => by unfold oh_bt at q; omega, rfl⟩, ht⟩) (fun _ h => by cases h) dX1_between_25
      · have g_17 : v.toInt ≤ a.toInt := oh_nltI c_17
        refine lv_iconst (v := nI 1) hx hb dX1_between_20 (by decide) ?_
        refine lv_goto (tgt := 25) hx hb dX1_between_21 (by decide) ?_
        exact W.zret (v := nI 1) hx hb hr (by decide) (fun t ht hW => ⟨_, rfl, Or.inl ⟨by unfold oh_bt; omega, rfl⟩, ht⟩) (fun _ h => by cases h) dX1_between_25
  · have g_2 : a.toInt ≤ v.toInt := oh_nltI c_2
    refine lv_iload_n hx hb dX1_between_5 rfl (lv_at hl 0 rfl) ?_
    refine lv_iload_n hx hb dX1_between_6 rfl (lv_at hl 2 rfl) ?_
    refine lv_icmp_le (tgt := 20) hx hb dX1_between_7 (by decide) (fun c_7 => ?_) (fun c_7 => ?_)
    · have g_7 : v.toInt ≤ b.toInt := oh_leI c_7
      refine lv_iconst (v := nI 1) hx hb dX1_between_20 (by decide) ?_
      refine lv_goto (tgt := 25) hx hb dX1_between_21 (by decide) ?_
      exact W.zret (v := nI 1) hx hb hr (by decide) (fun t ht hW => ⟨_, rfl, Or.inl ⟨by unfold oh_bt; omega, rfl⟩, ht⟩) (fun _ h => by cases h) dX1_between_25
    · have g_7 : b.toInt < v.toInt := oh_nleI c_7
      refine lv_iload_n hx hb dX1_between_10 rfl (lv_at hl 0 rfl) ?_
      refine lv_iload_n hx hb dX1_between_11 rfl (lv_at hl 2 rfl) ?_
      refine lv_icmp_lt (tgt := 24) hx hb dX1_between_12 (by decide) (fun c_12 => ?_) (fun c_12 => ?_)
      · have g_12 : v.toInt < b.toInt := oh_ltI c_12
        refine lv_iconst (v := nI 0) hx hb dX1_between_24 (by decide) ?_
        exact W.zret (v := nI 0) hx hb hr (by decide) (fun t ht hW => ⟨_, rfl, Or.inr ⟨fun q => by unfold oh_bt at q; omega, rfl⟩, ht⟩) (fun _ h => by cases h) dX1_between_25
      · have g_12 : b.toInt ≤ v.toInt := oh_nltI c_12
        refine lv_iload_n hx hb dX1_between_15 rfl (lv_at hl 0 rfl) ?_
        refine lv_iload_n hx hb dX1_between_16 rfl (lv_at hl 1 rfl) ?_
        refine lv_icmp_gt (tgt := 24) hx hb dX1_between_17 (by decide) (fun c_17 => ?_) (fun c_17 => ?_)
        · have g_17 : a.toInt < v.toInt := oh_ltI c_17
          refine lv_iconst (v := nI 0) hx hb dX1_between_24 (by decide) ?_
          exact W.zret (v := nI 0) hx hb hr (by decide) (fun t ht hW => ⟨_, rfl, Or.inr ⟨fun q => by unfold oh_bt at q; omega, rfl⟩, ht⟩) (fun _ h => by cases h) dX1_between_25
        · have g_17 : v.toInt ≤ a.toInt := oh_nltI c_17
          refine lv_iconst (v := nI 1) hx hb dX1_between_20 (by decide) ?_
          refine lv_goto (tgt := 25) hx hb dX1_between_21 (by decide) ?_
          exact W.zret (v := nI 1) hx hb hr (by decide) (fun t ht hW => ⟨_, rfl, Or.inl ⟨by unfold oh_bt; omega, rfl⟩, ht⟩) (fun _ h => by cases h) dX1_between_25

set_option maxHeartbeats 4000000 in
set_option maxRecDepth 100000 in
theorem k_X1_side (l : Launch) (dC : Nat → ClassId) (dI : Nat → Nat → Nat) (cI : ClassId) (h b1 b2 b3 b4 b5 N n : Nat) (pts : Int32) (xs ys px py rd : Nat → Int32) (i : Nat) (x y : Int32) (hN : N ≤ 64) (hn : n ≤ N) (hi : i < n) (hR : ∀ j, j < n → oh_inR (xs j) (ys j)) (hq : oh_inR x y) : Met l yX1_side wsX1_side ({ frames := 1, cells := 0, slots := 0, locals := 31 }) (va_Pc [.ref h, .int (nI i), .int x, .int y] (fun U => va_P (dC, dI) vwCl [(h, .inr (1, [.int (nI N), .int (nI n), .int pts, .ref b1, .ref b2, .ref b3, .ref b4, .ref b5])), (b1, .inl (cI, 66, .inl xs)), (b2, .inl (cI, 66, .inl ys)), (b3, .inl (cI, 66, .inl px)), (b4, .inl (cI, 66, .inl py)), (b5, .inl (cI, 67, .inl rd))] U.heap ∧ va_K (dC, dI) vwCl [(cI, .int)] U)) (vp_Sl (fun r => r.toInt = oh_sd n (oh_pt xs ys) (x.toInt, y.toInt) i)) 0 0 (fun _ => False) := by
  refine Met.ofW (cc := cX1_side) (maxL := 5) (ret := (some .long)) (by decide) rfl ?_
  intro p e s m args below meth c s₁ B hml hv
  obtain ⟨rfl, hP, hK⟩ := hv
  have hx := B.exec
  have hb := B.bytes
  have hr := B.returns
  have hts := atoms_spec (ws := wsX1_side) B.pre
  have hown : s.vm.findClass RX1 = some m.cls := findClass_of_methodNamed B.named
  have hlocks := B.notSynchronized
  have hin0 : ∀ w ∈ wsX10, w ∈ wsX1_side := fun w h => List.mem_cons_of_mem _ (List.mem_append_right _ h)
  have hl := lv_entry ([.ref h, .int (nI i), .int x, .int y]) (n := 5) (Nat.le_of_ble_eq_true rfl)
  rw [lg_entry_eq]
  generalize (lg_sl ([.ref h, .int (nI i), .int x, .int y]) ++ List.replicate (5 - (lg_sl ([.ref h, .int (nI i), .int x, .int y])).length) Slot.unset).toArray = ls at hl ⊢
  have hl : lv_has ls 5 [(0, .ref h), (1, .int (nI i)), (2, .int x), (3, .int y)] := hl
  refine lv_iload_n hx hb dX1_side_0 rfl (lv_at hl 1 rfl) ?_
  refine lv_iconst (v := nI 1) hx hb dX1_side_1 (by decide) ?_
  refine lv_iadd hx hb dX1_side_2 ?_
  rw [nI_add i 1]
  refine lv_aload_n hx hb dX1_side_3 rfl (lv_at hl 0 rfl) ?_
  refine va_get (D := (dC, dI)) (ci := 1) (v := .int (nI n)) (C := RX1) (T := TX1) (N := 8) hx hb hts hin0 hown hK hP 0 rfl rfl 1 (by decide) (hts (.fieldLink RX1 29 "OnlineHullModel" "corners" "I") (by decide +kernel)) (fun _ h9 => h9) rfl dX1_side_4 ?_
  refine lv_icmp_ne (tgt := 14) hx hb dX1_side_7 (by decide) (fun c_7 => ?_) (fun c_7 => ?_)
  · have g_7 : (i + 1) ≠ n := fun q => c_7 ((nI_eq (a := (i + 1)) (b := n) (by omega) (by omega)).mpr q)
    refine lv_iload_n hx hb dX1_side_14 rfl (lv_at hl 1 rfl) ?_
    refine lv_iconst (v := nI 1) hx hb dX1_side_15 (by decide) ?_
    refine lv_iadd hx hb dX1_side_16 ?_
    rw [nI_add i 1]
    refine lv_istore (lv' := [(4, .int (nI (i + 1))), (0, .ref h), (1, .int (nI i)), (2, .int x), (3, .int y)]) hx hb dX1_side_17 hl (by decide) rfl (fun ls hl => ?_)
    refine lv_aload_n hx hb dX1_side_19 rfl (lv_at hl 1 rfl) ?_
    refine va_get (D := (dC, dI)) (ci := 1) (v := .ref b1) (C := RX1) (T := TX1) (N := 8) hx hb hts hin0 hown hK hP 0 rfl rfl 3 (by decide) (hts (.fieldLink RX1 7 "OnlineHullModel" "xs" "[I") (by decide +kernel)) (fun _ h9 => h9) rfl dX1_side_20 ?_
    refine lv_iload_n hx hb dX1_side_23 rfl (lv_at hl 2 rfl) ?_
    refine oh_ald hx hb hK hP 1 0 rfl rfl (k := i) (by omega) (by omega) dX1_side_24 ?_
    refine lv_i2l (v := (xs i).toInt64) hx hb dX1_side_25 rfl ?_
    refine lv_aload_n hx hb dX1_side_26 rfl (lv_at hl 1 rfl) ?_
    refine va_get (D := (dC, dI)) (ci := 1) (v := .ref b2) (C := RX1) (T := TX1) (N := 8) hx hb hts hin0 hown hK hP 0 rfl rfl 4 (by decide) (hts (.fieldLink RX1 13 "OnlineHullModel" "ys" "[I") (by decide +kernel)) (fun _ h9 => h9) rfl dX1_side_27 ?_
    refine lv_iload_n hx hb dX1_side_30 rfl (lv_at hl 2 rfl) ?_
    refine oh_ald hx hb hK hP 2 0 rfl rfl (k := i) (by omega) (by omega) dX1_side_31 ?_
    refine lv_i2l (v := (ys i).toInt64) hx hb dX1_side_32 rfl ?_
    refine lv_aload_n hx hb dX1_side_33 rfl (lv_at hl 1 rfl) ?_
    refine va_get (D := (dC, dI)) (ci := 1) (v := .ref b1) (C := RX1) (T := TX1) (N := 8) hx hb hts hin0 hown hK hP 0 rfl rfl 3 (by decide) (hts (.fieldLink RX1 7 "OnlineHullModel" "xs" "[I") (by decide +kernel)) (fun _ h9 => h9) rfl dX1_side_34 ?_
    refine lv_iload hx hb dX1_side_37 (lv_at hl 0 rfl) ?_
    refine oh_ald hx hb hK hP 1 0 rfl rfl (k := (i + 1)) (by omega) (by omega) dX1_side_39 ?_
    refine lv_i2l (v := (xs ((i + 1))).toInt64) hx hb dX1_side_40 rfl ?_
    refine lv_aload_n hx hb dX1_side_41 rfl (lv_at hl 1 rfl) ?_
    refine va_get (D := (dC, dI)) (ci := 1) (v := .ref b2) (C := RX1) (T := TX1) (N := 8) hx hb hts hin0 hown hK hP 0 rfl rfl 4 (by decide) (hts (.fieldLink RX1 13 "OnlineHullModel" "ys" "[I") (by decide +kernel)) (fun _ h9 => h9) rfl dX1_side_42 ?_
    refine lv_iload hx hb dX1_side_45 (lv_at hl 0 rfl) ?_
    refine oh_ald hx hb hK hP 2 0 rfl rfl (k := (i + 1)) (by omega) (by omega) dX1_side_47 ?_
    refine lv_i2l (v := (ys ((i + 1))).toInt64) hx hb dX1_side_48 rfl ?_
    refine lv_iload_n hx hb dX1_side_49 rfl (lv_at hl 3 rfl) ?_
    refine lv_i2l (v := x.toInt64) hx hb dX1_side_50 rfl ?_
    refine lv_iload_n hx hb dX1_side_51 rfl (lv_at hl 4 rfl) ?_
    refine lv_i2l (v := y.toInt64) hx hb dX1_side_52 rfl ?_
    refine vp_callSl (va_Run.run (va_runS (As := [.long ((xs i).toInt64), .long ((ys i).toInt64), .long ((xs ((i + 1))).toInt64), .long ((ys ((i + 1))).toInt64), .long x.toInt64, .long y.toInt64]) (rest := []) ⟨hx, hb, hml, hown, hts⟩ (k_X1_turn l (xs i) (ys i) (xs ((i + 1))) (ys ((i + 1))) x y (hR i hi) (hR _ (by omega)) hq) (va_cwS 6 hts gX1_side_X1_turn rfl rfl rfl (by decide +kernel) ⟨Nat.le_of_ble_eq_true rfl, Nat.le_of_ble_eq_true rfl⟩) oh_pre0 rfl rfl hl.1 rfl (lv_room (Nat.le_of_ble_eq_true rfl)) dX1_side_53 ⟨Nat.zero_le _, Nat.zero_le _⟩)) (fun r_53 hr_53 => ?_)
    exact W.lret (v := r_53) hx hb hr (fun t ht hW => ⟨_, rfl, by first | exact hr_53.trans (oh_sdE1 (n := n) (i := i) (P := oh_pt xs ys) (q := (x.toInt, y.toInt)) (by omega)) | exact hr_53.trans (oh_sdE2 (n := n) (i := i) (P := oh_pt xs ys) (q := (x.toInt, y.toInt)) (by omega)), ht⟩) (fun _ h => by cases h) dX1_side_56
  · have g_7 : (i + 1) = n := (nI_eq (a := (i + 1)) (b := n) (by omega) (by omega)).mp c_7
    refine lv_iconst (v := nI 0) hx hb dX1_side_10 (by decide) ?_
    refine lv_goto (tgt := 17) hx hb dX1_side_11 (by decide) ?_
    refine lv_istore (lv' := [(4, .int (nI 0)), (0, .ref h), (1, .int (nI i)), (2, .int x), (3, .int y)]) hx hb dX1_side_17 hl (by decide) rfl (fun ls hl => ?_)
    refine lv_aload_n hx hb dX1_side_19 rfl (lv_at hl 1 rfl) ?_
    refine va_get (D := (dC, dI)) (ci := 1) (v := .ref b1) (C := RX1) (T := TX1) (N := 8) hx hb hts hin0 hown hK hP 0 rfl rfl 3 (by decide) (hts (.fieldLink RX1 7 "OnlineHullModel" "xs" "[I") (by decide +kernel)) (fun _ h9 => h9) rfl dX1_side_20 ?_
    refine lv_iload_n hx hb dX1_side_23 rfl (lv_at hl 2 rfl) ?_
    refine oh_ald hx hb hK hP 1 0 rfl rfl (k := i) (by omega) (by omega) dX1_side_24 ?_
    refine lv_i2l (v := (xs i).toInt64) hx hb dX1_side_25 rfl ?_
    refine lv_aload_n hx hb dX1_side_26 rfl (lv_at hl 1 rfl) ?_
    refine va_get (D := (dC, dI)) (ci := 1) (v := .ref b2) (C := RX1) (T := TX1) (N := 8) hx hb hts hin0 hown hK hP 0 rfl rfl 4 (by decide) (hts (.fieldLink RX1 13 "OnlineHullModel" "ys" "[I") (by decide +kernel)) (fun _ h9 => h9) rfl dX1_side_27 ?_
    refine lv_iload_n hx hb dX1_side_30 rfl (lv_at hl 2 rfl) ?_
    refine oh_ald hx hb hK hP 2 0 rfl rfl (k := i) (by omega) (by omega) dX1_side_31 ?_
    refine lv_i2l (v := (ys i).toInt64) hx hb dX1_side_32 rfl ?_
    refine lv_aload_n hx hb dX1_side_33 rfl (lv_at hl 1 rfl) ?_
    refine va_get (D := (dC, dI)) (ci := 1) (v := .ref b1) (C := RX1) (T := TX1) (N := 8) hx hb hts hin0 hown hK hP 0 rfl rfl 3 (by decide) (hts (.fieldLink RX1 7 "OnlineHullModel" "xs" "[I") (by decide +kernel)) (fun _ h9 => h9) rfl dX1_side_34 ?_
    refine lv_iload hx hb dX1_side_37 (lv_at hl 0 rfl) ?_
    refine oh_ald hx hb hK hP 1 0 rfl rfl (k := 0) (by omega) (by omega) dX1_side_39 ?_
    refine lv_i2l (v := (xs 0).toInt64) hx hb dX1_side_40 rfl ?_
    refine lv_aload_n hx hb dX1_side_41 rfl (lv_at hl 1 rfl) ?_
    refine va_get (D := (dC, dI)) (ci := 1) (v := .ref b2) (C := RX1) (T := TX1) (N := 8) hx hb hts hin0 hown hK hP 0 rfl rfl 4 (by decide) (hts (.fieldLink RX1 13 "OnlineHullModel" "ys" "[I") (by decide +kernel)) (fun _ h9 => h9) rfl dX1_side_42 ?_
    refine lv_iload hx hb dX1_side_45 (lv_at hl 0 rfl) ?_
    refine oh_ald hx hb hK hP 2 0 rfl rfl (k := 0) (by omega) (by omega) dX1_side_47 ?_
    refine lv_i2l (v := (ys 0).toInt64) hx hb dX1_side_48 rfl ?_
    refine lv_iload_n hx hb dX1_side_49 rfl (lv_at hl 3 rfl) ?_
    refine lv_i2l (v := x.toInt64) hx hb dX1_side_50 rfl ?_
    refine lv_iload_n hx hb dX1_side_51 rfl (lv_at hl 4 rfl) ?_
    refine lv_i2l (v := y.toInt64) hx hb dX1_side_52 rfl ?_
    refine vp_callSl (va_Run.run (va_runS (As := [.long ((xs i).toInt64), .long ((ys i).toInt64), .long ((xs 0).toInt64), .long ((ys 0).toInt64), .long x.toInt64, .long y.toInt64]) (rest := []) ⟨hx, hb, hml, hown, hts⟩ (k_X1_turn l (xs i) (ys i) (xs 0) (ys 0) x y (hR i hi) (hR _ (by omega)) hq) (va_cwS 6 hts gX1_side_X1_turn rfl rfl rfl (by decide +kernel) ⟨Nat.le_of_ble_eq_true rfl, Nat.le_of_ble_eq_true rfl⟩) oh_pre0 rfl rfl hl.1 rfl (lv_room (Nat.le_of_ble_eq_true rfl)) dX1_side_53 ⟨Nat.zero_le _, Nat.zero_le _⟩)) (fun r_53 hr_53 => ?_)
    exact W.lret (v := r_53) hx hb hr (fun t ht hW => ⟨_, rfl, by first | exact hr_53.trans (oh_sdE1 (n := n) (i := i) (P := oh_pt xs ys) (q := (x.toInt, y.toInt)) (by omega)) | exact hr_53.trans (oh_sdE2 (n := n) (i := i) (P := oh_pt xs ys) (q := (x.toInt, y.toInt)) (by omega)), ht⟩) (fun _ h => by cases h) dX1_side_56

set_option maxHeartbeats 4000000 in
set_option maxRecDepth 100000 in
theorem k_X1_inside (l : Launch) (dC : Nat → ClassId) (dI : Nat → Nat → Nat) (cI : ClassId) (h b1 b2 b3 b4 b5 N n : Nat) (pts : Int32) (xs ys px py rd : Nat → Int32) (x y : Int32) (hN : N ≤ 64) (hn : n ≤ N) (hR : ∀ j, j < n → oh_inR (xs j) (ys j)) (hh : oh_hull n (oh_pt xs ys)) : Met l yX1_inside wsX1_inside ({ frames := 2, cells := 0, slots := 0, locals := 55 }) (va_Pc [.ref h, .int x, .int y] (fun U => va_P (dC, dI) vwCl [(h, .inr (1, [.int (nI N), .int (nI n), .int pts, .ref b1, .ref b2, .ref b3, .ref b4, .ref b5])), (b1, .inl (cI, 66, .inl xs)), (b2, .inl (cI, 66, .inl ys)), (b3, .inl (cI, 66, .inl px)), (b4, .inl (cI, 66, .inl py)), (b5, .inl (cI, 67, .inl rd))] U.heap ∧ va_K (dC, dI) vwCl [(cI, .int)] U)) (vp_Si (fun r => (oh_inR x y ∧ oh_pl3 n (oh_pt xs ys) (x.toInt, y.toInt) r) ∨ (¬ oh_inR x y ∧ r = 0))) 0 0 (fun _ => False) := by
  refine Met.ofW (cc := cX1_inside) (maxL := 7) (ret := (some .int)) (by decide) rfl ?_
  intro p e s m args below meth c s₁ B hml hv
  obtain ⟨rfl, hP, hK⟩ := hv
  have hx := B.exec
  have hb := B.bytes
  have hr := B.returns
  have hts := atoms_spec (ws := wsX1_inside) B.pre
  have hown : s.vm.findClass RX1 = some m.cls := findClass_of_methodNamed B.named
  have hlocks := B.notSynchronized
  have hin0 : ∀ w ∈ wsX10, w ∈ wsX1_inside := fun w h => List.mem_cons_of_mem _ (List.mem_append_right _ h)
  have hl := lv_entry ([.ref h, .int x, .int y]) (n := 7) (Nat.le_of_ble_eq_true rfl)
  rw [lg_entry_eq]
  generalize (lg_sl ([.ref h, .int x, .int y]) ++ List.replicate (7 - (lg_sl ([.ref h, .int x, .int y])).length) Slot.unset).toArray = ls at hl ⊢
  have hl : lv_has ls 7 [(0, .ref h), (1, .int x), (2, .int y)] := hl
  refine lv_aload_n hx hb dX1_inside_0 rfl (lv_at hl 0 rfl) ?_
  refine va_get (D := (dC, dI)) (ci := 1) (v := .int (nI n)) (C := RX1) (T := TX1) (N := 8) hx hb hts hin0 hown hK hP 0 rfl rfl 1 (by decide) (hts (.fieldLink RX1 29 "OnlineHullModel" "corners" "I") (by decide +kernel)) (fun _ h9 => h9) rfl dX1_inside_1 ?_
  refine lv_if_eq (tgt := 15) hx hb dX1_inside_4 (by decide) (fun c_4 => ?_) (fun c_4 => ?_)
  · have g_4 : n = 0 := (nI_eq (a := n) (b := 0) (by omega) (by omega)).mp (c_4.trans nI_0.symm)
    refine lv_iconst (v := nI 0) hx hb dX1_inside_15 (by decide) ?_
    exact W.iret (v := nI 0) hx hb hr (fun t ht hW => ⟨_, rfl, by by_cases w : oh_inR x y; exact Or.inl ⟨w, Or.inl ⟨by first | omega | exact absurd w b_9, rfl⟩⟩; exact Or.inr ⟨w, rfl⟩, ht⟩) (fun _ h => by cases h) dX1_inside_16
  · have g_4 : n ≠ 0 := fun q => (fun q => c_4 (q.trans nI_0)) ((nI_eq (a := n) (b := 0) (by omega) (by omega)).mpr q)
    refine lv_iload_n hx hb dX1_inside_7 rfl (lv_at hl 1 rfl) ?_
    refine lv_iload_n hx hb dX1_inside_8 rfl (lv_at hl 2 rfl) ?_
    refine vp_callSi (va_Run.run (va_runS (As := [.int x, .int y]) (rest := []) ⟨hx, hb, hml, hown, hts⟩ (k_X1_inRange l x y) (va_cwS 2 hts gX1_inside_X1_inRange rfl rfl rfl (by decide +kernel) ⟨Nat.le_of_ble_eq_true rfl, Nat.le_of_ble_eq_true rfl⟩) oh_pre0 rfl rfl hl.1 rfl (lv_room (Nat.le_of_ble_eq_true rfl)) dX1_inside_9 ⟨Nat.zero_le _, Nat.zero_le _⟩)) (fun r_9 hr_9 => ?_)
    rcases hr_9 with ⟨b_9, hr_9⟩ | ⟨b_9, hr_9⟩ <;> subst hr_9
    · refine lv_if_ne (tgt := 17) hx hb dX1_inside_12 (by decide) (fun _ => ?_) (fun q => absurd q (by decide))
      refine lv_aload_n hx hb dX1_inside_17 rfl (lv_at hl 0 rfl) ?_
      refine va_get (D := (dC, dI)) (ci := 1) (v := .int (nI n)) (C := RX1) (T := TX1) (N := 8) hx hb hts hin0 hown hK hP 0 rfl rfl 1 (by decide) (hts (.fieldLink RX1 29 "OnlineHullModel" "corners" "I") (by decide +kernel)) (fun _ h9 => h9) rfl dX1_inside_18 ?_
      refine lv_iconst (v := nI 3) hx hb dX1_inside_21 (by decide) ?_
      refine lv_icmp_ge (tgt := 128) hx hb dX1_inside_22 (by decide) (fun c_22 => ?_) (fun c_22 => ?_)
      · have g_22 : 3 ≤ n := (nI_leI (a := 3) (b := n) (by omega) (by omega)).mp c_22
        refine lv_iconst (v := nI 0) hx hb dX1_inside_128 (by decide) ?_
        refine lv_istore_n (lv' := [(3, .int (nI 0)), (0, .ref h), (1, .int x), (2, .int y)]) hx hb dX1_inside_129 rfl hl (by decide) rfl (fun ls hl => ?_)
        refine lv_iconst (v := nI 0) hx hb dX1_inside_130 (by decide) ?_
        refine lv_istore (lv' := [(4, .int (nI 0)), (3, .int (nI 0)), (0, .ref h), (1, .int x), (2, .int y)]) hx hb dX1_inside_131 hl (by decide) rfl (fun ls hl => ?_)
        have loop : ∀ (k_loop : Nat) (i : Nat) (w : Nat), (i ≤ n) → (n + 1 ≤ i + k_loop) → (w ≤ 1) → (∀ j, j < i → 0 ≤ oh_sd n (oh_pt xs ys) (x.toInt, y.toInt) j) → (w = 0 → ∀ j, j < i → 0 < oh_sd n (oh_pt xs ys) (x.toInt, y.toInt) j) → (w = 1 → ∃ j, j < i ∧ oh_sd n (oh_pt xs ys) (x.toInt, y.toInt) j = 0) → ∀ (ls : Array Slot), lv_has ls 7 [(0, .ref h), (1, .int x), (2, .int y), (3, .int (nI w)), (4, .int (nI i))] → W p l e (headSpec wsX1_inside ({ frames := 2, cells := 0, slots := 0, locals := 55 })).room s m ([.ref h, .int x, .int y] : List Value).toArray below meth c s.heap [] 0 0 (MQ below (vp_Si (fun r => (oh_inR x y ∧ oh_pl3 n (oh_pt xs ys) (x.toInt, y.toInt) r) ∨ (¬ oh_inR x y ∧ r = 0))) ([.ref h, .int x, .int y] : List Value).toArray s 0 0 (fun _ => False)) (F0 m 133 ls []) := by
          clear hl
          intro k_loop
          induction k_loop with
          | zero =>
            intro i w hi hk hw hI1 hI2 hI3
            exfalso; omega
          | succ k_loop ih_loop =>
            intro i w hi hk hw hI1 hI2 hI3 ls hl
            refine lv_iload hx hb dX1_inside_133 (lv_at hl 4 rfl) ?_
            refine lv_aload_n hx hb dX1_inside_135 rfl (lv_at hl 0 rfl) ?_
            refine va_get (D := (dC, dI)) (ci := 1) (v := .int (nI n)) (C := RX1) (T := TX1) (N := 8) hx hb hts hin0 hown hK hP 0 rfl rfl 1 (by decide) (hts (.fieldLink RX1 29 "OnlineHullModel" "corners" "I") (by decide +kernel)) (fun _ h9 => h9) rfl dX1_inside_136 ?_
            refine lv_icmp_ge (tgt := 184) hx hb dX1_inside_139 (by decide) (fun c_139 => ?_) (fun c_139 => ?_)
            · have g_139 : n ≤ i := (nI_leI (a := n) (b := i) (by omega) (by omega)).mp c_139
              refine lv_iload_n hx hb dX1_inside_184 rfl (lv_at hl 3 rfl) ?_
              refine lv_if_eq (tgt := 192) hx hb dX1_inside_185 (by decide) (fun c_185 => ?_) (fun c_185 => ?_)
              · have g_185 : w = 0 := (nI_eq (a := w) (b := 0) (by omega) (by omega)).mp (c_185.trans nI_0.symm)
                refine lv_iconst (v := nI 2) hx hb dX1_inside_192 (by decide) ?_
                exact W.iret (v := nI 2) hx hb hr (fun t ht hW => ⟨_, rfl, Or.inl ⟨b_9, Or.inr (Or.inr ⟨by omega, Or.inr (Or.inr ⟨rfl, fun j hj => hI2 (by omega) j (by omega)⟩)⟩)⟩, ht⟩) (fun _ h => by cases h) dX1_inside_193
              · have g_185 : w ≠ 0 := fun q => (fun q => c_185 (q.trans nI_0)) ((nI_eq (a := w) (b := 0) (by omega) (by omega)).mpr q)
                refine lv_iconst (v := nI 1) hx hb dX1_inside_188 (by decide) ?_
                refine lv_goto (tgt := 193) hx hb dX1_inside_189 (by decide) ?_
                exact W.iret (v := nI 1) hx hb hr (fun t ht hW => ⟨_, rfl, Or.inl ⟨b_9, Or.inr (Or.inr ⟨by omega, Or.inr (Or.inl ⟨rfl, fun j hj => hI1 j (by omega), by obtain ⟨j, h1, h2⟩ := hI3 (by omega); exact ⟨j, by omega, h2⟩⟩)⟩)⟩, ht⟩) (fun _ h => by cases h) dX1_inside_193
            · have g_139 : ¬ n ≤ i := fun q => c_139 ((nI_leI (a := n) (b := i) (by omega) (by omega)).mpr q)
              refine lv_aload_n hx hb dX1_inside_142 rfl (lv_at hl 0 rfl) ?_
              refine lv_iload hx hb dX1_inside_143 (lv_at hl 4 rfl) ?_
              refine lv_iload_n hx hb dX1_inside_145 rfl (lv_at hl 1 rfl) ?_
              refine lv_iload_n hx hb dX1_inside_146 rfl (lv_at hl 2 rfl) ?_
              refine vp_callSl (va_Run.run (va_runV (As := [.int (nI i), .int x, .int y]) (rest := []) ⟨hx, hb, hml, hown, hts⟩ (k_X1_side l dC dI cI h b1 b2 b3 b4 b5 N n pts xs ys px py rd i x y hN hn (by omega) hR b_9) (cwV 3 hts gX1_inside_X1_side rfl rfl rfl (by decide +kernel) ⟨Nat.le_of_ble_eq_true rfl, Nat.le_of_ble_eq_true rfl⟩) (oh_pre (ci := 1) (q0 := 0) hK hP rfl rfl) rfl rfl hl.1 rfl (lv_room (Nat.le_of_ble_eq_true rfl)) dX1_inside_147 ⟨Nat.zero_le _, Nat.zero_le _⟩)) (fun r_147 hr_147 => ?_)
              refine lv_lstore (lv' := [(5, .long r_147), (0, .ref h), (1, .int x), (2, .int y), (3, .int (nI w)), (4, .int (nI i))]) hx hb dX1_inside_150 hl (by decide) rfl (fun ls hl => ?_)
              refine lv_lload hx hb dX1_inside_152 (lv_at hl 0 rfl) ?_
              refine lv_lconst (v := 0) hx hb dX1_inside_154 (by decide) ?_
              refine W.lcmp hx hb dX1_inside_155 ?_
              refine lv_if_ge (tgt := 161) hx hb dX1_inside_156 (by decide) (fun c_156 => ?_) (fun c_156 => ?_)
              · have g_156 : r_147.toInt ≥ 0 := oh_lc_ge0 c_156
                refine lv_iload_n hx hb dX1_inside_161 rfl (lv_at hl 4 rfl) ?_
                refine lv_if_ne (tgt := 172) hx hb dX1_inside_162 (by decide) (fun c_162 => ?_) (fun c_162 => ?_)
                · have g_162 : w ≠ 0 := fun q => (fun q => c_162 (q.trans nI_0)) ((nI_eq (a := w) (b := 0) (by omega) (by omega)).mpr q)
                  refine lv_iconst (v := nI 1) hx hb dX1_inside_172 (by decide) ?_
                  refine lv_goto (tgt := 177) hx hb dX1_inside_173 (by decide) ?_
                  refine lv_istore_n (lv' := [(3, .int (nI 1)), (5, .long r_147), (0, .ref h), (1, .int x), (2, .int y), (4, .int (nI i))]) hx hb dX1_inside_177 rfl hl (by decide) rfl (fun ls hl => ?_)
                  refine lv_iinc (v := nI (i + 1)) (lv' := [(4, .int (nI (i + 1))), (3, .int (nI 1)), (5, .long r_147), (0, .ref h), (1, .int x), (2, .int y)]) hx hb dX1_inside_178 hl (k := 5) rfl (nI_1 i) (by decide) rfl (fun ls hl => ?_)
                  refine lv_goto (tgt := 133) hx hb dX1_inside_181 (by decide) ?_
                  exact ih_loop (i + 1) 1 (by omega) (by omega) (by omega) (lt_s hI1 (by omega)) (fun e => absurd e (by omega)) (fun _ => by by_cases w0 : w = 1; obtain ⟨j, h1, h2⟩ := hI3 w0; exact ⟨j, by omega, h2⟩; exact ⟨i, by omega, by omega⟩) ls (lv_sub hl [3, 4, 5, 1, 0] rfl)
                · have g_162 : w = 0 := (nI_eq (a := w) (b := 0) (by omega) (by omega)).mp (c_162.trans nI_0.symm)
                  refine lv_lload hx hb dX1_inside_165 (lv_at hl 0 rfl) ?_
                  refine lv_lconst (v := 0) hx hb dX1_inside_167 (by decide) ?_
                  refine W.lcmp hx hb dX1_inside_168 ?_
                  refine lv_if_ne (tgt := 176) hx hb dX1_inside_169 (by decide) (fun c_169 => ?_) (fun c_169 => ?_)
                  · have g_169 : r_147.toInt ≠ 0 := oh_lc_ne0 c_169
                    refine lv_iconst (v := nI 0) hx hb dX1_inside_176 (by decide) ?_
                    refine lv_istore_n (lv' := [(3, .int (nI 0)), (5, .long r_147), (0, .ref h), (1, .int x), (2, .int y), (4, .int (nI i))]) hx hb dX1_inside_177 rfl hl (by decide) rfl (fun ls hl => ?_)
                    refine lv_iinc (v := nI (i + 1)) (lv' := [(4, .int (nI (i + 1))), (3, .int (nI 0)), (5, .long r_147), (0, .ref h), (1, .int x), (2, .int y)]) hx hb dX1_inside_178 hl (k := 5) rfl (nI_1 i) (by decide) rfl (fun ls hl => ?_)
                    refine lv_goto (tgt := 133) hx hb dX1_inside_181 (by decide) ?_
                    exact ih_loop (i + 1) 0 (by omega) (by omega) (by omega) (lt_s hI1 (by omega)) (fun _ => lt_s (hI2 (by omega)) (by omega)) (fun e => absurd e (by omega)) ls (lv_sub hl [3, 4, 5, 1, 0] rfl)
                  · have g_169 : r_147.toInt = 0 := oh_lc_nne0 c_169
                    refine lv_iconst (v := nI 1) hx hb dX1_inside_172 (by decide) ?_
                    refine lv_goto (tgt := 177) hx hb dX1_inside_173 (by decide) ?_
                    refine lv_istore_n (lv' := [(3, .int (nI 1)), (5, .long r_147), (0, .ref h), (1, .int x), (2, .int y), (4, .int (nI i))]) hx hb dX1_inside_177 rfl hl (by decide) rfl (fun ls hl => ?_)
                    refine lv_iinc (v := nI (i + 1)) (lv' := [(4, .int (nI (i + 1))), (3, .int (nI 1)), (5, .long r_147), (0, .ref h), (1, .int x), (2, .int y)]) hx hb dX1_inside_178 hl (k := 5) rfl (nI_1 i) (by decide) rfl (fun ls hl => ?_)
                    refine lv_goto (tgt := 133) hx hb dX1_inside_181 (by decide) ?_
                    exact ih_loop (i + 1) 1 (by omega) (by omega) (by omega) (lt_s hI1 (by omega)) (fun e => absurd e (by omega)) (fun _ => by by_cases w0 : w = 1; obtain ⟨j, h1, h2⟩ := hI3 w0; exact ⟨j, by omega, h2⟩; exact ⟨i, by omega, by omega⟩) ls (lv_sub hl [3, 4, 5, 1, 0] rfl)
              · have g_156 : r_147.toInt < 0 := oh_lc_nge0 c_156
                refine lv_iconst (v := nI 0) hx hb dX1_inside_159 (by decide) ?_
                exact W.iret (v := nI 0) hx hb hr (fun t ht hW => ⟨_, rfl, Or.inl ⟨b_9, Or.inr (Or.inr ⟨by omega, Or.inl ⟨rfl, i, by omega, by omega⟩⟩)⟩, ht⟩) (fun _ h => by cases h) dX1_inside_160
        exact loop (n + 1) 0 0 (by omega) (by omega) (by omega) (fun j hj => by omega) (fun _ j hj => by omega) (fun e => absurd e (by omega)) ls (lv_sub hl [2, 3, 4, 1, 0] rfl)
      · have g_22 : ¬ 3 ≤ n := fun q => c_22 ((nI_leI (a := 3) (b := n) (by omega) (by omega)).mpr q)
        refine lv_aload_n hx hb dX1_inside_25 rfl (lv_at hl 0 rfl) ?_
        refine va_get (D := (dC, dI)) (ci := 1) (v := .int (nI n)) (C := RX1) (T := TX1) (N := 8) hx hb hts hin0 hown hK hP 0 rfl rfl 1 (by decide) (hts (.fieldLink RX1 29 "OnlineHullModel" "corners" "I") (by decide +kernel)) (fun _ h9 => h9) rfl dX1_inside_26 ?_
        refine lv_iconst (v := nI 1) hx hb dX1_inside_29 (by decide) ?_
        refine lv_isub hx hb dX1_inside_30 ?_
        rw [pk_sub (a := n) (b := 1) (by omega)]
        refine lv_istore_n (lv' := [(3, .int (nI (n - 1))), (0, .ref h), (1, .int x), (2, .int y)]) hx hb dX1_inside_31 rfl hl (by decide) rfl (fun ls hl => ?_)
        refine lv_aload_n hx hb dX1_inside_32 rfl (lv_at hl 1 rfl) ?_
        refine va_get (D := (dC, dI)) (ci := 1) (v := .ref b1) (C := RX1) (T := TX1) (N := 8) hx hb hts hin0 hown hK hP 0 rfl rfl 3 (by decide) (hts (.fieldLink RX1 7 "OnlineHullModel" "xs" "[I") (by decide +kernel)) (fun _ h9 => h9) rfl dX1_inside_33 ?_
        refine lv_iconst (v := nI 0) hx hb dX1_inside_36 (by decide) ?_
        refine oh_ald hx hb hK hP 1 0 rfl rfl (k := 0) (by omega) (by omega) dX1_inside_37 ?_
        refine lv_i2l (v := (xs 0).toInt64) hx hb dX1_inside_38 rfl ?_
        refine lv_aload_n hx hb dX1_inside_39 rfl (lv_at hl 1 rfl) ?_
        refine va_get (D := (dC, dI)) (ci := 1) (v := .ref b2) (C := RX1) (T := TX1) (N := 8) hx hb hts hin0 hown hK hP 0 rfl rfl 4 (by decide) (hts (.fieldLink RX1 13 "OnlineHullModel" "ys" "[I") (by decide +kernel)) (fun _ h9 => h9) rfl dX1_inside_40 ?_
        refine lv_iconst (v := nI 0) hx hb dX1_inside_43 (by decide) ?_
        refine oh_ald hx hb hK hP 2 0 rfl rfl (k := 0) (by omega) (by omega) dX1_inside_44 ?_
        refine lv_i2l (v := (ys 0).toInt64) hx hb dX1_inside_45 rfl ?_
        refine lv_aload_n hx hb dX1_inside_46 rfl (lv_at hl 1 rfl) ?_
        refine va_get (D := (dC, dI)) (ci := 1) (v := .ref b1) (C := RX1) (T := TX1) (N := 8) hx hb hts hin0 hown hK hP 0 rfl rfl 3 (by decide) (hts (.fieldLink RX1 7 "OnlineHullModel" "xs" "[I") (by decide +kernel)) (fun _ h9 => h9) rfl dX1_inside_47 ?_
        refine lv_iload_n hx hb dX1_inside_50 rfl (lv_at hl 0 rfl) ?_
        refine oh_ald hx hb hK hP 1 0 rfl rfl (k := (n - 1)) (by omega) (by omega) dX1_inside_51 ?_
        refine lv_i2l (v := (xs ((n - 1))).toInt64) hx hb dX1_inside_52 rfl ?_
        refine lv_aload_n hx hb dX1_inside_53 rfl (lv_at hl 1 rfl) ?_
        refine va_get (D := (dC, dI)) (ci := 1) (v := .ref b2) (C := RX1) (T := TX1) (N := 8) hx hb hts hin0 hown hK hP 0 rfl rfl 4 (by decide) (hts (.fieldLink RX1 13 "OnlineHullModel" "ys" "[I") (by decide +kernel)) (fun _ h9 => h9) rfl dX1_inside_54 ?_
        refine lv_iload_n hx hb dX1_inside_57 rfl (lv_at hl 0 rfl) ?_
        refine oh_ald hx hb hK hP 2 0 rfl rfl (k := (n - 1)) (by omega) (by omega) dX1_inside_58 ?_
        refine lv_i2l (v := (ys ((n - 1))).toInt64) hx hb dX1_inside_59 rfl ?_
        refine lv_iload_n hx hb dX1_inside_60 rfl (lv_at hl 2 rfl) ?_
        refine lv_i2l (v := x.toInt64) hx hb dX1_inside_61 rfl ?_
        refine lv_iload_n hx hb dX1_inside_62 rfl (lv_at hl 3 rfl) ?_
        refine lv_i2l (v := y.toInt64) hx hb dX1_inside_63 rfl ?_
        refine vp_callSl (va_Run.run (va_runS (As := [.long ((xs 0).toInt64), .long ((ys 0).toInt64), .long ((xs ((n - 1))).toInt64), .long ((ys ((n - 1))).toInt64), .long x.toInt64, .long y.toInt64]) (rest := []) ⟨hx, hb, hml, hown, hts⟩ (k_X1_turn l (xs 0) (ys 0) (xs ((n - 1))) (ys ((n - 1))) x y (hR 0 (by omega)) (hR (n - 1) (by omega)) b_9) (va_cwS 6 hts gX1_inside_X1_turn rfl rfl rfl (by decide +kernel) ⟨Nat.le_of_ble_eq_true rfl, Nat.le_of_ble_eq_true rfl⟩) oh_pre0 rfl rfl hl.1 rfl (lv_room (Nat.le_of_ble_eq_true rfl)) dX1_inside_64 ⟨Nat.zero_le _, Nat.zero_le _⟩)) (fun r_64 hr_64 => ?_)
        refine lv_lconst (v := 0) hx hb dX1_inside_67 (by decide) ?_
        refine W.lcmp hx hb dX1_inside_68 ?_
        refine lv_if_ne (tgt := 114) hx hb dX1_inside_69 (by decide) (fun c_69 => ?_) (fun c_69 => ?_)
        · have g_69 : r_64.toInt ≠ 0 := oh_lc_ne0 c_69
          refine lv_iconst (v := nI 0) hx hb dX1_inside_114 (by decide) ?_
          refine lv_istore (lv' := [(4, .int (nI 0)), (3, .int (nI (n - 1))), (0, .ref h), (1, .int x), (2, .int y)]) hx hb dX1_inside_115 hl (by decide) rfl (fun ls hl => ?_)
          refine lv_iload hx hb dX1_inside_117 (lv_at hl 0 rfl) ?_
          refine lv_if_eq (tgt := 126) hx hb dX1_inside_119 (by decide) (fun _ => ?_) (fun q => absurd q (by decide))
          refine lv_iconst (v := nI 0) hx hb dX1_inside_126 (by decide) ?_
          exact W.iret (v := nI 0) hx hb hr (fun t ht hW => ⟨_, rfl, Or.inl ⟨b_9, Or.inr (Or.inl ⟨by omega, by omega, Or.inr ⟨rfl, fun w => by have w2 := (oh_on_bt hh (by omega) (by omega)).mp w; first | exact b_85 w2.2.1 | exact b_104 w2.2.2 | exact g_69 (hr_64.trans w2.1)⟩⟩)⟩, ht⟩) (fun _ h => by cases h) dX1_inside_127
        · have g_69 : r_64.toInt = 0 := oh_lc_nne0 c_69
          refine lv_iload_n hx hb dX1_inside_72 rfl (lv_at hl 2 rfl) ?_
          refine lv_aload_n hx hb dX1_inside_73 rfl (lv_at hl 1 rfl) ?_
          refine va_get (D := (dC, dI)) (ci := 1) (v := .ref b1) (C := RX1) (T := TX1) (N := 8) hx hb hts hin0 hown hK hP 0 rfl rfl 3 (by decide) (hts (.fieldLink RX1 7 "OnlineHullModel" "xs" "[I") (by decide +kernel)) (fun _ h9 => h9) rfl dX1_inside_74 ?_
          refine lv_iconst (v := nI 0) hx hb dX1_inside_77 (by decide) ?_
          refine oh_ald hx hb hK hP 1 0 rfl rfl (k := 0) (by omega) (by omega) dX1_inside_78 ?_
          refine lv_aload_n hx hb dX1_inside_79 rfl (lv_at hl 1 rfl) ?_
          refine va_get (D := (dC, dI)) (ci := 1) (v := .ref b1) (C := RX1) (T := TX1) (N := 8) hx hb hts hin0 hown hK hP 0 rfl rfl 3 (by decide) (hts (.fieldLink RX1 7 "OnlineHullModel" "xs" "[I") (by decide +kernel)) (fun _ h9 => h9) rfl dX1_inside_80 ?_
          refine lv_iload_n hx hb dX1_inside_83 rfl (lv_at hl 0 rfl) ?_
          refine oh_ald hx hb hK hP 1 0 rfl rfl (k := (n - 1)) (by omega) (by omega) dX1_inside_84 ?_
          refine vp_callSi (va_Run.run (va_runS (As := [.int x, .int (xs 0), .int (xs ((n - 1)))]) (rest := []) ⟨hx, hb, hml, hown, hts⟩ (k_X1_between l x (xs 0) (xs ((n - 1)))) (va_cwS 3 hts gX1_inside_X1_between rfl rfl rfl (by decide +kernel) ⟨Nat.le_of_ble_eq_true rfl, Nat.le_of_ble_eq_true rfl⟩) oh_pre0 rfl rfl hl.1 rfl (lv_room (Nat.le_of_ble_eq_true rfl)) dX1_inside_85 ⟨Nat.zero_le _, Nat.zero_le _⟩)) (fun r_85 hr_85 => ?_)
          rcases hr_85 with ⟨b_85, hr_85⟩ | ⟨b_85, hr_85⟩ <;> subst hr_85
          · refine lv_if_eq (tgt := 114) hx hb dX1_inside_88 (by decide) (fun q => absurd q (by decide)) (fun _ => ?_)
            refine lv_iload_n hx hb dX1_inside_91 rfl (lv_at hl 3 rfl) ?_
            refine lv_aload_n hx hb dX1_inside_92 rfl (lv_at hl 1 rfl) ?_
            refine va_get (D := (dC, dI)) (ci := 1) (v := .ref b2) (C := RX1) (T := TX1) (N := 8) hx hb hts hin0 hown hK hP 0 rfl rfl 4 (by decide) (hts (.fieldLink RX1 13 "OnlineHullModel" "ys" "[I") (by decide +kernel)) (fun _ h9 => h9) rfl dX1_inside_93 ?_
            refine lv_iconst (v := nI 0) hx hb dX1_inside_96 (by decide) ?_
            refine oh_ald hx hb hK hP 2 0 rfl rfl (k := 0) (by omega) (by omega) dX1_inside_97 ?_
            refine lv_aload_n hx hb dX1_inside_98 rfl (lv_at hl 1 rfl) ?_
            refine va_get (D := (dC, dI)) (ci := 1) (v := .ref b2) (C := RX1) (T := TX1) (N := 8) hx hb hts hin0 hown hK hP 0 rfl rfl 4 (by decide) (hts (.fieldLink RX1 13 "OnlineHullModel" "ys" "[I") (by decide +kernel)) (fun _ h9 => h9) rfl dX1_inside_99 ?_
            refine lv_iload_n hx hb dX1_inside_102 rfl (lv_at hl 0 rfl) ?_
            refine oh_ald hx hb hK hP 2 0 rfl rfl (k := (n - 1)) (by omega) (by omega) dX1_inside_103 ?_
            refine vp_callSi (va_Run.run (va_runS (As := [.int y, .int (ys 0), .int (ys ((n - 1)))]) (rest := []) ⟨hx, hb, hml, hown, hts⟩ (k_X1_between l y (ys 0) (ys ((n - 1)))) (va_cwS 3 hts gX1_inside_X1_between rfl rfl rfl (by decide +kernel) ⟨Nat.le_of_ble_eq_true rfl, Nat.le_of_ble_eq_true rfl⟩) oh_pre0 rfl rfl hl.1 rfl (lv_room (Nat.le_of_ble_eq_true rfl)) dX1_inside_104 ⟨Nat.zero_le _, Nat.zero_le _⟩)) (fun r_104 hr_104 => ?_)
            rcases hr_104 with ⟨b_104, hr_104⟩ | ⟨b_104, hr_104⟩ <;> subst hr_104
            · refine lv_if_eq (tgt := 114) hx hb dX1_inside_107 (by decide) (fun q => absurd q (by decide)) (fun _ => ?_)
              refine lv_iconst (v := nI 1) hx hb dX1_inside_110 (by decide) ?_
              refine lv_goto (tgt := 115) hx hb dX1_inside_111 (by decide) ?_
              refine lv_istore (lv' := [(4, .int (nI 1)), (3, .int (nI (n - 1))), (0, .ref h), (1, .int x), (2, .int y)]) hx hb dX1_inside_115 hl (by decide) rfl (fun ls hl => ?_)
              refine lv_iload hx hb dX1_inside_117 (lv_at hl 0 rfl) ?_
              refine lv_if_eq (tgt := 126) hx hb dX1_inside_119 (by decide) (fun q => absurd q (by decide)) (fun _ => ?_)
              refine lv_iconst (v := nI 1) hx hb dX1_inside_122 (by decide) ?_
              refine lv_goto (tgt := 127) hx hb dX1_inside_123 (by decide) ?_
              exact W.iret (v := nI 1) hx hb hr (fun t ht hW => ⟨_, rfl, Or.inl ⟨b_9, Or.inr (Or.inl ⟨by omega, by omega, Or.inl ⟨rfl, (oh_on_bt hh (by omega) (by omega)).mpr ⟨hr_64.symm.trans g_69, b_85, b_104⟩⟩⟩)⟩, ht⟩) (fun _ h => by cases h) dX1_inside_127
            · refine lv_if_eq (tgt := 114) hx hb dX1_inside_107 (by decide) (fun _ => ?_) (fun q => absurd q (by decide))
              refine lv_iconst (v := nI 0) hx hb dX1_inside_114 (by decide) ?_
              refine lv_istore (lv' := [(4, .int (nI 0)), (3, .int (nI (n - 1))), (0, .ref h), (1, .int x), (2, .int y)]) hx hb dX1_inside_115 hl (by decide) rfl (fun ls hl => ?_)
              refine lv_iload hx hb dX1_inside_117 (lv_at hl 0 rfl) ?_
              refine lv_if_eq (tgt := 126) hx hb dX1_inside_119 (by decide) (fun _ => ?_) (fun q => absurd q (by decide))
              refine lv_iconst (v := nI 0) hx hb dX1_inside_126 (by decide) ?_
              exact W.iret (v := nI 0) hx hb hr (fun t ht hW => ⟨_, rfl, Or.inl ⟨b_9, Or.inr (Or.inl ⟨by omega, by omega, Or.inr ⟨rfl, fun w => by have w2 := (oh_on_bt hh (by omega) (by omega)).mp w; first | exact b_85 w2.2.1 | exact b_104 w2.2.2 | exact g_69 (hr_64.trans w2.1)⟩⟩)⟩, ht⟩) (fun _ h => by cases h) dX1_inside_127
          · refine lv_if_eq (tgt := 114) hx hb dX1_inside_88 (by decide) (fun _ => ?_) (fun q => absurd q (by decide))
            refine lv_iconst (v := nI 0) hx hb dX1_inside_114 (by decide) ?_
            refine lv_istore (lv' := [(4, .int (nI 0)), (3, .int (nI (n - 1))), (0, .ref h), (1, .int x), (2, .int y)]) hx hb dX1_inside_115 hl (by decide) rfl (fun ls hl => ?_)
            refine lv_iload hx hb dX1_inside_117 (lv_at hl 0 rfl) ?_
            refine lv_if_eq (tgt := 126) hx hb dX1_inside_119 (by decide) (fun _ => ?_) (fun q => absurd q (by decide))
            refine lv_iconst (v := nI 0) hx hb dX1_inside_126 (by decide) ?_
            exact W.iret (v := nI 0) hx hb hr (fun t ht hW => ⟨_, rfl, Or.inl ⟨b_9, Or.inr (Or.inl ⟨by omega, by omega, Or.inr ⟨rfl, fun w => by have w2 := (oh_on_bt hh (by omega) (by omega)).mp w; first | exact b_85 w2.2.1 | exact b_104 w2.2.2 | exact g_69 (hr_64.trans w2.1)⟩⟩)⟩, ht⟩) (fun _ h => by cases h) dX1_inside_127
    · refine lv_if_ne (tgt := 17) hx hb dX1_inside_12 (by decide) (fun q => absurd q (by decide)) (fun _ => ?_)
      refine lv_iconst (v := nI 0) hx hb dX1_inside_15 (by decide) ?_
      exact W.iret (v := nI 0) hx hb hr (fun t ht hW => ⟨_, rfl, by by_cases w : oh_inR x y; exact Or.inl ⟨w, Or.inl ⟨by first | omega | exact absurd w b_9, rfl⟩⟩; exact Or.inr ⟨w, rfl⟩, ht⟩) (fun _ h => by cases h) dX1_inside_16

set_option maxHeartbeats 4000000 in
set_option maxRecDepth 100000 in
theorem k_X1_isNext (l : Launch) (dC : Nat → ClassId) (dI : Nat → Nat → Nat) (cI : ClassId) (h b1 b2 b3 b4 b5 N n : Nat) (pts : Int32) (xs ys px py rd : Nat → Int32) (c9 i v k : Nat) (hc9 : c9 ≤ 66) (hi : i < c9) (hv : v < c9) (hk : k < c9) (hRp : ∀ j, j < c9 → oh_inR (px j) (py j)) : Met l yX1_isNext wsX1_isNext ({ frames := 1, cells := 0, slots := 0, locals := 31 }) (va_Pc [.ref h, .int (nI i), .int (nI v), .int (nI k)] (fun U => va_P (dC, dI) vwCl [(h, .inr (1, [.int (nI N), .int (nI n), .int pts, .ref b1, .ref b2, .ref b3, .ref b4, .ref b5])), (b1, .inl (cI, 66, .inl xs)), (b2, .inl (cI, 66, .inl ys)), (b3, .inl (cI, 66, .inl px)), (b4, .inl (cI, 66, .inl py)), (b5, .inl (cI, 67, .inl rd))] U.heap ∧ va_K (dC, dI) vwCl [(cI, .int)] U)) (vp_Si (fun r => (oh_Nx (oh_pt px py) i v k ∧ r = 1) ∨ (¬ oh_Nx (oh_pt px py) i v k ∧ r = 0))) 0 0 (fun _ => False) := by
  refine Met.ofW (cc := cX1_isNext) (maxL := 14) (ret := (some .boolean)) (by decide) rfl ?_
  intro p e s m args below meth c s₁ B hml hv
  obtain ⟨rfl, hP, hK⟩ := hv
  have hx := B.exec
  have hb := B.bytes
  have hr := B.returns
  have hts := atoms_spec (ws := wsX1_isNext) B.pre
  have hown : s.vm.findClass RX1 = some m.cls := findClass_of_methodNamed B.named
  have hlocks := B.notSynchronized
  have hin0 : ∀ w ∈ wsX10, w ∈ wsX1_isNext := fun w h => List.mem_cons_of_mem _ (List.mem_append_right _ h)
  have hl := lv_entry ([.ref h, .int (nI i), .int (nI v), .int (nI k)]) (n := 14) (Nat.le_of_ble_eq_true rfl)
  rw [lg_entry_eq]
  generalize (lg_sl ([.ref h, .int (nI i), .int (nI v), .int (nI k)]) ++ List.replicate (14 - (lg_sl ([.ref h, .int (nI i), .int (nI v), .int (nI k)])).length) Slot.unset).toArray = ls at hl ⊢
  have hl : lv_has ls 14 [(0, .ref h), (1, .int (nI i)), (2, .int (nI v)), (3, .int (nI k))] := hl
  refine lv_aload_n hx hb dX1_isNext_0 rfl (lv_at hl 0 rfl) ?_
  refine va_get (D := (dC, dI)) (ci := 1) (v := .ref b3) (C := RX1) (T := TX1) (N := 8) hx hb hts hin0 hown hK hP 0 rfl rfl 5 (by decide) (hts (.fieldLink RX1 16 "OnlineHullModel" "px" "[I") (by decide +kernel)) (fun _ h9 => h9) rfl dX1_isNext_1 ?_
  refine lv_iload_n hx hb dX1_isNext_4 rfl (lv_at hl 1 rfl) ?_
  refine oh_ald hx hb hK hP 3 0 rfl rfl (k := i) (by omega) (by omega) dX1_isNext_5 ?_
  refine lv_i2l (v := (px i).toInt64) hx hb dX1_isNext_6 rfl ?_
  refine lv_aload_n hx hb dX1_isNext_7 rfl (lv_at hl 0 rfl) ?_
  refine va_get (D := (dC, dI)) (ci := 1) (v := .ref b4) (C := RX1) (T := TX1) (N := 8) hx hb hts hin0 hown hK hP 0 rfl rfl 6 (by decide) (hts (.fieldLink RX1 19 "OnlineHullModel" "py" "[I") (by decide +kernel)) (fun _ h9 => h9) rfl dX1_isNext_8 ?_
  refine lv_iload_n hx hb dX1_isNext_11 rfl (lv_at hl 1 rfl) ?_
  refine oh_ald hx hb hK hP 4 0 rfl rfl (k := i) (by omega) (by omega) dX1_isNext_12 ?_
  refine lv_i2l (v := (py i).toInt64) hx hb dX1_isNext_13 rfl ?_
  refine lv_aload_n hx hb dX1_isNext_14 rfl (lv_at hl 0 rfl) ?_
  refine va_get (D := (dC, dI)) (ci := 1) (v := .ref b3) (C := RX1) (T := TX1) (N := 8) hx hb hts hin0 hown hK hP 0 rfl rfl 5 (by decide) (hts (.fieldLink RX1 16 "OnlineHullModel" "px" "[I") (by decide +kernel)) (fun _ h9 => h9) rfl dX1_isNext_15 ?_
  refine lv_iload_n hx hb dX1_isNext_18 rfl (lv_at hl 2 rfl) ?_
  refine oh_ald hx hb hK hP 3 0 rfl rfl (k := v) (by omega) (by omega) dX1_isNext_19 ?_
  refine lv_i2l (v := (px v).toInt64) hx hb dX1_isNext_20 rfl ?_
  refine lv_aload_n hx hb dX1_isNext_21 rfl (lv_at hl 0 rfl) ?_
  refine va_get (D := (dC, dI)) (ci := 1) (v := .ref b4) (C := RX1) (T := TX1) (N := 8) hx hb hts hin0 hown hK hP 0 rfl rfl 6 (by decide) (hts (.fieldLink RX1 19 "OnlineHullModel" "py" "[I") (by decide +kernel)) (fun _ h9 => h9) rfl dX1_isNext_22 ?_
  refine lv_iload_n hx hb dX1_isNext_25 rfl (lv_at hl 2 rfl) ?_
  refine oh_ald hx hb hK hP 4 0 rfl rfl (k := v) (by omega) (by omega) dX1_isNext_26 ?_
  refine lv_i2l (v := (py v).toInt64) hx hb dX1_isNext_27 rfl ?_
  refine lv_aload_n hx hb dX1_isNext_28 rfl (lv_at hl 0 rfl) ?_
  refine va_get (D := (dC, dI)) (ci := 1) (v := .ref b3) (C := RX1) (T := TX1) (N := 8) hx hb hts hin0 hown hK hP 0 rfl rfl 5 (by decide) (hts (.fieldLink RX1 16 "OnlineHullModel" "px" "[I") (by decide +kernel)) (fun _ h9 => h9) rfl dX1_isNext_29 ?_
  refine lv_iload_n hx hb dX1_isNext_32 rfl (lv_at hl 3 rfl) ?_
  refine oh_ald hx hb hK hP 3 0 rfl rfl (k := k) (by omega) (by omega) dX1_isNext_33 ?_
  refine lv_i2l (v := (px k).toInt64) hx hb dX1_isNext_34 rfl ?_
  refine lv_aload_n hx hb dX1_isNext_35 rfl (lv_at hl 0 rfl) ?_
  refine va_get (D := (dC, dI)) (ci := 1) (v := .ref b4) (C := RX1) (T := TX1) (N := 8) hx hb hts hin0 hown hK hP 0 rfl rfl 6 (by decide) (hts (.fieldLink RX1 19 "OnlineHullModel" "py" "[I") (by decide +kernel)) (fun _ h9 => h9) rfl dX1_isNext_36 ?_
  refine lv_iload_n hx hb dX1_isNext_39 rfl (lv_at hl 3 rfl) ?_
  refine oh_ald hx hb hK hP 4 0 rfl rfl (k := k) (by omega) (by omega) dX1_isNext_40 ?_
  refine lv_i2l (v := (py k).toInt64) hx hb dX1_isNext_41 rfl ?_
  refine vp_callSl (va_Run.run (va_runS (As := [.long ((px i).toInt64), .long ((py i).toInt64), .long ((px v).toInt64), .long ((py v).toInt64), .long ((px k).toInt64), .long ((py k).toInt64)]) (rest := []) ⟨hx, hb, hml, hown, hts⟩ (k_X1_turn l (px i) (py i) (px v) (py v) (px k) (py k) (hRp i hi) (hRp v hv) (hRp k hk)) (va_cwS 6 hts gX1_isNext_X1_turn rfl rfl rfl (by decide +kernel) ⟨Nat.le_of_ble_eq_true rfl, Nat.le_of_ble_eq_true rfl⟩) oh_pre0 rfl rfl hl.1 rfl (lv_room (Nat.le_of_ble_eq_true rfl)) dX1_isNext_42 ⟨Nat.zero_le _, Nat.zero_le _⟩)) (fun r_42 hr_42 => ?_)
  have hr_42 : r_42.toInt = oh_cp ((oh_pt px py) i) ((oh_pt px py) v) ((oh_pt px py) k) := hr_42
  refine lv_lstore (lv' := [(4, .long r_42), (0, .ref h), (1, .int (nI i)), (2, .int (nI v)), (3, .int (nI k))]) hx hb dX1_isNext_45 hl (by decide) rfl (fun ls hl => ?_)
  refine lv_aload_n hx hb dX1_isNext_47 rfl (lv_at hl 1 rfl) ?_
  refine va_get (D := (dC, dI)) (ci := 1) (v := .ref b3) (C := RX1) (T := TX1) (N := 8) hx hb hts hin0 hown hK hP 0 rfl rfl 5 (by decide) (hts (.fieldLink RX1 16 "OnlineHullModel" "px" "[I") (by decide +kernel)) (fun _ h9 => h9) rfl dX1_isNext_48 ?_
  refine lv_iload_n hx hb dX1_isNext_51 rfl (lv_at hl 3 rfl) ?_
  refine oh_ald hx hb hK hP 3 0 rfl rfl (k := v) (by omega) (by omega) dX1_isNext_52 ?_
  refine lv_aload_n hx hb dX1_isNext_53 rfl (lv_at hl 1 rfl) ?_
  refine va_get (D := (dC, dI)) (ci := 1) (v := .ref b3) (C := RX1) (T := TX1) (N := 8) hx hb hts hin0 hown hK hP 0 rfl rfl 5 (by decide) (hts (.fieldLink RX1 16 "OnlineHullModel" "px" "[I") (by decide +kernel)) (fun _ h9 => h9) rfl dX1_isNext_54 ?_
  refine lv_iload_n hx hb dX1_isNext_57 rfl (lv_at hl 2 rfl) ?_
  refine oh_ald hx hb hK hP 3 0 rfl rfl (k := i) (by omega) (by omega) dX1_isNext_58 ?_
  refine lv_isub hx hb dX1_isNext_59 ?_
  refine lv_i2l (v := ((px v) - (px i)).toInt64) hx hb dX1_isNext_60 rfl ?_
  refine lv_lstore (lv' := [(6, .long (((px v) - (px i)).toInt64)), (4, .long r_42), (0, .ref h), (1, .int (nI i)), (2, .int (nI v)), (3, .int (nI k))]) hx hb dX1_isNext_61 hl (by decide) rfl (fun ls hl => ?_)
  refine lv_aload_n hx hb dX1_isNext_63 rfl (lv_at hl 2 rfl) ?_
  refine va_get (D := (dC, dI)) (ci := 1) (v := .ref b4) (C := RX1) (T := TX1) (N := 8) hx hb hts hin0 hown hK hP 0 rfl rfl 6 (by decide) (hts (.fieldLink RX1 19 "OnlineHullModel" "py" "[I") (by decide +kernel)) (fun _ h9 => h9) rfl dX1_isNext_64 ?_
  refine lv_iload_n hx hb dX1_isNext_67 rfl (lv_at hl 4 rfl) ?_
  refine oh_ald hx hb hK hP 4 0 rfl rfl (k := v) (by omega) (by omega) dX1_isNext_68 ?_
  refine lv_aload_n hx hb dX1_isNext_69 rfl (lv_at hl 2 rfl) ?_
  refine va_get (D := (dC, dI)) (ci := 1) (v := .ref b4) (C := RX1) (T := TX1) (N := 8) hx hb hts hin0 hown hK hP 0 rfl rfl 6 (by decide) (hts (.fieldLink RX1 19 "OnlineHullModel" "py" "[I") (by decide +kernel)) (fun _ h9 => h9) rfl dX1_isNext_70 ?_
  refine lv_iload_n hx hb dX1_isNext_73 rfl (lv_at hl 3 rfl) ?_
  refine oh_ald hx hb hK hP 4 0 rfl rfl (k := i) (by omega) (by omega) dX1_isNext_74 ?_
  refine lv_isub hx hb dX1_isNext_75 ?_
  refine lv_i2l (v := ((py v) - (py i)).toInt64) hx hb dX1_isNext_76 rfl ?_
  refine lv_lstore (lv' := [(8, .long (((py v) - (py i)).toInt64)), (6, .long (((px v) - (px i)).toInt64)), (4, .long r_42), (0, .ref h), (1, .int (nI i)), (2, .int (nI v)), (3, .int (nI k))]) hx hb dX1_isNext_77 hl (by decide) rfl (fun ls hl => ?_)
  refine lv_aload_n hx hb dX1_isNext_79 rfl (lv_at hl 3 rfl) ?_
  refine va_get (D := (dC, dI)) (ci := 1) (v := .ref b3) (C := RX1) (T := TX1) (N := 8) hx hb hts hin0 hown hK hP 0 rfl rfl 5 (by decide) (hts (.fieldLink RX1 16 "OnlineHullModel" "px" "[I") (by decide +kernel)) (fun _ h9 => h9) rfl dX1_isNext_80 ?_
  refine lv_iload_n hx hb dX1_isNext_83 rfl (lv_at hl 6 rfl) ?_
  refine oh_ald hx hb hK hP 3 0 rfl rfl (k := k) (by omega) (by omega) dX1_isNext_84 ?_
  refine lv_aload_n hx hb dX1_isNext_85 rfl (lv_at hl 3 rfl) ?_
  refine va_get (D := (dC, dI)) (ci := 1) (v := .ref b3) (C := RX1) (T := TX1) (N := 8) hx hb hts hin0 hown hK hP 0 rfl rfl 5 (by decide) (hts (.fieldLink RX1 16 "OnlineHullModel" "px" "[I") (by decide +kernel)) (fun _ h9 => h9) rfl dX1_isNext_86 ?_
  refine lv_iload_n hx hb dX1_isNext_89 rfl (lv_at hl 4 rfl) ?_
  refine oh_ald hx hb hK hP 3 0 rfl rfl (k := i) (by omega) (by omega) dX1_isNext_90 ?_
  refine lv_isub hx hb dX1_isNext_91 ?_
  refine lv_i2l (v := ((px k) - (px i)).toInt64) hx hb dX1_isNext_92 rfl ?_
  refine lv_lstore (lv' := [(10, .long (((px k) - (px i)).toInt64)), (8, .long (((py v) - (py i)).toInt64)), (6, .long (((px v) - (px i)).toInt64)), (4, .long r_42), (0, .ref h), (1, .int (nI i)), (2, .int (nI v)), (3, .int (nI k))]) hx hb dX1_isNext_93 hl (by decide) rfl (fun ls hl => ?_)
  refine lv_aload_n hx hb dX1_isNext_95 rfl (lv_at hl 4 rfl) ?_
  refine va_get (D := (dC, dI)) (ci := 1) (v := .ref b4) (C := RX1) (T := TX1) (N := 8) hx hb hts hin0 hown hK hP 0 rfl rfl 6 (by decide) (hts (.fieldLink RX1 19 "OnlineHullModel" "py" "[I") (by decide +kernel)) (fun _ h9 => h9) rfl dX1_isNext_96 ?_
  refine lv_iload_n hx hb dX1_isNext_99 rfl (lv_at hl 7 rfl) ?_
  refine oh_ald hx hb hK hP 4 0 rfl rfl (k := k) (by omega) (by omega) dX1_isNext_100 ?_
  refine lv_aload_n hx hb dX1_isNext_101 rfl (lv_at hl 4 rfl) ?_
  refine va_get (D := (dC, dI)) (ci := 1) (v := .ref b4) (C := RX1) (T := TX1) (N := 8) hx hb hts hin0 hown hK hP 0 rfl rfl 6 (by decide) (hts (.fieldLink RX1 19 "OnlineHullModel" "py" "[I") (by decide +kernel)) (fun _ h9 => h9) rfl dX1_isNext_102 ?_
  refine lv_iload_n hx hb dX1_isNext_105 rfl (lv_at hl 5 rfl) ?_
  refine oh_ald hx hb hK hP 4 0 rfl rfl (k := i) (by omega) (by omega) dX1_isNext_106 ?_
  refine lv_isub hx hb dX1_isNext_107 ?_
  refine lv_i2l (v := ((py k) - (py i)).toInt64) hx hb dX1_isNext_108 rfl ?_
  refine lv_lstore (lv' := [(12, .long (((py k) - (py i)).toInt64)), (10, .long (((px k) - (px i)).toInt64)), (8, .long (((py v) - (py i)).toInt64)), (6, .long (((px v) - (px i)).toInt64)), (4, .long r_42), (0, .ref h), (1, .int (nI i)), (2, .int (nI v)), (3, .int (nI k))]) hx hb dX1_isNext_109 hl (by decide) rfl (fun ls hl => ?_)
  have w4 : _ = oh_d2 ((oh_pt px py) i) ((oh_pt px py) k) := oh_q64 (hRp k hk) (hRp i hi)
  have w5 : _ = oh_d2 ((oh_pt px py) i) ((oh_pt px py) v) := oh_q64 (hRp v hv) (hRp i hi)
  refine lv_lload hx hb dX1_isNext_111 (lv_at hl 4 rfl) ?_
  refine lv_lconst (v := 0) hx hb dX1_isNext_113 (by decide) ?_
  refine W.lcmp hx hb dX1_isNext_114 ?_
  refine lv_if_lt (tgt := 151) hx hb dX1_isNext_115 (by decide) (fun c_115 => ?_) (fun c_115 => ?_)
  · have g_115 : r_42.toInt < 0 := oh_lc_lt0 c_115
    refine lv_iconst (v := nI 1) hx hb dX1_isNext_151 (by decide) ?_
    refine lv_goto (tgt := 156) hx hb dX1_isNext_152 (by decide) ?_
    exact W.zret (v := nI 1) hx hb hr (by decide) (fun t ht hW => ⟨_, rfl, Or.inl ⟨by have w4 := oh_q64 (hRp k hk) (hRp i hi); have w5 := oh_q64 (hRp v hv) (hRp i hi); first | exact Or.inl (by omega) | exact Or.inr ⟨by omega, by omega⟩, rfl⟩, ht⟩) (fun _ h => by cases h) dX1_isNext_156
  · have g_115 : r_42.toInt ≥ 0 := oh_lc_nlt0 c_115
    refine lv_lload hx hb dX1_isNext_118 (lv_at hl 4 rfl) ?_
    refine lv_lconst (v := 0) hx hb dX1_isNext_120 (by decide) ?_
    refine W.lcmp hx hb dX1_isNext_121 ?_
    refine lv_if_ne (tgt := 155) hx hb dX1_isNext_122 (by decide) (fun c_122 => ?_) (fun c_122 => ?_)
    · have g_122 : r_42.toInt ≠ 0 := oh_lc_ne0 c_122
      refine lv_iconst (v := nI 0) hx hb dX1_isNext_155 (by decide) ?_
      exact W.zret (v := nI 0) hx hb hr (by decide) (fun t ht hW => ⟨_, rfl, Or.inr ⟨fun w => by have w4 := oh_q64 (hRp k hk) (hRp i hi); have w5 := oh_q64 (hRp v hv) (hRp i hi); rcases w with w | ⟨w, w2⟩ <;> omega, rfl⟩, ht⟩) (fun _ h => by cases h) dX1_isNext_156
    · have g_122 : r_42.toInt = 0 := oh_lc_nne0 c_122
      refine lv_lload hx hb dX1_isNext_125 (lv_at hl 1 rfl) ?_
      refine lv_lload hx hb dX1_isNext_127 (lv_at hl 1 rfl) ?_
      refine lv_lmul hx hb dX1_isNext_129 ?_
      refine lv_lload hx hb dX1_isNext_130 (lv_at hl 0 rfl) ?_
      refine lv_lload hx hb dX1_isNext_132 (lv_at hl 0 rfl) ?_
      refine lv_lmul hx hb dX1_isNext_134 ?_
      refine lv_ladd hx hb dX1_isNext_135 ?_
      refine lv_lload hx hb dX1_isNext_136 (lv_at hl 3 rfl) ?_
      refine lv_lload hx hb dX1_isNext_138 (lv_at hl 3 rfl) ?_
      refine lv_lmul hx hb dX1_isNext_140 ?_
      refine lv_lload hx hb dX1_isNext_141 (lv_at hl 2 rfl) ?_
      refine lv_lload hx hb dX1_isNext_143 (lv_at hl 2 rfl) ?_
      refine lv_lmul hx hb dX1_isNext_145 ?_
      refine lv_ladd hx hb dX1_isNext_146 ?_
      refine W.lcmp hx hb dX1_isNext_147 ?_
      refine lv_if_le (tgt := 155) hx hb dX1_isNext_148 (by decide) (fun c_148 => ?_) (fun c_148 => ?_)
      · have g_148 : (((((px k) - (px i)).toInt64) * (((px k) - (px i)).toInt64)) + ((((py k) - (py i)).toInt64) * (((py k) - (py i)).toInt64))).toInt ≤ (((((px v) - (px i)).toInt64) * (((px v) - (px i)).toInt64)) + ((((py v) - (py i)).toInt64) * (((py v) - (py i)).toInt64))).toInt := oh_lc_le c_148
        refine lv_iconst (v := nI 0) hx hb dX1_isNext_155 (by decide) ?_
        exact W.zret (v := nI 0) hx hb hr (by decide) (fun t ht hW => ⟨_, rfl, Or.inr ⟨fun w => by have w4 := oh_q64 (hRp k hk) (hRp i hi); have w5 := oh_q64 (hRp v hv) (hRp i hi); rcases w with w | ⟨w, w2⟩ <;> omega, rfl⟩, ht⟩) (fun _ h => by cases h) dX1_isNext_156
      · have g_148 : (((((px k) - (px i)).toInt64) * (((px k) - (px i)).toInt64)) + ((((py k) - (py i)).toInt64) * (((py k) - (py i)).toInt64))).toInt > (((((px v) - (px i)).toInt64) * (((px v) - (px i)).toInt64)) + ((((py v) - (py i)).toInt64) * (((py v) - (py i)).toInt64))).toInt := oh_lc_nle c_148
        refine lv_iconst (v := nI 1) hx hb dX1_isNext_151 (by decide) ?_
        refine lv_goto (tgt := 156) hx hb dX1_isNext_152 (by decide) ?_
        exact W.zret (v := nI 1) hx hb hr (by decide) (fun t ht hW => ⟨_, rfl, Or.inl ⟨by have w4 := oh_q64 (hRp k hk) (hRp i hi); have w5 := oh_q64 (hRp v hv) (hRp i hi); first | exact Or.inl (by omega) | exact Or.inr ⟨by omega, by omega⟩, rfl⟩, ht⟩) (fun _ h => by cases h) dX1_isNext_156

set_option maxHeartbeats 4000000 in
set_option maxRecDepth 100000 in
theorem k_X1_size (l : Launch) (dC : Nat → ClassId) (dI : Nat → Nat → Nat) (cI : ClassId) (h b1 b2 b3 b4 b5 N n : Nat) (pts : Int32) (xs ys px py rd : Nat → Int32) (hN : N ≤ 64) (hn : n ≤ N) : Met l yX1_size wsX1_size ({ frames := 0, cells := 0, slots := 0, locals := 0 }) (va_Pc [.ref h] (fun U => va_P (dC, dI) vwCl [(h, .inr (1, [.int (nI N), .int (nI n), .int pts, .ref b1, .ref b2, .ref b3, .ref b4, .ref b5])), (b1, .inl (cI, 66, .inl xs)), (b2, .inl (cI, 66, .inl ys)), (b3, .inl (cI, 66, .inl px)), (b4, .inl (cI, 66, .inl py)), (b5, .inl (cI, 67, .inl rd))] U.heap ∧ va_K (dC, dI) vwCl [(cI, .int)] U)) (vp_Si (fun r => r = nI n)) 0 0 (fun _ => False) := by
  refine Met.ofW (cc := cX1_size) (maxL := 1) (ret := (some .int)) (by decide) rfl ?_
  intro p e s m args below meth c s₁ B hml hv
  obtain ⟨rfl, hP, hK⟩ := hv
  have hx := B.exec
  have hb := B.bytes
  have hr := B.returns
  have hts := atoms_spec (ws := wsX1_size) B.pre
  have hown : s.vm.findClass RX1 = some m.cls := findClass_of_methodNamed B.named
  have hlocks := B.notSynchronized
  have hin0 : ∀ w ∈ wsX10, w ∈ wsX1_size := fun w h => List.mem_cons_of_mem _ (List.mem_append_right _ h)
  have hl := lv_entry ([.ref h]) (n := 1) (Nat.le_of_ble_eq_true rfl)
  rw [lg_entry_eq]
  generalize (lg_sl ([.ref h]) ++ List.replicate (1 - (lg_sl ([.ref h])).length) Slot.unset).toArray = ls at hl ⊢
  have hl : lv_has ls 1 [(0, .ref h)] := hl
  refine lv_aload_n hx hb dX1_size_0 rfl (lv_at hl 0 rfl) ?_
  refine va_get (D := (dC, dI)) (ci := 1) (v := .int (nI n)) (C := RX1) (T := TX1) (N := 8) hx hb hts hin0 hown hK hP 0 rfl rfl 1 (by decide) (hts (.fieldLink RX1 29 "OnlineHullModel" "corners" "I") (by decide +kernel)) (fun _ h9 => h9) rfl dX1_size_1 ?_
  exact W.iret (v := nI n) hx hb hr (fun t ht hW => ⟨_, rfl, rfl, ht⟩) (fun _ h => by cases h) dX1_size_4

set_option maxHeartbeats 4000000 in
set_option maxRecDepth 100000 in
theorem k_X1_points (l : Launch) (dC : Nat → ClassId) (dI : Nat → Nat → Nat) (cI : ClassId) (h b1 b2 b3 b4 b5 N n : Nat) (pts : Int32) (xs ys px py rd : Nat → Int32) (hN : N ≤ 64) (hn : n ≤ N) : Met l yX1_points wsX1_points ({ frames := 0, cells := 0, slots := 0, locals := 0 }) (va_Pc [.ref h] (fun U => va_P (dC, dI) vwCl [(h, .inr (1, [.int (nI N), .int (nI n), .int pts, .ref b1, .ref b2, .ref b3, .ref b4, .ref b5])), (b1, .inl (cI, 66, .inl xs)), (b2, .inl (cI, 66, .inl ys)), (b3, .inl (cI, 66, .inl px)), (b4, .inl (cI, 66, .inl py)), (b5, .inl (cI, 67, .inl rd))] U.heap ∧ va_K (dC, dI) vwCl [(cI, .int)] U)) (vp_Si (fun r => r = pts)) 0 0 (fun _ => False) := by
  refine Met.ofW (cc := cX1_points) (maxL := 1) (ret := (some .int)) (by decide) rfl ?_
  intro p e s m args below meth c s₁ B hml hv
  obtain ⟨rfl, hP, hK⟩ := hv
  have hx := B.exec
  have hb := B.bytes
  have hr := B.returns
  have hts := atoms_spec (ws := wsX1_points) B.pre
  have hown : s.vm.findClass RX1 = some m.cls := findClass_of_methodNamed B.named
  have hlocks := B.notSynchronized
  have hin0 : ∀ w ∈ wsX10, w ∈ wsX1_points := fun w h => List.mem_cons_of_mem _ (List.mem_append_right _ h)
  have hl := lv_entry ([.ref h]) (n := 1) (Nat.le_of_ble_eq_true rfl)
  rw [lg_entry_eq]
  generalize (lg_sl ([.ref h]) ++ List.replicate (1 - (lg_sl ([.ref h])).length) Slot.unset).toArray = ls at hl ⊢
  have hl : lv_has ls 1 [(0, .ref h)] := hl
  refine lv_aload_n hx hb dX1_points_0 rfl (lv_at hl 0 rfl) ?_
  refine va_get (D := (dC, dI)) (ci := 1) (v := .int pts) (C := RX1) (T := TX1) (N := 8) hx hb hts hin0 hown hK hP 0 rfl rfl 2 (by decide) (hts (.fieldLink RX1 55 "OnlineHullModel" "points" "I") (by decide +kernel)) (fun _ h9 => h9) rfl dX1_points_1 ?_
  exact W.iret (v := pts) hx hb hr (fun t ht hW => ⟨_, rfl, rfl, ht⟩) (fun _ h => by cases h) dX1_points_4

set_option maxHeartbeats 4000000 in
set_option maxRecDepth 100000 in
theorem k_X1_xOf (l : Launch) (dC : Nat → ClassId) (dI : Nat → Nat → Nat) (cI : ClassId) (h b1 b2 b3 b4 b5 N n : Nat) (pts : Int32) (xs ys px py rd : Nat → Int32) (i : Int32) (hN : N ≤ 64) (hn : n ≤ N) : Met l yX1_xOf wsX1_xOf ({ frames := 0, cells := 0, slots := 0, locals := 0 }) (va_Pc [.ref h, .int i] (fun U => va_P (dC, dI) vwCl [(h, .inr (1, [.int (nI N), .int (nI n), .int pts, .ref b1, .ref b2, .ref b3, .ref b4, .ref b5])), (b1, .inl (cI, 66, .inl xs)), (b2, .inl (cI, 66, .inl ys)), (b3, .inl (cI, 66, .inl px)), (b4, .inl (cI, 66, .inl py)), (b5, .inl (cI, 67, .inl rd))] U.heap ∧ va_K (dC, dI) vwCl [(cI, .int)] U)) (vp_Si (fun r => (∃ k : Nat, k < n ∧ i = nI k ∧ r = xs k) ∨ (¬ (0 ≤ i.toInt ∧ i.toInt < (n : Int)) ∧ r = 0))) 0 0 (fun _ => False) := by
  refine Met.ofW (cc := cX1_xOf) (maxL := 2) (ret := (some .int)) (by decide) rfl ?_
  intro p e s m args below meth c s₁ B hml hv
  obtain ⟨rfl, hP, hK⟩ := hv
  have hx := B.exec
  have hb := B.bytes
  have hr := B.returns
  have hts := atoms_spec (ws := wsX1_xOf) B.pre
  have hown : s.vm.findClass RX1 = some m.cls := findClass_of_methodNamed B.named
  have hlocks := B.notSynchronized
  have hin0 : ∀ w ∈ wsX10, w ∈ wsX1_xOf := fun w h => List.mem_cons_of_mem _ (List.mem_append_right _ h)
  have hl := lv_entry ([.ref h, .int i]) (n := 2) (Nat.le_of_ble_eq_true rfl)
  rw [lg_entry_eq]
  generalize (lg_sl ([.ref h, .int i]) ++ List.replicate (2 - (lg_sl ([.ref h, .int i])).length) Slot.unset).toArray = ls at hl ⊢
  have hl : lv_has ls 2 [(0, .ref h), (1, .int i)] := hl
  refine lv_iload_n hx hb dX1_xOf_0 rfl (lv_at hl 1 rfl) ?_
  refine lv_if_lt (tgt := 21) hx hb dX1_xOf_1 (by decide) (fun c_1 => ?_) (fun c_1 => ?_)
  · have g_1 : i.toInt < 0 := oh_ltI0 c_1
    refine lv_iconst (v := nI 0) hx hb dX1_xOf_21 (by decide) ?_
    exact W.iret (v := nI 0) hx hb hr (fun t ht hW => ⟨_, rfl, Or.inr ⟨by omega, rfl⟩, ht⟩) (fun _ h => by cases h) dX1_xOf_22
  · have g_1 : 0 ≤ i.toInt := oh_nltI0 c_1
    refine lv_iload_n hx hb dX1_xOf_4 rfl (lv_at hl 1 rfl) ?_
    refine lv_aload_n hx hb dX1_xOf_5 rfl (lv_at hl 0 rfl) ?_
    refine va_get (D := (dC, dI)) (ci := 1) (v := .int (nI n)) (C := RX1) (T := TX1) (N := 8) hx hb hts hin0 hown hK hP 0 rfl rfl 1 (by decide) (hts (.fieldLink RX1 29 "OnlineHullModel" "corners" "I") (by decide +kernel)) (fun _ h9 => h9) rfl dX1_xOf_6 ?_
    refine lv_icmp_ge (tgt := 21) hx hb dX1_xOf_9 (by decide) (fun c_9 => ?_) (fun c_9 => ?_)
    · have g_9 : (n : Int) ≤ i.toInt := by have q := oh_leI c_9; rw [nI_toInt (n := n) (by omega)] at q; exact q
      refine lv_iconst (v := nI 0) hx hb dX1_xOf_21 (by decide) ?_
      exact W.iret (v := nI 0) hx hb hr (fun t ht hW => ⟨_, rfl, Or.inr ⟨by omega, rfl⟩, ht⟩) (fun _ h => by cases h) dX1_xOf_22
    · have g_9 : i.toInt < (n : Int) := by have q := oh_nleI c_9; rw [nI_toInt (n := n) (by omega)] at q; exact q
      obtain ⟨k, hk, rfl⟩ : ∃ k : Nat, k < n ∧ i = nI k := ⟨i.toInt.toNat, by omega, Int32.toInt_inj.mp (by rw [nI_toInt (by omega)]; omega)⟩
      refine lv_aload_n hx hb dX1_xOf_12 rfl (lv_at hl 0 rfl) ?_
      refine va_get (D := (dC, dI)) (ci := 1) (v := .ref b1) (C := RX1) (T := TX1) (N := 8) hx hb hts hin0 hown hK hP 0 rfl rfl 3 (by decide) (hts (.fieldLink RX1 7 "OnlineHullModel" "xs" "[I") (by decide +kernel)) (fun _ h9 => h9) rfl dX1_xOf_13 ?_
      refine lv_iload_n hx hb dX1_xOf_16 rfl (lv_at hl 1 rfl) ?_
      refine oh_ald hx hb hK hP 1 0 rfl rfl (k := k) (by omega) (by omega) dX1_xOf_17 ?_
      refine lv_goto (tgt := 22) hx hb dX1_xOf_18 (by decide) ?_
      exact W.iret (v := xs k) hx hb hr (fun t ht hW => ⟨_, rfl, Or.inl ⟨k, by omega, rfl, rfl⟩, ht⟩) (fun _ h => by cases h) dX1_xOf_22

set_option maxHeartbeats 4000000 in
set_option maxRecDepth 100000 in
theorem k_X1_yOf (l : Launch) (dC : Nat → ClassId) (dI : Nat → Nat → Nat) (cI : ClassId) (h b1 b2 b3 b4 b5 N n : Nat) (pts : Int32) (xs ys px py rd : Nat → Int32) (i : Int32) (hN : N ≤ 64) (hn : n ≤ N) : Met l yX1_yOf wsX1_yOf ({ frames := 0, cells := 0, slots := 0, locals := 0 }) (va_Pc [.ref h, .int i] (fun U => va_P (dC, dI) vwCl [(h, .inr (1, [.int (nI N), .int (nI n), .int pts, .ref b1, .ref b2, .ref b3, .ref b4, .ref b5])), (b1, .inl (cI, 66, .inl xs)), (b2, .inl (cI, 66, .inl ys)), (b3, .inl (cI, 66, .inl px)), (b4, .inl (cI, 66, .inl py)), (b5, .inl (cI, 67, .inl rd))] U.heap ∧ va_K (dC, dI) vwCl [(cI, .int)] U)) (vp_Si (fun r => (∃ k : Nat, k < n ∧ i = nI k ∧ r = ys k) ∨ (¬ (0 ≤ i.toInt ∧ i.toInt < (n : Int)) ∧ r = 0))) 0 0 (fun _ => False) := by
  refine Met.ofW (cc := cX1_yOf) (maxL := 2) (ret := (some .int)) (by decide) rfl ?_
  intro p e s m args below meth c s₁ B hml hv
  obtain ⟨rfl, hP, hK⟩ := hv
  have hx := B.exec
  have hb := B.bytes
  have hr := B.returns
  have hts := atoms_spec (ws := wsX1_yOf) B.pre
  have hown : s.vm.findClass RX1 = some m.cls := findClass_of_methodNamed B.named
  have hlocks := B.notSynchronized
  have hin0 : ∀ w ∈ wsX10, w ∈ wsX1_yOf := fun w h => List.mem_cons_of_mem _ (List.mem_append_right _ h)
  have hl := lv_entry ([.ref h, .int i]) (n := 2) (Nat.le_of_ble_eq_true rfl)
  rw [lg_entry_eq]
  generalize (lg_sl ([.ref h, .int i]) ++ List.replicate (2 - (lg_sl ([.ref h, .int i])).length) Slot.unset).toArray = ls at hl ⊢
  have hl : lv_has ls 2 [(0, .ref h), (1, .int i)] := hl
  refine lv_iload_n hx hb dX1_yOf_0 rfl (lv_at hl 1 rfl) ?_
  refine lv_if_lt (tgt := 21) hx hb dX1_yOf_1 (by decide) (fun c_1 => ?_) (fun c_1 => ?_)
  · have g_1 : i.toInt < 0 := oh_ltI0 c_1
    refine lv_iconst (v := nI 0) hx hb dX1_yOf_21 (by decide) ?_
    exact W.iret (v := nI 0) hx hb hr (fun t ht hW => ⟨_, rfl, Or.inr ⟨by omega, rfl⟩, ht⟩) (fun _ h => by cases h) dX1_yOf_22
  · have g_1 : 0 ≤ i.toInt := oh_nltI0 c_1
    refine lv_iload_n hx hb dX1_yOf_4 rfl (lv_at hl 1 rfl) ?_
    refine lv_aload_n hx hb dX1_yOf_5 rfl (lv_at hl 0 rfl) ?_
    refine va_get (D := (dC, dI)) (ci := 1) (v := .int (nI n)) (C := RX1) (T := TX1) (N := 8) hx hb hts hin0 hown hK hP 0 rfl rfl 1 (by decide) (hts (.fieldLink RX1 29 "OnlineHullModel" "corners" "I") (by decide +kernel)) (fun _ h9 => h9) rfl dX1_yOf_6 ?_
    refine lv_icmp_ge (tgt := 21) hx hb dX1_yOf_9 (by decide) (fun c_9 => ?_) (fun c_9 => ?_)
    · have g_9 : (n : Int) ≤ i.toInt := by have q := oh_leI c_9; rw [nI_toInt (n := n) (by omega)] at q; exact q
      refine lv_iconst (v := nI 0) hx hb dX1_yOf_21 (by decide) ?_
      exact W.iret (v := nI 0) hx hb hr (fun t ht hW => ⟨_, rfl, Or.inr ⟨by omega, rfl⟩, ht⟩) (fun _ h => by cases h) dX1_yOf_22
    · have g_9 : i.toInt < (n : Int) := by have q := oh_nleI c_9; rw [nI_toInt (n := n) (by omega)] at q; exact q
      obtain ⟨k, hk, rfl⟩ : ∃ k : Nat, k < n ∧ i = nI k := ⟨i.toInt.toNat, by omega, Int32.toInt_inj.mp (by rw [nI_toInt (by omega)]; omega)⟩
      refine lv_aload_n hx hb dX1_yOf_12 rfl (lv_at hl 0 rfl) ?_
      refine va_get (D := (dC, dI)) (ci := 1) (v := .ref b2) (C := RX1) (T := TX1) (N := 8) hx hb hts hin0 hown hK hP 0 rfl rfl 4 (by decide) (hts (.fieldLink RX1 13 "OnlineHullModel" "ys" "[I") (by decide +kernel)) (fun _ h9 => h9) rfl dX1_yOf_13 ?_
      refine lv_iload_n hx hb dX1_yOf_16 rfl (lv_at hl 1 rfl) ?_
      refine oh_ald hx hb hK hP 2 0 rfl rfl (k := k) (by omega) (by omega) dX1_yOf_17 ?_
      refine lv_goto (tgt := 22) hx hb dX1_yOf_18 (by decide) ?_
      exact W.iret (v := ys k) hx hb hr (fun t ht hW => ⟨_, rfl, Or.inl ⟨k, by omega, rfl, rfl⟩, ht⟩) (fun _ h => by cases h) dX1_yOf_22

set_option maxHeartbeats 4000000 in
set_option maxRecDepth 100000 in
theorem k_X1_twiceArea (l : Launch) (dC : Nat → ClassId) (dI : Nat → Nat → Nat) (cI : ClassId) (h b1 b2 b3 b4 b5 N n : Nat) (pts : Int32) (xs ys px py rd : Nat → Int32) (hN : N ≤ 64) (hn : n ≤ N) (hR : ∀ j, j < n → oh_inR (xs j) (ys j)) : Met l yX1_twiceArea wsX1_twiceArea ({ frames := 1, cells := 0, slots := 0, locals := 31 }) (va_Pc [.ref h] (fun U => va_P (dC, dI) vwCl [(h, .inr (1, [.int (nI N), .int (nI n), .int pts, .ref b1, .ref b2, .ref b3, .ref b4, .ref b5])), (b1, .inl (cI, 66, .inl xs)), (b2, .inl (cI, 66, .inl ys)), (b3, .inl (cI, 66, .inl px)), (b4, .inl (cI, 66, .inl py)), (b5, .inl (cI, 67, .inl rd))] U.heap ∧ va_K (dC, dI) vwCl [(cI, .int)] U)) (vp_Si (fun r => r = Int32.ofInt (oh_ar (oh_pt xs ys) (n - 2)))) 0 0 (fun _ => False) := by
  refine Met.ofW (cc := cX1_twiceArea) (maxL := 4) (ret := (some .int)) (by decide) rfl ?_
  intro p e s m args below meth c s₁ B hml hv
  obtain ⟨rfl, hP, hK⟩ := hv
  have hx := B.exec
  have hb := B.bytes
  have hr := B.returns
  have hts := atoms_spec (ws := wsX1_twiceArea) B.pre
  have hown : s.vm.findClass RX1 = some m.cls := findClass_of_methodNamed B.named
  have hlocks := B.notSynchronized
  have hin0 : ∀ w ∈ wsX10, w ∈ wsX1_twiceArea := fun w h => List.mem_cons_of_mem _ (List.mem_append_right _ h)
  have hl := lv_entry ([.ref h]) (n := 4) (Nat.le_of_ble_eq_true rfl)
  rw [lg_entry_eq]
  generalize (lg_sl ([.ref h]) ++ List.replicate (4 - (lg_sl ([.ref h])).length) Slot.unset).toArray = ls at hl ⊢
  have hl : lv_has ls 4 [(0, .ref h)] := hl
  refine lv_lconst (v := 0) hx hb dX1_twiceArea_0 (by decide) ?_
  refine lv_lstore_n (lv' := [(1, .long 0), (0, .ref h)]) hx hb dX1_twiceArea_1 rfl hl (by decide) rfl (fun ls hl => ?_)
  refine lv_iconst (v := nI 1) hx hb dX1_twiceArea_2 (by decide) ?_
  refine lv_istore_n (lv' := [(3, .int (nI 1)), (1, .long 0), (0, .ref h)]) hx hb dX1_twiceArea_3 rfl hl (by decide) rfl (fun ls hl => ?_)
  have loop : ∀ (k_loop : Nat) (i : Nat) (sum : Int64), (1 ≤ i) → (i + 1 ≤ n ∨ i = 1) → (n + 2 ≤ i + k_loop) → (sum = Int64.ofInt (oh_ar (oh_pt xs ys) (i - 1))) → ∀ (ls : Array Slot), lv_has ls 4 [(0, .ref h), (1, .long sum), (3, .int (nI i))] → W p l e (headSpec wsX1_twiceArea ({ frames := 1, cells := 0, slots := 0, locals := 31 })).room s m ([.ref h] : List Value).toArray below meth c s.heap [] 0 0 (MQ below (vp_Si (fun r => r = Int32.ofInt (oh_ar (oh_pt xs ys) (n - 2)))) ([.ref h] : List Value).toArray s 0 0 (fun _ => False)) (F0 m 4 ls []) := by
    clear hl
    intro k_loop
    induction k_loop with
    | zero =>
      intro i sum hi1 hi hk hI
      exfalso; omega
    | succ k_loop ih_loop =>
      intro i sum hi1 hi hk hI ls hl
      refine lv_iload_n hx hb dX1_twiceArea_4 rfl (lv_at hl 2 rfl) ?_
      refine lv_iconst (v := nI 1) hx hb dX1_twiceArea_5 (by decide) ?_
      refine lv_iadd hx hb dX1_twiceArea_6 ?_
      rw [nI_add i 1]
      refine lv_aload_n hx hb dX1_twiceArea_7 rfl (lv_at hl 0 rfl) ?_
      refine va_get (D := (dC, dI)) (ci := 1) (v := .int (nI n)) (C := RX1) (T := TX1) (N := 8) hx hb hts hin0 hown hK hP 0 rfl rfl 1 (by decide) (hts (.fieldLink RX1 29 "OnlineHullModel" "corners" "I") (by decide +kernel)) (fun _ h9 => h9) rfl dX1_twiceArea_8 ?_
      refine lv_icmp_ge (tgt := 72) hx hb dX1_twiceArea_11 (by decide) (fun c_11 => ?_) (fun c_11 => ?_)
      · have g_11 : n ≤ (i + 1) := (nI_leI (a := n) (b := (i + 1)) (by omega) (by omega)).mp c_11
        refine lv_lload_n hx hb dX1_twiceArea_72 rfl (lv_at hl 1 rfl) ?_
        refine lv_l2i (v := sum.toInt32) hx hb dX1_twiceArea_73 rfl ?_
        exact W.iret (v := sum.toInt32) hx hb hr (fun t ht hW => ⟨_, rfl, by rw [hI, Int64.toInt32_ofInt, show i - 1 = n - 2 by omega], ht⟩) (fun _ h => by cases h) dX1_twiceArea_74
      · have g_11 : ¬ n ≤ (i + 1) := fun q => c_11 ((nI_leI (a := n) (b := (i + 1)) (by omega) (by omega)).mpr q)
        refine lv_lload_n hx hb dX1_twiceArea_14 rfl (lv_at hl 1 rfl) ?_
        refine lv_aload_n hx hb dX1_twiceArea_15 rfl (lv_at hl 0 rfl) ?_
        refine va_get (D := (dC, dI)) (ci := 1) (v := .ref b1) (C := RX1) (T := TX1) (N := 8) hx hb hts hin0 hown hK hP 0 rfl rfl 3 (by decide) (hts (.fieldLink RX1 7 "OnlineHullModel" "xs" "[I") (by decide +kernel)) (fun _ h9 => h9) rfl dX1_twiceArea_16 ?_
        refine lv_iconst (v := nI 0) hx hb dX1_twiceArea_19 (by decide) ?_
        refine oh_ald hx hb hK hP 1 0 rfl rfl (k := 0) (by omega) (by omega) dX1_twiceArea_20 ?_
        refine lv_i2l (v := (xs 0).toInt64) hx hb dX1_twiceArea_21 rfl ?_
        refine lv_aload_n hx hb dX1_twiceArea_22 rfl (lv_at hl 0 rfl) ?_
        refine va_get (D := (dC, dI)) (ci := 1) (v := .ref b2) (C := RX1) (T := TX1) (N := 8) hx hb hts hin0 hown hK hP 0 rfl rfl 4 (by decide) (hts (.fieldLink RX1 13 "OnlineHullModel" "ys" "[I") (by decide +kernel)) (fun _ h9 => h9) rfl dX1_twiceArea_23 ?_
        refine lv_iconst (v := nI 0) hx hb dX1_twiceArea_26 (by decide) ?_
        refine oh_ald hx hb hK hP 2 0 rfl rfl (k := 0) (by omega) (by omega) dX1_twiceArea_27 ?_
        refine lv_i2l (v := (ys 0).toInt64) hx hb dX1_twiceArea_28 rfl ?_
        refine lv_aload_n hx hb dX1_twiceArea_29 rfl (lv_at hl 0 rfl) ?_
        refine va_get (D := (dC, dI)) (ci := 1) (v := .ref b1) (C := RX1) (T := TX1) (N := 8) hx hb hts hin0 hown hK hP 0 rfl rfl 3 (by decide) (hts (.fieldLink RX1 7 "OnlineHullModel" "xs" "[I") (by decide +kernel)) (fun _ h9 => h9) rfl dX1_twiceArea_30 ?_
        refine lv_iload_n hx hb dX1_twiceArea_33 rfl (lv_at hl 2 rfl) ?_
        refine oh_ald hx hb hK hP 1 0 rfl rfl (k := i) (by omega) (by omega) dX1_twiceArea_34 ?_
        refine lv_i2l (v := (xs i).toInt64) hx hb dX1_twiceArea_35 rfl ?_
        refine lv_aload_n hx hb dX1_twiceArea_36 rfl (lv_at hl 0 rfl) ?_
        refine va_get (D := (dC, dI)) (ci := 1) (v := .ref b2) (C := RX1) (T := TX1) (N := 8) hx hb hts hin0 hown hK hP 0 rfl rfl 4 (by decide) (hts (.fieldLink RX1 13 "OnlineHullModel" "ys" "[I") (by decide +kernel)) (fun _ h9 => h9) rfl dX1_twiceArea_37 ?_
        refine lv_iload_n hx hb dX1_twiceArea_40 rfl (lv_at hl 2 rfl) ?_
        refine oh_ald hx hb hK hP 2 0 rfl rfl (k := i) (by omega) (by omega) dX1_twiceArea_41 ?_
        refine lv_i2l (v := (ys i).toInt64) hx hb dX1_twiceArea_42 rfl ?_
        refine lv_aload_n hx hb dX1_twiceArea_43 rfl (lv_at hl 0 rfl) ?_
        refine va_get (D := (dC, dI)) (ci := 1) (v := .ref b1) (C := RX1) (T := TX1) (N := 8) hx hb hts hin0 hown hK hP 0 rfl rfl 3 (by decide) (hts (.fieldLink RX1 7 "OnlineHullModel" "xs" "[I") (by decide +kernel)) (fun _ h9 => h9) rfl dX1_twiceArea_44 ?_
        refine lv_iload_n hx hb dX1_twiceArea_47 rfl (lv_at hl 2 rfl) ?_
        refine lv_iconst (v := nI 1) hx hb dX1_twiceArea_48 (by decide) ?_
        refine lv_iadd hx hb dX1_twiceArea_49 ?_
        rw [nI_add i 1]
        refine oh_ald hx hb hK hP 1 0 rfl rfl (k := (i + 1)) (by omega) (by omega) dX1_twiceArea_50 ?_
        refine lv_i2l (v := (xs ((i + 1))).toInt64) hx hb dX1_twiceArea_51 rfl ?_
        refine lv_aload_n hx hb dX1_twiceArea_52 rfl (lv_at hl 0 rfl) ?_
        refine va_get (D := (dC, dI)) (ci := 1) (v := .ref b2) (C := RX1) (T := TX1) (N := 8) hx hb hts hin0 hown hK hP 0 rfl rfl 4 (by decide) (hts (.fieldLink RX1 13 "OnlineHullModel" "ys" "[I") (by decide +kernel)) (fun _ h9 => h9) rfl dX1_twiceArea_53 ?_
        refine lv_iload_n hx hb dX1_twiceArea_56 rfl (lv_at hl 2 rfl) ?_
        refine lv_iconst (v := nI 1) hx hb dX1_twiceArea_57 (by decide) ?_
        refine lv_iadd hx hb dX1_twiceArea_58 ?_
        rw [nI_add i 1]
        refine oh_ald hx hb hK hP 2 0 rfl rfl (k := (i + 1)) (by omega) (by omega) dX1_twiceArea_59 ?_
        refine lv_i2l (v := (ys ((i + 1))).toInt64) hx hb dX1_twiceArea_60 rfl ?_
        refine vp_callSl (va_Run.run (va_runS (As := [.long ((xs 0).toInt64), .long ((ys 0).toInt64), .long ((xs i).toInt64), .long ((ys i).toInt64), .long ((xs ((i + 1))).toInt64), .long ((ys ((i + 1))).toInt64)]) (rest := [.long sum]) ⟨hx, hb, hml, hown, hts⟩ (k_X1_turn l (xs 0) (ys 0) (xs i) (ys i) (xs ((i + 1))) (ys ((i + 1))) (hR 0 (by omega)) (hR i (by omega)) (hR (i + 1) (by omega))) (va_cwS 6 hts gX1_twiceArea_X1_turn rfl rfl rfl (by decide +kernel) ⟨Nat.le_of_ble_eq_true rfl, Nat.le_of_ble_eq_true rfl⟩) oh_pre0 rfl rfl hl.1 rfl (lv_room (Nat.le_of_ble_eq_true rfl)) dX1_twiceArea_61 ⟨Nat.zero_le _, Nat.zero_le _⟩)) (fun r_61 hr_61 => ?_)
        refine lv_ladd hx hb dX1_twiceArea_64 ?_
        refine lv_lstore_n (lv' := [(1, .long (sum + r_61)), (0, .ref h), (3, .int (nI i))]) hx hb dX1_twiceArea_65 rfl hl (by decide) rfl (fun ls hl => ?_)
        refine lv_iinc (v := nI (i + 1)) (lv' := [(3, .int (nI (i + 1))), (1, .long (sum + r_61)), (0, .ref h)]) hx hb dX1_twiceArea_66 hl (k := 2) rfl (nI_1 i) (by decide) rfl (fun ls hl => ?_)
        refine lv_goto (tgt := 4) hx hb dX1_twiceArea_69 (by decide) ?_
        exact ih_loop (i + 1) (sum + r_61) (by omega) (by omega) (by omega) (oh_arL hI hr_61 hi1) ls (lv_sub hl [2, 1, 0] rfl)
  exact loop (n + 2) 1 0 (by omega) (by omega) (by omega) (rfl) ls (lv_sub hl [2, 1, 0] rfl)

set_option maxHeartbeats 4000000 in
set_option maxRecDepth 100000 in
theorem k_X1_farthest (l : Launch) (dC : Nat → ClassId) (dI : Nat → Nat → Nat) (cI : ClassId) (h b1 b2 b3 b4 b5 N n : Nat) (pts : Int32) (xs ys px py rd : Nat → Int32) (x y : Int32) (hN : N ≤ 64) (hn : n ≤ N) (hR : ∀ j, j < n → oh_inR (xs j) (ys j)) : Met l yX1_farthest wsX1_farthest ({ frames := 1, cells := 0, slots := 0, locals := 21 }) (va_Pc [.ref h, .int x, .int y] (fun U => va_P (dC, dI) vwCl [(h, .inr (1, [.int (nI N), .int (nI n), .int pts, .ref b1, .ref b2, .ref b3, .ref b4, .ref b5])), (b1, .inl (cI, 66, .inl xs)), (b2, .inl (cI, 66, .inl ys)), (b3, .inl (cI, 66, .inl px)), (b4, .inl (cI, 66, .inl py)), (b5, .inl (cI, 67, .inl rd))] U.heap ∧ va_K (dC, dI) vwCl [(cI, .int)] U)) (vp_Si (fun r => oh_far n (oh_pt xs ys) x y r)) 0 0 (fun _ => False) := by
  refine Met.ofW (cc := cX1_farthest) (maxL := 5) (ret := (some .int)) (by decide) rfl ?_
  intro p e s m args below meth c s₁ B hml hv
  obtain ⟨rfl, hP, hK⟩ := hv
  have hx := B.exec
  have hb := B.bytes
  have hr := B.returns
  have hts := atoms_spec (ws := wsX1_farthest) B.pre
  have hown : s.vm.findClass RX1 = some m.cls := findClass_of_methodNamed B.named
  have hlocks := B.notSynchronized
  have hin0 : ∀ w ∈ wsX10, w ∈ wsX1_farthest := fun w h => List.mem_cons_of_mem _ (List.mem_append_right _ h)
  have hl := lv_entry ([.ref h, .int x, .int y]) (n := 5) (Nat.le_of_ble_eq_true rfl)
  rw [lg_entry_eq]
  generalize (lg_sl ([.ref h, .int x, .int y]) ++ List.replicate (5 - (lg_sl ([.ref h, .int x, .int y])).length) Slot.unset).toArray = ls at hl ⊢
  have hl : lv_has ls 5 [(0, .ref h), (1, .int x), (2, .int y)] := hl
  refine lv_aload_n hx hb dX1_farthest_0 rfl (lv_at hl 0 rfl) ?_
  refine va_get (D := (dC, dI)) (ci := 1) (v := .int (nI n)) (C := RX1) (T := TX1) (N := 8) hx hb hts hin0 hown hK hP 0 rfl rfl 1 (by decide) (hts (.fieldLink RX1 29 "OnlineHullModel" "corners" "I") (by decide +kernel)) (fun _ h9 => h9) rfl dX1_farthest_1 ?_
  refine lv_if_eq (tgt := 15) hx hb dX1_farthest_4 (by decide) (fun c_4 => ?_) (fun c_4 => ?_)
  · have g_4 : n = 0 := (nI_eq (a := n) (b := 0) (by omega) (by omega)).mp (c_4.trans nI_0.symm)
    refine lv_iconst (v := -1) hx hb dX1_farthest_15 (by decide) ?_
    exact W.iret (v := -1) hx hb hr (fun t ht hW => ⟨_, rfl, Or.inl ⟨by first | exact Or.inl (by omega) | exact Or.inr b_9, rfl⟩, ht⟩) (fun _ h => by cases h) dX1_farthest_16
  · have g_4 : n ≠ 0 := fun q => (fun q => c_4 (q.trans nI_0)) ((nI_eq (a := n) (b := 0) (by omega) (by omega)).mpr q)
    refine lv_iload_n hx hb dX1_farthest_7 rfl (lv_at hl 1 rfl) ?_
    refine lv_iload_n hx hb dX1_farthest_8 rfl (lv_at hl 2 rfl) ?_
    refine vp_callSi (va_Run.run (va_runS (As := [.int x, .int y]) (rest := []) ⟨hx, hb, hml, hown, hts⟩ (k_X1_inRange l x y) (va_cwS 2 hts gX1_farthest_X1_inRange rfl rfl rfl (by decide +kernel) ⟨Nat.le_of_ble_eq_true rfl, Nat.le_of_ble_eq_true rfl⟩) oh_pre0 rfl rfl hl.1 rfl (lv_room (Nat.le_of_ble_eq_true rfl)) dX1_farthest_9 ⟨Nat.zero_le _, Nat.zero_le _⟩)) (fun r_9 hr_9 => ?_)
    rcases hr_9 with ⟨b_9, hr_9⟩ | ⟨b_9, hr_9⟩ <;> subst hr_9
    · refine lv_if_ne (tgt := 17) hx hb dX1_farthest_12 (by decide) (fun _ => ?_) (fun q => absurd q (by decide))
      refine lv_iconst (v := nI 0) hx hb dX1_farthest_17 (by decide) ?_
      refine lv_istore_n (lv' := [(3, .int (nI 0)), (0, .ref h), (1, .int x), (2, .int y)]) hx hb dX1_farthest_18 rfl hl (by decide) rfl (fun ls hl => ?_)
      refine lv_iconst (v := nI 1) hx hb dX1_farthest_19 (by decide) ?_
      refine lv_istore (lv' := [(4, .int (nI 1)), (3, .int (nI 0)), (0, .ref h), (1, .int x), (2, .int y)]) hx hb dX1_farthest_20 hl (by decide) rfl (fun ls hl => ?_)
      have loop : ∀ (k_loop : Nat) (i : Nat) (b : Nat), (1 ≤ i) → (i ≤ n) → (n + 1 ≤ i + k_loop) → (b < i) → (∀ j, j < i → oh_rc (oh_pt xs ys) x.toInt y.toInt j ≤ oh_rc (oh_pt xs ys) x.toInt y.toInt b) → (∀ j, j < b → oh_rc (oh_pt xs ys) x.toInt y.toInt j < oh_rc (oh_pt xs ys) x.toInt y.toInt b) → ∀ (ls : Array Slot), lv_has ls 5 [(0, .ref h), (1, .int x), (2, .int y), (3, .int (nI b)), (4, .int (nI i))] → W p l e (headSpec wsX1_farthest ({ frames := 1, cells := 0, slots := 0, locals := 21 })).room s m ([.ref h, .int x, .int y] : List Value).toArray below meth c s.heap [] 0 0 (MQ below (vp_Si (fun r => oh_far n (oh_pt xs ys) x y r)) ([.ref h, .int x, .int y] : List Value).toArray s 0 0 (fun _ => False)) (F0 m 22 ls []) := by
        clear hl
        intro k_loop
        induction k_loop with
        | zero =>
          intro i b hi1 hi hk hb9 hI1 hI2
          exfalso; omega
        | succ k_loop ih_loop =>
          intro i b hi1 hi hk hb9 hI1 hI2 ls hl
          refine lv_iload hx hb dX1_farthest_22 (lv_at hl 4 rfl) ?_
          refine lv_aload_n hx hb dX1_farthest_24 rfl (lv_at hl 0 rfl) ?_
          refine va_get (D := (dC, dI)) (ci := 1) (v := .int (nI n)) (C := RX1) (T := TX1) (N := 8) hx hb hts hin0 hown hK hP 0 rfl rfl 1 (by decide) (hts (.fieldLink RX1 29 "OnlineHullModel" "corners" "I") (by decide +kernel)) (fun _ h9 => h9) rfl dX1_farthest_25 ?_
          refine lv_icmp_ge (tgt := 83) hx hb dX1_farthest_28 (by decide) (fun c_28 => ?_) (fun c_28 => ?_)
          · have g_28 : n ≤ i := (nI_leI (a := n) (b := i) (by omega) (by omega)).mp c_28
            refine lv_iload_n hx hb dX1_farthest_83 rfl (lv_at hl 3 rfl) ?_
            exact W.iret (v := nI b) hx hb hr (fun t ht hW => ⟨_, rfl, Or.inr ⟨b_9, b, by omega, rfl, fun j hj => hI1 j (by omega), hI2⟩, ht⟩) (fun _ h => by cases h) dX1_farthest_84
          · have g_28 : ¬ n ≤ i := fun q => c_28 ((nI_leI (a := n) (b := i) (by omega) (by omega)).mpr q)
            refine lv_aload_n hx hb dX1_farthest_31 rfl (lv_at hl 0 rfl) ?_
            refine va_get (D := (dC, dI)) (ci := 1) (v := .ref b1) (C := RX1) (T := TX1) (N := 8) hx hb hts hin0 hown hK hP 0 rfl rfl 3 (by decide) (hts (.fieldLink RX1 7 "OnlineHullModel" "xs" "[I") (by decide +kernel)) (fun _ h9 => h9) rfl dX1_farthest_32 ?_
            refine lv_iload hx hb dX1_farthest_35 (lv_at hl 4 rfl) ?_
            refine oh_ald hx hb hK hP 1 0 rfl rfl (k := i) (by omega) (by omega) dX1_farthest_37 ?_
            refine lv_iload_n hx hb dX1_farthest_38 rfl (lv_at hl 1 rfl) ?_
            refine lv_imul hx hb dX1_farthest_39 ?_
            refine lv_aload_n hx hb dX1_farthest_40 rfl (lv_at hl 0 rfl) ?_
            refine va_get (D := (dC, dI)) (ci := 1) (v := .ref b2) (C := RX1) (T := TX1) (N := 8) hx hb hts hin0 hown hK hP 0 rfl rfl 4 (by decide) (hts (.fieldLink RX1 13 "OnlineHullModel" "ys" "[I") (by decide +kernel)) (fun _ h9 => h9) rfl dX1_farthest_41 ?_
            refine lv_iload hx hb dX1_farthest_44 (lv_at hl 4 rfl) ?_
            refine oh_ald hx hb hK hP 2 0 rfl rfl (k := i) (by omega) (by omega) dX1_farthest_46 ?_
            refine lv_iload_n hx hb dX1_farthest_47 rfl (lv_at hl 2 rfl) ?_
            refine lv_imul hx hb dX1_farthest_48 ?_
            refine lv_iadd hx hb dX1_farthest_49 ?_
            refine lv_topi (fun t_49 e_49 => ?_)
            have w_49 : t_49.toInt = oh_rc (oh_pt xs ys) x.toInt y.toInt i := oh_rc32 e_49 b_9 (hR i (by omega))
            refine lv_aload_n hx hb dX1_farthest_50 rfl (lv_at hl 0 rfl) ?_
            refine va_get (D := (dC, dI)) (ci := 1) (v := .ref b1) (C := RX1) (T := TX1) (N := 8) hx hb hts hin0 hown hK hP 0 rfl rfl 3 (by decide) (hts (.fieldLink RX1 7 "OnlineHullModel" "xs" "[I") (by decide +kernel)) (fun _ h9 => h9) rfl dX1_farthest_51 ?_
            refine lv_iload_n hx hb dX1_farthest_54 rfl (lv_at hl 3 rfl) ?_
            refine oh_ald hx hb hK hP 1 0 rfl rfl (k := b) (by omega) (by omega) dX1_farthest_55 ?_
            refine lv_iload_n hx hb dX1_farthest_56 rfl (lv_at hl 1 rfl) ?_
            refine lv_imul hx hb dX1_farthest_57 ?_
            refine lv_aload_n hx hb dX1_farthest_58 rfl (lv_at hl 0 rfl) ?_
            refine va_get (D := (dC, dI)) (ci := 1) (v := .ref b2) (C := RX1) (T := TX1) (N := 8) hx hb hts hin0 hown hK hP 0 rfl rfl 4 (by decide) (hts (.fieldLink RX1 13 "OnlineHullModel" "ys" "[I") (by decide +kernel)) (fun _ h9 => h9) rfl dX1_farthest_59 ?_
            refine lv_iload_n hx hb dX1_farthest_62 rfl (lv_at hl 3 rfl) ?_
            refine oh_ald hx hb hK hP 2 0 rfl rfl (k := b) (by omega) (by omega) dX1_farthest_63 ?_
            refine lv_iload_n hx hb dX1_farthest_64 rfl (lv_at hl 2 rfl) ?_
            refine lv_imul hx hb dX1_farthest_65 ?_
            refine lv_iadd hx hb dX1_farthest_66 ?_
            refine lv_topi (fun t_66 e_66 => ?_)
            have w_66 : t_66.toInt = oh_rc (oh_pt xs ys) x.toInt y.toInt b := oh_rc32 e_66 b_9 (hR b (by omega))
            refine lv_icmp_le (tgt := 75) hx hb dX1_farthest_67 (by decide) (fun c_67 => ?_) (fun c_67 => ?_)
            · have g_67 : t_49.toInt ≤ t_66.toInt := oh_leI c_67
              refine lv_iload_n hx hb dX1_farthest_75 rfl (lv_at hl 3 rfl) ?_
              refine lv_istore_n (lv' := [(3, .int (nI b)), (0, .ref h), (1, .int x), (2, .int y), (4, .int (nI i))]) hx hb dX1_farthest_76 rfl hl (by decide) rfl (fun ls hl => ?_)
              refine lv_iinc (v := nI (i + 1)) (lv' := [(4, .int (nI (i + 1))), (3, .int (nI b)), (0, .ref h), (1, .int x), (2, .int y)]) hx hb dX1_farthest_77 hl (k := 4) rfl (nI_1 i) (by decide) rfl (fun ls hl => ?_)
              refine lv_goto (tgt := 22) hx hb dX1_farthest_80 (by decide) ?_
              exact ih_loop (i + 1) b (by omega) (by omega) (by omega) (by omega) (lt_s hI1 (by omega)) (hI2) ls (lv_sub hl [2, 3, 4, 1, 0] rfl)
            · have g_67 : t_66.toInt < t_49.toInt := oh_nleI c_67
              refine lv_iload hx hb dX1_farthest_70 (lv_at hl 4 rfl) ?_
              refine lv_goto (tgt := 76) hx hb dX1_farthest_72 (by decide) ?_
              refine lv_istore_n (lv' := [(3, .int (nI i)), (0, .ref h), (1, .int x), (2, .int y), (4, .int (nI i))]) hx hb dX1_farthest_76 rfl hl (by decide) rfl (fun ls hl => ?_)
              refine lv_iinc (v := nI (i + 1)) (lv' := [(4, .int (nI (i + 1))), (3, .int (nI i)), (0, .ref h), (1, .int x), (2, .int y)]) hx hb dX1_farthest_77 hl (k := 4) rfl (nI_1 i) (by decide) rfl (fun ls hl => ?_)
              refine lv_goto (tgt := 22) hx hb dX1_farthest_80 (by decide) ?_
              exact ih_loop (i + 1) i (by omega) (by omega) (by omega) (by omega) (lt_s (fun j hj => by have := hI1 j hj; omega) (Int.le_refl _)) (fun j hj => by have := hI1 j hj; omega) ls (lv_sub hl [2, 3, 4, 1, 0] rfl)
      exact loop (n + 1) 1 0 (by omega) (by omega) (by omega) (by omega) (fun j hj => by rw [show j = 0 by omega]; exact Int.le_refl _) (fun j hj => by omega) ls (lv_sub hl [2, 3, 4, 1, 0] rfl)
    · refine lv_if_ne (tgt := 17) hx hb dX1_farthest_12 (by decide) (fun q => absurd q (by decide)) (fun _ => ?_)
      refine lv_iconst (v := -1) hx hb dX1_farthest_15 (by decide) ?_
      exact W.iret (v := -1) hx hb hr (fun t ht hW => ⟨_, rfl, Or.inl ⟨by first | exact Or.inl (by omega) | exact Or.inr b_9, rfl⟩, ht⟩) (fun _ h => by cases h) dX1_farthest_16

set_option maxHeartbeats 4000000 in
set_option maxRecDepth 100000 in
theorem k_X1_tangent (l : Launch) (dC : Nat → ClassId) (dI : Nat → Nat → Nat) (cI : ClassId) (h b1 b2 b3 b4 b5 N n : Nat) (pts : Int32) (xs ys px py rd : Nat → Int32) (x y wh : Int32) (hN : N ≤ 64) (hn : n ≤ N) (hR : ∀ j, j < n → oh_inR (xs j) (ys j)) (hh : oh_hull n (oh_pt xs ys)) : Met l yX1_tangent wsX1_tangent ({ frames := 3, cells := 0, slots := 0, locals := 81 }) (va_Pc [.ref h, .int x, .int y, .int wh] (fun U => va_P (dC, dI) vwCl [(h, .inr (1, [.int (nI N), .int (nI n), .int pts, .ref b1, .ref b2, .ref b3, .ref b4, .ref b5])), (b1, .inl (cI, 66, .inl xs)), (b2, .inl (cI, 66, .inl ys)), (b3, .inl (cI, 66, .inl px)), (b4, .inl (cI, 66, .inl py)), (b5, .inl (cI, 67, .inl rd))] U.heap ∧ va_K (dC, dI) vwCl [(cI, .int)] U)) (vp_Si (fun r => oh_tan n (oh_pt xs ys) x y wh r)) 0 0 (fun _ => False) := by
  refine Met.ofW (cc := cX1_tangent) (maxL := 10) (ret := (some .int)) (by decide) rfl ?_
  intro p e s m args below meth c s₁ B hml hv
  obtain ⟨rfl, hP, hK⟩ := hv
  have hx := B.exec
  have hb := B.bytes
  have hr := B.returns
  have hts := atoms_spec (ws := wsX1_tangent) B.pre
  have hown : s.vm.findClass RX1 = some m.cls := findClass_of_methodNamed B.named
  have hlocks := B.notSynchronized
  have hin0 : ∀ w ∈ wsX10, w ∈ wsX1_tangent := fun w h => List.mem_cons_of_mem _ (List.mem_append_right _ h)
  have hl := lv_entry ([.ref h, .int x, .int y, .int wh]) (n := 10) (Nat.le_of_ble_eq_true rfl)
  rw [lg_entry_eq]
  generalize (lg_sl ([.ref h, .int x, .int y, .int wh]) ++ List.replicate (10 - (lg_sl ([.ref h, .int x, .int y, .int wh])).length) Slot.unset).toArray = ls at hl ⊢
  have hl : lv_has ls 10 [(0, .ref h), (1, .int x), (2, .int y), (3, .int wh)] := hl
  refine lv_aload_n hx hb dX1_tangent_0 rfl (lv_at hl 0 rfl) ?_
  refine va_get (D := (dC, dI)) (ci := 1) (v := .int (nI n)) (C := RX1) (T := TX1) (N := 8) hx hb hts hin0 hown hK hP 0 rfl rfl 1 (by decide) (hts (.fieldLink RX1 29 "OnlineHullModel" "corners" "I") (by decide +kernel)) (fun _ h9 => h9) rfl dX1_tangent_1 ?_
  refine lv_iconst (v := nI 3) hx hb dX1_tangent_4 (by decide) ?_
  refine lv_icmp_lt (tgt := 34) hx hb dX1_tangent_5 (by decide) (fun c_5 => ?_) (fun c_5 => ?_)
  · have g_5 : n < 3 := (nI_ltI (a := n) (b := 3) (by omega) (by omega)).mp c_5
    refine lv_iconst (v := -1) hx hb dX1_tangent_34 (by decide) ?_
    exact W.iret (v := -1) hx hb hr (fun t ht hW => ⟨_, rfl, Or.inr ⟨rfl, fun w => by first | exact b_19 w.2.1 | (have := w.1; omega) | (rcases w.2.2.2 with w | w <;> subst w <;> revert c_9 <;> decide) | (rcases w.2.2.2 with w | w <;> subst w <;> revert c_14 <;> decide) | (have w5 := (oh_plR0 (oh_pl3R w.1 hpl)).1.mpr w.2.2.1; omega)⟩, ht⟩) (fun _ h => by cases h) dX1_tangent_35
  · have g_5 : ¬ n < 3 := fun q => c_5 ((nI_ltI (a := n) (b := 3) (by omega) (by omega)).mpr q)
    refine lv_iload_n hx hb dX1_tangent_8 rfl (lv_at hl 3 rfl) ?_
    refine lv_if_lt (tgt := 34) hx hb dX1_tangent_9 (by decide) (fun c_9 => ?_) (fun c_9 => ?_)
    · have g_9 : wh.toInt < 0 := oh_ltI0 c_9
      refine lv_iconst (v := -1) hx hb dX1_tangent_34 (by decide) ?_
      exact W.iret (v := -1) hx hb hr (fun t ht hW => ⟨_, rfl, Or.inr ⟨rfl, fun w => by first | exact b_19 w.2.1 | (have := w.1; omega) | (rcases w.2.2.2 with w | w <;> subst w <;> revert c_9 <;> decide) | (rcases w.2.2.2 with w | w <;> subst w <;> revert c_14 <;> decide) | (have w5 := (oh_plR0 (oh_pl3R w.1 hpl)).1.mpr w.2.2.1; omega)⟩, ht⟩) (fun _ h => by cases h) dX1_tangent_35
    · have g_9 : 0 ≤ wh.toInt := oh_nltI0 c_9
      refine lv_iload_n hx hb dX1_tangent_12 rfl (lv_at hl 3 rfl) ?_
      refine lv_iconst (v := nI 1) hx hb dX1_tangent_13 (by decide) ?_
      refine lv_icmp_gt (tgt := 34) hx hb dX1_tangent_14 (by decide) (fun c_14 => ?_) (fun c_14 => ?_)
      · have g_14 : (1 : Int) < wh.toInt := by have q := oh_ltI c_14; rw [nI_toInt (n := 1) (by omega)] at q; exact q
        refine lv_iconst (v := -1) hx hb dX1_tangent_34 (by decide) ?_
        exact W.iret (v := -1) hx hb hr (fun t ht hW => ⟨_, rfl, Or.inr ⟨rfl, fun w => by first | exact b_19 w.2.1 | (have := w.1; omega) | (rcases w.2.2.2 with w | w <;> subst w <;> revert c_9 <;> decide) | (rcases w.2.2.2 with w | w <;> subst w <;> revert c_14 <;> decide) | (have w5 := (oh_plR0 (oh_pl3R w.1 hpl)).1.mpr w.2.2.1; omega)⟩, ht⟩) (fun _ h => by cases h) dX1_tangent_35
      · have g_14 : wh.toInt ≤ (1 : Int) := by have q := oh_nltI c_14; rw [nI_toInt (n := 1) (by omega)] at q; exact q
        refine lv_iload_n hx hb dX1_tangent_17 rfl (lv_at hl 1 rfl) ?_
        refine lv_iload_n hx hb dX1_tangent_18 rfl (lv_at hl 2 rfl) ?_
        refine vp_callSi (va_Run.run (va_runS (As := [.int x, .int y]) (rest := []) ⟨hx, hb, hml, hown, hts⟩ (k_X1_inRange l x y) (va_cwS 2 hts gX1_tangent_X1_inRange rfl rfl rfl (by decide +kernel) ⟨Nat.le_of_ble_eq_true rfl, Nat.le_of_ble_eq_true rfl⟩) oh_pre0 rfl rfl hl.1 rfl (lv_room (Nat.le_of_ble_eq_true rfl)) dX1_tangent_19 ⟨Nat.zero_le _, Nat.zero_le _⟩)) (fun r_19 hr_19 => ?_)
        rcases hr_19 with ⟨b_19, hr_19⟩ | ⟨b_19, hr_19⟩ <;> subst hr_19
        · refine lv_if_eq (tgt := 34) hx hb dX1_tangent_22 (by decide) (fun q => absurd q (by decide)) (fun _ => ?_)
          refine lv_aload_n hx hb dX1_tangent_25 rfl (lv_at hl 0 rfl) ?_
          refine lv_iload_n hx hb dX1_tangent_26 rfl (lv_at hl 1 rfl) ?_
          refine lv_iload_n hx hb dX1_tangent_27 rfl (lv_at hl 2 rfl) ?_
          refine vp_callSi (va_Run.run (va_runV (As := [.int x, .int y]) (rest := []) ⟨hx, hb, hml, hown, hts⟩ (k_X1_inside l dC dI cI h b1 b2 b3 b4 b5 N n pts xs ys px py rd x y hN hn hR hh) (cwV 2 hts gX1_tangent_X1_inside rfl rfl rfl (by decide +kernel) ⟨Nat.le_of_ble_eq_true rfl, Nat.le_of_ble_eq_true rfl⟩) (oh_pre (ci := 1) (q0 := 0) hK hP rfl rfl) rfl rfl hl.1 rfl (lv_room (Nat.le_of_ble_eq_true rfl)) dX1_tangent_28 ⟨Nat.zero_le _, Nat.zero_le _⟩)) (fun r_28 hr_28 => ?_)
          have hpl : oh_pl3 n (oh_pt xs ys) (x.toInt, y.toInt) r_28 := hr_28.elim (fun w => w.2) (fun w => absurd b_19 w.1)
          refine lv_if_le (tgt := 36) hx hb dX1_tangent_31 (by decide) (fun c_31 => ?_) (fun c_31 => ?_)
          · have g_31 : r_28.toInt ≤ 0 := oh_leI0 c_31
            have hout : ∃ j, j < n ∧ oh_sd n (oh_pt xs ys) (x.toInt, y.toInt) j < 0 := (oh_plR0 (oh_pl3R (by omega) hpl)).1.mp (by have := (oh_plR0 (oh_pl3R (by omega) hpl)).2; omega)
            have hwh : wh = 0 ∨ wh = 1 := by rcases (show wh.toInt = 0 ∨ wh.toInt = 1 by omega) with w | w; exact Or.inl (Int32.toInt_inj.mp w); exact Or.inr (Int32.toInt_inj.mp w)
            have hz0 : wh = 0 ↔ wh.toInt = 0 := ⟨fun e => by rw [e]; rfl, fun e => Int32.toInt_inj.mp e⟩
            refine lv_iconst (v := -1) hx hb dX1_tangent_36 (by decide) ?_
            refine lv_istore (lv' := [(4, .int (-1)), (0, .ref h), (1, .int x), (2, .int y), (3, .int wh)]) hx hb dX1_tangent_37 hl (by decide) rfl (fun ls hl => ?_)
            refine lv_iconst (v := nI 0) hx hb dX1_tangent_39 (by decide) ?_
            refine lv_istore (lv' := [(5, .int (nI 0)), (4, .int (-1)), (0, .ref h), (1, .int x), (2, .int y), (3, .int wh)]) hx hb dX1_tangent_40 hl (by decide) rfl (fun ls hl => ?_)
            have loop : ∀ (k_loop : Nat) (i : Nat) (fo : Int32), (i ≤ n) → (n + 1 ≤ i + k_loop) → ((fo = -1 ∧ ∀ j, j < i → ¬ ((wh = 0 ∧ oh_sd n (oh_pt xs ys) (x.toInt, y.toInt) j < 0 ∧ 0 ≤ oh_sd n (oh_pt xs ys) (x.toInt, y.toInt) (oh_pv n j)) ∨ (wh = 1 ∧ 0 ≤ oh_sd n (oh_pt xs ys) (x.toInt, y.toInt) j ∧ oh_sd n (oh_pt xs ys) (x.toInt, y.toInt) (oh_pv n j) < 0))) ∨ (∃ j, j < i ∧ fo = nI j ∧ ((wh = 0 ∧ oh_sd n (oh_pt xs ys) (x.toInt, y.toInt) j < 0 ∧ 0 ≤ oh_sd n (oh_pt xs ys) (x.toInt, y.toInt) (oh_pv n j)) ∨ (wh = 1 ∧ 0 ≤ oh_sd n (oh_pt xs ys) (x.toInt, y.toInt) j ∧ oh_sd n (oh_pt xs ys) (x.toInt, y.toInt) (oh_pv n j) < 0)))) → ∀ (ls : Array Slot), lv_has ls 10 [(0, .ref h), (1, .int x), (2, .int y), (3, .int wh), (4, .int fo), (5, .int (nI i))] → W p l e (headSpec wsX1_tangent ({ frames := 3, cells := 0, slots := 0, locals := 81 })).room s m ([.ref h, .int x, .int y, .int wh] : List Value).toArray below meth c s.heap [] 0 0 (MQ below (vp_Si (fun r => oh_tan n (oh_pt xs ys) x y wh r)) ([.ref h, .int x, .int y, .int wh] : List Value).toArray s 0 0 (fun _ => False)) (F0 m 42 ls []) := by
              clear hl
              intro k_loop
              induction k_loop with
              | zero =>
                intro i fo hi hk hI
                exfalso; omega
              | succ k_loop ih_loop =>
                intro i fo hi hk hI ls hl
                refine lv_iload hx hb dX1_tangent_42 (lv_at hl 5 rfl) ?_
                refine lv_aload_n hx hb dX1_tangent_44 rfl (lv_at hl 0 rfl) ?_
                refine va_get (D := (dC, dI)) (ci := 1) (v := .int (nI n)) (C := RX1) (T := TX1) (N := 8) hx hb hts hin0 hown hK hP 0 rfl rfl 1 (by decide) (hts (.fieldLink RX1 29 "OnlineHullModel" "corners" "I") (by decide +kernel)) (fun _ h9 => h9) rfl dX1_tangent_45 ?_
                refine lv_icmp_ge (tgt := 170) hx hb dX1_tangent_48 (by decide) (fun c_48 => ?_) (fun c_48 => ?_)
                · have g_48 : n ≤ i := (nI_leI (a := n) (b := i) (by omega) (by omega)).mp c_48
                  refine lv_iload hx hb dX1_tangent_170 (lv_at hl 4 rfl) ?_
                  exact W.iret (v := fo) hx hb hr (fun t ht hW => ⟨_, rfl, by rw [show i = n by omega] at hI; exact oh_tanR (by omega) b_19 hout hwh hI, ht⟩) (fun _ h => by cases h) dX1_tangent_172
                · have g_48 : ¬ n ≤ i := fun q => c_48 ((nI_leI (a := n) (b := i) (by omega) (by omega)).mpr q)
                  refine lv_iload hx hb dX1_tangent_51 (lv_at hl 5 rfl) ?_
                  refine lv_if_ne (tgt := 65) hx hb dX1_tangent_53 (by decide) (fun c_53 => ?_) (fun c_53 => ?_)
                  · have g_53 : i ≠ 0 := fun q => (fun q => c_53 (q.trans nI_0)) ((nI_eq (a := i) (b := 0) (by omega) (by omega)).mpr q)
                    refine lv_iload hx hb dX1_tangent_65 (lv_at hl 5 rfl) ?_
                    refine lv_iconst (v := nI 1) hx hb dX1_tangent_67 (by decide) ?_
                    refine lv_isub hx hb dX1_tangent_68 ?_
                    rw [pk_sub (a := i) (b := 1) (by omega)]
                    refine lv_istore (lv' := [(6, .int (nI (i - 1))), (0, .ref h), (1, .int x), (2, .int y), (3, .int wh), (4, .int fo), (5, .int (nI i))]) hx hb dX1_tangent_69 hl (by decide) rfl (fun ls hl => ?_)
                    refine lv_aload_n hx hb dX1_tangent_71 rfl (lv_at hl 1 rfl) ?_
                    refine lv_iload hx hb dX1_tangent_72 (lv_at hl 6 rfl) ?_
                    refine lv_iload_n hx hb dX1_tangent_74 rfl (lv_at hl 2 rfl) ?_
                    refine lv_iload_n hx hb dX1_tangent_75 rfl (lv_at hl 3 rfl) ?_
                    refine vp_callSl (va_Run.run (va_runV (As := [.int (nI i), .int x, .int y]) (rest := []) ⟨hx, hb, hml, hown, hts⟩ (k_X1_side l dC dI cI h b1 b2 b3 b4 b5 N n pts xs ys px py rd i x y hN hn (by omega) hR b_19) (cwV 3 hts gX1_tangent_X1_side rfl rfl rfl (by decide +kernel) ⟨Nat.le_of_ble_eq_true rfl, Nat.le_of_ble_eq_true rfl⟩) (oh_pre (ci := 1) (q0 := 0) hK hP rfl rfl) rfl rfl hl.1 rfl (lv_room (Nat.le_of_ble_eq_true rfl)) dX1_tangent_76 ⟨Nat.zero_le _, Nat.zero_le _⟩)) (fun r_76 hr_76 => ?_)
                    refine lv_lconst (v := 0) hx hb dX1_tangent_79 (by decide) ?_
                    refine W.lcmp hx hb dX1_tangent_80 ?_
                    refine lv_if_ge (tgt := 88) hx hb dX1_tangent_81 (by decide) (fun c_81 => ?_) (fun c_81 => ?_)
                    · have g_81 : r_76.toInt ≥ 0 := oh_lc_ge0 c_81
                      refine lv_iconst (v := nI 0) hx hb dX1_tangent_88 (by decide) ?_
                      refine lv_istore (lv' := [(7, .int (nI 0)), (6, .int (nI (i - 1))), (0, .ref h), (1, .int x), (2, .int y), (3, .int wh), (4, .int fo), (5, .int (nI i))]) hx hb dX1_tangent_89 hl (by decide) rfl (fun ls hl => ?_)
                      refine lv_aload_n hx hb dX1_tangent_91 rfl (lv_at hl 2 rfl) ?_
                      refine lv_iload hx hb dX1_tangent_92 (lv_at hl 1 rfl) ?_
                      refine lv_iload_n hx hb dX1_tangent_94 rfl (lv_at hl 3 rfl) ?_
                      refine lv_iload_n hx hb dX1_tangent_95 rfl (lv_at hl 4 rfl) ?_
                      refine vp_callSl (va_Run.run (va_runV (As := [.int (nI (i - 1)), .int x, .int y]) (rest := []) ⟨hx, hb, hml, hown, hts⟩ (k_X1_side l dC dI cI h b1 b2 b3 b4 b5 N n pts xs ys px py rd ((i - 1)) x y hN hn (by omega) hR b_19) (cwV 3 hts gX1_tangent_X1_side rfl rfl rfl (by decide +kernel) ⟨Nat.le_of_ble_eq_true rfl, Nat.le_of_ble_eq_true rfl⟩) (oh_pre (ci := 1) (q0 := 0) hK hP rfl rfl) rfl rfl hl.1 rfl (lv_room (Nat.le_of_ble_eq_true rfl)) dX1_tangent_96 ⟨Nat.zero_le _, Nat.zero_le _⟩)) (fun r_96 hr_96 => ?_)
                      have hr_96 : r_96.toInt = oh_sd n (oh_pt xs ys) (x.toInt, y.toInt) (oh_pv n i) := by rw [hr_96]; unfold oh_pv; first | rw [if_pos (by omega)] | rw [if_neg (by omega)]
                      refine lv_lconst (v := 0) hx hb dX1_tangent_99 (by decide) ?_
                      refine W.lcmp hx hb dX1_tangent_100 ?_
                      refine lv_if_ge (tgt := 108) hx hb dX1_tangent_101 (by decide) (fun c_101 => ?_) (fun c_101 => ?_)
                      · have g_101 : r_96.toInt ≥ 0 := oh_lc_ge0 c_101
                        refine lv_iconst (v := nI 0) hx hb dX1_tangent_108 (by decide) ?_
                        refine lv_istore (lv' := [(8, .int (nI 0)), (7, .int (nI 0)), (6, .int (nI (i - 1))), (0, .ref h), (1, .int x), (2, .int y), (3, .int wh), (4, .int fo), (5, .int (nI i))]) hx hb dX1_tangent_109 hl (by decide) rfl (fun ls hl => ?_)
                        refine lv_iload_n hx hb dX1_tangent_111 rfl (lv_at hl 6 rfl) ?_
                        refine lv_if_ne (tgt := 133) hx hb dX1_tangent_112 (by decide) (fun c_112 => ?_) (fun c_112 => ?_)
                        · have g_112 : wh.toInt ≠ 0 := oh_neI0 c_112
                          have hw1 : wh = 1 := hwh.resolve_left c_112
                          refine lv_iload hx hb dX1_tangent_133 (lv_at hl 0 rfl) ?_
                          refine lv_if_eq (tgt := 147) hx hb dX1_tangent_135 (by decide) (fun _ => ?_) (fun q => absurd q (by decide))
                          refine lv_iconst (v := nI 0) hx hb dX1_tangent_147 (by decide) ?_
                          refine lv_istore (lv' := [(9, .int (nI 0)), (8, .int (nI 0)), (7, .int (nI 0)), (6, .int (nI (i - 1))), (0, .ref h), (1, .int x), (2, .int y), (3, .int wh), (4, .int fo), (5, .int (nI i))]) hx hb dX1_tangent_148 hl (by decide) rfl (fun ls hl => ?_)
                          refine lv_iload hx hb dX1_tangent_150 (lv_at hl 0 rfl) ?_
                          refine lv_if_eq (tgt := 160) hx hb dX1_tangent_152 (by decide) (fun _ => ?_) (fun q => absurd q (by decide))
                          refine lv_iload hx hb dX1_tangent_160 (lv_at hl 8 rfl) ?_
                          refine lv_istore (lv' := [(4, .int fo), (9, .int (nI 0)), (8, .int (nI 0)), (7, .int (nI 0)), (6, .int (nI (i - 1))), (0, .ref h), (1, .int x), (2, .int y), (3, .int wh), (5, .int (nI i))]) hx hb dX1_tangent_162 hl (by decide) rfl (fun ls hl => ?_)
                          refine lv_iinc (v := nI (i + 1)) (lv' := [(5, .int (nI (i + 1))), (4, .int fo), (9, .int (nI 0)), (8, .int (nI 0)), (7, .int (nI 0)), (6, .int (nI (i - 1))), (0, .ref h), (1, .int x), (2, .int y), (3, .int wh)]) hx hb dX1_tangent_164 hl (k := 9) rfl (nI_1 i) (by decide) rfl (fun ls hl => ?_)
                          refine lv_goto (tgt := 42) hx hb dX1_tangent_167 (by decide) ?_
                          exact ih_loop (i + 1) fo (by omega) (by omega) (oh_tanK hI (fun w => by rcases w with ⟨w1, w2, w3⟩ | ⟨w1, w2, w3⟩ <;> first | omega | exact absurd w1 c_112 | exact absurd (c_112.symm.trans w1) (by decide))) ls (lv_sub hl [6, 7, 8, 9, 1, 0] rfl)
                        · have g_112 : wh.toInt = 0 := oh_eqI0 c_112
                          refine lv_iload hx hb dX1_tangent_115 (lv_at hl 1 rfl) ?_
                          refine lv_if_eq (tgt := 129) hx hb dX1_tangent_117 (by decide) (fun _ => ?_) (fun q => absurd q (by decide))
                          refine lv_iconst (v := nI 0) hx hb dX1_tangent_129 (by decide) ?_
                          refine lv_goto (tgt := 148) hx hb dX1_tangent_130 (by decide) ?_
                          refine lv_istore (lv' := [(9, .int (nI 0)), (8, .int (nI 0)), (7, .int (nI 0)), (6, .int (nI (i - 1))), (0, .ref h), (1, .int x), (2, .int y), (3, .int wh), (4, .int fo), (5, .int (nI i))]) hx hb dX1_tangent_148 hl (by decide) rfl (fun ls hl => ?_)
                          refine lv_iload hx hb dX1_tangent_150 (lv_at hl 0 rfl) ?_
                          refine lv_if_eq (tgt := 160) hx hb dX1_tangent_152 (by decide) (fun _ => ?_) (fun q => absurd q (by decide))
                          refine lv_iload hx hb dX1_tangent_160 (lv_at hl 8 rfl) ?_
                          refine lv_istore (lv' := [(4, .int fo), (9, .int (nI 0)), (8, .int (nI 0)), (7, .int (nI 0)), (6, .int (nI (i - 1))), (0, .ref h), (1, .int x), (2, .int y), (3, .int wh), (5, .int (nI i))]) hx hb dX1_tangent_162 hl (by decide) rfl (fun ls hl => ?_)
                          refine lv_iinc (v := nI (i + 1)) (lv' := [(5, .int (nI (i + 1))), (4, .int fo), (9, .int (nI 0)), (8, .int (nI 0)), (7, .int (nI 0)), (6, .int (nI (i - 1))), (0, .ref h), (1, .int x), (2, .int y), (3, .int wh)]) hx hb dX1_tangent_164 hl (k := 9) rfl (nI_1 i) (by decide) rfl (fun ls hl => ?_)
                          refine lv_goto (tgt := 42) hx hb dX1_tangent_167 (by decide) ?_
                          exact ih_loop (i + 1) fo (by omega) (by omega) (oh_tanK hI (fun w => by rcases w with ⟨w1, w2, w3⟩ | ⟨w1, w2, w3⟩ <;> first | omega | exact absurd w1 c_112 | exact absurd (c_112.symm.trans w1) (by decide))) ls (lv_sub hl [6, 7, 8, 9, 1, 0] rfl)
                      · have g_101 : r_96.toInt < 0 := oh_lc_nge0 c_101
                        refine lv_iconst (v := nI 1) hx hb dX1_tangent_104 (by decide) ?_
                        refine lv_goto (tgt := 109) hx hb dX1_tangent_105 (by decide) ?_
                        refine lv_istore (lv' := [(8, .int (nI 1)), (7, .int (nI 0)), (6, .int (nI (i - 1))), (0, .ref h), (1, .int x), (2, .int y), (3, .int wh), (4, .int fo), (5, .int (nI i))]) hx hb dX1_tangent_109 hl (by decide) rfl (fun ls hl => ?_)
                        refine lv_iload_n hx hb dX1_tangent_111 rfl (lv_at hl 6 rfl) ?_
                        refine lv_if_ne (tgt := 133) hx hb dX1_tangent_112 (by decide) (fun c_112 => ?_) (fun c_112 => ?_)
                        · have g_112 : wh.toInt ≠ 0 := oh_neI0 c_112
                          have hw1 : wh = 1 := hwh.resolve_left c_112
                          refine lv_iload hx hb dX1_tangent_133 (lv_at hl 0 rfl) ?_
                          refine lv_if_eq (tgt := 147) hx hb dX1_tangent_135 (by decide) (fun q => absurd q (by decide)) (fun _ => ?_)
                          refine lv_iload hx hb dX1_tangent_138 (lv_at hl 1 rfl) ?_
                          refine lv_if_ne (tgt := 147) hx hb dX1_tangent_140 (by decide) (fun q => absurd q (by decide)) (fun _ => ?_)
                          refine lv_iconst (v := nI 1) hx hb dX1_tangent_143 (by decide) ?_
                          refine lv_goto (tgt := 148) hx hb dX1_tangent_144 (by decide) ?_
                          refine lv_istore (lv' := [(9, .int (nI 1)), (8, .int (nI 1)), (7, .int (nI 0)), (6, .int (nI (i - 1))), (0, .ref h), (1, .int x), (2, .int y), (3, .int wh), (4, .int fo), (5, .int (nI i))]) hx hb dX1_tangent_148 hl (by decide) rfl (fun ls hl => ?_)
                          refine lv_iload hx hb dX1_tangent_150 (lv_at hl 0 rfl) ?_
                          refine lv_if_eq (tgt := 160) hx hb dX1_tangent_152 (by decide) (fun q => absurd q (by decide)) (fun _ => ?_)
                          refine lv_iload hx hb dX1_tangent_155 (lv_at hl 9 rfl) ?_
                          refine lv_goto (tgt := 162) hx hb dX1_tangent_157 (by decide) ?_
                          refine lv_istore (lv' := [(4, .int (nI i)), (9, .int (nI 1)), (8, .int (nI 1)), (7, .int (nI 0)), (6, .int (nI (i - 1))), (0, .ref h), (1, .int x), (2, .int y), (3, .int wh), (5, .int (nI i))]) hx hb dX1_tangent_162 hl (by decide) rfl (fun ls hl => ?_)
                          refine lv_iinc (v := nI (i + 1)) (lv' := [(5, .int (nI (i + 1))), (4, .int (nI i)), (9, .int (nI 1)), (8, .int (nI 1)), (7, .int (nI 0)), (6, .int (nI (i - 1))), (0, .ref h), (1, .int x), (2, .int y), (3, .int wh)]) hx hb dX1_tangent_164 hl (k := 9) rfl (nI_1 i) (by decide) rfl (fun ls hl => ?_)
                          refine lv_goto (tgt := 42) hx hb dX1_tangent_167 (by decide) ?_
                          exact ih_loop (i + 1) (nI i) (by omega) (by omega) (Or.inr ⟨i, by omega, rfl, by first | exact Or.inr ⟨hw1, by omega, by omega⟩ | exact Or.inl ⟨c_112, by omega, by omega⟩⟩) ls (lv_sub hl [6, 7, 8, 9, 1, 0] rfl)
                        · have g_112 : wh.toInt = 0 := oh_eqI0 c_112
                          refine lv_iload hx hb dX1_tangent_115 (lv_at hl 1 rfl) ?_
                          refine lv_if_eq (tgt := 129) hx hb dX1_tangent_117 (by decide) (fun _ => ?_) (fun q => absurd q (by decide))
                          refine lv_iconst (v := nI 0) hx hb dX1_tangent_129 (by decide) ?_
                          refine lv_goto (tgt := 148) hx hb dX1_tangent_130 (by decide) ?_
                          refine lv_istore (lv' := [(9, .int (nI 0)), (8, .int (nI 1)), (7, .int (nI 0)), (6, .int (nI (i - 1))), (0, .ref h), (1, .int x), (2, .int y), (3, .int wh), (4, .int fo), (5, .int (nI i))]) hx hb dX1_tangent_148 hl (by decide) rfl (fun ls hl => ?_)
                          refine lv_iload hx hb dX1_tangent_150 (lv_at hl 0 rfl) ?_
                          refine lv_if_eq (tgt := 160) hx hb dX1_tangent_152 (by decide) (fun _ => ?_) (fun q => absurd q (by decide))
                          refine lv_iload hx hb dX1_tangent_160 (lv_at hl 8 rfl) ?_
                          refine lv_istore (lv' := [(4, .int fo), (9, .int (nI 0)), (8, .int (nI 1)), (7, .int (nI 0)), (6, .int (nI (i - 1))), (0, .ref h), (1, .int x), (2, .int y), (3, .int wh), (5, .int (nI i))]) hx hb dX1_tangent_162 hl (by decide) rfl (fun ls hl => ?_)
                          refine lv_iinc (v := nI (i + 1)) (lv' := [(5, .int (nI (i + 1))), (4, .int fo), (9, .int (nI 0)), (8, .int (nI 1)), (7, .int (nI 0)), (6, .int (nI (i - 1))), (0, .ref h), (1, .int x), (2, .int y), (3, .int wh)]) hx hb dX1_tangent_164 hl (k := 9) rfl (nI_1 i) (by decide) rfl (fun ls hl => ?_)
                          refine lv_goto (tgt := 42) hx hb dX1_tangent_167 (by decide) ?_
                          exact ih_loop (i + 1) fo (by omega) (by omega) (oh_tanK hI (fun w => by rcases w with ⟨w1, w2, w3⟩ | ⟨w1, w2, w3⟩ <;> first | omega | exact absurd w1 c_112 | exact absurd (c_112.symm.trans w1) (by decide))) ls (lv_sub hl [6, 7, 8, 9, 1, 0] rfl)
                    · have g_81 : r_76.toInt < 0 := oh_lc_nge0 c_81
                      refine lv_iconst (v := nI 1) hx hb dX1_tangent_84 (by decide) ?_
                      refine lv_goto (tgt := 89) hx hb dX1_tangent_85 (by decide) ?_
                      refine lv_istore (lv' := [(7, .int (nI 1)), (6, .int (nI (i - 1))), (0, .ref h), (1, .int x), (2, .int y), (3, .int wh), (4, .int fo), (5, .int (nI i))]) hx hb dX1_tangent_89 hl (by decide) rfl (fun ls hl => ?_)
                      refine lv_aload_n hx hb dX1_tangent_91 rfl (lv_at hl 2 rfl) ?_
                      refine lv_iload hx hb dX1_tangent_92 (lv_at hl 1 rfl) ?_
                      refine lv_iload_n hx hb dX1_tangent_94 rfl (lv_at hl 3 rfl) ?_
                      refine lv_iload_n hx hb dX1_tangent_95 rfl (lv_at hl 4 rfl) ?_
                      refine vp_callSl (va_Run.run (va_runV (As := [.int (nI (i - 1)), .int x, .int y]) (rest := []) ⟨hx, hb, hml, hown, hts⟩ (k_X1_side l dC dI cI h b1 b2 b3 b4 b5 N n pts xs ys px py rd ((i - 1)) x y hN hn (by omega) hR b_19) (cwV 3 hts gX1_tangent_X1_side rfl rfl rfl (by decide +kernel) ⟨Nat.le_of_ble_eq_true rfl, Nat.le_of_ble_eq_true rfl⟩) (oh_pre (ci := 1) (q0 := 0) hK hP rfl rfl) rfl rfl hl.1 rfl (lv_room (Nat.le_of_ble_eq_true rfl)) dX1_tangent_96 ⟨Nat.zero_le _, Nat.zero_le _⟩)) (fun r_96 hr_96 => ?_)
                      have hr_96 : r_96.toInt = oh_sd n (oh_pt xs ys) (x.toInt, y.toInt) (oh_pv n i) := by rw [hr_96]; unfold oh_pv; first | rw [if_pos (by omega)] | rw [if_neg (by omega)]
                      refine lv_lconst (v := 0) hx hb dX1_tangent_99 (by decide) ?_
                      refine W.lcmp hx hb dX1_tangent_100 ?_
                      refine lv_if_ge (tgt := 108) hx hb dX1_tangent_101 (by decide) (fun c_101 => ?_) (fun c_101 => ?_)
                      · have g_101 : r_96.toInt ≥ 0 := oh_lc_ge0 c_101
                        refine lv_iconst (v := nI 0) hx hb dX1_tangent_108 (by decide) ?_
                        refine lv_istore (lv' := [(8, .int (nI 0)), (7, .int (nI 1)), (6, .int (nI (i - 1))), (0, .ref h), (1, .int x), (2, .int y), (3, .int wh), (4, .int fo), (5, .int (nI i))]) hx hb dX1_tangent_109 hl (by decide) rfl (fun ls hl => ?_)
                        refine lv_iload_n hx hb dX1_tangent_111 rfl (lv_at hl 6 rfl) ?_
                        refine lv_if_ne (tgt := 133) hx hb dX1_tangent_112 (by decide) (fun c_112 => ?_) (fun c_112 => ?_)
                        · have g_112 : wh.toInt ≠ 0 := oh_neI0 c_112
                          have hw1 : wh = 1 := hwh.resolve_left c_112
                          refine lv_iload hx hb dX1_tangent_133 (lv_at hl 0 rfl) ?_
                          refine lv_if_eq (tgt := 147) hx hb dX1_tangent_135 (by decide) (fun _ => ?_) (fun q => absurd q (by decide))
                          refine lv_iconst (v := nI 0) hx hb dX1_tangent_147 (by decide) ?_
                          refine lv_istore (lv' := [(9, .int (nI 0)), (8, .int (nI 0)), (7, .int (nI 1)), (6, .int (nI (i - 1))), (0, .ref h), (1, .int x), (2, .int y), (3, .int wh), (4, .int fo), (5, .int (nI i))]) hx hb dX1_tangent_148 hl (by decide) rfl (fun ls hl => ?_)
                          refine lv_iload hx hb dX1_tangent_150 (lv_at hl 0 rfl) ?_
                          refine lv_if_eq (tgt := 160) hx hb dX1_tangent_152 (by decide) (fun _ => ?_) (fun q => absurd q (by decide))
                          refine lv_iload hx hb dX1_tangent_160 (lv_at hl 8 rfl) ?_
                          refine lv_istore (lv' := [(4, .int fo), (9, .int (nI 0)), (8, .int (nI 0)), (7, .int (nI 1)), (6, .int (nI (i - 1))), (0, .ref h), (1, .int x), (2, .int y), (3, .int wh), (5, .int (nI i))]) hx hb dX1_tangent_162 hl (by decide) rfl (fun ls hl => ?_)
                          refine lv_iinc (v := nI (i + 1)) (lv' := [(5, .int (nI (i + 1))), (4, .int fo), (9, .int (nI 0)), (8, .int (nI 0)), (7, .int (nI 1)), (6, .int (nI (i - 1))), (0, .ref h), (1, .int x), (2, .int y), (3, .int wh)]) hx hb dX1_tangent_164 hl (k := 9) rfl (nI_1 i) (by decide) rfl (fun ls hl => ?_)
                          refine lv_goto (tgt := 42) hx hb dX1_tangent_167 (by decide) ?_
                          exact ih_loop (i + 1) fo (by omega) (by omega) (oh_tanK hI (fun w => by rcases w with ⟨w1, w2, w3⟩ | ⟨w1, w2, w3⟩ <;> first | omega | exact absurd w1 c_112 | exact absurd (c_112.symm.trans w1) (by decide))) ls (lv_sub hl [6, 7, 8, 9, 1, 0] rfl)
                        · have g_112 : wh.toInt = 0 := oh_eqI0 c_112
                          refine lv_iload hx hb dX1_tangent_115 (lv_at hl 1 rfl) ?_
                          refine lv_if_eq (tgt := 129) hx hb dX1_tangent_117 (by decide) (fun q => absurd q (by decide)) (fun _ => ?_)
                          refine lv_iload hx hb dX1_tangent_120 (lv_at hl 0 rfl) ?_
                          refine lv_if_ne (tgt := 129) hx hb dX1_tangent_122 (by decide) (fun q => absurd q (by decide)) (fun _ => ?_)
                          refine lv_iconst (v := nI 1) hx hb dX1_tangent_125 (by decide) ?_
                          refine lv_goto (tgt := 148) hx hb dX1_tangent_126 (by decide) ?_
                          refine lv_istore (lv' := [(9, .int (nI 1)), (8, .int (nI 0)), (7, .int (nI 1)), (6, .int (nI (i - 1))), (0, .ref h), (1, .int x), (2, .int y), (3, .int wh), (4, .int fo), (5, .int (nI i))]) hx hb dX1_tangent_148 hl (by decide) rfl (fun ls hl => ?_)
                          refine lv_iload hx hb dX1_tangent_150 (lv_at hl 0 rfl) ?_
                          refine lv_if_eq (tgt := 160) hx hb dX1_tangent_152 (by decide) (fun q => absurd q (by decide)) (fun _ => ?_)
                          refine lv_iload hx hb dX1_tangent_155 (lv_at hl 9 rfl) ?_
                          refine lv_goto (tgt := 162) hx hb dX1_tangent_157 (by decide) ?_
                          refine lv_istore (lv' := [(4, .int (nI i)), (9, .int (nI 1)), (8, .int (nI 0)), (7, .int (nI 1)), (6, .int (nI (i - 1))), (0, .ref h), (1, .int x), (2, .int y), (3, .int wh), (5, .int (nI i))]) hx hb dX1_tangent_162 hl (by decide) rfl (fun ls hl => ?_)
                          refine lv_iinc (v := nI (i + 1)) (lv' := [(5, .int (nI (i + 1))), (4, .int (nI i)), (9, .int (nI 1)), (8, .int (nI 0)), (7, .int (nI 1)), (6, .int (nI (i - 1))), (0, .ref h), (1, .int x), (2, .int y), (3, .int wh)]) hx hb dX1_tangent_164 hl (k := 9) rfl (nI_1 i) (by decide) rfl (fun ls hl => ?_)
                          refine lv_goto (tgt := 42) hx hb dX1_tangent_167 (by decide) ?_
                          exact ih_loop (i + 1) (nI i) (by omega) (by omega) (Or.inr ⟨i, by omega, rfl, by first | exact Or.inr ⟨hw1, by omega, by omega⟩ | exact Or.inl ⟨c_112, by omega, by omega⟩⟩) ls (lv_sub hl [6, 7, 8, 9, 1, 0] rfl)
                      · have g_101 : r_96.toInt < 0 := oh_lc_nge0 c_101
                        refine lv_iconst (v := nI 1) hx hb dX1_tangent_104 (by decide) ?_
                        refine lv_goto (tgt := 109) hx hb dX1_tangent_105 (by decide) ?_
                        refine lv_istore (lv' := [(8, .int (nI 1)), (7, .int (nI 1)), (6, .int (nI (i - 1))), (0, .ref h), (1, .int x), (2, .int y), (3, .int wh), (4, .int fo), (5, .int (nI i))]) hx hb dX1_tangent_109 hl (by decide) rfl (fun ls hl => ?_)
                        refine lv_iload_n hx hb dX1_tangent_111 rfl (lv_at hl 6 rfl) ?_
                        refine lv_if_ne (tgt := 133) hx hb dX1_tangent_112 (by decide) (fun c_112 => ?_) (fun c_112 => ?_)
                        · have g_112 : wh.toInt ≠ 0 := oh_neI0 c_112
                          have hw1 : wh = 1 := hwh.resolve_left c_112
                          refine lv_iload hx hb dX1_tangent_133 (lv_at hl 0 rfl) ?_
                          refine lv_if_eq (tgt := 147) hx hb dX1_tangent_135 (by decide) (fun q => absurd q (by decide)) (fun _ => ?_)
                          refine lv_iload hx hb dX1_tangent_138 (lv_at hl 1 rfl) ?_
                          refine lv_if_ne (tgt := 147) hx hb dX1_tangent_140 (by decide) (fun _ => ?_) (fun q => absurd q (by decide))
                          refine lv_iconst (v := nI 0) hx hb dX1_tangent_147 (by decide) ?_
                          refine lv_istore (lv' := [(9, .int (nI 0)), (8, .int (nI 1)), (7, .int (nI 1)), (6, .int (nI (i - 1))), (0, .ref h), (1, .int x), (2, .int y), (3, .int wh), (4, .int fo), (5, .int (nI i))]) hx hb dX1_tangent_148 hl (by decide) rfl (fun ls hl => ?_)
                          refine lv_iload hx hb dX1_tangent_150 (lv_at hl 0 rfl) ?_
                          refine lv_if_eq (tgt := 160) hx hb dX1_tangent_152 (by decide) (fun _ => ?_) (fun q => absurd q (by decide))
                          refine lv_iload hx hb dX1_tangent_160 (lv_at hl 8 rfl) ?_
                          refine lv_istore (lv' := [(4, .int fo), (9, .int (nI 0)), (8, .int (nI 1)), (7, .int (nI 1)), (6, .int (nI (i - 1))), (0, .ref h), (1, .int x), (2, .int y), (3, .int wh), (5, .int (nI i))]) hx hb dX1_tangent_162 hl (by decide) rfl (fun ls hl => ?_)
                          refine lv_iinc (v := nI (i + 1)) (lv' := [(5, .int (nI (i + 1))), (4, .int fo), (9, .int (nI 0)), (8, .int (nI 1)), (7, .int (nI 1)), (6, .int (nI (i - 1))), (0, .ref h), (1, .int x), (2, .int y), (3, .int wh)]) hx hb dX1_tangent_164 hl (k := 9) rfl (nI_1 i) (by decide) rfl (fun ls hl => ?_)
                          refine lv_goto (tgt := 42) hx hb dX1_tangent_167 (by decide) ?_
                          exact ih_loop (i + 1) fo (by omega) (by omega) (oh_tanK hI (fun w => by rcases w with ⟨w1, w2, w3⟩ | ⟨w1, w2, w3⟩ <;> first | omega | exact absurd w1 c_112 | exact absurd (c_112.symm.trans w1) (by decide))) ls (lv_sub hl [6, 7, 8, 9, 1, 0] rfl)
                        · have g_112 : wh.toInt = 0 := oh_eqI0 c_112
                          refine lv_iload hx hb dX1_tangent_115 (lv_at hl 1 rfl) ?_
                          refine lv_if_eq (tgt := 129) hx hb dX1_tangent_117 (by decide) (fun q => absurd q (by decide)) (fun _ => ?_)
                          refine lv_iload hx hb dX1_tangent_120 (lv_at hl 0 rfl) ?_
                          refine lv_if_ne (tgt := 129) hx hb dX1_tangent_122 (by decide) (fun _ => ?_) (fun q => absurd q (by decide))
                          refine lv_iconst (v := nI 0) hx hb dX1_tangent_129 (by decide) ?_
                          refine lv_goto (tgt := 148) hx hb dX1_tangent_130 (by decide) ?_
                          refine lv_istore (lv' := [(9, .int (nI 0)), (8, .int (nI 1)), (7, .int (nI 1)), (6, .int (nI (i - 1))), (0, .ref h), (1, .int x), (2, .int y), (3, .int wh), (4, .int fo), (5, .int (nI i))]) hx hb dX1_tangent_148 hl (by decide) rfl (fun ls hl => ?_)
                          refine lv_iload hx hb dX1_tangent_150 (lv_at hl 0 rfl) ?_
                          refine lv_if_eq (tgt := 160) hx hb dX1_tangent_152 (by decide) (fun _ => ?_) (fun q => absurd q (by decide))
                          refine lv_iload hx hb dX1_tangent_160 (lv_at hl 8 rfl) ?_
                          refine lv_istore (lv' := [(4, .int fo), (9, .int (nI 0)), (8, .int (nI 1)), (7, .int (nI 1)), (6, .int (nI (i - 1))), (0, .ref h), (1, .int x), (2, .int y), (3, .int wh), (5, .int (nI i))]) hx hb dX1_tangent_162 hl (by decide) rfl (fun ls hl => ?_)
                          refine lv_iinc (v := nI (i + 1)) (lv' := [(5, .int (nI (i + 1))), (4, .int fo), (9, .int (nI 0)), (8, .int (nI 1)), (7, .int (nI 1)), (6, .int (nI (i - 1))), (0, .ref h), (1, .int x), (2, .int y), (3, .int wh)]) hx hb dX1_tangent_164 hl (k := 9) rfl (nI_1 i) (by decide) rfl (fun ls hl => ?_)
                          refine lv_goto (tgt := 42) hx hb dX1_tangent_167 (by decide) ?_
                          exact ih_loop (i + 1) fo (by omega) (by omega) (oh_tanK hI (fun w => by rcases w with ⟨w1, w2, w3⟩ | ⟨w1, w2, w3⟩ <;> first | omega | exact absurd w1 c_112 | exact absurd (c_112.symm.trans w1) (by decide))) ls (lv_sub hl [6, 7, 8, 9, 1, 0] rfl)
                  · have g_53 : i = 0 := (nI_eq (a := i) (b := 0) (by omega) (by omega)).mp (c_53.trans nI_0.symm)
                    refine lv_aload_n hx hb dX1_tangent_56 rfl (lv_at hl 0 rfl) ?_
                    refine va_get (D := (dC, dI)) (ci := 1) (v := .int (nI n)) (C := RX1) (T := TX1) (N := 8) hx hb hts hin0 hown hK hP 0 rfl rfl 1 (by decide) (hts (.fieldLink RX1 29 "OnlineHullModel" "corners" "I") (by decide +kernel)) (fun _ h9 => h9) rfl dX1_tangent_57 ?_
                    refine lv_iconst (v := nI 1) hx hb dX1_tangent_60 (by decide) ?_
                    refine lv_isub hx hb dX1_tangent_61 ?_
                    rw [pk_sub (a := n) (b := 1) (by omega)]
                    refine lv_goto (tgt := 69) hx hb dX1_tangent_62 (by decide) ?_
                    refine lv_istore (lv' := [(6, .int (nI (n - 1))), (0, .ref h), (1, .int x), (2, .int y), (3, .int wh), (4, .int fo), (5, .int (nI i))]) hx hb dX1_tangent_69 hl (by decide) rfl (fun ls hl => ?_)
                    refine lv_aload_n hx hb dX1_tangent_71 rfl (lv_at hl 1 rfl) ?_
                    refine lv_iload hx hb dX1_tangent_72 (lv_at hl 6 rfl) ?_
                    refine lv_iload_n hx hb dX1_tangent_74 rfl (lv_at hl 2 rfl) ?_
                    refine lv_iload_n hx hb dX1_tangent_75 rfl (lv_at hl 3 rfl) ?_
                    refine vp_callSl (va_Run.run (va_runV (As := [.int (nI i), .int x, .int y]) (rest := []) ⟨hx, hb, hml, hown, hts⟩ (k_X1_side l dC dI cI h b1 b2 b3 b4 b5 N n pts xs ys px py rd i x y hN hn (by omega) hR b_19) (cwV 3 hts gX1_tangent_X1_side rfl rfl rfl (by decide +kernel) ⟨Nat.le_of_ble_eq_true rfl, Nat.le_of_ble_eq_true rfl⟩) (oh_pre (ci := 1) (q0 := 0) hK hP rfl rfl) rfl rfl hl.1 rfl (lv_room (Nat.le_of_ble_eq_true rfl)) dX1_tangent_76 ⟨Nat.zero_le _, Nat.zero_le _⟩)) (fun r_76 hr_76 => ?_)
                    refine lv_lconst (v := 0) hx hb dX1_tangent_79 (by decide) ?_
                    refine W.lcmp hx hb dX1_tangent_80 ?_
                    refine lv_if_ge (tgt := 88) hx hb dX1_tangent_81 (by decide) (fun c_81 => ?_) (fun c_81 => ?_)
                    · have g_81 : r_76.toInt ≥ 0 := oh_lc_ge0 c_81
                      refine lv_iconst (v := nI 0) hx hb dX1_tangent_88 (by decide) ?_
                      refine lv_istore (lv' := [(7, .int (nI 0)), (6, .int (nI (n - 1))), (0, .ref h), (1, .int x), (2, .int y), (3, .int wh), (4, .int fo), (5, .int (nI i))]) hx hb dX1_tangent_89 hl (by decide) rfl (fun ls hl => ?_)
                      refine lv_aload_n hx hb dX1_tangent_91 rfl (lv_at hl 2 rfl) ?_
                      refine lv_iload hx hb dX1_tangent_92 (lv_at hl 1 rfl) ?_
                      refine lv_iload_n hx hb dX1_tangent_94 rfl (lv_at hl 3 rfl) ?_
                      refine lv_iload_n hx hb dX1_tangent_95 rfl (lv_at hl 4 rfl) ?_
                      refine vp_callSl (va_Run.run (va_runV (As := [.int (nI (n - 1)), .int x, .int y]) (rest := []) ⟨hx, hb, hml, hown, hts⟩ (k_X1_side l dC dI cI h b1 b2 b3 b4 b5 N n pts xs ys px py rd ((n - 1)) x y hN hn (by omega) hR b_19) (cwV 3 hts gX1_tangent_X1_side rfl rfl rfl (by decide +kernel) ⟨Nat.le_of_ble_eq_true rfl, Nat.le_of_ble_eq_true rfl⟩) (oh_pre (ci := 1) (q0 := 0) hK hP rfl rfl) rfl rfl hl.1 rfl (lv_room (Nat.le_of_ble_eq_true rfl)) dX1_tangent_96 ⟨Nat.zero_le _, Nat.zero_le _⟩)) (fun r_96 hr_96 => ?_)
                      have hr_96 : r_96.toInt = oh_sd n (oh_pt xs ys) (x.toInt, y.toInt) (oh_pv n i) := by rw [hr_96]; unfold oh_pv; first | rw [if_pos (by omega)] | rw [if_neg (by omega)]
                      refine lv_lconst (v := 0) hx hb dX1_tangent_99 (by decide) ?_
                      refine W.lcmp hx hb dX1_tangent_100 ?_
                      refine lv_if_ge (tgt := 108) hx hb dX1_tangent_101 (by decide) (fun c_101 => ?_) (fun c_101 => ?_)
                      · have g_101 : r_96.toInt ≥ 0 := oh_lc_ge0 c_101
                        refine lv_iconst (v := nI 0) hx hb dX1_tangent_108 (by decide) ?_
                        refine lv_istore (lv' := [(8, .int (nI 0)), (7, .int (nI 0)), (6, .int (nI (n - 1))), (0, .ref h), (1, .int x), (2, .int y), (3, .int wh), (4, .int fo), (5, .int (nI i))]) hx hb dX1_tangent_109 hl (by decide) rfl (fun ls hl => ?_)
                        refine lv_iload_n hx hb dX1_tangent_111 rfl (lv_at hl 6 rfl) ?_
                        refine lv_if_ne (tgt := 133) hx hb dX1_tangent_112 (by decide) (fun c_112 => ?_) (fun c_112 => ?_)
                        · have g_112 : wh.toInt ≠ 0 := oh_neI0 c_112
                          have hw1 : wh = 1 := hwh.resolve_left c_112
                          refine lv_iload hx hb dX1_tangent_133 (lv_at hl 0 rfl) ?_
                          refine lv_if_eq (tgt := 147) hx hb dX1_tangent_135 (by decide) (fun _ => ?_) (fun q => absurd q (by decide))
                          refine lv_iconst (v := nI 0) hx hb dX1_tangent_147 (by decide) ?_
                          refine lv_istore (lv' := [(9, .int (nI 0)), (8, .int (nI 0)), (7, .int (nI 0)), (6, .int (nI (n - 1))), (0, .ref h), (1, .int x), (2, .int y), (3, .int wh), (4, .int fo), (5, .int (nI i))]) hx hb dX1_tangent_148 hl (by decide) rfl (fun ls hl => ?_)
                          refine lv_iload hx hb dX1_tangent_150 (lv_at hl 0 rfl) ?_
                          refine lv_if_eq (tgt := 160) hx hb dX1_tangent_152 (by decide) (fun _ => ?_) (fun q => absurd q (by decide))
                          refine lv_iload hx hb dX1_tangent_160 (lv_at hl 8 rfl) ?_
                          refine lv_istore (lv' := [(4, .int fo), (9, .int (nI 0)), (8, .int (nI 0)), (7, .int (nI 0)), (6, .int (nI (n - 1))), (0, .ref h), (1, .int x), (2, .int y), (3, .int wh), (5, .int (nI i))]) hx hb dX1_tangent_162 hl (by decide) rfl (fun ls hl => ?_)
                          refine lv_iinc (v := nI (i + 1)) (lv' := [(5, .int (nI (i + 1))), (4, .int fo), (9, .int (nI 0)), (8, .int (nI 0)), (7, .int (nI 0)), (6, .int (nI (n - 1))), (0, .ref h), (1, .int x), (2, .int y), (3, .int wh)]) hx hb dX1_tangent_164 hl (k := 9) rfl (nI_1 i) (by decide) rfl (fun ls hl => ?_)
                          refine lv_goto (tgt := 42) hx hb dX1_tangent_167 (by decide) ?_
                          exact ih_loop (i + 1) fo (by omega) (by omega) (oh_tanK hI (fun w => by rcases w with ⟨w1, w2, w3⟩ | ⟨w1, w2, w3⟩ <;> first | omega | exact absurd w1 c_112 | exact absurd (c_112.symm.trans w1) (by decide))) ls (lv_sub hl [6, 7, 8, 9, 1, 0] rfl)
                        · have g_112 : wh.toInt = 0 := oh_eqI0 c_112
                          refine lv_iload hx hb dX1_tangent_115 (lv_at hl 1 rfl) ?_
                          refine lv_if_eq (tgt := 129) hx hb dX1_tangent_117 (by decide) (fun _ => ?_) (fun q => absurd q (by decide))
                          refine lv_iconst (v := nI 0) hx hb dX1_tangent_129 (by decide) ?_
                          refine lv_goto (tgt := 148) hx hb dX1_tangent_130 (by decide) ?_
                          refine lv_istore (lv' := [(9, .int (nI 0)), (8, .int (nI 0)), (7, .int (nI 0)), (6, .int (nI (n - 1))), (0, .ref h), (1, .int x), (2, .int y), (3, .int wh), (4, .int fo), (5, .int (nI i))]) hx hb dX1_tangent_148 hl (by decide) rfl (fun ls hl => ?_)
                          refine lv_iload hx hb dX1_tangent_150 (lv_at hl 0 rfl) ?_
                          refine lv_if_eq (tgt := 160) hx hb dX1_tangent_152 (by decide) (fun _ => ?_) (fun q => absurd q (by decide))
                          refine lv_iload hx hb dX1_tangent_160 (lv_at hl 8 rfl) ?_
                          refine lv_istore (lv' := [(4, .int fo), (9, .int (nI 0)), (8, .int (nI 0)), (7, .int (nI 0)), (6, .int (nI (n - 1))), (0, .ref h), (1, .int x), (2, .int y), (3, .int wh), (5, .int (nI i))]) hx hb dX1_tangent_162 hl (by decide) rfl (fun ls hl => ?_)
                          refine lv_iinc (v := nI (i + 1)) (lv' := [(5, .int (nI (i + 1))), (4, .int fo), (9, .int (nI 0)), (8, .int (nI 0)), (7, .int (nI 0)), (6, .int (nI (n - 1))), (0, .ref h), (1, .int x), (2, .int y), (3, .int wh)]) hx hb dX1_tangent_164 hl (k := 9) rfl (nI_1 i) (by decide) rfl (fun ls hl => ?_)
                          refine lv_goto (tgt := 42) hx hb dX1_tangent_167 (by decide) ?_
                          exact ih_loop (i + 1) fo (by omega) (by omega) (oh_tanK hI (fun w => by rcases w with ⟨w1, w2, w3⟩ | ⟨w1, w2, w3⟩ <;> first | omega | exact absurd w1 c_112 | exact absurd (c_112.symm.trans w1) (by decide))) ls (lv_sub hl [6, 7, 8, 9, 1, 0] rfl)
                      · have g_101 : r_96.toInt < 0 := oh_lc_nge0 c_101
                        refine lv_iconst (v := nI 1) hx hb dX1_tangent_104 (by decide) ?_
                        refine lv_goto (tgt := 109) hx hb dX1_tangent_105 (by decide) ?_
                        refine lv_istore (lv' := [(8, .int (nI 1)), (7, .int (nI 0)), (6, .int (nI (n - 1))), (0, .ref h), (1, .int x), (2, .int y), (3, .int wh), (4, .int fo), (5, .int (nI i))]) hx hb dX1_tangent_109 hl (by decide) rfl (fun ls hl => ?_)
                        refine lv_iload_n hx hb dX1_tangent_111 rfl (lv_at hl 6 rfl) ?_
                        refine lv_if_ne (tgt := 133) hx hb dX1_tangent_112 (by decide) (fun c_112 => ?_) (fun c_112 => ?_)
                        · have g_112 : wh.toInt ≠ 0 := oh_neI0 c_112
                          have hw1 : wh = 1 := hwh.resolve_left c_112
                          refine lv_iload hx hb dX1_tangent_133 (lv_at hl 0 rfl) ?_
                          refine lv_if_eq (tgt := 147) hx hb dX1_tangent_135 (by decide) (fun q => absurd q (by decide)) (fun _ => ?_)
                          refine lv_iload hx hb dX1_tangent_138 (lv_at hl 1 rfl) ?_
                          refine lv_if_ne (tgt := 147) hx hb dX1_tangent_140 (by decide) (fun q => absurd q (by decide)) (fun _ => ?_)
                          refine lv_iconst (v := nI 1) hx hb dX1_tangent_143 (by decide) ?_
                          refine lv_goto (tgt := 148) hx hb dX1_tangent_144 (by decide) ?_
                          refine lv_istore (lv' := [(9, .int (nI 1)), (8, .int (nI 1)), (7, .int (nI 0)), (6, .int (nI (n - 1))), (0, .ref h), (1, .int x), (2, .int y), (3, .int wh), (4, .int fo), (5, .int (nI i))]) hx hb dX1_tangent_148 hl (by decide) rfl (fun ls hl => ?_)
                          refine lv_iload hx hb dX1_tangent_150 (lv_at hl 0 rfl) ?_
                          refine lv_if_eq (tgt := 160) hx hb dX1_tangent_152 (by decide) (fun q => absurd q (by decide)) (fun _ => ?_)
                          refine lv_iload hx hb dX1_tangent_155 (lv_at hl 9 rfl) ?_
                          refine lv_goto (tgt := 162) hx hb dX1_tangent_157 (by decide) ?_
                          refine lv_istore (lv' := [(4, .int (nI i)), (9, .int (nI 1)), (8, .int (nI 1)), (7, .int (nI 0)), (6, .int (nI (n - 1))), (0, .ref h), (1, .int x), (2, .int y), (3, .int wh), (5, .int (nI i))]) hx hb dX1_tangent_162 hl (by decide) rfl (fun ls hl => ?_)
                          refine lv_iinc (v := nI (i + 1)) (lv' := [(5, .int (nI (i + 1))), (4, .int (nI i)), (9, .int (nI 1)), (8, .int (nI 1)), (7, .int (nI 0)), (6, .int (nI (n - 1))), (0, .ref h), (1, .int x), (2, .int y), (3, .int wh)]) hx hb dX1_tangent_164 hl (k := 9) rfl (nI_1 i) (by decide) rfl (fun ls hl => ?_)
                          refine lv_goto (tgt := 42) hx hb dX1_tangent_167 (by decide) ?_
                          exact ih_loop (i + 1) (nI i) (by omega) (by omega) (Or.inr ⟨i, by omega, rfl, by first | exact Or.inr ⟨hw1, by omega, by omega⟩ | exact Or.inl ⟨c_112, by omega, by omega⟩⟩) ls (lv_sub hl [6, 7, 8, 9, 1, 0] rfl)
                        · have g_112 : wh.toInt = 0 := oh_eqI0 c_112
                          refine lv_iload hx hb dX1_tangent_115 (lv_at hl 1 rfl) ?_
                          refine lv_if_eq (tgt := 129) hx hb dX1_tangent_117 (by decide) (fun _ => ?_) (fun q => absurd q (by decide))
                          refine lv_iconst (v := nI 0) hx hb dX1_tangent_129 (by decide) ?_
                          refine lv_goto (tgt := 148) hx hb dX1_tangent_130 (by decide) ?_
                          refine lv_istore (lv' := [(9, .int (nI 0)), (8, .int (nI 1)), (7, .int (nI 0)), (6, .int (nI (n - 1))), (0, .ref h), (1, .int x), (2, .int y), (3, .int wh), (4, .int fo), (5, .int (nI i))]) hx hb dX1_tangent_148 hl (by decide) rfl (fun ls hl => ?_)
                          refine lv_iload hx hb dX1_tangent_150 (lv_at hl 0 rfl) ?_
                          refine lv_if_eq (tgt := 160) hx hb dX1_tangent_152 (by decide) (fun _ => ?_) (fun q => absurd q (by decide))
                          refine lv_iload hx hb dX1_tangent_160 (lv_at hl 8 rfl) ?_
                          refine lv_istore (lv' := [(4, .int fo), (9, .int (nI 0)), (8, .int (nI 1)), (7, .int (nI 0)), (6, .int (nI (n - 1))), (0, .ref h), (1, .int x), (2, .int y), (3, .int wh), (5, .int (nI i))]) hx hb dX1_tangent_162 hl (by decide) rfl (fun ls hl => ?_)
                          refine lv_iinc (v := nI (i + 1)) (lv' := [(5, .int (nI (i + 1))), (4, .int fo), (9, .int (nI 0)), (8, .int (nI 1)), (7, .int (nI 0)), (6, .int (nI (n - 1))), (0, .ref h), (1, .int x), (2, .int y), (3, .int wh)]) hx hb dX1_tangent_164 hl (k := 9) rfl (nI_1 i) (by decide) rfl (fun ls hl => ?_)
                          refine lv_goto (tgt := 42) hx hb dX1_tangent_167 (by decide) ?_
                          exact ih_loop (i + 1) fo (by omega) (by omega) (oh_tanK hI (fun w => by rcases w with ⟨w1, w2, w3⟩ | ⟨w1, w2, w3⟩ <;> first | omega | exact absurd w1 c_112 | exact absurd (c_112.symm.trans w1) (by decide))) ls (lv_sub hl [6, 7, 8, 9, 1, 0] rfl)
                    · have g_81 : r_76.toInt < 0 := oh_lc_nge0 c_81
                      refine lv_iconst (v := nI 1) hx hb dX1_tangent_84 (by decide) ?_
                      refine lv_goto (tgt := 89) hx hb dX1_tangent_85 (by decide) ?_
                      refine lv_istore (lv' := [(7, .int (nI 1)), (6, .int (nI (n - 1))), (0, .ref h), (1, .int x), (2, .int y), (3, .int wh), (4, .int fo), (5, .int (nI i))]) hx hb dX1_tangent_89 hl (by decide) rfl (fun ls hl => ?_)
                      refine lv_aload_n hx hb dX1_tangent_91 rfl (lv_at hl 2 rfl) ?_
                      refine lv_iload hx hb dX1_tangent_92 (lv_at hl 1 rfl) ?_
                      refine lv_iload_n hx hb dX1_tangent_94 rfl (lv_at hl 3 rfl) ?_
                      refine lv_iload_n hx hb dX1_tangent_95 rfl (lv_at hl 4 rfl) ?_
                      refine vp_callSl (va_Run.run (va_runV (As := [.int (nI (n - 1)), .int x, .int y]) (rest := []) ⟨hx, hb, hml, hown, hts⟩ (k_X1_side l dC dI cI h b1 b2 b3 b4 b5 N n pts xs ys px py rd ((n - 1)) x y hN hn (by omega) hR b_19) (cwV 3 hts gX1_tangent_X1_side rfl rfl rfl (by decide +kernel) ⟨Nat.le_of_ble_eq_true rfl, Nat.le_of_ble_eq_true rfl⟩) (oh_pre (ci := 1) (q0 := 0) hK hP rfl rfl) rfl rfl hl.1 rfl (lv_room (Nat.le_of_ble_eq_true rfl)) dX1_tangent_96 ⟨Nat.zero_le _, Nat.zero_le _⟩)) (fun r_96 hr_96 => ?_)
                      have hr_96 : r_96.toInt = oh_sd n (oh_pt xs ys) (x.toInt, y.toInt) (oh_pv n i) := by rw [hr_96]; unfold oh_pv; first | rw [if_pos (by omega)] | rw [if_neg (by omega)]
                      refine lv_lconst (v := 0) hx hb dX1_tangent_99 (by decide) ?_
                      refine W.lcmp hx hb dX1_tangent_100 ?_
                      refine lv_if_ge (tgt := 108) hx hb dX1_tangent_101 (by decide) (fun c_101 => ?_) (fun c_101 => ?_)
                      · have g_101 : r_96.toInt ≥ 0 := oh_lc_ge0 c_101
                        refine lv_iconst (v := nI 0) hx hb dX1_tangent_108 (by decide) ?_
                        refine lv_istore (lv' := [(8, .int (nI 0)), (7, .int (nI 1)), (6, .int (nI (n - 1))), (0, .ref h), (1, .int x), (2, .int y), (3, .int wh), (4, .int fo), (5, .int (nI i))]) hx hb dX1_tangent_109 hl (by decide) rfl (fun ls hl => ?_)
                        refine lv_iload_n hx hb dX1_tangent_111 rfl (lv_at hl 6 rfl) ?_
                        refine lv_if_ne (tgt := 133) hx hb dX1_tangent_112 (by decide) (fun c_112 => ?_) (fun c_112 => ?_)
                        · have g_112 : wh.toInt ≠ 0 := oh_neI0 c_112
                          have hw1 : wh = 1 := hwh.resolve_left c_112
                          refine lv_iload hx hb dX1_tangent_133 (lv_at hl 0 rfl) ?_
                          refine lv_if_eq (tgt := 147) hx hb dX1_tangent_135 (by decide) (fun _ => ?_) (fun q => absurd q (by decide))
                          refine lv_iconst (v := nI 0) hx hb dX1_tangent_147 (by decide) ?_
                          refine lv_istore (lv' := [(9, .int (nI 0)), (8, .int (nI 0)), (7, .int (nI 1)), (6, .int (nI (n - 1))), (0, .ref h), (1, .int x), (2, .int y), (3, .int wh), (4, .int fo), (5, .int (nI i))]) hx hb dX1_tangent_148 hl (by decide) rfl (fun ls hl => ?_)
                          refine lv_iload hx hb dX1_tangent_150 (lv_at hl 0 rfl) ?_
                          refine lv_if_eq (tgt := 160) hx hb dX1_tangent_152 (by decide) (fun _ => ?_) (fun q => absurd q (by decide))
                          refine lv_iload hx hb dX1_tangent_160 (lv_at hl 8 rfl) ?_
                          refine lv_istore (lv' := [(4, .int fo), (9, .int (nI 0)), (8, .int (nI 0)), (7, .int (nI 1)), (6, .int (nI (n - 1))), (0, .ref h), (1, .int x), (2, .int y), (3, .int wh), (5, .int (nI i))]) hx hb dX1_tangent_162 hl (by decide) rfl (fun ls hl => ?_)
                          refine lv_iinc (v := nI (i + 1)) (lv' := [(5, .int (nI (i + 1))), (4, .int fo), (9, .int (nI 0)), (8, .int (nI 0)), (7, .int (nI 1)), (6, .int (nI (n - 1))), (0, .ref h), (1, .int x), (2, .int y), (3, .int wh)]) hx hb dX1_tangent_164 hl (k := 9) rfl (nI_1 i) (by decide) rfl (fun ls hl => ?_)
                          refine lv_goto (tgt := 42) hx hb dX1_tangent_167 (by decide) ?_
                          exact ih_loop (i + 1) fo (by omega) (by omega) (oh_tanK hI (fun w => by rcases w with ⟨w1, w2, w3⟩ | ⟨w1, w2, w3⟩ <;> first | omega | exact absurd w1 c_112 | exact absurd (c_112.symm.trans w1) (by decide))) ls (lv_sub hl [6, 7, 8, 9, 1, 0] rfl)
                        · have g_112 : wh.toInt = 0 := oh_eqI0 c_112
                          refine lv_iload hx hb dX1_tangent_115 (lv_at hl 1 rfl) ?_
                          refine lv_if_eq (tgt := 129) hx hb dX1_tangent_117 (by decide) (fun q => absurd q (by decide)) (fun _ => ?_)
                          refine lv_iload hx hb dX1_tangent_120 (lv_at hl 0 rfl) ?_
                          refine lv_if_ne (tgt := 129) hx hb dX1_tangent_122 (by decide) (fun q => absurd q (by decide)) (fun _ => ?_)
                          refine lv_iconst (v := nI 1) hx hb dX1_tangent_125 (by decide) ?_
                          refine lv_goto (tgt := 148) hx hb dX1_tangent_126 (by decide) ?_
                          refine lv_istore (lv' := [(9, .int (nI 1)), (8, .int (nI 0)), (7, .int (nI 1)), (6, .int (nI (n - 1))), (0, .ref h), (1, .int x), (2, .int y), (3, .int wh), (4, .int fo), (5, .int (nI i))]) hx hb dX1_tangent_148 hl (by decide) rfl (fun ls hl => ?_)
                          refine lv_iload hx hb dX1_tangent_150 (lv_at hl 0 rfl) ?_
                          refine lv_if_eq (tgt := 160) hx hb dX1_tangent_152 (by decide) (fun q => absurd q (by decide)) (fun _ => ?_)
                          refine lv_iload hx hb dX1_tangent_155 (lv_at hl 9 rfl) ?_
                          refine lv_goto (tgt := 162) hx hb dX1_tangent_157 (by decide) ?_
                          refine lv_istore (lv' := [(4, .int (nI i)), (9, .int (nI 1)), (8, .int (nI 0)), (7, .int (nI 1)), (6, .int (nI (n - 1))), (0, .ref h), (1, .int x), (2, .int y), (3, .int wh), (5, .int (nI i))]) hx hb dX1_tangent_162 hl (by decide) rfl (fun ls hl => ?_)
                          refine lv_iinc (v := nI (i + 1)) (lv' := [(5, .int (nI (i + 1))), (4, .int (nI i)), (9, .int (nI 1)), (8, .int (nI 0)), (7, .int (nI 1)), (6, .int (nI (n - 1))), (0, .ref h), (1, .int x), (2, .int y), (3, .int wh)]) hx hb dX1_tangent_164 hl (k := 9) rfl (nI_1 i) (by decide) rfl (fun ls hl => ?_)
                          refine lv_goto (tgt := 42) hx hb dX1_tangent_167 (by decide) ?_
                          exact ih_loop (i + 1) (nI i) (by omega) (by omega) (Or.inr ⟨i, by omega, rfl, by first | exact Or.inr ⟨hw1, by omega, by omega⟩ | exact Or.inl ⟨c_112, by omega, by omega⟩⟩) ls (lv_sub hl [6, 7, 8, 9, 1, 0] rfl)
                      · have g_101 : r_96.toInt < 0 := oh_lc_nge0 c_101
                        refine lv_iconst (v := nI 1) hx hb dX1_tangent_104 (by decide) ?_
                        refine lv_goto (tgt := 109) hx hb dX1_tangent_105 (by decide) ?_
                        refine lv_istore (lv' := [(8, .int (nI 1)), (7, .int (nI 1)), (6, .int (nI (n - 1))), (0, .ref h), (1, .int x), (2, .int y), (3, .int wh), (4, .int fo), (5, .int (nI i))]) hx hb dX1_tangent_109 hl (by decide) rfl (fun ls hl => ?_)
                        refine lv_iload_n hx hb dX1_tangent_111 rfl (lv_at hl 6 rfl) ?_
                        refine lv_if_ne (tgt := 133) hx hb dX1_tangent_112 (by decide) (fun c_112 => ?_) (fun c_112 => ?_)
                        · have g_112 : wh.toInt ≠ 0 := oh_neI0 c_112
                          have hw1 : wh = 1 := hwh.resolve_left c_112
                          refine lv_iload hx hb dX1_tangent_133 (lv_at hl 0 rfl) ?_
                          refine lv_if_eq (tgt := 147) hx hb dX1_tangent_135 (by decide) (fun q => absurd q (by decide)) (fun _ => ?_)
                          refine lv_iload hx hb dX1_tangent_138 (lv_at hl 1 rfl) ?_
                          refine lv_if_ne (tgt := 147) hx hb dX1_tangent_140 (by decide) (fun _ => ?_) (fun q => absurd q (by decide))
                          refine lv_iconst (v := nI 0) hx hb dX1_tangent_147 (by decide) ?_
                          refine lv_istore (lv' := [(9, .int (nI 0)), (8, .int (nI 1)), (7, .int (nI 1)), (6, .int (nI (n - 1))), (0, .ref h), (1, .int x), (2, .int y), (3, .int wh), (4, .int fo), (5, .int (nI i))]) hx hb dX1_tangent_148 hl (by decide) rfl (fun ls hl => ?_)
                          refine lv_iload hx hb dX1_tangent_150 (lv_at hl 0 rfl) ?_
                          refine lv_if_eq (tgt := 160) hx hb dX1_tangent_152 (by decide) (fun _ => ?_) (fun q => absurd q (by decide))
                          refine lv_iload hx hb dX1_tangent_160 (lv_at hl 8 rfl) ?_
                          refine lv_istore (lv' := [(4, .int fo), (9, .int (nI 0)), (8, .int (nI 1)), (7, .int (nI 1)), (6, .int (nI (n - 1))), (0, .ref h), (1, .int x), (2, .int y), (3, .int wh), (5, .int (nI i))]) hx hb dX1_tangent_162 hl (by decide) rfl (fun ls hl => ?_)
                          refine lv_iinc (v := nI (i + 1)) (lv' := [(5, .int (nI (i + 1))), (4, .int fo), (9, .int (nI 0)), (8, .int (nI 1)), (7, .int (nI 1)), (6, .int (nI (n - 1))), (0, .ref h), (1, .int x), (2, .int y), (3, .int wh)]) hx hb dX1_tangent_164 hl (k := 9) rfl (nI_1 i) (by decide) rfl (fun ls hl => ?_)
                          refine lv_goto (tgt := 42) hx hb dX1_tangent_167 (by decide) ?_
                          exact ih_loop (i + 1) fo (by omega) (by omega) (oh_tanK hI (fun w => by rcases w with ⟨w1, w2, w3⟩ | ⟨w1, w2, w3⟩ <;> first | omega | exact absurd w1 c_112 | exact absurd (c_112.symm.trans w1) (by decide))) ls (lv_sub hl [6, 7, 8, 9, 1, 0] rfl)
                        · have g_112 : wh.toInt = 0 := oh_eqI0 c_112
                          refine lv_iload hx hb dX1_tangent_115 (lv_at hl 1 rfl) ?_
                          refine lv_if_eq (tgt := 129) hx hb dX1_tangent_117 (by decide) (fun q => absurd q (by decide)) (fun _ => ?_)
                          refine lv_iload hx hb dX1_tangent_120 (lv_at hl 0 rfl) ?_
                          refine lv_if_ne (tgt := 129) hx hb dX1_tangent_122 (by decide) (fun _ => ?_) (fun q => absurd q (by decide))
                          refine lv_iconst (v := nI 0) hx hb dX1_tangent_129 (by decide) ?_
                          refine lv_goto (tgt := 148) hx hb dX1_tangent_130 (by decide) ?_
                          refine lv_istore (lv' := [(9, .int (nI 0)), (8, .int (nI 1)), (7, .int (nI 1)), (6, .int (nI (n - 1))), (0, .ref h), (1, .int x), (2, .int y), (3, .int wh), (4, .int fo), (5, .int (nI i))]) hx hb dX1_tangent_148 hl (by decide) rfl (fun ls hl => ?_)
                          refine lv_iload hx hb dX1_tangent_150 (lv_at hl 0 rfl) ?_
                          refine lv_if_eq (tgt := 160) hx hb dX1_tangent_152 (by decide) (fun _ => ?_) (fun q => absurd q (by decide))
                          refine lv_iload hx hb dX1_tangent_160 (lv_at hl 8 rfl) ?_
                          refine lv_istore (lv' := [(4, .int fo), (9, .int (nI 0)), (8, .int (nI 1)), (7, .int (nI 1)), (6, .int (nI (n - 1))), (0, .ref h), (1, .int x), (2, .int y), (3, .int wh), (5, .int (nI i))]) hx hb dX1_tangent_162 hl (by decide) rfl (fun ls hl => ?_)
                          refine lv_iinc (v := nI (i + 1)) (lv' := [(5, .int (nI (i + 1))), (4, .int fo), (9, .int (nI 0)), (8, .int (nI 1)), (7, .int (nI 1)), (6, .int (nI (n - 1))), (0, .ref h), (1, .int x), (2, .int y), (3, .int wh)]) hx hb dX1_tangent_164 hl (k := 9) rfl (nI_1 i) (by decide) rfl (fun ls hl => ?_)
                          refine lv_goto (tgt := 42) hx hb dX1_tangent_167 (by decide) ?_
                          exact ih_loop (i + 1) fo (by omega) (by omega) (oh_tanK hI (fun w => by rcases w with ⟨w1, w2, w3⟩ | ⟨w1, w2, w3⟩ <;> first | omega | exact absurd w1 c_112 | exact absurd (c_112.symm.trans w1) (by decide))) ls (lv_sub hl [6, 7, 8, 9, 1, 0] rfl)
            exact loop (n + 1) 0 (-1) (by omega) (by omega) (Or.inl ⟨rfl, fun j hj => by omega⟩) ls (lv_sub hl [2, 3, 4, 5, 1, 0] rfl)
          · have g_31 : 0 < r_28.toInt := oh_nleI0 c_31
            refine lv_iconst (v := -1) hx hb dX1_tangent_34 (by decide) ?_
            exact W.iret (v := -1) hx hb hr (fun t ht hW => ⟨_, rfl, Or.inr ⟨rfl, fun w => by first | exact b_19 w.2.1 | (have := w.1; omega) | (rcases w.2.2.2 with w | w <;> subst w <;> revert c_9 <;> decide) | (rcases w.2.2.2 with w | w <;> subst w <;> revert c_14 <;> decide) | (have w5 := (oh_plR0 (oh_pl3R w.1 hpl)).1.mpr w.2.2.1; omega)⟩, ht⟩) (fun _ h => by cases h) dX1_tangent_35
        · refine lv_if_eq (tgt := 34) hx hb dX1_tangent_22 (by decide) (fun _ => ?_) (fun q => absurd q (by decide))
          refine lv_iconst (v := -1) hx hb dX1_tangent_34 (by decide) ?_
          exact W.iret (v := -1) hx hb hr (fun t ht hW => ⟨_, rfl, Or.inr ⟨rfl, fun w => by first | exact b_19 w.2.1 | (have := w.1; omega) | (rcases w.2.2.2 with w | w <;> subst w <;> revert c_9 <;> decide) | (rcases w.2.2.2 with w | w <;> subst w <;> revert c_14 <;> decide) | (have w5 := (oh_plR0 (oh_pl3R w.1 hpl)).1.mpr w.2.2.1; omega)⟩, ht⟩) (fun _ h => by cases h) dX1_tangent_35

set_option maxHeartbeats 4000000 in
set_option maxRecDepth 100000 in
theorem k_X1_diameter (l : Launch) (dC : Nat → ClassId) (dI : Nat → Nat → Nat) (cI : ClassId) (h b1 b2 b3 b4 b5 N n : Nat) (pts : Int32) (xs ys px py rd : Nat → Int32) (hN : N ≤ 64) (hn : n ≤ N) (hR : ∀ j, j < n → oh_inR (xs j) (ys j)) : Met l yX1_diameter wsX1_diameter ({ frames := 0, cells := 0, slots := 0, locals := 0 }) (va_Pc [.ref h] (fun U => va_P (dC, dI) vwCl [(h, .inr (1, [.int (nI N), .int (nI n), .int pts, .ref b1, .ref b2, .ref b3, .ref b4, .ref b5])), (b1, .inl (cI, 66, .inl xs)), (b2, .inl (cI, 66, .inl ys)), (b3, .inl (cI, 66, .inl px)), (b4, .inl (cI, 66, .inl py)), (b5, .inl (cI, 67, .inl rd))] U.heap ∧ va_K (dC, dI) vwCl [(cI, .int)] U)) (vp_Si (fun r => oh_dia n (oh_pt xs ys) r)) 0 0 (fun _ => False) := by
  refine Met.ofW (cc := cX1_diameter) (maxL := 9) (ret := (some .int)) (by decide) rfl ?_
  intro p e s m args below meth c s₁ B hml hv
  obtain ⟨rfl, hP, hK⟩ := hv
  have hx := B.exec
  have hb := B.bytes
  have hr := B.returns
  have hts := atoms_spec (ws := wsX1_diameter) B.pre
  have hown : s.vm.findClass RX1 = some m.cls := findClass_of_methodNamed B.named
  have hlocks := B.notSynchronized
  have hin0 : ∀ w ∈ wsX10, w ∈ wsX1_diameter := fun w h => List.mem_cons_of_mem _ (List.mem_append_right _ h)
  have hl := lv_entry ([.ref h]) (n := 9) (Nat.le_of_ble_eq_true rfl)
  rw [lg_entry_eq]
  generalize (lg_sl ([.ref h]) ++ List.replicate (9 - (lg_sl ([.ref h])).length) Slot.unset).toArray = ls at hl ⊢
  have hl : lv_has ls 9 [(0, .ref h)] := hl
  refine lv_lconst (v := 0) hx hb dX1_diameter_0 (by decide) ?_
  refine lv_lstore_n (lv' := [(1, .long 0), (0, .ref h)]) hx hb dX1_diameter_1 rfl hl (by decide) rfl (fun ls hl => ?_)
  refine lv_iconst (v := nI 0) hx hb dX1_diameter_2 (by decide) ?_
  refine lv_istore_n (lv' := [(3, .int (nI 0)), (1, .long 0), (0, .ref h)]) hx hb dX1_diameter_3 rfl hl (by decide) rfl (fun ls hl => ?_)
  have loop : ∀ (k_loop : Nat) (i : Nat) (gr : Int64), (i ≤ n) → (n + 1 ≤ i + k_loop) → (0 ≤ gr.toInt) → (∀ a b, a < b → b < i → oh_d2 (oh_pt xs ys a) (oh_pt xs ys b) ≤ gr.toInt) → (gr.toInt = 0 ∨ ∃ a b, a < b ∧ b < n ∧ gr.toInt = oh_d2 (oh_pt xs ys a) (oh_pt xs ys b)) → ∀ (ls : Array Slot), lv_has ls 9 [(0, .ref h), (1, .long gr), (3, .int (nI i))] → W p l e (headSpec wsX1_diameter ({ frames := 0, cells := 0, slots := 0, locals := 0 })).room s m ([.ref h] : List Value).toArray below meth c s.heap [] 0 0 (MQ below (vp_Si (fun r => oh_dia n (oh_pt xs ys) r)) ([.ref h] : List Value).toArray s 0 0 (fun _ => False)) (F0 m 4 ls []) := by
    clear hl
    intro k_loop
    induction k_loop with
    | zero =>
      intro i gr hi hk hG0 hG1 hG2
      exfalso; omega
    | succ k_loop ih_loop =>
      intro i gr hi hk hG0 hG1 hG2 ls hl
      refine lv_iload_n hx hb dX1_diameter_4 rfl (lv_at hl 2 rfl) ?_
      refine lv_aload_n hx hb dX1_diameter_5 rfl (lv_at hl 0 rfl) ?_
      refine va_get (D := (dC, dI)) (ci := 1) (v := .int (nI n)) (C := RX1) (T := TX1) (N := 8) hx hb hts hin0 hown hK hP 0 rfl rfl 1 (by decide) (hts (.fieldLink RX1 29 "OnlineHullModel" "corners" "I") (by decide +kernel)) (fun _ h9 => h9) rfl dX1_diameter_6 ?_
      refine lv_icmp_ge (tgt := 99) hx hb dX1_diameter_9 (by decide) (fun c_9 => ?_) (fun c_9 => ?_)
      · have g_9 : n ≤ i := (nI_leI (a := n) (b := i) (by omega) (by omega)).mp c_9
        refine lv_lload_n hx hb dX1_diameter_99 rfl (lv_at hl 1 rfl) ?_
        refine lv_l2i (v := gr.toInt32) hx hb dX1_diameter_100 rfl ?_
        exact W.iret (v := gr.toInt32) hx hb hr (fun t ht hW => ⟨_, rfl, oh_diaL hR hG0 (fun a b h1 h2 => hG1 a b h1 (by omega)) hG2, ht⟩) (fun _ h => by cases h) dX1_diameter_101
      · have g_9 : ¬ n ≤ i := fun q => c_9 ((nI_leI (a := n) (b := i) (by omega) (by omega)).mpr q)
        refine lv_iconst (v := nI 0) hx hb dX1_diameter_12 (by decide) ?_
        refine lv_istore (lv' := [(4, .int (nI 0)), (0, .ref h), (1, .long gr), (3, .int (nI i))]) hx hb dX1_diameter_13 hl (by decide) rfl (fun ls hl => ?_)
        have loopj : ∀ (k_loopj : Nat) (j : Nat) (gr : Int64), (j ≤ i) → (i + 1 ≤ j + k_loopj) → (0 ≤ gr.toInt) → (∀ a b, a < b → b < i → oh_d2 (oh_pt xs ys a) (oh_pt xs ys b) ≤ gr.toInt) → (∀ a, a < j → oh_d2 (oh_pt xs ys a) (oh_pt xs ys i) ≤ gr.toInt) → (gr.toInt = 0 ∨ ∃ a b, a < b ∧ b < n ∧ gr.toInt = oh_d2 (oh_pt xs ys a) (oh_pt xs ys b)) → ∀ (ls : Array Slot), lv_has ls 9 [(0, .ref h), (1, .long gr), (3, .int (nI i)), (4, .int (nI j))] → W p l e (headSpec wsX1_diameter ({ frames := 0, cells := 0, slots := 0, locals := 0 })).room s m ([.ref h] : List Value).toArray below meth c s.heap [] 0 0 (MQ below (vp_Si (fun r => oh_dia n (oh_pt xs ys) r)) ([.ref h] : List Value).toArray s 0 0 (fun _ => False)) (F0 m 15 ls []) := by
          clear hl
          intro k_loopj
          induction k_loopj with
          | zero =>
            intro j gr hj hk2 hG0 hG1 hG3 hG2
            exfalso; omega
          | succ k_loopj ih_loopj =>
            intro j gr hj hk2 hG0 hG1 hG3 hG2 ls hl
            refine lv_iload hx hb dX1_diameter_15 (lv_at hl 3 rfl) ?_
            refine lv_iload_n hx hb dX1_diameter_17 rfl (lv_at hl 2 rfl) ?_
            refine lv_icmp_ge (tgt := 93) hx hb dX1_diameter_18 (by decide) (fun c_18 => ?_) (fun c_18 => ?_)
            · have g_18 : i ≤ j := (nI_leI (a := i) (b := j) (by omega) (by omega)).mp c_18
              refine lv_iinc (v := nI (i + 1)) (lv' := [(3, .int (nI (i + 1))), (0, .ref h), (1, .long gr), (4, .int (nI j))]) hx hb dX1_diameter_93 hl (k := 2) rfl (nI_1 i) (by decide) rfl (fun ls hl => ?_)
              refine lv_goto (tgt := 4) hx hb dX1_diameter_96 (by decide) ?_
              exact ih_loop (i + 1) gr (by omega) (by omega) (hG0) (fun a b h1 h2 => by by_cases hb : b = i; exact (by subst hb; exact hG3 a (by omega)); exact (hG1 a b h1 (by omega))) (hG2) ls (lv_sub hl [1, 2, 0] rfl)
            · have g_18 : ¬ i ≤ j := fun q => c_18 ((nI_leI (a := i) (b := j) (by omega) (by omega)).mpr q)
              refine lv_aload_n hx hb dX1_diameter_21 rfl (lv_at hl 0 rfl) ?_
              refine va_get (D := (dC, dI)) (ci := 1) (v := .ref b1) (C := RX1) (T := TX1) (N := 8) hx hb hts hin0 hown hK hP 0 rfl rfl 3 (by decide) (hts (.fieldLink RX1 7 "OnlineHullModel" "xs" "[I") (by decide +kernel)) (fun _ h9 => h9) rfl dX1_diameter_22 ?_
              refine lv_iload_n hx hb dX1_diameter_25 rfl (lv_at hl 2 rfl) ?_
              refine oh_ald hx hb hK hP 1 0 rfl rfl (k := i) (by omega) (by omega) dX1_diameter_26 ?_
              refine lv_aload_n hx hb dX1_diameter_27 rfl (lv_at hl 0 rfl) ?_
              refine va_get (D := (dC, dI)) (ci := 1) (v := .ref b1) (C := RX1) (T := TX1) (N := 8) hx hb hts hin0 hown hK hP 0 rfl rfl 3 (by decide) (hts (.fieldLink RX1 7 "OnlineHullModel" "xs" "[I") (by decide +kernel)) (fun _ h9 => h9) rfl dX1_diameter_28 ?_
              refine lv_iload hx hb dX1_diameter_31 (lv_at hl 3 rfl) ?_
              refine oh_ald hx hb hK hP 1 0 rfl rfl (k := j) (by omega) (by omega) dX1_diameter_33 ?_
              refine lv_isub hx hb dX1_diameter_34 ?_
              refine lv_i2l (v := ((xs i) - (xs j)).toInt64) hx hb dX1_diameter_35 rfl ?_
              refine lv_lstore (lv' := [(5, .long (((xs i) - (xs j)).toInt64)), (0, .ref h), (1, .long gr), (3, .int (nI i)), (4, .int (nI j))]) hx hb dX1_diameter_36 hl (by decide) rfl (fun ls hl => ?_)
              refine lv_aload_n hx hb dX1_diameter_38 rfl (lv_at hl 1 rfl) ?_
              refine va_get (D := (dC, dI)) (ci := 1) (v := .ref b2) (C := RX1) (T := TX1) (N := 8) hx hb hts hin0 hown hK hP 0 rfl rfl 4 (by decide) (hts (.fieldLink RX1 13 "OnlineHullModel" "ys" "[I") (by decide +kernel)) (fun _ h9 => h9) rfl dX1_diameter_39 ?_
              refine lv_iload_n hx hb dX1_diameter_42 rfl (lv_at hl 3 rfl) ?_
              refine oh_ald hx hb hK hP 2 0 rfl rfl (k := i) (by omega) (by omega) dX1_diameter_43 ?_
              refine lv_aload_n hx hb dX1_diameter_44 rfl (lv_at hl 1 rfl) ?_
              refine va_get (D := (dC, dI)) (ci := 1) (v := .ref b2) (C := RX1) (T := TX1) (N := 8) hx hb hts hin0 hown hK hP 0 rfl rfl 4 (by decide) (hts (.fieldLink RX1 13 "OnlineHullModel" "ys" "[I") (by decide +kernel)) (fun _ h9 => h9) rfl dX1_diameter_45 ?_
              refine lv_iload hx hb dX1_diameter_48 (lv_at hl 4 rfl) ?_
              refine oh_ald hx hb hK hP 2 0 rfl rfl (k := j) (by omega) (by omega) dX1_diameter_50 ?_
              refine lv_isub hx hb dX1_diameter_51 ?_
              refine lv_i2l (v := ((ys i) - (ys j)).toInt64) hx hb dX1_diameter_52 rfl ?_
              refine lv_lstore (lv' := [(7, .long (((ys i) - (ys j)).toInt64)), (5, .long (((xs i) - (xs j)).toInt64)), (0, .ref h), (1, .long gr), (3, .int (nI i)), (4, .int (nI j))]) hx hb dX1_diameter_53 hl (by decide) rfl (fun ls hl => ?_)
              refine lv_lload hx hb dX1_diameter_55 (lv_at hl 1 rfl) ?_
              refine lv_lload hx hb dX1_diameter_57 (lv_at hl 1 rfl) ?_
              refine lv_lmul hx hb dX1_diameter_59 ?_
              refine lv_lload hx hb dX1_diameter_60 (lv_at hl 0 rfl) ?_
              refine lv_lload hx hb dX1_diameter_62 (lv_at hl 0 rfl) ?_
              refine lv_lmul hx hb dX1_diameter_64 ?_
              refine lv_ladd hx hb dX1_diameter_65 ?_
              refine lv_topl (fun t_65 e_65 => ?_)
              have w_65 : t_65.toInt = oh_d2 (oh_pt xs ys j) (oh_pt xs ys i) := by rw [e_65]; exact oh_q64 (hR i (by omega)) (hR j (by omega))
              refine lv_lload_n hx hb dX1_diameter_66 rfl (lv_at hl 3 rfl) ?_
              refine W.lcmp hx hb dX1_diameter_67 ?_
              refine lv_if_le (tgt := 85) hx hb dX1_diameter_68 (by decide) (fun c_68 => ?_) (fun c_68 => ?_)
              · have g_68 : t_65.toInt ≤ gr.toInt := oh_lc_le c_68
                refine lv_lload_n hx hb dX1_diameter_85 rfl (lv_at hl 3 rfl) ?_
                refine lv_lstore_n (lv' := [(1, .long gr), (7, .long (((ys i) - (ys j)).toInt64)), (5, .long (((xs i) - (xs j)).toInt64)), (0, .ref h), (3, .int (nI i)), (4, .int (nI j))]) hx hb dX1_diameter_86 rfl hl (by decide) rfl (fun ls hl => ?_)
                refine lv_iinc (v := nI (j + 1)) (lv' := [(4, .int (nI (j + 1))), (1, .long gr), (7, .long (((ys i) - (ys j)).toInt64)), (5, .long (((xs i) - (xs j)).toInt64)), (0, .ref h), (3, .int (nI i))]) hx hb dX1_diameter_87 hl (k := 5) rfl (nI_1 j) (by decide) rfl (fun ls hl => ?_)
                refine lv_goto (tgt := 15) hx hb dX1_diameter_90 (by decide) ?_
                exact ih_loopj (j + 1) gr (by omega) (by omega) (hG0) (hG1) (lt_s hG3 (by omega)) (hG2) ls (lv_sub hl [4, 1, 5, 0] rfl)
              · have g_68 : t_65.toInt > gr.toInt := oh_lc_nle c_68
                refine lv_lload hx hb dX1_diameter_71 (lv_at hl 1 rfl) ?_
                refine lv_lload hx hb dX1_diameter_73 (lv_at hl 1 rfl) ?_
                refine lv_lmul hx hb dX1_diameter_75 ?_
                refine lv_lload hx hb dX1_diameter_76 (lv_at hl 0 rfl) ?_
                refine lv_lload hx hb dX1_diameter_78 (lv_at hl 0 rfl) ?_
                refine lv_lmul hx hb dX1_diameter_80 ?_
                refine lv_ladd hx hb dX1_diameter_81 ?_
                refine lv_topl (fun t_81 e_81 => ?_)
                have w_81 : t_81.toInt = oh_d2 (oh_pt xs ys j) (oh_pt xs ys i) := by rw [e_81]; exact oh_q64 (hR i (by omega)) (hR j (by omega))
                refine lv_goto (tgt := 86) hx hb dX1_diameter_82 (by decide) ?_
                refine lv_lstore_n (lv' := [(1, .long t_81), (7, .long (((ys i) - (ys j)).toInt64)), (5, .long (((xs i) - (xs j)).toInt64)), (0, .ref h), (3, .int (nI i)), (4, .int (nI j))]) hx hb dX1_diameter_86 rfl hl (by decide) rfl (fun ls hl => ?_)
                refine lv_iinc (v := nI (j + 1)) (lv' := [(4, .int (nI (j + 1))), (1, .long t_81), (7, .long (((ys i) - (ys j)).toInt64)), (5, .long (((xs i) - (xs j)).toInt64)), (0, .ref h), (3, .int (nI i))]) hx hb dX1_diameter_87 hl (k := 5) rfl (nI_1 j) (by decide) rfl (fun ls hl => ?_)
                refine lv_goto (tgt := 15) hx hb dX1_diameter_90 (by decide) ?_
                exact ih_loopj (j + 1) t_81 (by omega) (by omega) (by omega) (fun a b h1 h2 => by have := hG1 a b h1 h2; omega) (lt_s (fun a ha => by have := hG3 a ha; omega) (by omega)) (Or.inr ⟨j, i, by omega, by omega, w_81⟩) ls (lv_sub hl [4, 1, 5, 0] rfl)
        exact loopj (i + 1) 0 gr (by omega) (by omega) (hG0) (hG1) (fun a ha => by omega) (hG2) ls (lv_sub hl [1, 2, 3, 0] rfl)
  exact loop (n + 1) 0 0 (by omega) (by omega) (by decide) (fun a b h1 h2 => by omega) (Or.inl (by decide)) ls (lv_sub hl [2, 1, 0] rfl)
end
section
/-! going round: from each corner of the ring the next one is found -/
def oh_ringW (c : Nat) (G : Nat → Int × Int) (m : Nat) (ρ : Nat → Nat) : Prop :=
  1 ≤ m ∧ m ≤ c ∧ (∀ i, i < m → ρ i < c) ∧ (∀ i j, i < j → j < m → ρ i ≠ ρ j) ∧ (∀ i, i < m → ∀ w, w < c → w ≠ ρ i → w ≠ ρ (oh_nx m i) → oh_edg (G (ρ i)) (G (ρ (oh_nx m i))) (G w)) ∧ (∀ w, w < c → w ≠ ρ 0 → oh_lx (G (ρ 0)) (G w)) ∧ (c = 1 ∨ 2 ≤ m)
theorem oh_ringW_of {n m : Nat} {P G : Nat → Int × Int} {q : Int × Int} {ρ : Nat → Nat} (h : oh_step n P q m ρ) (hG : ∀ j, j < n + 1 → G j = oh_G n P q j) : oh_ringW (n + 1) G m ρ := by
  rcases h.1 with ⟨e1, e2, e3⟩ | ⟨h1, g1, g2, g3, g4, g5, g6⟩
  · subst e1; subst e2
    refine ⟨by omega, by omega, fun i hi => by rw [show i = 0 by omega, e3]; omega, fun i j hi hj => by omega, fun i hi w hw w1 => ?_, fun w hw w1 => ?_, Or.inl rfl⟩
    · rw [show i = 0 by omega, e3] at w1; omega
    · rw [e3] at w1; omega
  · refine ⟨by omega, g2, g3, g4, fun i hi w hw w1 w2 => ?_, fun w hw w1 => ?_, Or.inr g1⟩
    · rw [hG _ (g3 i hi), hG _ (g3 _ (oh_nx_lt hi)), hG _ hw]
      exact g5 i hi w hw w1 w2
    · rw [hG _ (g3 0 (by omega)), hG _ hw]
      exact g6 w hw w1
section
variable {c m : Nat} {G : Nat → Int × Int} {ρ : Nat → Nat}
theorem oh_first (h : oh_ringW c G m ρ) {b : Nat} (hb : b < c) (hI : ∀ j, j < c → ¬ oh_lx (G j) (G b)) : b = ρ 0 := by
  by_cases e : b = ρ 0
  · exact e
  · exact absurd (h.2.2.2.2.2.1 b hb e) (hI _ (h.2.2.1 0 (by have := h.1; omega)))
theorem oh_nx1 (h : oh_ringW c G m ρ) {i k : Nat} (hi : i < m) (hk : k < c) (hne : k ≠ ρ i) : ¬ oh_Nx G (ρ i) (ρ (oh_nx m i)) k := by
  intro w
  by_cases e : k = ρ (oh_nx m i)
  · rw [e] at w
    unfold oh_Nx at w
    rw [oh_s2] at w
    omega
  · have g := h.2.2.2.2.1 i hi k hk hne e
    unfold oh_edg at g
    unfold oh_Nx at w
    omega
theorem oh_nx2 (h : oh_ringW c G m ρ) {i v : Nat} (hi : i < m) (hv : v < c) (h1 : v ≠ ρ i) (h2 : v ≠ ρ (oh_nx m i)) : oh_Nx G (ρ i) v (ρ (oh_nx m i)) := by
  have g := h.2.2.2.2.1 i hi v hv h1 h2
  have e := oh_swap2 (G (ρ i)) (G v) (G (ρ (oh_nx m i)))
  unfold oh_edg at g
  unfold oh_Nx
  omega
theorem oh_nxc (h : oh_ringW c G m ρ) {i : Nat} (hi : i < m) : (i + 1 < m ∧ oh_nx m i = i + 1 ∧ ρ (i + 1) ≠ ρ 0) ∨ (i + 1 = m ∧ oh_nx m i = 0) := by
  by_cases g : i + 1 < m
  · refine Or.inl ⟨g, ?_, fun e => h.2.2.2.1 0 (i + 1) (by omega) g e.symm⟩
    unfold oh_nx; rw [if_pos g]
  · refine Or.inr ⟨by omega, ?_⟩
    unfold oh_nx; rw [if_neg g]
theorem oh_nxne (h : oh_ringW c G m ρ) {i : Nat} (hi : i < m) : c = 1 ∨ ρ (oh_nx m i) ≠ ρ i := by
  rcases h.2.2.2.2.2.2 with e | e
  · exact Or.inl e
  · right
    rcases oh_nxc h hi with ⟨g1, g2, -⟩ | ⟨g1, g2⟩
    · rw [g2]; exact fun w => h.2.2.2.1 i (i + 1) (by omega) g1 w.symm
    · rw [g2]; exact fun w => h.2.2.2.1 0 i (by omega) hi w
end
theorem oh_rdU {i a : Nat} {ρ : Nat → Nat} {rd : Nat → Int32} (hT : ∀ t, t < i → rd t = nI (ρ t)) (ha : a = ρ i) : ∀ t, t < i + 1 → upd rd i (nI a) t = nI (ρ t) := by
  intro t ht
  by_cases e : t = i
  · subst e; rw [pk_us, ha]
  · rw [pk_un e]; exact hT t (by omega)
theorem oh_cpU {i : Nat} {f g : Nat → Int32} (h : ∀ t, t < i → f t = g t) : ∀ t, t < i + 1 → upd f i (g i) t = g t := by
  intro t ht
  by_cases e : t = i
  · subst e; rw [pk_us]
  · rw [pk_un e]; exact h t (by omega)
theorem oh_pxg {n : Nat} {f g : Nat → Int32} {x : Int32} (h : ∀ t, t < n → f t = g t) {j : Nat} (hj : j < n + 1) : upd f n x j = oh_g n g x j := by
  unfold oh_g
  by_cases e : j = n
  · subst e; rw [pk_us, if_neg (Nat.lt_irrefl j)]
  · rw [pk_un e, if_pos (by omega)]; exact h j (by omega)
theorem oh_pxG {n : Nat} {f1 f2 g1 g2 : Nat → Int32} {x y : Int32} (h1 : ∀ t, t < n → f1 t = g1 t) (h2 : ∀ t, t < n → f2 t = g2 t) : ∀ j, j < n + 1 → oh_pt (upd f1 n x) (upd f2 n y) j = oh_G n (oh_pt g1 g2) (x.toInt, y.toInt) j := by
  intro j hj
  rw [← oh_gG]
  unfold oh_pt
  rw [oh_pxg h1 hj, oh_pxg h2 hj]
theorem oh_pxR {n : Nat} {f1 f2 g1 g2 : Nat → Int32} {x y : Int32} (h1 : ∀ t, t < n → f1 t = g1 t) (h2 : ∀ t, t < n → f2 t = g2 t) (hR : ∀ j, j < n → oh_inR (g1 j) (g2 j)) (hq : oh_inR x y) : ∀ j, j < n + 1 → oh_inR (upd f1 n x j) (upd f2 n y j) := by
  intro j hj
  rw [oh_pxg h1 hj, oh_pxg h2 hj]
  unfold oh_g
  by_cases e : j < n
  · rw [if_pos e, if_pos e]; exact hR j e
  · rw [if_neg e, if_neg e]; exact hq
theorem oh_xsU {n i : Nat} {ρ : Nat → Nat} {f g p : Nat → Int32} {x : Int32} (h : ∀ t, t < i → f t = oh_g n g x (ρ t)) (hp : p (ρ i) = oh_g n g x (ρ i)) : ∀ t, t < i + 1 → upd f i (p (ρ i)) t = oh_g n g x (ρ t) := by
  intro t ht
  by_cases e : t = i
  · subst e; rw [pk_us, hp]
  · rw [pk_un e]; exact h t (by omega)
theorem oh_pl3b {n : Nat} {P : Nat → Int × Int} {q : Int × Int} {r : Int32} (h : oh_pl3 n P q r) : 0 ≤ r.toInt ∧ r.toInt ≤ 2 := by
  rcases h with ⟨-, e⟩ | ⟨-, -, g⟩ | ⟨-, g⟩
  · rw [e]; decide
  · rcases g with ⟨e, -⟩ | ⟨e, -⟩ <;> rw [e] <;> decide
  · exact (oh_plR0 g).2
def oh_addM (N n m : Nat) (ρ : Nat → Nat) (xs ys : Nat → Int32) (pts x y r : Int32) (u : (Nat → Int32) × (Nat → Int32) × (Nat → Int32) × (Nat → Int32) × (Nat → Int32) × Nat × Int32) : Prop :=
  ∃ gx gy p1 p2 p3 m9 p9, u = (gx, gy, p1, p2, p3, m9, p9) ∧ ((¬ oh_inR x y ∧ r = -1 ∧ gx = xs ∧ gy = ys ∧ m9 = n ∧ p9 = pts) ∨ (oh_inR x y ∧ ∃ pl, oh_pl3 n (oh_pt xs ys) (x.toInt, y.toInt) pl ∧
    ((pl.toInt ≠ 0 ∧ r = 0 ∧ gx = xs ∧ gy = ys ∧ m9 = n ∧ p9 = pts + nI 1) ∨ (pl.toInt = 0 ∧
      ((m ≤ N ∧ r = nI (n + 2 - m) ∧ m9 = m ∧ p9 = pts + nI 1 ∧ oh_arr n m ρ xs ys x y gx gy) ∨ (N < m ∧ r = -2 ∧ gx = xs ∧ gy = ys ∧ m9 = n ∧ p9 = pts))))))
end
section
set_option maxHeartbeats 4000000 in
set_option maxRecDepth 100000 in
theorem k_X1_goRound (l : Launch) (dC : Nat → ClassId) (dI : Nat → Nat → Nat) (cI : ClassId) (h b1 b2 b3 b4 b5 N n : Nat) (pts : Int32) (xs ys px py rd : Nat → Int32) (sz : Nat) (c9 M9 : Nat) (ρ : Nat → Nat) (hc9 : c9 ≤ 65) (hRp : ∀ j, j < c9 → oh_inR (px j) (py j)) (hw : oh_ringW c9 (oh_pt px py) M9 ρ) : Met l yX1_goRound wsX1_goRound ({ frames := 2, cells := 0, slots := 0, locals := 64 }) (va_Pc [.ref h, .int (nI c9)] (fun U => U.heap.size = sz ∧ va_P (dC, dI) vwCl [(h, .inr (1, [.int (nI N), .int (nI n), .int pts, .ref b1, .ref b2, .ref b3, .ref b4, .ref b5])), (b1, .inl (cI, 66, .inl xs)), (b2, .inl (cI, 66, .inl ys)), (b3, .inl (cI, 66, .inl px)), (b4, .inl (cI, 66, .inl py)), (b5, .inl (cI, 67, .inl rd))] U.heap ∧ va_K (dC, dI) vwCl [(cI, .int)] U ∧ va_D (fun _ => True) [(h, .inr (1, [.int (nI N), .int (nI n), .int pts, .ref b1, .ref b2, .ref b3, .ref b4, .ref b5])), (b1, .inl (cI, 66, .inl xs)), (b2, .inl (cI, 66, .inl ys)), (b3, .inl (cI, 66, .inl px)), (b4, .inl (cI, 66, .inl py)), (b5, .inl (cI, 67, .inl rd))])) (va_Qi (S := (Nat → Int32) × (Nat → Int32) × (Nat → Int32) × (Nat → Int32) × (Nat → Int32) × Nat × Int32) (fun r u => r = nI M9 ∧ ∃ rd9, u = (xs, ys, px, py, rd9, n, pts) ∧ ∀ t, t < M9 → rd9 t = nI (ρ t)) (fun u t => va_P (dC, dI) vwCl [(h, .inr (1, [.int (nI N), .int (nI u.2.2.2.2.2.1), .int u.2.2.2.2.2.2, .ref b1, .ref b2, .ref b3, .ref b4, .ref b5])), (b1, .inl (cI, 66, .inl u.1)), (b2, .inl (cI, 66, .inl u.2.1)), (b3, .inl (cI, 66, .inl u.2.2.1)), (b4, .inl (cI, 66, .inl u.2.2.2.1)), (b5, .inl (cI, 67, .inl u.2.2.2.2.1))] t.heap ∧ va_K (dC, dI) vwCl [(cI, .int)] t ∧ va_D (va_A [(h, .inr (1, [.int (nI N), .int (nI n), .int pts, .ref b1, .ref b2, .ref b3, .ref b4, .ref b5])), (b1, .inl (cI, 66, .inl xs)), (b2, .inl (cI, 66, .inl ys)), (b3, .inl (cI, 66, .inl px)), (b4, .inl (cI, 66, .inl py)), (b5, .inl (cI, 67, .inl rd))] sz) [(h, .inr (1, [.int (nI N), .int (nI u.2.2.2.2.2.1), .int u.2.2.2.2.2.2, .ref b1, .ref b2, .ref b3, .ref b4, .ref b5])), (b1, .inl (cI, 66, .inl u.1)), (b2, .inl (cI, 66, .inl u.2.1)), (b3, .inl (cI, 66, .inl u.2.2.1)), (b4, .inl (cI, 66, .inl u.2.2.2.1)), (b5, .inl (cI, 67, .inl u.2.2.2.2.1))]) (va_A [(h, .inr (1, [.int (nI N), .int (nI n), .int pts, .ref b1, .ref b2, .ref b3, .ref b4, .ref b5])), (b1, .inl (cI, 66, .inl xs)), (b2, .inl (cI, 66, .inl ys)), (b3, .inl (cI, 66, .inl px)), (b4, .inl (cI, 66, .inl py)), (b5, .inl (cI, 67, .inl rd))] sz)) 0 0 (va_A [(h, .inr (1, [.int (nI N), .int (nI n), .int pts, .ref b1, .ref b2, .ref b3, .ref b4, .ref b5])), (b1, .inl (cI, 66, .inl xs)), (b2, .inl (cI, 66, .inl ys)), (b3, .inl (cI, 66, .inl px)), (b4, .inl (cI, 66, .inl py)), (b5, .inl (cI, 67, .inl rd))] sz) := by
  refine Met.ofW (cc := cX1_goRound) (maxL := 8) (ret := (some .int)) (by decide) rfl ?_
  intro p e s m args below meth c s₁ B hml hv
  obtain ⟨rfl, hsz, hP, hK, hD0⟩ := hv
  have hx := B.exec
  have hb := B.bytes
  have hr := B.returns
  have hts := atoms_spec (ws := wsX1_goRound) B.pre
  have hown : s.vm.findClass RX1 = some m.cls := findClass_of_methodNamed B.named
  have hlocks := B.notSynchronized
  have hin0 : ∀ w ∈ wsX10, w ∈ wsX1_goRound := fun w h => List.mem_cons_of_mem _ (List.mem_append_right _ h)
  subst hsz
  have hD := hD0.self (sz := s.heap.size)
  generalize hAe : va_A [(h, .inr (1, [.int (nI N), .int (nI n), .int pts, .ref b1, .ref b2, .ref b3, .ref b4, .ref b5])), (b1, .inl (cI, 66, .inl xs)), (b2, .inl (cI, 66, .inl ys)), (b3, .inl (cI, 66, .inl px)), (b4, .inl (cI, 66, .inl py)), (b5, .inl (cI, 67, .inl rd))] s.heap.size = A at hD ⊢
  have hA : ∀ q : Nat, s.heap.size ≤ q → A q := fun q h => by rw [← hAe]; exact Or.inr h
  have hS : va_S A s.heap s.heap [] := va_S.rf
  have hl := lv_entry ([.ref h, .int (nI c9)]) (n := 8) (Nat.le_of_ble_eq_true rfl)
  rw [lg_entry_eq]
  generalize (lg_sl ([.ref h, .int (nI c9)]) ++ List.replicate (8 - (lg_sl ([.ref h, .int (nI c9)])).length) Slot.unset).toArray = ls at hl ⊢
  have hl : lv_has ls 8 [(0, .ref h), (1, .int (nI c9))] := hl
  suffices hgo : ∀ (H : Heap) (locs : List Loc), va_P (dC, dI) vwCl [(h, .inr (1, [.int (nI N), .int (nI n), .int pts, .ref b1, .ref b2, .ref b3, .ref b4, .ref b5])), (b1, .inl (cI, 66, .inl xs)), (b2, .inl (cI, 66, .inl ys)), (b3, .inl (cI, 66, .inl px)), (b4, .inl (cI, 66, .inl py)), (b5, .inl (cI, 67, .inl rd))] H → va_D A [(h, .inr (1, [.int (nI N), .int (nI n), .int pts, .ref b1, .ref b2, .ref b3, .ref b4, .ref b5])), (b1, .inl (cI, 66, .inl xs)), (b2, .inl (cI, 66, .inl ys)), (b3, .inl (cI, 66, .inl px)), (b4, .inl (cI, 66, .inl py)), (b5, .inl (cI, 67, .inl rd))] → va_S A s.heap H locs → W p l e (headSpec wsX1_goRound ({ frames := 2, cells := 0, slots := 0, locals := 64 })).room s m ([.ref h, .int (nI c9)] : List Value).toArray below meth c H locs 0 0 (MQ below (va_Qi (S := (Nat → Int32) × (Nat → Int32) × (Nat → Int32) × (Nat → Int32) × (Nat → Int32) × Nat × Int32) (fun r u => r = nI M9 ∧ ∃ rd9, u = (xs, ys, px, py, rd9, n, pts) ∧ ∀ t, t < M9 → rd9 t = nI (ρ t)) (fun u t => va_P (dC, dI) vwCl [(h, .inr (1, [.int (nI N), .int (nI u.2.2.2.2.2.1), .int u.2.2.2.2.2.2, .ref b1, .ref b2, .ref b3, .ref b4, .ref b5])), (b1, .inl (cI, 66, .inl u.1)), (b2, .inl (cI, 66, .inl u.2.1)), (b3, .inl (cI, 66, .inl u.2.2.1)), (b4, .inl (cI, 66, .inl u.2.2.2.1)), (b5, .inl (cI, 67, .inl u.2.2.2.2.1))] t.heap ∧ va_K (dC, dI) vwCl [(cI, .int)] t ∧ va_D A [(h, .inr (1, [.int (nI N), .int (nI u.2.2.2.2.2.1), .int u.2.2.2.2.2.2, .ref b1, .ref b2, .ref b3, .ref b4, .ref b5])), (b1, .inl (cI, 66, .inl u.1)), (b2, .inl (cI, 66, .inl u.2.1)), (b3, .inl (cI, 66, .inl u.2.2.1)), (b4, .inl (cI, 66, .inl u.2.2.2.1)), (b5, .inl (cI, 67, .inl u.2.2.2.2.1))]) A) ([.ref h, .int (nI c9)] : List Value).toArray s 0 0 A) (F0 m 0 ls []) from hgo s.heap [] hP hD hS
  clear hP hD hS hD0
  intro H locs hP hD hS
  have hm1c := hw.1
  have hmc := hw.2.1
  refine lv_iconst (v := nI 0) hx hb dX1_goRound_0 (by decide) ?_
  refine lv_istore_n (lv' := [(2, .int (nI 0)), (0, .ref h), (1, .int (nI c9))]) hx hb dX1_goRound_1 rfl hl (by decide) rfl (fun ls hl => ?_)
  refine lv_iconst (v := nI 1) hx hb dX1_goRound_2 (by decide) ?_
  refine lv_istore_n (lv' := [(3, .int (nI 1)), (2, .int (nI 0)), (0, .ref h), (1, .int (nI c9))]) hx hb dX1_goRound_3 rfl hl (by decide) rfl (fun ls hl => ?_)
  have lf : ∀ (k_lf : Nat) (i : Nat) (b : Nat), (1 ≤ i) → (i ≤ c9) → (c9 + 1 ≤ i + k_lf) → (b < i) → (∀ j, j < i → ¬ oh_lx (oh_pt px py j) (oh_pt px py b)) → ∀ (H : Heap) (locs : List Loc), va_P (dC, dI) vwCl [(h, .inr (1, [.int (nI N), .int (nI n), .int pts, .ref b1, .ref b2, .ref b3, .ref b4, .ref b5])), (b1, .inl (cI, 66, .inl xs)), (b2, .inl (cI, 66, .inl ys)), (b3, .inl (cI, 66, .inl px)), (b4, .inl (cI, 66, .inl py)), (b5, .inl (cI, 67, .inl rd))] H → va_D A [(h, .inr (1, [.int (nI N), .int (nI n), .int pts, .ref b1, .ref b2, .ref b3, .ref b4, .ref b5])), (b1, .inl (cI, 66, .inl xs)), (b2, .inl (cI, 66, .inl ys)), (b3, .inl (cI, 66, .inl px)), (b4, .inl (cI, 66, .inl py)), (b5, .inl (cI, 67, .inl rd))] → va_S A s.heap H locs → ∀ (ls : Array Slot), lv_has ls 8 [(0, .ref h), (1, .int (nI c9)), (2, .int (nI b)), (3, .int (nI i))] → W p l e (headSpec wsX1_goRound ({ frames := 2, cells := 0, slots := 0, locals := 64 })).room s m ([.ref h, .int (nI c9)] : List Value).toArray below meth c H locs 0 0 (MQ below (va_Qi (S := (Nat → Int32) × (Nat → Int32) × (Nat → Int32) × (Nat → Int32) × (Nat → Int32) × Nat × Int32) (fun r u => r = nI M9 ∧ ∃ rd9, u = (xs, ys, px, py, rd9, n, pts) ∧ ∀ t, t < M9 → rd9 t = nI (ρ t)) (fun u t => va_P (dC, dI) vwCl [(h, .inr (1, [.int (nI N), .int (nI u.2.2.2.2.2.1), .int u.2.2.2.2.2.2, .ref b1, .ref b2, .ref b3, .ref b4, .ref b5])), (b1, .inl (cI, 66, .inl u.1)), (b2, .inl (cI, 66, .inl u.2.1)), (b3, .inl (cI, 66, .inl u.2.2.1)), (b4, .inl (cI, 66, .inl u.2.2.2.1)), (b5, .inl (cI, 67, .inl u.2.2.2.2.1))] t.heap ∧ va_K (dC, dI) vwCl [(cI, .int)] t ∧ va_D A [(h, .inr (1, [.int (nI N), .int (nI u.2.2.2.2.2.1), .int u.2.2.2.2.2.2, .ref b1, .ref b2, .ref b3, .ref b4, .ref b5])), (b1, .inl (cI, 66, .inl u.1)), (b2, .inl (cI, 66, .inl u.2.1)), (b3, .inl (cI, 66, .inl u.2.2.1)), (b4, .inl (cI, 66, .inl u.2.2.2.1)), (b5, .inl (cI, 67, .inl u.2.2.2.2.1))]) A) ([.ref h, .int (nI c9)] : List Value).toArray s 0 0 A) (F0 m 4 ls []) := by
    clear hP hD hS
    clear hl
    intro k_lf
    induction k_lf with
    | zero =>
      intro i b hi1 hi hk hb9 hI
      exfalso; omega
    | succ k_lf ih_lf =>
      intro i b hi1 hi hk hb9 hI H locs hP hD hS ls hl
      refine lv_iload_n hx hb dX1_goRound_4 rfl (lv_at hl 3 rfl) ?_
      refine lv_iload_n hx hb dX1_goRound_5 rfl (lv_at hl 1 rfl) ?_
      refine lv_icmp_ge (tgt := 66) hx hb dX1_goRound_6 (by decide) (fun c_6 => ?_) (fun c_6 => ?_)
      · have g_6 : c9 ≤ i := (nI_leI (a := c9) (b := i) (by omega) (by omega)).mp c_6
        have hb0 : b = ρ 0 := oh_first hw (by omega) (fun j hj => hI j (by omega))
        subst hb0
        refine lv_iconst (v := nI 0) hx hb dX1_goRound_66 (by decide) ?_
        refine lv_istore_n (lv' := [(3, .int (nI 0)), (0, .ref h), (1, .int (nI c9)), (2, .int (nI (ρ 0)))]) hx hb dX1_goRound_67 rfl hl (by decide) rfl (fun ls hl => ?_)
        refine lv_iload_n hx hb dX1_goRound_68 rfl (lv_at hl 3 rfl) ?_
        refine lv_istore (lv' := [(4, .int (nI (ρ 0))), (3, .int (nI 0)), (0, .ref h), (1, .int (nI c9)), (2, .int (nI (ρ 0)))]) hx hb dX1_goRound_69 hl (by decide) rfl (fun ls hl => ?_)
        refine lv_iconst (v := nI 1) hx hb dX1_goRound_71 (by decide) ?_
        refine lv_istore (lv' := [(5, .int (nI 1)), (4, .int (nI (ρ 0))), (3, .int (nI 0)), (0, .ref h), (1, .int (nI c9)), (2, .int (nI (ρ 0)))]) hx hb dX1_goRound_72 hl (by decide) rfl (fun ls hl => ?_)
        have lw : ∀ (k_lw : Nat) (i : Nat) (a9 : Nat) (mo : Nat) (rd9 : Nat → Int32), (i ≤ M9) → (M9 + 1 ≤ i + k_lw) → ((mo = 1 ∧ i < M9 ∧ a9 = ρ i) ∨ (mo = 0 ∧ i = M9)) → (∀ t, t < i → rd9 t = nI (ρ t)) → ∀ (H : Heap) (locs : List Loc), va_P (dC, dI) vwCl [(h, .inr (1, [.int (nI N), .int (nI n), .int pts, .ref b1, .ref b2, .ref b3, .ref b4, .ref b5])), (b1, .inl (cI, 66, .inl xs)), (b2, .inl (cI, 66, .inl ys)), (b3, .inl (cI, 66, .inl px)), (b4, .inl (cI, 66, .inl py)), (b5, .inl (cI, 67, .inl rd9))] H → va_D A [(h, .inr (1, [.int (nI N), .int (nI n), .int pts, .ref b1, .ref b2, .ref b3, .ref b4, .ref b5])), (b1, .inl (cI, 66, .inl xs)), (b2, .inl (cI, 66, .inl ys)), (b3, .inl (cI, 66, .inl px)), (b4, .inl (cI, 66, .inl py)), (b5, .inl (cI, 67, .inl rd9))] → va_S A s.heap H locs → ∀ (ls : Array Slot), lv_has ls 8 [(0, .ref h), (1, .int (nI c9)), (2, .int (nI (ρ 0))), (3, .int (nI i)), (4, .int (nI a9)), (5, .int (nI mo))] → W p l e (headSpec wsX1_goRound ({ frames := 2, cells := 0, slots := 0, locals := 64 })).room s m ([.ref h, .int (nI c9)] : List Value).toArray below meth c H locs 0 0 (MQ below (va_Qi (S := (Nat → Int32) × (Nat → Int32) × (Nat → Int32) × (Nat → Int32) × (Nat → Int32) × Nat × Int32) (fun r u => r = nI M9 ∧ ∃ rd9, u = (xs, ys, px, py, rd9, n, pts) ∧ ∀ t, t < M9 → rd9 t = nI (ρ t)) (fun u t => va_P (dC, dI) vwCl [(h, .inr (1, [.int (nI N), .int (nI u.2.2.2.2.2.1), .int u.2.2.2.2.2.2, .ref b1, .ref b2, .ref b3, .ref b4, .ref b5])), (b1, .inl (cI, 66, .inl u.1)), (b2, .inl (cI, 66, .inl u.2.1)), (b3, .inl (cI, 66, .inl u.2.2.1)), (b4, .inl (cI, 66, .inl u.2.2.2.1)), (b5, .inl (cI, 67, .inl u.2.2.2.2.1))] t.heap ∧ va_K (dC, dI) vwCl [(cI, .int)] t ∧ va_D A [(h, .inr (1, [.int (nI N), .int (nI u.2.2.2.2.2.1), .int u.2.2.2.2.2.2, .ref b1, .ref b2, .ref b3, .ref b4, .ref b5])), (b1, .inl (cI, 66, .inl u.1)), (b2, .inl (cI, 66, .inl u.2.1)), (b3, .inl (cI, 66, .inl u.2.2.1)), (b4, .inl (cI, 66, .inl u.2.2.2.1)), (b5, .inl (cI, 67, .inl u.2.2.2.2.1))]) A) ([.ref h, .int (nI c9)] : List Value).toArray s 0 0 A) (F0 m 74 ls []) := by
          clear hP hD hS
          clear hl
          intro k_lw
          induction k_lw with
          | zero =>
            intro i a9 mo rd9 hi hk hJ hT
            exfalso; omega
          | succ k_lw ih_lw =>
            intro i a9 mo rd9 hi hk hJ hT H locs hP hD hS ls hl
            refine lv_iload hx hb dX1_goRound_74 (lv_at hl 5 rfl) ?_
            refine lv_if_eq (tgt := 173) hx hb dX1_goRound_76 (by decide) (fun c_76 => ?_) (fun c_76 => ?_)
            · have g_76 : mo = 0 := (nI_eq (a := mo) (b := 0) (by omega) (by omega)).mp (c_76.trans nI_0.symm)
              refine lv_iload_n hx hb dX1_goRound_173 rfl (lv_at hl 3 rfl) ?_
              exact W.iret (v := nI i) hx hb hr (fun t ht hW => ⟨⟨_, (xs, ys, px, py, rd9, n, pts), rfl, ⟨congrArg nI (by omega), rd9, rfl, fun t ht => hT t (by omega)⟩, by rw [ht]; exact hP, va_K.moved hW.alike hK, hD⟩, hS.F ht⟩) hS.2.2 dX1_goRound_174
            · have g_76 : mo ≠ 0 := fun q => (fun q => c_76 (q.trans nI_0)) ((nI_eq (a := mo) (b := 0) (by omega) (by omega)).mpr q)
              have hm1 : i < M9 := by omega
              have ha : a9 = ρ i := by omega
              have hac := hw.2.2.1 i hm1
              have htc := hw.2.2.1 _ (oh_nx_lt hm1)
              have hnc := oh_nxc hw hm1
              have hnn := oh_nxne hw hm1
              refine lv_aload_n hx hb dX1_goRound_79 rfl (lv_at hl 0 rfl) ?_
              refine va_get (D := (dC, dI)) (ci := 1) (v := .ref b5) (C := RX1) (T := TX1) (N := 8) hx hb hts hin0 hown hK hP 0 rfl rfl 7 (by decide) (hts (.fieldLink RX1 22 "OnlineHullModel" "round" "[I") (by decide +kernel)) (fun _ h9 => h9) rfl dX1_goRound_80 ?_
              refine lv_iload_n hx hb dX1_goRound_83 rfl (lv_at hl 3 rfl) ?_
              refine lv_iload hx hb dX1_goRound_84 (lv_at hl 4 rfl) ?_
              refine oh_ast hx hb hK hP hD hS 5 0 rfl rfl (k := i) (by omega) (by omega) dX1_goRound_86 (fun H locs hP hD hS => ?_)
              have hP : va_P (dC, dI) vwCl [(h, .inr (1, [.int (nI N), .int (nI n), .int pts, .ref b1, .ref b2, .ref b3, .ref b4, .ref b5])), (b1, .inl (cI, 66, .inl xs)), (b2, .inl (cI, 66, .inl ys)), (b3, .inl (cI, 66, .inl px)), (b4, .inl (cI, 66, .inl py)), (b5, .inl (cI, 67, .inl (upd rd9 i (nI a9))))] H := hP
              have hD : va_D A [(h, .inr (1, [.int (nI N), .int (nI n), .int pts, .ref b1, .ref b2, .ref b3, .ref b4, .ref b5])), (b1, .inl (cI, 66, .inl xs)), (b2, .inl (cI, 66, .inl ys)), (b3, .inl (cI, 66, .inl px)), (b4, .inl (cI, 66, .inl py)), (b5, .inl (cI, 67, .inl (upd rd9 i (nI a9))))] := hD
              refine lv_iinc (v := nI (i + 1)) (lv' := [(3, .int (nI (i + 1))), (0, .ref h), (1, .int (nI c9)), (2, .int (nI (ρ 0))), (4, .int (nI a9)), (5, .int (nI mo))]) hx hb dX1_goRound_87 hl (k := 3) rfl (nI_1 i) (by decide) rfl (fun ls hl => ?_)
              refine lv_iload hx hb dX1_goRound_90 (lv_at hl 4 rfl) ?_
              refine lv_if_ne (tgt := 101) hx hb dX1_goRound_92 (by decide) (fun c_92 => ?_) (fun c_92 => ?_)
              · have g_92 : a9 ≠ 0 := fun q => (fun q => c_92 (q.trans nI_0)) ((nI_eq (a := a9) (b := 0) (by omega) (by omega)).mpr q)
                refine lv_iconst (v := nI 0) hx hb dX1_goRound_101 (by decide) ?_
                refine lv_istore (lv' := [(6, .int (nI 0)), (3, .int (nI (i + 1))), (0, .ref h), (1, .int (nI c9)), (2, .int (nI (ρ 0))), (4, .int (nI a9)), (5, .int (nI mo))]) hx hb dX1_goRound_102 hl (by decide) rfl (fun ls hl => ?_)
                refine lv_iconst (v := nI 0) hx hb dX1_goRound_104 (by decide) ?_
                refine lv_istore (lv' := [(7, .int (nI 0)), (6, .int (nI 0)), (3, .int (nI (i + 1))), (0, .ref h), (1, .int (nI c9)), (2, .int (nI (ρ 0))), (4, .int (nI a9)), (5, .int (nI mo))]) hx hb dX1_goRound_105 hl (by decide) rfl (fun ls hl => ?_)
                have lk : ∀ (k_lk : Nat) (k : Nat) (v : Nat), (k ≤ c9) → (c9 + 1 ≤ k + k_lk) → (v < c9) → (v = ρ (oh_nx M9 i) ∨ (k ≤ ρ (oh_nx M9 i) ∧ v ≠ a9 ∧ ρ (oh_nx M9 i) ≠ a9)) → ∀ (H : Heap) (locs : List Loc), va_P (dC, dI) vwCl [(h, .inr (1, [.int (nI N), .int (nI n), .int pts, .ref b1, .ref b2, .ref b3, .ref b4, .ref b5])), (b1, .inl (cI, 66, .inl xs)), (b2, .inl (cI, 66, .inl ys)), (b3, .inl (cI, 66, .inl px)), (b4, .inl (cI, 66, .inl py)), (b5, .inl (cI, 67, .inl (upd rd9 i (nI a9))))] H → va_D A [(h, .inr (1, [.int (nI N), .int (nI n), .int pts, .ref b1, .ref b2, .ref b3, .ref b4, .ref b5])), (b1, .inl (cI, 66, .inl xs)), (b2, .inl (cI, 66, .inl ys)), (b3, .inl (cI, 66, .inl px)), (b4, .inl (cI, 66, .inl py)), (b5, .inl (cI, 67, .inl (upd rd9 i (nI a9))))] → va_S A s.heap H locs → ∀ (ls : Array Slot), lv_has ls 8 [(0, .ref h), (1, .int (nI c9)), (2, .int (nI (ρ 0))), (3, .int (nI (i + 1))), (4, .int (nI a9)), (5, .int (nI mo)), (6, .int (nI v)), (7, .int (nI k))] → W p l e (headSpec wsX1_goRound ({ frames := 2, cells := 0, slots := 0, locals := 64 })).room s m ([.ref h, .int (nI c9)] : List Value).toArray below meth c H locs 0 0 (MQ below (va_Qi (S := (Nat → Int32) × (Nat → Int32) × (Nat → Int32) × (Nat → Int32) × (Nat → Int32) × Nat × Int32) (fun r u => r = nI M9 ∧ ∃ rd9, u = (xs, ys, px, py, rd9, n, pts) ∧ ∀ t, t < M9 → rd9 t = nI (ρ t)) (fun u t => va_P (dC, dI) vwCl [(h, .inr (1, [.int (nI N), .int (nI u.2.2.2.2.2.1), .int u.2.2.2.2.2.2, .ref b1, .ref b2, .ref b3, .ref b4, .ref b5])), (b1, .inl (cI, 66, .inl u.1)), (b2, .inl (cI, 66, .inl u.2.1)), (b3, .inl (cI, 66, .inl u.2.2.1)), (b4, .inl (cI, 66, .inl u.2.2.2.1)), (b5, .inl (cI, 67, .inl u.2.2.2.2.1))] t.heap ∧ va_K (dC, dI) vwCl [(cI, .int)] t ∧ va_D A [(h, .inr (1, [.int (nI N), .int (nI u.2.2.2.2.2.1), .int u.2.2.2.2.2.2, .ref b1, .ref b2, .ref b3, .ref b4, .ref b5])), (b1, .inl (cI, 66, .inl u.1)), (b2, .inl (cI, 66, .inl u.2.1)), (b3, .inl (cI, 66, .inl u.2.2.1)), (b4, .inl (cI, 66, .inl u.2.2.2.1)), (b5, .inl (cI, 67, .inl u.2.2.2.2.1))]) A) ([.ref h, .int (nI c9)] : List Value).toArray s 0 0 A) (F0 m 107 ls []) := by
                  clear hP hD hS
                  clear hl
                  intro k_lk
                  induction k_lk with
                  | zero =>
                    intro k v hk9 hk8 hv hV
                    exfalso; omega
                  | succ k_lk ih_lk =>
                    intro k v hk9 hk8 hv hV H locs hP hD hS ls hl
                    refine lv_iload hx hb dX1_goRound_107 (lv_at hl 7 rfl) ?_
                    refine lv_iload_n hx hb dX1_goRound_109 rfl (lv_at hl 1 rfl) ?_
                    refine lv_icmp_ge (tgt := 148) hx hb dX1_goRound_110 (by decide) (fun c_110 => ?_) (fun c_110 => ?_)
                    · have g_110 : c9 ≤ k := (nI_leI (a := c9) (b := k) (by omega) (by omega)).mp c_110
                      have ht9 : v = ρ (oh_nx M9 i) := by omega
                      refine lv_iload hx hb dX1_goRound_148 (lv_at hl 6 rfl) ?_
                      refine lv_istore (lv' := [(4, .int (nI v)), (0, .ref h), (1, .int (nI c9)), (2, .int (nI (ρ 0))), (3, .int (nI (i + 1))), (5, .int (nI mo)), (6, .int (nI v)), (7, .int (nI k))]) hx hb dX1_goRound_150 hl (by decide) rfl (fun ls hl => ?_)
                      refine lv_iload hx hb dX1_goRound_152 (lv_at hl 0 rfl) ?_
                      refine lv_iload_n hx hb dX1_goRound_154 rfl (lv_at hl 3 rfl) ?_
                      refine lv_icmp_eq (tgt := 167) hx hb dX1_goRound_155 (by decide) (fun c_155 => ?_) (fun c_155 => ?_)
                      · have g_155 : v = (ρ 0) := (nI_eq (a := v) (b := (ρ 0)) (by omega) (by omega)).mp c_155
                        refine lv_iconst (v := nI 0) hx hb dX1_goRound_167 (by decide) ?_
                        refine lv_istore (lv' := [(5, .int (nI 0)), (4, .int (nI v)), (0, .ref h), (1, .int (nI c9)), (2, .int (nI (ρ 0))), (3, .int (nI (i + 1))), (6, .int (nI v)), (7, .int (nI k))]) hx hb dX1_goRound_168 hl (by decide) rfl (fun ls hl => ?_)
                        refine lv_goto (tgt := 74) hx hb dX1_goRound_170 (by decide) ?_
                        exact ih_lw (i + 1) v 0 (upd rd9 i (nI a9)) (by omega) (by omega) (by rcases hnc with ⟨q1, q2, q3⟩ | ⟨q1, q2⟩ <;> rw [q2] at ht9 <;> omega) (oh_rdU hT ha) _ _ hP hD hS ls (lv_sub hl [2, 3, 4, 5, 1, 0] rfl)
                      · have g_155 : v ≠ (ρ 0) := fun q => c_155 ((nI_eq (a := v) (b := (ρ 0)) (by omega) (by omega)).mpr q)
                        refine lv_iload_n hx hb dX1_goRound_158 rfl (lv_at hl 4 rfl) ?_
                        refine lv_iload_n hx hb dX1_goRound_159 rfl (lv_at hl 2 rfl) ?_
                        refine lv_icmp_gt (tgt := 167) hx hb dX1_goRound_160 (by decide) (fun c_160 => ?_) (fun c_160 => ?_)
                        · have g_160 : c9 < (i + 1) := (nI_ltI (a := c9) (b := (i + 1)) (by omega) (by omega)).mp c_160
                          refine lv_iconst (v := nI 0) hx hb dX1_goRound_167 (by decide) ?_
                          refine lv_istore (lv' := [(5, .int (nI 0)), (4, .int (nI v)), (0, .ref h), (1, .int (nI c9)), (2, .int (nI (ρ 0))), (3, .int (nI (i + 1))), (6, .int (nI v)), (7, .int (nI k))]) hx hb dX1_goRound_168 hl (by decide) rfl (fun ls hl => ?_)
                          refine lv_goto (tgt := 74) hx hb dX1_goRound_170 (by decide) ?_
                          exact ih_lw (i + 1) v 0 (upd rd9 i (nI a9)) (by omega) (by omega) (by rcases hnc with ⟨q1, q2, q3⟩ | ⟨q1, q2⟩ <;> rw [q2] at ht9 <;> omega) (oh_rdU hT ha) _ _ hP hD hS ls (lv_sub hl [2, 3, 4, 5, 1, 0] rfl)
                        · have g_160 : ¬ c9 < (i + 1) := fun q => c_160 ((nI_ltI (a := c9) (b := (i + 1)) (by omega) (by omega)).mpr q)
                          refine lv_iconst (v := nI 1) hx hb dX1_goRound_163 (by decide) ?_
                          refine lv_goto (tgt := 168) hx hb dX1_goRound_164 (by decide) ?_
                          refine lv_istore (lv' := [(5, .int (nI 1)), (4, .int (nI v)), (0, .ref h), (1, .int (nI c9)), (2, .int (nI (ρ 0))), (3, .int (nI (i + 1))), (6, .int (nI v)), (7, .int (nI k))]) hx hb dX1_goRound_168 hl (by decide) rfl (fun ls hl => ?_)
                          refine lv_goto (tgt := 74) hx hb dX1_goRound_170 (by decide) ?_
                          exact ih_lw (i + 1) v 1 (upd rd9 i (nI a9)) (by omega) (by omega) (by rcases hnc with ⟨q1, q2, q3⟩ | ⟨q1, q2⟩ <;> rw [q2] at ht9 <;> omega) (oh_rdU hT ha) _ _ hP hD hS ls (lv_sub hl [2, 3, 4, 5, 1, 0] rfl)
                    · have g_110 : ¬ c9 ≤ k := fun q => c_110 ((nI_leI (a := c9) (b := k) (by omega) (by omega)).mpr q)
                      refine lv_iload hx hb dX1_goRound_113 (lv_at hl 7 rfl) ?_
                      refine lv_iload hx hb dX1_goRound_115 (lv_at hl 4 rfl) ?_
                      refine lv_icmp_eq (tgt := 138) hx hb dX1_goRound_117 (by decide) (fun c_117 => ?_) (fun c_117 => ?_)
                      · have g_117 : k = a9 := (nI_eq (a := k) (b := a9) (by omega) (by omega)).mp c_117
                        refine lv_iload hx hb dX1_goRound_138 (lv_at hl 6 rfl) ?_
                        refine lv_istore (lv' := [(6, .int (nI v)), (0, .ref h), (1, .int (nI c9)), (2, .int (nI (ρ 0))), (3, .int (nI (i + 1))), (4, .int (nI a9)), (5, .int (nI mo)), (7, .int (nI k))]) hx hb dX1_goRound_140 hl (by decide) rfl (fun ls hl => ?_)
                        refine lv_iinc (v := nI (k + 1)) (lv' := [(7, .int (nI (k + 1))), (6, .int (nI v)), (0, .ref h), (1, .int (nI c9)), (2, .int (nI (ρ 0))), (3, .int (nI (i + 1))), (4, .int (nI a9)), (5, .int (nI mo))]) hx hb dX1_goRound_142 hl (k := 7) rfl (nI_1 k) (by decide) rfl (fun ls hl => ?_)
                        refine lv_goto (tgt := 107) hx hb dX1_goRound_145 (by decide) ?_
                        exact ih_lk (k + 1) v (by omega) (by omega) (by omega) (by first | omega | (by_cases e0 : v = ρ (oh_nx M9 i); exact Or.inl e0; rcases hV with e | ⟨e1, e2, e3⟩; exact absurd e e0; by_cases e : k = ρ (oh_nx M9 i); exact absurd (by rw [e, ha]; exact oh_nx2 hw hm1 hv (by omega) e0) b_127; exact Or.inr ⟨by omega, e2, e3⟩)) _ _ hP hD hS ls (lv_sub hl [2, 3, 4, 5, 6, 7, 1, 0] rfl)
                      · have g_117 : k ≠ a9 := fun q => c_117 ((nI_eq (a := k) (b := a9) (by omega) (by omega)).mpr q)
                        refine lv_aload_n hx hb dX1_goRound_120 rfl (lv_at hl 0 rfl) ?_
                        refine lv_iload hx hb dX1_goRound_121 (lv_at hl 4 rfl) ?_
                        refine lv_iload hx hb dX1_goRound_123 (lv_at hl 6 rfl) ?_
                        refine lv_iload hx hb dX1_goRound_125 (lv_at hl 7 rfl) ?_
                        refine vp_callSi (va_Run.run (va_runV (As := [.int (nI a9), .int (nI v), .int (nI k)]) (rest := []) ⟨hx, hb, hml, hown, hts⟩ (k_X1_isNext l dC dI cI h b1 b2 b3 b4 b5 N n pts xs ys px py (upd rd9 i (nI a9)) c9 a9 v k (by omega) (by omega) hv (by omega) hRp) (cwV 3 hts gX1_goRound_X1_isNext rfl rfl rfl (by decide +kernel) ⟨Nat.le_of_ble_eq_true rfl, Nat.le_of_ble_eq_true rfl⟩) (oh_pre (ci := 1) (q0 := 0) hK hP rfl rfl) rfl rfl hl.1 rfl (lv_room (Nat.le_of_ble_eq_true rfl)) dX1_goRound_127 ⟨Nat.zero_le _, Nat.zero_le _⟩)) (fun r_127 hr_127 => ?_)
                        rcases hr_127 with ⟨b_127, hr_127⟩ | ⟨b_127, hr_127⟩ <;> subst hr_127
                        · refine lv_if_eq (tgt := 138) hx hb dX1_goRound_130 (by decide) (fun q => absurd q (by decide)) (fun _ => ?_)
                          refine lv_iload hx hb dX1_goRound_133 (lv_at hl 7 rfl) ?_
                          refine lv_goto (tgt := 140) hx hb dX1_goRound_135 (by decide) ?_
                          refine lv_istore (lv' := [(6, .int (nI k)), (0, .ref h), (1, .int (nI c9)), (2, .int (nI (ρ 0))), (3, .int (nI (i + 1))), (4, .int (nI a9)), (5, .int (nI mo)), (7, .int (nI k))]) hx hb dX1_goRound_140 hl (by decide) rfl (fun ls hl => ?_)
                          refine lv_iinc (v := nI (k + 1)) (lv' := [(7, .int (nI (k + 1))), (6, .int (nI k)), (0, .ref h), (1, .int (nI c9)), (2, .int (nI (ρ 0))), (3, .int (nI (i + 1))), (4, .int (nI a9)), (5, .int (nI mo))]) hx hb dX1_goRound_142 hl (k := 7) rfl (nI_1 k) (by decide) rfl (fun ls hl => ?_)
                          refine lv_goto (tgt := 107) hx hb dX1_goRound_145 (by decide) ?_
                          exact ih_lk (k + 1) k (by omega) (by omega) (by omega) (by rcases hV with e | ⟨e1, e2, e3⟩; exact absurd (by rw [ha, e] at b_127; exact b_127) (oh_nx1 hw hm1 (by omega) (by omega)); omega) _ _ hP hD hS ls (lv_sub hl [2, 3, 4, 5, 6, 7, 1, 0] rfl)
                        · refine lv_if_eq (tgt := 138) hx hb dX1_goRound_130 (by decide) (fun _ => ?_) (fun q => absurd q (by decide))
                          refine lv_iload hx hb dX1_goRound_138 (lv_at hl 6 rfl) ?_
                          refine lv_istore (lv' := [(6, .int (nI v)), (0, .ref h), (1, .int (nI c9)), (2, .int (nI (ρ 0))), (3, .int (nI (i + 1))), (4, .int (nI a9)), (5, .int (nI mo)), (7, .int (nI k))]) hx hb dX1_goRound_140 hl (by decide) rfl (fun ls hl => ?_)
                          refine lv_iinc (v := nI (k + 1)) (lv' := [(7, .int (nI (k + 1))), (6, .int (nI v)), (0, .ref h), (1, .int (nI c9)), (2, .int (nI (ρ 0))), (3, .int (nI (i + 1))), (4, .int (nI a9)), (5, .int (nI mo))]) hx hb dX1_goRound_142 hl (k := 7) rfl (nI_1 k) (by decide) rfl (fun ls hl => ?_)
                          refine lv_goto (tgt := 107) hx hb dX1_goRound_145 (by decide) ?_
                          exact ih_lk (k + 1) v (by omega) (by omega) (by omega) (by first | omega | (by_cases e0 : v = ρ (oh_nx M9 i); exact Or.inl e0; rcases hV with e | ⟨e1, e2, e3⟩; exact absurd e e0; by_cases e : k = ρ (oh_nx M9 i); exact absurd (by rw [e, ha]; exact oh_nx2 hw hm1 hv (by omega) e0) b_127; exact Or.inr ⟨by omega, e2, e3⟩)) _ _ hP hD hS ls (lv_sub hl [2, 3, 4, 5, 6, 7, 1, 0] rfl)
                exact lk (c9 + 1) 0 0 (by omega) (by omega) (by omega) (by omega) _ _ hP hD hS ls (lv_sub hl [3, 4, 5, 2, 6, 7, 1, 0] rfl)
              · have g_92 : a9 = 0 := (nI_eq (a := a9) (b := 0) (by omega) (by omega)).mp (c_92.trans nI_0.symm)
                refine lv_iload_n hx hb dX1_goRound_95 rfl (lv_at hl 2 rfl) ?_
                refine lv_iconst (v := nI 1) hx hb dX1_goRound_96 (by decide) ?_
                refine lv_isub hx hb dX1_goRound_97 ?_
                rw [pk_sub (a := c9) (b := 1) (by omega)]
                refine lv_goto (tgt := 102) hx hb dX1_goRound_98 (by decide) ?_
                refine lv_istore (lv' := [(6, .int (nI (c9 - 1))), (3, .int (nI (i + 1))), (0, .ref h), (1, .int (nI c9)), (2, .int (nI (ρ 0))), (4, .int (nI a9)), (5, .int (nI mo))]) hx hb dX1_goRound_102 hl (by decide) rfl (fun ls hl => ?_)
                refine lv_iconst (v := nI 0) hx hb dX1_goRound_104 (by decide) ?_
                refine lv_istore (lv' := [(7, .int (nI 0)), (6, .int (nI (c9 - 1))), (3, .int (nI (i + 1))), (0, .ref h), (1, .int (nI c9)), (2, .int (nI (ρ 0))), (4, .int (nI a9)), (5, .int (nI mo))]) hx hb dX1_goRound_105 hl (by decide) rfl (fun ls hl => ?_)
                have lk : ∀ (k_lk : Nat) (k : Nat) (v : Nat), (k ≤ c9) → (c9 + 1 ≤ k + k_lk) → (v < c9) → (v = ρ (oh_nx M9 i) ∨ (k ≤ ρ (oh_nx M9 i) ∧ v ≠ a9 ∧ ρ (oh_nx M9 i) ≠ a9)) → ∀ (H : Heap) (locs : List Loc), va_P (dC, dI) vwCl [(h, .inr (1, [.int (nI N), .int (nI n), .int pts, .ref b1, .ref b2, .ref b3, .ref b4, .ref b5])), (b1, .inl (cI, 66, .inl xs)), (b2, .inl (cI, 66, .inl ys)), (b3, .inl (cI, 66, .inl px)), (b4, .inl (cI, 66, .inl py)), (b5, .inl (cI, 67, .inl (upd rd9 i (nI a9))))] H → va_D A [(h, .inr (1, [.int (nI N), .int (nI n), .int pts, .ref b1, .ref b2, .ref b3, .ref b4, .ref b5])), (b1, .inl (cI, 66, .inl xs)), (b2, .inl (cI, 66, .inl ys)), (b3, .inl (cI, 66, .inl px)), (b4, .inl (cI, 66, .inl py)), (b5, .inl (cI, 67, .inl (upd rd9 i (nI a9))))] → va_S A s.heap H locs → ∀ (ls : Array Slot), lv_has ls 8 [(0, .ref h), (1, .int (nI c9)), (2, .int (nI (ρ 0))), (3, .int (nI (i + 1))), (4, .int (nI a9)), (5, .int (nI mo)), (6, .int (nI v)), (7, .int (nI k))] → W p l e (headSpec wsX1_goRound ({ frames := 2, cells := 0, slots := 0, locals := 64 })).room s m ([.ref h, .int (nI c9)] : List Value).toArray below meth c H locs 0 0 (MQ below (va_Qi (S := (Nat → Int32) × (Nat → Int32) × (Nat → Int32) × (Nat → Int32) × (Nat → Int32) × Nat × Int32) (fun r u => r = nI M9 ∧ ∃ rd9, u = (xs, ys, px, py, rd9, n, pts) ∧ ∀ t, t < M9 → rd9 t = nI (ρ t)) (fun u t => va_P (dC, dI) vwCl [(h, .inr (1, [.int (nI N), .int (nI u.2.2.2.2.2.1), .int u.2.2.2.2.2.2, .ref b1, .ref b2, .ref b3, .ref b4, .ref b5])), (b1, .inl (cI, 66, .inl u.1)), (b2, .inl (cI, 66, .inl u.2.1)), (b3, .inl (cI, 66, .inl u.2.2.1)), (b4, .inl (cI, 66, .inl u.2.2.2.1)), (b5, .inl (cI, 67, .inl u.2.2.2.2.1))] t.heap ∧ va_K (dC, dI) vwCl [(cI, .int)] t ∧ va_D A [(h, .inr (1, [.int (nI N), .int (nI u.2.2.2.2.2.1), .int u.2.2.2.2.2.2, .ref b1, .ref b2, .ref b3, .ref b4, .ref b5])), (b1, .inl (cI, 66, .inl u.1)), (b2, .inl (cI, 66, .inl u.2.1)), (b3, .inl (cI, 66, .inl u.2.2.1)), (b4, .inl (cI, 66, .inl u.2.2.2.1)), (b5, .inl (cI, 67, .inl u.2.2.2.2.1))]) A) ([.ref h, .int (nI c9)] : List Value).toArray s 0 0 A) (F0 m 107 ls []) := by
                  clear hP hD hS
                  clear hl
                  intro k_lk
                  induction k_lk with
                  | zero =>
                    intro k v hk9 hk8 hv hV
                    exfalso; omega
                  | succ k_lk ih_lk =>
                    intro k v hk9 hk8 hv hV H locs hP hD hS ls hl
                    refine lv_iload hx hb dX1_goRound_107 (lv_at hl 7 rfl) ?_
                    refine lv_iload_n hx hb dX1_goRound_109 rfl (lv_at hl 1 rfl) ?_
                    refine lv_icmp_ge (tgt := 148) hx hb dX1_goRound_110 (by decide) (fun c_110 => ?_) (fun c_110 => ?_)
                    · have g_110 : c9 ≤ k := (nI_leI (a := c9) (b := k) (by omega) (by omega)).mp c_110
                      have ht9 : v = ρ (oh_nx M9 i) := by omega
                      refine lv_iload hx hb dX1_goRound_148 (lv_at hl 6 rfl) ?_
                      refine lv_istore (lv' := [(4, .int (nI v)), (0, .ref h), (1, .int (nI c9)), (2, .int (nI (ρ 0))), (3, .int (nI (i + 1))), (5, .int (nI mo)), (6, .int (nI v)), (7, .int (nI k))]) hx hb dX1_goRound_150 hl (by decide) rfl (fun ls hl => ?_)
                      refine lv_iload hx hb dX1_goRound_152 (lv_at hl 0 rfl) ?_
                      refine lv_iload_n hx hb dX1_goRound_154 rfl (lv_at hl 3 rfl) ?_
                      refine lv_icmp_eq (tgt := 167) hx hb dX1_goRound_155 (by decide) (fun c_155 => ?_) (fun c_155 => ?_)
                      · have g_155 : v = (ρ 0) := (nI_eq (a := v) (b := (ρ 0)) (by omega) (by omega)).mp c_155
                        refine lv_iconst (v := nI 0) hx hb dX1_goRound_167 (by decide) ?_
                        refine lv_istore (lv' := [(5, .int (nI 0)), (4, .int (nI v)), (0, .ref h), (1, .int (nI c9)), (2, .int (nI (ρ 0))), (3, .int (nI (i + 1))), (6, .int (nI v)), (7, .int (nI k))]) hx hb dX1_goRound_168 hl (by decide) rfl (fun ls hl => ?_)
                        refine lv_goto (tgt := 74) hx hb dX1_goRound_170 (by decide) ?_
                        exact ih_lw (i + 1) v 0 (upd rd9 i (nI a9)) (by omega) (by omega) (by rcases hnc with ⟨q1, q2, q3⟩ | ⟨q1, q2⟩ <;> rw [q2] at ht9 <;> omega) (oh_rdU hT ha) _ _ hP hD hS ls (lv_sub hl [2, 3, 4, 5, 1, 0] rfl)
                      · have g_155 : v ≠ (ρ 0) := fun q => c_155 ((nI_eq (a := v) (b := (ρ 0)) (by omega) (by omega)).mpr q)
                        refine lv_iload_n hx hb dX1_goRound_158 rfl (lv_at hl 4 rfl) ?_
                        refine lv_iload_n hx hb dX1_goRound_159 rfl (lv_at hl 2 rfl) ?_
                        refine lv_icmp_gt (tgt := 167) hx hb dX1_goRound_160 (by decide) (fun c_160 => ?_) (fun c_160 => ?_)
                        · have g_160 : c9 < (i + 1) := (nI_ltI (a := c9) (b := (i + 1)) (by omega) (by omega)).mp c_160
                          refine lv_iconst (v := nI 0) hx hb dX1_goRound_167 (by decide) ?_
                          refine lv_istore (lv' := [(5, .int (nI 0)), (4, .int (nI v)), (0, .ref h), (1, .int (nI c9)), (2, .int (nI (ρ 0))), (3, .int (nI (i + 1))), (6, .int (nI v)), (7, .int (nI k))]) hx hb dX1_goRound_168 hl (by decide) rfl (fun ls hl => ?_)
                          refine lv_goto (tgt := 74) hx hb dX1_goRound_170 (by decide) ?_
                          exact ih_lw (i + 1) v 0 (upd rd9 i (nI a9)) (by omega) (by omega) (by rcases hnc with ⟨q1, q2, q3⟩ | ⟨q1, q2⟩ <;> rw [q2] at ht9 <;> omega) (oh_rdU hT ha) _ _ hP hD hS ls (lv_sub hl [2, 3, 4, 5, 1, 0] rfl)
                        · have g_160 : ¬ c9 < (i + 1) := fun q => c_160 ((nI_ltI (a := c9) (b := (i + 1)) (by omega) (by omega)).mpr q)
                          refine lv_iconst (v := nI 1) hx hb dX1_goRound_163 (by decide) ?_
                          refine lv_goto (tgt := 168) hx hb dX1_goRound_164 (by decide) ?_
                          refine lv_istore (lv' := [(5, .int (nI 1)), (4, .int (nI v)), (0, .ref h), (1, .int (nI c9)), (2, .int (nI (ρ 0))), (3, .int (nI (i + 1))), (6, .int (nI v)), (7, .int (nI k))]) hx hb dX1_goRound_168 hl (by decide) rfl (fun ls hl => ?_)
                          refine lv_goto (tgt := 74) hx hb dX1_goRound_170 (by decide) ?_
                          exact ih_lw (i + 1) v 1 (upd rd9 i (nI a9)) (by omega) (by omega) (by rcases hnc with ⟨q1, q2, q3⟩ | ⟨q1, q2⟩ <;> rw [q2] at ht9 <;> omega) (oh_rdU hT ha) _ _ hP hD hS ls (lv_sub hl [2, 3, 4, 5, 1, 0] rfl)
                    · have g_110 : ¬ c9 ≤ k := fun q => c_110 ((nI_leI (a := c9) (b := k) (by omega) (by omega)).mpr q)
                      refine lv_iload hx hb dX1_goRound_113 (lv_at hl 7 rfl) ?_
                      refine lv_iload hx hb dX1_goRound_115 (lv_at hl 4 rfl) ?_
                      refine lv_icmp_eq (tgt := 138) hx hb dX1_goRound_117 (by decide) (fun c_117 => ?_) (fun c_117 => ?_)
                      · have g_117 : k = a9 := (nI_eq (a := k) (b := a9) (by omega) (by omega)).mp c_117
                        refine lv_iload hx hb dX1_goRound_138 (lv_at hl 6 rfl) ?_
                        refine lv_istore (lv' := [(6, .int (nI v)), (0, .ref h), (1, .int (nI c9)), (2, .int (nI (ρ 0))), (3, .int (nI (i + 1))), (4, .int (nI a9)), (5, .int (nI mo)), (7, .int (nI k))]) hx hb dX1_goRound_140 hl (by decide) rfl (fun ls hl => ?_)
                        refine lv_iinc (v := nI (k + 1)) (lv' := [(7, .int (nI (k + 1))), (6, .int (nI v)), (0, .ref h), (1, .int (nI c9)), (2, .int (nI (ρ 0))), (3, .int (nI (i + 1))), (4, .int (nI a9)), (5, .int (nI mo))]) hx hb dX1_goRound_142 hl (k := 7) rfl (nI_1 k) (by decide) rfl (fun ls hl => ?_)
                        refine lv_goto (tgt := 107) hx hb dX1_goRound_145 (by decide) ?_
                        exact ih_lk (k + 1) v (by omega) (by omega) (by omega) (by first | omega | (by_cases e0 : v = ρ (oh_nx M9 i); exact Or.inl e0; rcases hV with e | ⟨e1, e2, e3⟩; exact absurd e e0; by_cases e : k = ρ (oh_nx M9 i); exact absurd (by rw [e, ha]; exact oh_nx2 hw hm1 hv (by omega) e0) b_127; exact Or.inr ⟨by omega, e2, e3⟩)) _ _ hP hD hS ls (lv_sub hl [2, 3, 4, 5, 6, 7, 1, 0] rfl)
                      · have g_117 : k ≠ a9 := fun q => c_117 ((nI_eq (a := k) (b := a9) (by omega) (by omega)).mpr q)
                        refine lv_aload_n hx hb dX1_goRound_120 rfl (lv_at hl 0 rfl) ?_
                        refine lv_iload hx hb dX1_goRound_121 (lv_at hl 4 rfl) ?_
                        refine lv_iload hx hb dX1_goRound_123 (lv_at hl 6 rfl) ?_
                        refine lv_iload hx hb dX1_goRound_125 (lv_at hl 7 rfl) ?_
                        refine vp_callSi (va_Run.run (va_runV (As := [.int (nI a9), .int (nI v), .int (nI k)]) (rest := []) ⟨hx, hb, hml, hown, hts⟩ (k_X1_isNext l dC dI cI h b1 b2 b3 b4 b5 N n pts xs ys px py (upd rd9 i (nI a9)) c9 a9 v k (by omega) (by omega) hv (by omega) hRp) (cwV 3 hts gX1_goRound_X1_isNext rfl rfl rfl (by decide +kernel) ⟨Nat.le_of_ble_eq_true rfl, Nat.le_of_ble_eq_true rfl⟩) (oh_pre (ci := 1) (q0 := 0) hK hP rfl rfl) rfl rfl hl.1 rfl (lv_room (Nat.le_of_ble_eq_true rfl)) dX1_goRound_127 ⟨Nat.zero_le _, Nat.zero_le _⟩)) (fun r_127 hr_127 => ?_)
                        rcases hr_127 with ⟨b_127, hr_127⟩ | ⟨b_127, hr_127⟩ <;> subst hr_127
                        · refine lv_if_eq (tgt := 138) hx hb dX1_goRound_130 (by decide) (fun q => absurd q (by decide)) (fun _ => ?_)
                          refine lv_iload hx hb dX1_goRound_133 (lv_at hl 7 rfl) ?_
                          refine lv_goto (tgt := 140) hx hb dX1_goRound_135 (by decide) ?_
                          refine lv_istore (lv' := [(6, .int (nI k)), (0, .ref h), (1, .int (nI c9)), (2, .int (nI (ρ 0))), (3, .int (nI (i + 1))), (4, .int (nI a9)), (5, .int (nI mo)), (7, .int (nI k))]) hx hb dX1_goRound_140 hl (by decide) rfl (fun ls hl => ?_)
                          refine lv_iinc (v := nI (k + 1)) (lv' := [(7, .int (nI (k + 1))), (6, .int (nI k)), (0, .ref h), (1, .int (nI c9)), (2, .int (nI (ρ 0))), (3, .int (nI (i + 1))), (4, .int (nI a9)), (5, .int (nI mo))]) hx hb dX1_goRound_142 hl (k := 7) rfl (nI_1 k) (by decide) rfl (fun ls hl => ?_)
                          refine lv_goto (tgt := 107) hx hb dX1_goRound_145 (by decide) ?_
                          exact ih_lk (k + 1) k (by omega) (by omega) (by omega) (by rcases hV with e | ⟨e1, e2, e3⟩; exact absurd (by rw [ha, e] at b_127; exact b_127) (oh_nx1 hw hm1 (by omega) (by omega)); omega) _ _ hP hD hS ls (lv_sub hl [2, 3, 4, 5, 6, 7, 1, 0] rfl)
                        · refine lv_if_eq (tgt := 138) hx hb dX1_goRound_130 (by decide) (fun _ => ?_) (fun q => absurd q (by decide))
                          refine lv_iload hx hb dX1_goRound_138 (lv_at hl 6 rfl) ?_
                          refine lv_istore (lv' := [(6, .int (nI v)), (0, .ref h), (1, .int (nI c9)), (2, .int (nI (ρ 0))), (3, .int (nI (i + 1))), (4, .int (nI a9)), (5, .int (nI mo)), (7, .int (nI k))]) hx hb dX1_goRound_140 hl (by decide) rfl (fun ls hl => ?_)
                          refine lv_iinc (v := nI (k + 1)) (lv' := [(7, .int (nI (k + 1))), (6, .int (nI v)), (0, .ref h), (1, .int (nI c9)), (2, .int (nI (ρ 0))), (3, .int (nI (i + 1))), (4, .int (nI a9)), (5, .int (nI mo))]) hx hb dX1_goRound_142 hl (k := 7) rfl (nI_1 k) (by decide) rfl (fun ls hl => ?_)
                          refine lv_goto (tgt := 107) hx hb dX1_goRound_145 (by decide) ?_
                          exact ih_lk (k + 1) v (by omega) (by omega) (by omega) (by first | omega | (by_cases e0 : v = ρ (oh_nx M9 i); exact Or.inl e0; rcases hV with e | ⟨e1, e2, e3⟩; exact absurd e e0; by_cases e : k = ρ (oh_nx M9 i); exact absurd (by rw [e, ha]; exact oh_nx2 hw hm1 hv (by omega) e0) b_127; exact Or.inr ⟨by omega, e2, e3⟩)) _ _ hP hD hS ls (lv_sub hl [2, 3, 4, 5, 6, 7, 1, 0] rfl)
                exact lk (c9 + 1) 0 ((c9 - 1)) (by omega) (by omega) (by omega) (by omega) _ _ hP hD hS ls (lv_sub hl [3, 4, 5, 2, 6, 7, 1, 0] rfl)
        exact lw (M9 + 1) 0 (ρ 0) 1 rd (by omega) (by omega) (Or.inl ⟨rfl, by omega, rfl⟩) (fun t ht => by omega) _ _ hP hD hS ls (lv_sub hl [3, 4, 5, 2, 1, 0] rfl)
      · have g_6 : ¬ c9 ≤ i := fun q => c_6 ((nI_leI (a := c9) (b := i) (by omega) (by omega)).mpr q)
        refine lv_aload_n hx hb dX1_goRound_9 rfl (lv_at hl 0 rfl) ?_
        refine va_get (D := (dC, dI)) (ci := 1) (v := .ref b3) (C := RX1) (T := TX1) (N := 8) hx hb hts hin0 hown hK hP 0 rfl rfl 5 (by decide) (hts (.fieldLink RX1 16 "OnlineHullModel" "px" "[I") (by decide +kernel)) (fun _ h9 => h9) rfl dX1_goRound_10 ?_
        refine lv_iload_n hx hb dX1_goRound_13 rfl (lv_at hl 3 rfl) ?_
        refine oh_ald hx hb hK hP 3 0 rfl rfl (k := i) (by omega) (by omega) dX1_goRound_14 ?_
        refine lv_aload_n hx hb dX1_goRound_15 rfl (lv_at hl 0 rfl) ?_
        refine va_get (D := (dC, dI)) (ci := 1) (v := .ref b3) (C := RX1) (T := TX1) (N := 8) hx hb hts hin0 hown hK hP 0 rfl rfl 5 (by decide) (hts (.fieldLink RX1 16 "OnlineHullModel" "px" "[I") (by decide +kernel)) (fun _ h9 => h9) rfl dX1_goRound_16 ?_
        refine lv_iload_n hx hb dX1_goRound_19 rfl (lv_at hl 2 rfl) ?_
        refine oh_ald hx hb hK hP 3 0 rfl rfl (k := b) (by omega) (by omega) dX1_goRound_20 ?_
        refine lv_icmp_lt (tgt := 54) hx hb dX1_goRound_21 (by decide) (fun c_21 => ?_) (fun c_21 => ?_)
        · have g_21 : (px i).toInt < (px b).toInt := oh_ltI c_21
          refine lv_iload_n hx hb dX1_goRound_54 rfl (lv_at hl 3 rfl) ?_
          refine lv_goto (tgt := 59) hx hb dX1_goRound_55 (by decide) ?_
          refine lv_istore_n (lv' := [(2, .int (nI i)), (0, .ref h), (1, .int (nI c9)), (3, .int (nI i))]) hx hb dX1_goRound_59 rfl hl (by decide) rfl (fun ls hl => ?_)
          refine lv_iinc (v := nI (i + 1)) (lv' := [(3, .int (nI (i + 1))), (2, .int (nI i)), (0, .ref h), (1, .int (nI c9))]) hx hb dX1_goRound_60 hl (k := 3) rfl (nI_1 i) (by decide) rfl (fun ls hl => ?_)
          refine lv_goto (tgt := 4) hx hb dX1_goRound_63 (by decide) ?_
          exact ih_lf (i + 1) i (by omega) (by omega) (by omega) (by omega) (lt_s (fun j hj w => hI j hj (oh_lx_tr w (show oh_lx (oh_pt px py i) (oh_pt px py b) by unfold oh_lx oh_pt; dsimp only; omega))) (fun w => oh_lx_as w w)) _ _ hP hD hS ls (lv_sub hl [2, 3, 1, 0] rfl)
        · have g_21 : (px b).toInt ≤ (px i).toInt := oh_nltI c_21
          refine lv_aload_n hx hb dX1_goRound_24 rfl (lv_at hl 0 rfl) ?_
          refine va_get (D := (dC, dI)) (ci := 1) (v := .ref b3) (C := RX1) (T := TX1) (N := 8) hx hb hts hin0 hown hK hP 0 rfl rfl 5 (by decide) (hts (.fieldLink RX1 16 "OnlineHullModel" "px" "[I") (by decide +kernel)) (fun _ h9 => h9) rfl dX1_goRound_25 ?_
          refine lv_iload_n hx hb dX1_goRound_28 rfl (lv_at hl 3 rfl) ?_
          refine oh_ald hx hb hK hP 3 0 rfl rfl (k := i) (by omega) (by omega) dX1_goRound_29 ?_
          refine lv_aload_n hx hb dX1_goRound_30 rfl (lv_at hl 0 rfl) ?_
          refine va_get (D := (dC, dI)) (ci := 1) (v := .ref b3) (C := RX1) (T := TX1) (N := 8) hx hb hts hin0 hown hK hP 0 rfl rfl 5 (by decide) (hts (.fieldLink RX1 16 "OnlineHullModel" "px" "[I") (by decide +kernel)) (fun _ h9 => h9) rfl dX1_goRound_31 ?_
          refine lv_iload_n hx hb dX1_goRound_34 rfl (lv_at hl 2 rfl) ?_
          refine oh_ald hx hb hK hP 3 0 rfl rfl (k := b) (by omega) (by omega) dX1_goRound_35 ?_
          refine lv_icmp_ne (tgt := 58) hx hb dX1_goRound_36 (by decide) (fun c_36 => ?_) (fun c_36 => ?_)
          · have g_36 : (px i).toInt ≠ (px b).toInt := oh_neI c_36
            refine lv_iload_n hx hb dX1_goRound_58 rfl (lv_at hl 2 rfl) ?_
            refine lv_istore_n (lv' := [(2, .int (nI b)), (0, .ref h), (1, .int (nI c9)), (3, .int (nI i))]) hx hb dX1_goRound_59 rfl hl (by decide) rfl (fun ls hl => ?_)
            refine lv_iinc (v := nI (i + 1)) (lv' := [(3, .int (nI (i + 1))), (2, .int (nI b)), (0, .ref h), (1, .int (nI c9))]) hx hb dX1_goRound_60 hl (k := 3) rfl (nI_1 i) (by decide) rfl (fun ls hl => ?_)
            refine lv_goto (tgt := 4) hx hb dX1_goRound_63 (by decide) ?_
            exact ih_lf (i + 1) b (by omega) (by omega) (by omega) (by omega) (lt_s hI (fun w => by unfold oh_lx oh_pt at w; dsimp only at w; omega)) _ _ hP hD hS ls (lv_sub hl [2, 3, 1, 0] rfl)
          · have g_36 : (px i).toInt = (px b).toInt := oh_eqI c_36
            refine lv_aload_n hx hb dX1_goRound_39 rfl (lv_at hl 0 rfl) ?_
            refine va_get (D := (dC, dI)) (ci := 1) (v := .ref b4) (C := RX1) (T := TX1) (N := 8) hx hb hts hin0 hown hK hP 0 rfl rfl 6 (by decide) (hts (.fieldLink RX1 19 "OnlineHullModel" "py" "[I") (by decide +kernel)) (fun _ h9 => h9) rfl dX1_goRound_40 ?_
            refine lv_iload_n hx hb dX1_goRound_43 rfl (lv_at hl 3 rfl) ?_
            refine oh_ald hx hb hK hP 4 0 rfl rfl (k := i) (by omega) (by omega) dX1_goRound_44 ?_
            refine lv_aload_n hx hb dX1_goRound_45 rfl (lv_at hl 0 rfl) ?_
            refine va_get (D := (dC, dI)) (ci := 1) (v := .ref b4) (C := RX1) (T := TX1) (N := 8) hx hb hts hin0 hown hK hP 0 rfl rfl 6 (by decide) (hts (.fieldLink RX1 19 "OnlineHullModel" "py" "[I") (by decide +kernel)) (fun _ h9 => h9) rfl dX1_goRound_46 ?_
            refine lv_iload_n hx hb dX1_goRound_49 rfl (lv_at hl 2 rfl) ?_
            refine oh_ald hx hb hK hP 4 0 rfl rfl (k := b) (by omega) (by omega) dX1_goRound_50 ?_
            refine lv_icmp_ge (tgt := 58) hx hb dX1_goRound_51 (by decide) (fun c_51 => ?_) (fun c_51 => ?_)
            · have g_51 : (py b).toInt ≤ (py i).toInt := oh_leI c_51
              refine lv_iload_n hx hb dX1_goRound_58 rfl (lv_at hl 2 rfl) ?_
              refine lv_istore_n (lv' := [(2, .int (nI b)), (0, .ref h), (1, .int (nI c9)), (3, .int (nI i))]) hx hb dX1_goRound_59 rfl hl (by decide) rfl (fun ls hl => ?_)
              refine lv_iinc (v := nI (i + 1)) (lv' := [(3, .int (nI (i + 1))), (2, .int (nI b)), (0, .ref h), (1, .int (nI c9))]) hx hb dX1_goRound_60 hl (k := 3) rfl (nI_1 i) (by decide) rfl (fun ls hl => ?_)
              refine lv_goto (tgt := 4) hx hb dX1_goRound_63 (by decide) ?_
              exact ih_lf (i + 1) b (by omega) (by omega) (by omega) (by omega) (lt_s hI (fun w => by unfold oh_lx oh_pt at w; dsimp only at w; omega)) _ _ hP hD hS ls (lv_sub hl [2, 3, 1, 0] rfl)
            · have g_51 : (py i).toInt < (py b).toInt := oh_nleI c_51
              refine lv_iload_n hx hb dX1_goRound_54 rfl (lv_at hl 3 rfl) ?_
              refine lv_goto (tgt := 59) hx hb dX1_goRound_55 (by decide) ?_
              refine lv_istore_n (lv' := [(2, .int (nI i)), (0, .ref h), (1, .int (nI c9)), (3, .int (nI i))]) hx hb dX1_goRound_59 rfl hl (by decide) rfl (fun ls hl => ?_)
              refine lv_iinc (v := nI (i + 1)) (lv' := [(3, .int (nI (i + 1))), (2, .int (nI i)), (0, .ref h), (1, .int (nI c9))]) hx hb dX1_goRound_60 hl (k := 3) rfl (nI_1 i) (by decide) rfl (fun ls hl => ?_)
              refine lv_goto (tgt := 4) hx hb dX1_goRound_63 (by decide) ?_
              exact ih_lf (i + 1) i (by omega) (by omega) (by omega) (by omega) (lt_s (fun j hj w => hI j hj (oh_lx_tr w (show oh_lx (oh_pt px py i) (oh_pt px py b) by unfold oh_lx oh_pt; dsimp only; omega))) (fun w => oh_lx_as w w)) _ _ hP hD hS ls (lv_sub hl [2, 3, 1, 0] rfl)
  exact lf (c9 + 1) 1 0 (by omega) (by omega) (by omega) (by omega) (fun j hj w => by rw [show j = 0 by omega] at w; exact oh_lx_as w w) _ _ hP hD hS ls (lv_sub hl [2, 3, 1, 0] rfl)

set_option maxHeartbeats 4000000 in
set_option maxRecDepth 100000 in
theorem k_X1_add (l : Launch) (dC : Nat → ClassId) (dI : Nat → Nat → Nat) (cI : ClassId) (h b1 b2 b3 b4 b5 N n : Nat) (pts : Int32) (xs ys px py rd : Nat → Int32) (sz : Nat) (x y : Int32) (M9 : Nat) (ρ : Nat → Nat) (hN : N ≤ 64) (hn : n ≤ N) (hR : ∀ j, j < n → oh_inR (xs j) (ys j)) (hh : oh_hull n (oh_pt xs ys)) (hst : ∀ pl, oh_pl3 n (oh_pt xs ys) (x.toInt, y.toInt) pl → pl.toInt = 0 → oh_inR x y → oh_step n (oh_pt xs ys) (x.toInt, y.toInt) M9 ρ) : Met l yX1_add wsX1_add ({ frames := 3, cells := 0, slots := 0, locals := 91 }) (va_Pc [.ref h, .int x, .int y] (fun U => U.heap.size = sz ∧ va_P (dC, dI) vwCl [(h, .inr (1, [.int (nI N), .int (nI n), .int pts, .ref b1, .ref b2, .ref b3, .ref b4, .ref b5])), (b1, .inl (cI, 66, .inl xs)), (b2, .inl (cI, 66, .inl ys)), (b3, .inl (cI, 66, .inl px)), (b4, .inl (cI, 66, .inl py)), (b5, .inl (cI, 67, .inl rd))] U.heap ∧ va_K (dC, dI) vwCl [(cI, .int)] U ∧ va_D (fun _ => True) [(h, .inr (1, [.int (nI N), .int (nI n), .int pts, .ref b1, .ref b2, .ref b3, .ref b4, .ref b5])), (b1, .inl (cI, 66, .inl xs)), (b2, .inl (cI, 66, .inl ys)), (b3, .inl (cI, 66, .inl px)), (b4, .inl (cI, 66, .inl py)), (b5, .inl (cI, 67, .inl rd))])) (va_Qi (S := (Nat → Int32) × (Nat → Int32) × (Nat → Int32) × (Nat → Int32) × (Nat → Int32) × Nat × Int32) (fun r u => oh_addM N n M9 ρ xs ys pts x y r u) (fun u t => va_P (dC, dI) vwCl [(h, .inr (1, [.int (nI N), .int (nI u.2.2.2.2.2.1), .int u.2.2.2.2.2.2, .ref b1, .ref b2, .ref b3, .ref b4, .ref b5])), (b1, .inl (cI, 66, .inl u.1)), (b2, .inl (cI, 66, .inl u.2.1)), (b3, .inl (cI, 66, .inl u.2.2.1)), (b4, .inl (cI, 66, .inl u.2.2.2.1)), (b5, .inl (cI, 67, .inl u.2.2.2.2.1))] t.heap ∧ va_K (dC, dI) vwCl [(cI, .int)] t ∧ va_D (va_A [(h, .inr (1, [.int (nI N), .int (nI n), .int pts, .ref b1, .ref b2, .ref b3, .ref b4, .ref b5])), (b1, .inl (cI, 66, .inl xs)), (b2, .inl (cI, 66, .inl ys)), (b3, .inl (cI, 66, .inl px)), (b4, .inl (cI, 66, .inl py)), (b5, .inl (cI, 67, .inl rd))] sz) [(h, .inr (1, [.int (nI N), .int (nI u.2.2.2.2.2.1), .int u.2.2.2.2.2.2, .ref b1, .ref b2, .ref b3, .ref b4, .ref b5])), (b1, .inl (cI, 66, .inl u.1)), (b2, .inl (cI, 66, .inl u.2.1)), (b3, .inl (cI, 66, .inl u.2.2.1)), (b4, .inl (cI, 66, .inl u.2.2.2.1)), (b5, .inl (cI, 67, .inl u.2.2.2.2.1))]) (va_A [(h, .inr (1, [.int (nI N), .int (nI n), .int pts, .ref b1, .ref b2, .ref b3, .ref b4, .ref b5])), (b1, .inl (cI, 66, .inl xs)), (b2, .inl (cI, 66, .inl ys)), (b3, .inl (cI, 66, .inl px)), (b4, .inl (cI, 66, .inl py)), (b5, .inl (cI, 67, .inl rd))] sz)) 0 0 (va_A [(h, .inr (1, [.int (nI N), .int (nI n), .int pts, .ref b1, .ref b2, .ref b3, .ref b4, .ref b5])), (b1, .inl (cI, 66, .inl xs)), (b2, .inl (cI, 66, .inl ys)), (b3, .inl (cI, 66, .inl px)), (b4, .inl (cI, 66, .inl py)), (b5, .inl (cI, 67, .inl rd))] sz) := by
  refine Met.ofW (cc := cX1_add) (maxL := 6) (ret := (some .int)) (by decide) rfl ?_
  intro p e s m args below meth c s₁ B hml hv
  obtain ⟨rfl, hsz, hP, hK, hD0⟩ := hv
  have hx := B.exec
  have hb := B.bytes
  have hr := B.returns
  have hts := atoms_spec (ws := wsX1_add) B.pre
  have hown : s.vm.findClass RX1 = some m.cls := findClass_of_methodNamed B.named
  have hlocks := B.notSynchronized
  have hin0 : ∀ w ∈ wsX10, w ∈ wsX1_add := fun w h => List.mem_cons_of_mem _ (List.mem_append_right _ h)
  subst hsz
  have hD := hD0.self (sz := s.heap.size)
  generalize hAe : va_A [(h, .inr (1, [.int (nI N), .int (nI n), .int pts, .ref b1, .ref b2, .ref b3, .ref b4, .ref b5])), (b1, .inl (cI, 66, .inl xs)), (b2, .inl (cI, 66, .inl ys)), (b3, .inl (cI, 66, .inl px)), (b4, .inl (cI, 66, .inl py)), (b5, .inl (cI, 67, .inl rd))] s.heap.size = A at hD ⊢
  have hA : ∀ q : Nat, s.heap.size ≤ q → A q := fun q h => by rw [← hAe]; exact Or.inr h
  have hS : va_S A s.heap s.heap [] := va_S.rf
  have hl := lv_entry ([.ref h, .int x, .int y]) (n := 6) (Nat.le_of_ble_eq_true rfl)
  rw [lg_entry_eq]
  generalize (lg_sl ([.ref h, .int x, .int y]) ++ List.replicate (6 - (lg_sl ([.ref h, .int x, .int y])).length) Slot.unset).toArray = ls at hl ⊢
  have hl : lv_has ls 6 [(0, .ref h), (1, .int x), (2, .int y)] := hl
  suffices hgo : ∀ (H : Heap) (locs : List Loc), va_P (dC, dI) vwCl [(h, .inr (1, [.int (nI N), .int (nI n), .int pts, .ref b1, .ref b2, .ref b3, .ref b4, .ref b5])), (b1, .inl (cI, 66, .inl xs)), (b2, .inl (cI, 66, .inl ys)), (b3, .inl (cI, 66, .inl px)), (b4, .inl (cI, 66, .inl py)), (b5, .inl (cI, 67, .inl rd))] H → va_D A [(h, .inr (1, [.int (nI N), .int (nI n), .int pts, .ref b1, .ref b2, .ref b3, .ref b4, .ref b5])), (b1, .inl (cI, 66, .inl xs)), (b2, .inl (cI, 66, .inl ys)), (b3, .inl (cI, 66, .inl px)), (b4, .inl (cI, 66, .inl py)), (b5, .inl (cI, 67, .inl rd))] → va_S A s.heap H locs → W p l e (headSpec wsX1_add ({ frames := 3, cells := 0, slots := 0, locals := 91 })).room s m ([.ref h, .int x, .int y] : List Value).toArray below meth c H locs 0 0 (MQ below (va_Qi (S := (Nat → Int32) × (Nat → Int32) × (Nat → Int32) × (Nat → Int32) × (Nat → Int32) × Nat × Int32) (fun r u => oh_addM N n M9 ρ xs ys pts x y r u) (fun u t => va_P (dC, dI) vwCl [(h, .inr (1, [.int (nI N), .int (nI u.2.2.2.2.2.1), .int u.2.2.2.2.2.2, .ref b1, .ref b2, .ref b3, .ref b4, .ref b5])), (b1, .inl (cI, 66, .inl u.1)), (b2, .inl (cI, 66, .inl u.2.1)), (b3, .inl (cI, 66, .inl u.2.2.1)), (b4, .inl (cI, 66, .inl u.2.2.2.1)), (b5, .inl (cI, 67, .inl u.2.2.2.2.1))] t.heap ∧ va_K (dC, dI) vwCl [(cI, .int)] t ∧ va_D A [(h, .inr (1, [.int (nI N), .int (nI u.2.2.2.2.2.1), .int u.2.2.2.2.2.2, .ref b1, .ref b2, .ref b3, .ref b4, .ref b5])), (b1, .inl (cI, 66, .inl u.1)), (b2, .inl (cI, 66, .inl u.2.1)), (b3, .inl (cI, 66, .inl u.2.2.1)), (b4, .inl (cI, 66, .inl u.2.2.2.1)), (b5, .inl (cI, 67, .inl u.2.2.2.2.1))]) A) ([.ref h, .int x, .int y] : List Value).toArray s 0 0 A) (F0 m 0 ls []) from hgo s.heap [] hP hD hS
  clear hP hD hS hD0
  intro H locs hP hD hS
  refine lv_iload_n hx hb dX1_add_0 rfl (lv_at hl 1 rfl) ?_
  refine lv_iload_n hx hb dX1_add_1 rfl (lv_at hl 2 rfl) ?_
  refine vp_callSi (va_Run.run (va_runS (As := [.int x, .int y]) (rest := []) ⟨hx, hb, hml, hown, hts⟩ (k_X1_inRange l x y) (va_cwS 2 hts gX1_add_X1_inRange rfl rfl rfl (by decide +kernel) ⟨Nat.le_of_ble_eq_true rfl, Nat.le_of_ble_eq_true rfl⟩) oh_pre0 rfl rfl hl.1 rfl (lv_room (Nat.le_of_ble_eq_true rfl)) dX1_add_2 ⟨Nat.zero_le _, Nat.zero_le _⟩)) (fun r_2 hr_2 => ?_)
  rcases hr_2 with ⟨b_2, hr_2⟩ | ⟨b_2, hr_2⟩ <;> subst hr_2
  · refine lv_if_ne (tgt := 10) hx hb dX1_add_5 (by decide) (fun _ => ?_) (fun q => absurd q (by decide))
    refine lv_aload_n hx hb dX1_add_10 rfl (lv_at hl 0 rfl) ?_
    refine lv_iload_n hx hb dX1_add_11 rfl (lv_at hl 1 rfl) ?_
    refine lv_iload_n hx hb dX1_add_12 rfl (lv_at hl 2 rfl) ?_
    refine vp_callSi (va_Run.run (va_runV (As := [.int x, .int y]) (rest := []) ⟨hx, hb, hml, hown, hts⟩ (k_X1_inside l dC dI cI h b1 b2 b3 b4 b5 N n pts xs ys px py rd x y hN hn hR hh) (cwV 2 hts gX1_add_X1_inside rfl rfl rfl (by decide +kernel) ⟨Nat.le_of_ble_eq_true rfl, Nat.le_of_ble_eq_true rfl⟩) (oh_pre (ci := 1) (q0 := 0) hK hP rfl rfl) rfl rfl hl.1 rfl (lv_room (Nat.le_of_ble_eq_true rfl)) dX1_add_13 ⟨Nat.zero_le _, Nat.zero_le _⟩)) (fun r_13 hr_13 => ?_)
    have hpl : oh_pl3 n (oh_pt xs ys) (x.toInt, y.toInt) r_13 := hr_13.elim (fun w => w.2) (fun w => absurd b_2 w.1)
    have hplb := oh_pl3b hpl
    refine lv_if_le (tgt := 31) hx hb dX1_add_16 (by decide) (fun c_16 => ?_) (fun c_16 => ?_)
    · have g_16 : r_13.toInt ≤ 0 := oh_leI0 c_16
      have hs9 := hst _ hpl (by omega) b_2
      have hm9 := oh_stepm hs9
      refine lv_iconst (v := nI 0) hx hb dX1_add_31 (by decide) ?_
      refine lv_istore_n (lv' := [(3, .int (nI 0)), (0, .ref h), (1, .int x), (2, .int y)]) hx hb dX1_add_32 rfl hl (by decide) rfl (fun ls hl => ?_)
      have lc : ∀ (k_lc : Nat) (i : Nat) (px9 : Nat → Int32) (py9 : Nat → Int32), (i ≤ n) → (n + 1 ≤ i + k_lc) → (∀ t, t < i → px9 t = xs t) → (∀ t, t < i → py9 t = ys t) → ∀ (H : Heap) (locs : List Loc), va_P (dC, dI) vwCl [(h, .inr (1, [.int (nI N), .int (nI n), .int pts, .ref b1, .ref b2, .ref b3, .ref b4, .ref b5])), (b1, .inl (cI, 66, .inl xs)), (b2, .inl (cI, 66, .inl ys)), (b3, .inl (cI, 66, .inl px9)), (b4, .inl (cI, 66, .inl py9)), (b5, .inl (cI, 67, .inl rd))] H → va_D A [(h, .inr (1, [.int (nI N), .int (nI n), .int pts, .ref b1, .ref b2, .ref b3, .ref b4, .ref b5])), (b1, .inl (cI, 66, .inl xs)), (b2, .inl (cI, 66, .inl ys)), (b3, .inl (cI, 66, .inl px9)), (b4, .inl (cI, 66, .inl py9)), (b5, .inl (cI, 67, .inl rd))] → va_S A s.heap H locs → ∀ (ls : Array Slot), lv_has ls 6 [(0, .ref h), (1, .int x), (2, .int y), (3, .int (nI i))] → W p l e (headSpec wsX1_add ({ frames := 3, cells := 0, slots := 0, locals := 91 })).room s m ([.ref h, .int x, .int y] : List Value).toArray below meth c H locs 0 0 (MQ below (va_Qi (S := (Nat → Int32) × (Nat → Int32) × (Nat → Int32) × (Nat → Int32) × (Nat → Int32) × Nat × Int32) (fun r u => oh_addM N n M9 ρ xs ys pts x y r u) (fun u t => va_P (dC, dI) vwCl [(h, .inr (1, [.int (nI N), .int (nI u.2.2.2.2.2.1), .int u.2.2.2.2.2.2, .ref b1, .ref b2, .ref b3, .ref b4, .ref b5])), (b1, .inl (cI, 66, .inl u.1)), (b2, .inl (cI, 66, .inl u.2.1)), (b3, .inl (cI, 66, .inl u.2.2.1)), (b4, .inl (cI, 66, .inl u.2.2.2.1)), (b5, .inl (cI, 67, .inl u.2.2.2.2.1))] t.heap ∧ va_K (dC, dI) vwCl [(cI, .int)] t ∧ va_D A [(h, .inr (1, [.int (nI N), .int (nI u.2.2.2.2.2.1), .int u.2.2.2.2.2.2, .ref b1, .ref b2, .ref b3, .ref b4, .ref b5])), (b1, .inl (cI, 66, .inl u.1)), (b2, .inl (cI, 66, .inl u.2.1)), (b3, .inl (cI, 66, .inl u.2.2.1)), (b4, .inl (cI, 66, .inl u.2.2.2.1)), (b5, .inl (cI, 67, .inl u.2.2.2.2.1))]) A) ([.ref h, .int x, .int y] : List Value).toArray s 0 0 A) (F0 m 33 ls []) := by
        clear hP hD hS
        clear hl
        intro k_lc
        induction k_lc with
        | zero =>
          intro i px9 py9 hi hk hC1 hC2
          exfalso; omega
        | succ k_lc ih_lc =>
          intro i px9 py9 hi hk hC1 hC2 H locs hP hD hS ls hl
          refine lv_iload_n hx hb dX1_add_33 rfl (lv_at hl 3 rfl) ?_
          refine lv_aload_n hx hb dX1_add_34 rfl (lv_at hl 0 rfl) ?_
          refine va_get (D := (dC, dI)) (ci := 1) (v := .int (nI n)) (C := RX1) (T := TX1) (N := 8) hx hb hts hin0 hown hK hP 0 rfl rfl 1 (by decide) (hts (.fieldLink RX1 29 "OnlineHullModel" "corners" "I") (by decide +kernel)) (fun _ h9 => h9) rfl dX1_add_35 ?_
          refine lv_icmp_ge (tgt := 71) hx hb dX1_add_38 (by decide) (fun c_38 => ?_) (fun c_38 => ?_)
          · have g_38 : n ≤ i := (nI_leI (a := n) (b := i) (by omega) (by omega)).mp c_38
            have hD1 : ∀ t, t < n → px9 t = xs t := fun t ht => hC1 t (by omega)
            have hD2 : ∀ t, t < n → py9 t = ys t := fun t ht => hC2 t (by omega)
            have hrho := (oh_ringW_of hs9 (oh_pxG (x := x) (y := y) hD1 hD2)).2.2.1
            refine lv_aload_n hx hb dX1_add_71 rfl (lv_at hl 0 rfl) ?_
            refine va_get (D := (dC, dI)) (ci := 1) (v := .ref b3) (C := RX1) (T := TX1) (N := 8) hx hb hts hin0 hown hK hP 0 rfl rfl 5 (by decide) (hts (.fieldLink RX1 16 "OnlineHullModel" "px" "[I") (by decide +kernel)) (fun _ h9 => h9) rfl dX1_add_72 ?_
            refine lv_aload_n hx hb dX1_add_75 rfl (lv_at hl 0 rfl) ?_
            refine va_get (D := (dC, dI)) (ci := 1) (v := .int (nI n)) (C := RX1) (T := TX1) (N := 8) hx hb hts hin0 hown hK hP 0 rfl rfl 1 (by decide) (hts (.fieldLink RX1 29 "OnlineHullModel" "corners" "I") (by decide +kernel)) (fun _ h9 => h9) rfl dX1_add_76 ?_
            refine lv_iload_n hx hb dX1_add_79 rfl (lv_at hl 1 rfl) ?_
            refine oh_ast hx hb hK hP hD hS 3 0 rfl rfl (k := n) (by omega) (by omega) dX1_add_80 (fun H locs hP hD hS => ?_)
            have hP : va_P (dC, dI) vwCl [(h, .inr (1, [.int (nI N), .int (nI n), .int pts, .ref b1, .ref b2, .ref b3, .ref b4, .ref b5])), (b1, .inl (cI, 66, .inl xs)), (b2, .inl (cI, 66, .inl ys)), (b3, .inl (cI, 66, .inl (upd px9 n x))), (b4, .inl (cI, 66, .inl py9)), (b5, .inl (cI, 67, .inl rd))] H := hP
            have hD : va_D A [(h, .inr (1, [.int (nI N), .int (nI n), .int pts, .ref b1, .ref b2, .ref b3, .ref b4, .ref b5])), (b1, .inl (cI, 66, .inl xs)), (b2, .inl (cI, 66, .inl ys)), (b3, .inl (cI, 66, .inl (upd px9 n x))), (b4, .inl (cI, 66, .inl py9)), (b5, .inl (cI, 67, .inl rd))] := hD
            refine lv_aload_n hx hb dX1_add_81 rfl (lv_at hl 0 rfl) ?_
            refine va_get (D := (dC, dI)) (ci := 1) (v := .ref b4) (C := RX1) (T := TX1) (N := 8) hx hb hts hin0 hown hK hP 0 rfl rfl 6 (by decide) (hts (.fieldLink RX1 19 "OnlineHullModel" "py" "[I") (by decide +kernel)) (fun _ h9 => h9) rfl dX1_add_82 ?_
            refine lv_aload_n hx hb dX1_add_85 rfl (lv_at hl 0 rfl) ?_
            refine va_get (D := (dC, dI)) (ci := 1) (v := .int (nI n)) (C := RX1) (T := TX1) (N := 8) hx hb hts hin0 hown hK hP 0 rfl rfl 1 (by decide) (hts (.fieldLink RX1 29 "OnlineHullModel" "corners" "I") (by decide +kernel)) (fun _ h9 => h9) rfl dX1_add_86 ?_
            refine lv_iload_n hx hb dX1_add_89 rfl (lv_at hl 2 rfl) ?_
            refine oh_ast hx hb hK hP hD hS 4 0 rfl rfl (k := n) (by omega) (by omega) dX1_add_90 (fun H locs hP hD hS => ?_)
            have hP : va_P (dC, dI) vwCl [(h, .inr (1, [.int (nI N), .int (nI n), .int pts, .ref b1, .ref b2, .ref b3, .ref b4, .ref b5])), (b1, .inl (cI, 66, .inl xs)), (b2, .inl (cI, 66, .inl ys)), (b3, .inl (cI, 66, .inl (upd px9 n x))), (b4, .inl (cI, 66, .inl (upd py9 n y))), (b5, .inl (cI, 67, .inl rd))] H := hP
            have hD : va_D A [(h, .inr (1, [.int (nI N), .int (nI n), .int pts, .ref b1, .ref b2, .ref b3, .ref b4, .ref b5])), (b1, .inl (cI, 66, .inl xs)), (b2, .inl (cI, 66, .inl ys)), (b3, .inl (cI, 66, .inl (upd px9 n x))), (b4, .inl (cI, 66, .inl (upd py9 n y))), (b5, .inl (cI, 67, .inl rd))] := hD
            refine lv_aload_n hx hb dX1_add_91 rfl (lv_at hl 0 rfl) ?_
            refine lv_aload_n hx hb dX1_add_92 rfl (lv_at hl 0 rfl) ?_
            refine va_get (D := (dC, dI)) (ci := 1) (v := .int (nI n)) (C := RX1) (T := TX1) (N := 8) hx hb hts hin0 hown hK hP 0 rfl rfl 1 (by decide) (hts (.fieldLink RX1 29 "OnlineHullModel" "corners" "I") (by decide +kernel)) (fun _ h9 => h9) rfl dX1_add_93 ?_
            refine lv_iconst (v := nI 1) hx hb dX1_add_96 (by decide) ?_
            refine lv_iadd hx hb dX1_add_97 ?_
            rw [nI_add n 1]
            have hPc := hP.sub (ws' := [(h, .inr (1, [.int (nI N), .int (nI n), .int pts, .ref b1, .ref b2, .ref b3, .ref b4, .ref b5])), (b1, .inl (cI, 66, .inl xs)), (b2, .inl (cI, 66, .inl ys)), (b3, .inl (cI, 66, .inl (upd px9 n x))), (b4, .inl (cI, 66, .inl (upd py9 n y))), (b5, .inl (cI, 67, .inl rd))]) [0, 1, 2, 3, 4, 5] rfl
            have hDc := hD.sub (ws' := [(h, .inr (1, [.int (nI N), .int (nI n), .int pts, .ref b1, .ref b2, .ref b3, .ref b4, .ref b5])), (b1, .inl (cI, 66, .inl xs)), (b2, .inl (cI, 66, .inl ys)), (b3, .inl (cI, 66, .inl (upd px9 n x))), (b4, .inl (cI, 66, .inl (upd py9 n y))), (b5, .inl (cI, 67, .inl rd))]) [0, 1, 2, 3, 4, 5] (by decide) rfl
            have hFc := va_free (wc := [(h, .inr (1, [.int (nI N), .int (nI n), .int pts, .ref b1, .ref b2, .ref b3, .ref b4, .ref b5])), (b1, .inl (cI, 66, .inl xs)), (b2, .inl (cI, 66, .inl ys)), (b3, .inl (cI, 66, .inl (upd px9 n x))), (b4, .inl (cI, 66, .inl (upd py9 n y))), (b5, .inl (cI, 67, .inl rd))]) hD hS hA [0, 1, 2, 3, 4, 5] rfl
            refine va_calli (va_runV (As := [.int (nI (n + 1))]) (rest := []) ⟨hx, hb, hml, hown, hts⟩ (k_X1_goRound l dC dI cI h b1 b2 b3 b4 b5 N n pts xs ys (upd px9 n x) (upd py9 n y) rd H.size ((n + 1)) M9 ρ (by omega) (oh_pxR hD1 hD2 hR b_2) (oh_ringW_of hs9 (oh_pxG hD1 hD2))) (cwV 1 hts gX1_add_X1_goRound rfl rfl rfl (by decide +kernel) ⟨Nat.le_of_ble_eq_true rfl, Nat.le_of_ble_eq_true rfl⟩) (oh_preM (ci := 1) (q0 := 0) hK hPc hDc rfl rfl) rfl rfl hl.1 rfl (lv_room (Nat.le_of_ble_eq_true rfl)) dX1_add_98 ⟨Nat.zero_le _, Nat.zero_le _⟩) hS (fun q _ h => hFc q h) hFc (fun r_98 u_98 t H1 locs ht hvm hw_98 hB hz1 hk1 hS => ?_)
            obtain ⟨hP1, hK1, hD1⟩ := hB
            rw [ht] at hP1
            obtain ⟨rfl, rd9, rfl, hrd⟩ := hw_98
            obtain ⟨hP, hD⟩ := va_join (wr := []) (w1 := [(h, .inr (1, [.int (nI N), .int (nI n), .int pts, .ref b1, .ref b2, .ref b3, .ref b4, .ref b5])), (b1, .inl (cI, 66, .inl xs)), (b2, .inl (cI, 66, .inl ys)), (b3, .inl (cI, 66, .inl (upd px9 n x))), (b4, .inl (cI, 66, .inl (upd py9 n y))), (b5, .inl (cI, 67, .inl rd9))]) hP hD [0, 1, 2, 3, 4, 5] [] rfl rfl (by decide) (by decide) hk1 hFc hP1 hD1
            generalize H1 = H at hP hS ⊢
            have hP : va_P (dC, dI) vwCl [(h, .inr (1, [.int (nI N), .int (nI n), .int pts, .ref b1, .ref b2, .ref b3, .ref b4, .ref b5])), (b1, .inl (cI, 66, .inl xs)), (b2, .inl (cI, 66, .inl ys)), (b3, .inl (cI, 66, .inl (upd px9 n x))), (b4, .inl (cI, 66, .inl (upd py9 n y))), (b5, .inl (cI, 67, .inl rd9))] H := hP
            have hD : va_D A [(h, .inr (1, [.int (nI N), .int (nI n), .int pts, .ref b1, .ref b2, .ref b3, .ref b4, .ref b5])), (b1, .inl (cI, 66, .inl xs)), (b2, .inl (cI, 66, .inl ys)), (b3, .inl (cI, 66, .inl (upd px9 n x))), (b4, .inl (cI, 66, .inl (upd py9 n y))), (b5, .inl (cI, 67, .inl rd9))] := hD
            clear hPc hDc hFc hP1 hK1 hD1 hk1 hz1 ht
            refine lv_istore_n (lv' := [(3, .int (nI M9)), (0, .ref h), (1, .int x), (2, .int y)]) hx hb dX1_add_101 rfl hl (by decide) rfl (fun ls hl => ?_)
            refine lv_iload_n hx hb dX1_add_102 rfl (lv_at hl 0 rfl) ?_
            refine lv_aload_n hx hb dX1_add_103 rfl (lv_at hl 1 rfl) ?_
            refine va_get (D := (dC, dI)) (ci := 1) (v := .int (nI N)) (C := RX1) (T := TX1) (N := 8) hx hb hts hin0 hown hK hP 0 rfl rfl 0 (by decide) (hts (.fieldLink RX1 25 "OnlineHullModel" "cap" "I") (by decide +kernel)) (fun _ h9 => h9) rfl dX1_add_104 ?_
            refine lv_icmp_le (tgt := 113) hx hb dX1_add_107 (by decide) (fun c_107 => ?_) (fun c_107 => ?_)
            · have g_107 : M9 ≤ N := (nI_leI (a := M9) (b := N) (by omega) (by omega)).mp c_107
              refine lv_aload_n hx hb dX1_add_113 rfl (lv_at hl 1 rfl) ?_
              refine va_get (D := (dC, dI)) (ci := 1) (v := .int (nI n)) (C := RX1) (T := TX1) (N := 8) hx hb hts hin0 hown hK hP 0 rfl rfl 1 (by decide) (hts (.fieldLink RX1 29 "OnlineHullModel" "corners" "I") (by decide +kernel)) (fun _ h9 => h9) rfl dX1_add_114 ?_
              refine lv_iconst (v := nI 1) hx hb dX1_add_117 (by decide) ?_
              refine lv_iadd hx hb dX1_add_118 ?_
              rw [nI_add n 1]
              refine lv_iload_n hx hb dX1_add_119 rfl (lv_at hl 0 rfl) ?_
              refine lv_isub hx hb dX1_add_120 ?_
              rw [pk_sub (a := (n + 1)) (b := M9) (by omega)]
              refine lv_istore (lv' := [(4, .int (nI ((n + 1) - M9))), (3, .int (nI M9)), (0, .ref h), (1, .int x), (2, .int y)]) hx hb dX1_add_121 hl (by decide) rfl (fun ls hl => ?_)
              refine lv_iconst (v := nI 0) hx hb dX1_add_123 (by decide) ?_
              refine lv_istore (lv' := [(5, .int (nI 0)), (4, .int (nI ((n + 1) - M9))), (3, .int (nI M9)), (0, .ref h), (1, .int x), (2, .int y)]) hx hb dX1_add_124 hl (by decide) rfl (fun ls hl => ?_)
              have ld : ∀ (k_ld : Nat) (k : Nat) (xs9 : Nat → Int32) (ys9 : Nat → Int32), (k ≤ M9) → (M9 + 1 ≤ k + k_ld) → (∀ t, t < k → xs9 t = oh_g n xs x (ρ t)) → (∀ t, t < k → ys9 t = oh_g n ys y (ρ t)) → ∀ (H : Heap) (locs : List Loc), va_P (dC, dI) vwCl [(h, .inr (1, [.int (nI N), .int (nI n), .int pts, .ref b1, .ref b2, .ref b3, .ref b4, .ref b5])), (b1, .inl (cI, 66, .inl xs9)), (b2, .inl (cI, 66, .inl ys9)), (b3, .inl (cI, 66, .inl (upd px9 n x))), (b4, .inl (cI, 66, .inl (upd py9 n y))), (b5, .inl (cI, 67, .inl rd9))] H → va_D A [(h, .inr (1, [.int (nI N), .int (nI n), .int pts, .ref b1, .ref b2, .ref b3, .ref b4, .ref b5])), (b1, .inl (cI, 66, .inl xs9)), (b2, .inl (cI, 66, .inl ys9)), (b3, .inl (cI, 66, .inl (upd px9 n x))), (b4, .inl (cI, 66, .inl (upd py9 n y))), (b5, .inl (cI, 67, .inl rd9))] → va_S A s.heap H locs → ∀ (ls : Array Slot), lv_has ls 6 [(0, .ref h), (1, .int x), (2, .int y), (3, .int (nI M9)), (4, .int (nI (n + 1 - M9))), (5, .int (nI k))] → W p l e (headSpec wsX1_add ({ frames := 3, cells := 0, slots := 0, locals := 91 })).room s m ([.ref h, .int x, .int y] : List Value).toArray below meth c H locs 0 0 (MQ below (va_Qi (S := (Nat → Int32) × (Nat → Int32) × (Nat → Int32) × (Nat → Int32) × (Nat → Int32) × Nat × Int32) (fun r u => oh_addM N n M9 ρ xs ys pts x y r u) (fun u t => va_P (dC, dI) vwCl [(h, .inr (1, [.int (nI N), .int (nI u.2.2.2.2.2.1), .int u.2.2.2.2.2.2, .ref b1, .ref b2, .ref b3, .ref b4, .ref b5])), (b1, .inl (cI, 66, .inl u.1)), (b2, .inl (cI, 66, .inl u.2.1)), (b3, .inl (cI, 66, .inl u.2.2.1)), (b4, .inl (cI, 66, .inl u.2.2.2.1)), (b5, .inl (cI, 67, .inl u.2.2.2.2.1))] t.heap ∧ va_K (dC, dI) vwCl [(cI, .int)] t ∧ va_D A [(h, .inr (1, [.int (nI N), .int (nI u.2.2.2.2.2.1), .int u.2.2.2.2.2.2, .ref b1, .ref b2, .ref b3, .ref b4, .ref b5])), (b1, .inl (cI, 66, .inl u.1)), (b2, .inl (cI, 66, .inl u.2.1)), (b3, .inl (cI, 66, .inl u.2.2.1)), (b4, .inl (cI, 66, .inl u.2.2.2.1)), (b5, .inl (cI, 67, .inl u.2.2.2.2.1))]) A) ([.ref h, .int x, .int y] : List Value).toArray s 0 0 A) (F0 m 126 ls []) := by
                clear hP hD hS
                clear hl
                intro k_ld
                induction k_ld with
                | zero =>
                  intro k xs9 ys9 hk9 hk8 hA1 hA2
                  exfalso; omega
                | succ k_ld ih_ld =>
                  intro k xs9 ys9 hk9 hk8 hA1 hA2 H locs hP hD hS ls hl
                  refine lv_iload hx hb dX1_add_126 (lv_at hl 5 rfl) ?_
                  refine lv_iload_n hx hb dX1_add_128 rfl (lv_at hl 3 rfl) ?_
                  refine lv_icmp_ge (tgt := 176) hx hb dX1_add_129 (by decide) (fun c_129 => ?_) (fun c_129 => ?_)
                  · have g_129 : M9 ≤ k := (nI_leI (a := M9) (b := k) (by omega) (by omega)).mp c_129
                    refine lv_aload_n hx hb dX1_add_176 rfl (lv_at hl 0 rfl) ?_
                    refine lv_iload_n hx hb dX1_add_177 rfl (lv_at hl 3 rfl) ?_
                    refine va_put (D := (dC, dI)) (ci := 1) (v := .int (nI M9)) (ty := .int) (C := RX1) (T := TX1) (N := 8) hx hb hts hin0 tyX1 tyX1_ok nmX1 hown hK hP hD hS 0 rfl rfl 1 (by decide) (hts (.fieldLink RX1 29 "OnlineHullModel" "corners" "I") (by decide +kernel)) (fun _ h9 => h9) rfl (by decide +kernel) rfl rfl (Nat.le_of_ble_eq_true rfl) dX1_add_178 (fun H locs hP hD hS => ?_)
                    have hP : va_P (dC, dI) vwCl [(h, .inr (1, [.int (nI N), .int (nI M9), .int pts, .ref b1, .ref b2, .ref b3, .ref b4, .ref b5])), (b1, .inl (cI, 66, .inl xs9)), (b2, .inl (cI, 66, .inl ys9)), (b3, .inl (cI, 66, .inl (upd px9 n x))), (b4, .inl (cI, 66, .inl (upd py9 n y))), (b5, .inl (cI, 67, .inl rd9))] H := hP
                    have hD : va_D A [(h, .inr (1, [.int (nI N), .int (nI M9), .int pts, .ref b1, .ref b2, .ref b3, .ref b4, .ref b5])), (b1, .inl (cI, 66, .inl xs9)), (b2, .inl (cI, 66, .inl ys9)), (b3, .inl (cI, 66, .inl (upd px9 n x))), (b4, .inl (cI, 66, .inl (upd py9 n y))), (b5, .inl (cI, 67, .inl rd9))] := hD
                    refine lv_aload_n hx hb dX1_add_181 rfl (lv_at hl 0 rfl) ?_
                    refine lv_dup hx hb dX1_add_182 rfl ?_
                    refine va_get (D := (dC, dI)) (ci := 1) (v := .int pts) (C := RX1) (T := TX1) (N := 8) hx hb hts hin0 hown hK hP 0 rfl rfl 2 (by decide) (hts (.fieldLink RX1 55 "OnlineHullModel" "points" "I") (by decide +kernel)) (fun _ h9 => h9) rfl dX1_add_183 ?_
                    refine lv_iconst (v := nI 1) hx hb dX1_add_186 (by decide) ?_
                    refine lv_iadd hx hb dX1_add_187 ?_
                    refine va_put (D := (dC, dI)) (ci := 1) (v := .int (pts + (nI 1))) (ty := .int) (C := RX1) (T := TX1) (N := 8) hx hb hts hin0 tyX1 tyX1_ok nmX1 hown hK hP hD hS 0 rfl rfl 2 (by decide) (hts (.fieldLink RX1 55 "OnlineHullModel" "points" "I") (by decide +kernel)) (fun _ h9 => h9) rfl (by decide +kernel) rfl rfl (Nat.le_of_ble_eq_true rfl) dX1_add_188 (fun H locs hP hD hS => ?_)
                    have hP : va_P (dC, dI) vwCl [(h, .inr (1, [.int (nI N), .int (nI M9), .int (pts + (nI 1)), .ref b1, .ref b2, .ref b3, .ref b4, .ref b5])), (b1, .inl (cI, 66, .inl xs9)), (b2, .inl (cI, 66, .inl ys9)), (b3, .inl (cI, 66, .inl (upd px9 n x))), (b4, .inl (cI, 66, .inl (upd py9 n y))), (b5, .inl (cI, 67, .inl rd9))] H := hP
                    have hD : va_D A [(h, .inr (1, [.int (nI N), .int (nI M9), .int (pts + (nI 1)), .ref b1, .ref b2, .ref b3, .ref b4, .ref b5])), (b1, .inl (cI, 66, .inl xs9)), (b2, .inl (cI, 66, .inl ys9)), (b3, .inl (cI, 66, .inl (upd px9 n x))), (b4, .inl (cI, 66, .inl (upd py9 n y))), (b5, .inl (cI, 67, .inl rd9))] := hD
                    refine lv_iconst (v := nI 1) hx hb dX1_add_191 (by decide) ?_
                    refine lv_iload hx hb dX1_add_192 (lv_at hl 4 rfl) ?_
                    refine lv_iadd hx hb dX1_add_194 ?_
                    rw [nI_add 1 ((n + 1 - M9))]
                    exact W.iret (v := nI (1 + (n + 1 - M9))) hx hb hr (fun t ht hW => ⟨⟨_, (xs9, ys9, upd px9 n x, upd py9 n y, rd9, M9, pts + (nI 1)), rfl, ⟨_, _, _, _, _, _, _, rfl, Or.inr ⟨b_2, r_13, hpl, Or.inr ⟨by omega, Or.inl ⟨by omega, congrArg nI (by omega), rfl, rfl, fun t ht => ⟨hA1 t (by omega), hA2 t (by omega)⟩⟩⟩⟩⟩, by rw [ht]; exact hP, va_K.moved hW.alike hK, hD⟩, hS.F ht⟩) hS.2.2 dX1_add_195
                  · have g_129 : ¬ M9 ≤ k := fun q => c_129 ((nI_leI (a := M9) (b := k) (by omega) (by omega)).mpr q)
                    refine lv_aload_n hx hb dX1_add_132 rfl (lv_at hl 0 rfl) ?_
                    refine va_get (D := (dC, dI)) (ci := 1) (v := .ref b1) (C := RX1) (T := TX1) (N := 8) hx hb hts hin0 hown hK hP 0 rfl rfl 3 (by decide) (hts (.fieldLink RX1 7 "OnlineHullModel" "xs" "[I") (by decide +kernel)) (fun _ h9 => h9) rfl dX1_add_133 ?_
                    refine lv_iload hx hb dX1_add_136 (lv_at hl 5 rfl) ?_
                    refine lv_aload_n hx hb dX1_add_138 rfl (lv_at hl 0 rfl) ?_
                    refine va_get (D := (dC, dI)) (ci := 1) (v := .ref b3) (C := RX1) (T := TX1) (N := 8) hx hb hts hin0 hown hK hP 0 rfl rfl 5 (by decide) (hts (.fieldLink RX1 16 "OnlineHullModel" "px" "[I") (by decide +kernel)) (fun _ h9 => h9) rfl dX1_add_139 ?_
                    refine lv_aload_n hx hb dX1_add_142 rfl (lv_at hl 0 rfl) ?_
                    refine va_get (D := (dC, dI)) (ci := 1) (v := .ref b5) (C := RX1) (T := TX1) (N := 8) hx hb hts hin0 hown hK hP 0 rfl rfl 7 (by decide) (hts (.fieldLink RX1 22 "OnlineHullModel" "round" "[I") (by decide +kernel)) (fun _ h9 => h9) rfl dX1_add_143 ?_
                    refine lv_iload hx hb dX1_add_146 (lv_at hl 5 rfl) ?_
                    refine oh_ald hx hb hK hP 5 0 rfl rfl (k := k) (by omega) (by omega) dX1_add_148 ?_
                    rw [hrd k (by omega)]
                    have hrk := hrho k (by omega)
                    refine oh_ald hx hb hK hP 3 0 rfl rfl (k := (ρ k)) (by omega) (by omega) dX1_add_149 ?_
                    refine oh_ast hx hb hK hP hD hS 1 0 rfl rfl (k := k) (by omega) (by omega) dX1_add_150 (fun H locs hP hD hS => ?_)
                    have hP : va_P (dC, dI) vwCl [(h, .inr (1, [.int (nI N), .int (nI n), .int pts, .ref b1, .ref b2, .ref b3, .ref b4, .ref b5])), (b1, .inl (cI, 66, .inl (upd xs9 k ((upd px9 n x) ((ρ k)))))), (b2, .inl (cI, 66, .inl ys9)), (b3, .inl (cI, 66, .inl (upd px9 n x))), (b4, .inl (cI, 66, .inl (upd py9 n y))), (b5, .inl (cI, 67, .inl rd9))] H := hP
                    have hD : va_D A [(h, .inr (1, [.int (nI N), .int (nI n), .int pts, .ref b1, .ref b2, .ref b3, .ref b4, .ref b5])), (b1, .inl (cI, 66, .inl (upd xs9 k ((upd px9 n x) ((ρ k)))))), (b2, .inl (cI, 66, .inl ys9)), (b3, .inl (cI, 66, .inl (upd px9 n x))), (b4, .inl (cI, 66, .inl (upd py9 n y))), (b5, .inl (cI, 67, .inl rd9))] := hD
                    refine lv_aload_n hx hb dX1_add_151 rfl (lv_at hl 0 rfl) ?_
                    refine va_get (D := (dC, dI)) (ci := 1) (v := .ref b2) (C := RX1) (T := TX1) (N := 8) hx hb hts hin0 hown hK hP 0 rfl rfl 4 (by decide) (hts (.fieldLink RX1 13 "OnlineHullModel" "ys" "[I") (by decide +kernel)) (fun _ h9 => h9) rfl dX1_add_152 ?_
                    refine lv_iload hx hb dX1_add_155 (lv_at hl 5 rfl) ?_
                    refine lv_aload_n hx hb dX1_add_157 rfl (lv_at hl 0 rfl) ?_
                    refine va_get (D := (dC, dI)) (ci := 1) (v := .ref b4) (C := RX1) (T := TX1) (N := 8) hx hb hts hin0 hown hK hP 0 rfl rfl 6 (by decide) (hts (.fieldLink RX1 19 "OnlineHullModel" "py" "[I") (by decide +kernel)) (fun _ h9 => h9) rfl dX1_add_158 ?_
                    refine lv_aload_n hx hb dX1_add_161 rfl (lv_at hl 0 rfl) ?_
                    refine va_get (D := (dC, dI)) (ci := 1) (v := .ref b5) (C := RX1) (T := TX1) (N := 8) hx hb hts hin0 hown hK hP 0 rfl rfl 7 (by decide) (hts (.fieldLink RX1 22 "OnlineHullModel" "round" "[I") (by decide +kernel)) (fun _ h9 => h9) rfl dX1_add_162 ?_
                    refine lv_iload hx hb dX1_add_165 (lv_at hl 5 rfl) ?_
                    refine oh_ald hx hb hK hP 5 0 rfl rfl (k := k) (by omega) (by omega) dX1_add_167 ?_
                    rw [hrd k (by omega)]
                    have hrk := hrho k (by omega)
                    refine oh_ald hx hb hK hP 4 0 rfl rfl (k := (ρ k)) (by omega) (by omega) dX1_add_168 ?_
                    refine oh_ast hx hb hK hP hD hS 2 0 rfl rfl (k := k) (by omega) (by omega) dX1_add_169 (fun H locs hP hD hS => ?_)
                    have hP : va_P (dC, dI) vwCl [(h, .inr (1, [.int (nI N), .int (nI n), .int pts, .ref b1, .ref b2, .ref b3, .ref b4, .ref b5])), (b1, .inl (cI, 66, .inl (upd xs9 k ((upd px9 n x) ((ρ k)))))), (b2, .inl (cI, 66, .inl (upd ys9 k ((upd py9 n y) ((ρ k)))))), (b3, .inl (cI, 66, .inl (upd px9 n x))), (b4, .inl (cI, 66, .inl (upd py9 n y))), (b5, .inl (cI, 67, .inl rd9))] H := hP
                    have hD : va_D A [(h, .inr (1, [.int (nI N), .int (nI n), .int pts, .ref b1, .ref b2, .ref b3, .ref b4, .ref b5])), (b1, .inl (cI, 66, .inl (upd xs9 k ((upd px9 n x) ((ρ k)))))), (b2, .inl (cI, 66, .inl (upd ys9 k ((upd py9 n y) ((ρ k)))))), (b3, .inl (cI, 66, .inl (upd px9 n x))), (b4, .inl (cI, 66, .inl (upd py9 n y))), (b5, .inl (cI, 67, .inl rd9))] := hD
                    refine lv_iinc (v := nI (k + 1)) (lv' := [(5, .int (nI (k + 1))), (0, .ref h), (1, .int x), (2, .int y), (3, .int (nI M9)), (4, .int (nI (n + 1 - M9)))]) hx hb dX1_add_170 hl (k := 5) rfl (nI_1 k) (by decide) rfl (fun ls hl => ?_)
                    refine lv_goto (tgt := 126) hx hb dX1_add_173 (by decide) ?_
                    exact ih_ld (k + 1) (upd xs9 k ((upd px9 n x) ((ρ k)))) (upd ys9 k ((upd py9 n y) ((ρ k)))) (by omega) (by omega) (oh_xsU hA1 (oh_pxg hD1 (hrho k (by omega)))) (oh_xsU hA2 (oh_pxg hD2 (hrho k (by omega)))) _ _ hP hD hS ls (lv_sub hl [1, 2, 3, 4, 5, 0] rfl)
              exact ld (M9 + 1) 0 xs ys (by omega) (by omega) (fun t ht => by omega) (fun t ht => by omega) _ _ hP hD hS ls (lv_sub hl [3, 4, 5, 2, 1, 0] rfl)
            · have g_107 : ¬ M9 ≤ N := fun q => c_107 ((nI_leI (a := M9) (b := N) (by omega) (by omega)).mpr q)
              refine lv_bipush (v := -2) hx hb dX1_add_110 (by decide) ?_
              exact W.iret (v := -2) hx hb hr (fun t ht hW => ⟨⟨_, (xs, ys, upd px9 n x, upd py9 n y, rd9, n, pts), rfl, ⟨_, _, _, _, _, _, _, rfl, Or.inr ⟨b_2, r_13, hpl, Or.inr ⟨by omega, Or.inr ⟨by omega, rfl, rfl, rfl, rfl, rfl⟩⟩⟩⟩, by rw [ht]; exact hP, va_K.moved hW.alike hK, hD⟩, hS.F ht⟩) hS.2.2 dX1_add_112
          · have g_38 : ¬ n ≤ i := fun q => c_38 ((nI_leI (a := n) (b := i) (by omega) (by omega)).mpr q)
            refine lv_aload_n hx hb dX1_add_41 rfl (lv_at hl 0 rfl) ?_
            refine va_get (D := (dC, dI)) (ci := 1) (v := .ref b3) (C := RX1) (T := TX1) (N := 8) hx hb hts hin0 hown hK hP 0 rfl rfl 5 (by decide) (hts (.fieldLink RX1 16 "OnlineHullModel" "px" "[I") (by decide +kernel)) (fun _ h9 => h9) rfl dX1_add_42 ?_
            refine lv_iload_n hx hb dX1_add_45 rfl (lv_at hl 3 rfl) ?_
            refine lv_aload_n hx hb dX1_add_46 rfl (lv_at hl 0 rfl) ?_
            refine va_get (D := (dC, dI)) (ci := 1) (v := .ref b1) (C := RX1) (T := TX1) (N := 8) hx hb hts hin0 hown hK hP 0 rfl rfl 3 (by decide) (hts (.fieldLink RX1 7 "OnlineHullModel" "xs" "[I") (by decide +kernel)) (fun _ h9 => h9) rfl dX1_add_47 ?_
            refine lv_iload_n hx hb dX1_add_50 rfl (lv_at hl 3 rfl) ?_
            refine oh_ald hx hb hK hP 1 0 rfl rfl (k := i) (by omega) (by omega) dX1_add_51 ?_
            refine oh_ast hx hb hK hP hD hS 3 0 rfl rfl (k := i) (by omega) (by omega) dX1_add_52 (fun H locs hP hD hS => ?_)
            have hP : va_P (dC, dI) vwCl [(h, .inr (1, [.int (nI N), .int (nI n), .int pts, .ref b1, .ref b2, .ref b3, .ref b4, .ref b5])), (b1, .inl (cI, 66, .inl xs)), (b2, .inl (cI, 66, .inl ys)), (b3, .inl (cI, 66, .inl (upd px9 i (xs i)))), (b4, .inl (cI, 66, .inl py9)), (b5, .inl (cI, 67, .inl rd))] H := hP
            have hD : va_D A [(h, .inr (1, [.int (nI N), .int (nI n), .int pts, .ref b1, .ref b2, .ref b3, .ref b4, .ref b5])), (b1, .inl (cI, 66, .inl xs)), (b2, .inl (cI, 66, .inl ys)), (b3, .inl (cI, 66, .inl (upd px9 i (xs i)))), (b4, .inl (cI, 66, .inl py9)), (b5, .inl (cI, 67, .inl rd))] := hD
            refine lv_aload_n hx hb dX1_add_53 rfl (lv_at hl 0 rfl) ?_
            refine va_get (D := (dC, dI)) (ci := 1) (v := .ref b4) (C := RX1) (T := TX1) (N := 8) hx hb hts hin0 hown hK hP 0 rfl rfl 6 (by decide) (hts (.fieldLink RX1 19 "OnlineHullModel" "py" "[I") (by decide +kernel)) (fun _ h9 => h9) rfl dX1_add_54 ?_
            refine lv_iload_n hx hb dX1_add_57 rfl (lv_at hl 3 rfl) ?_
            refine lv_aload_n hx hb dX1_add_58 rfl (lv_at hl 0 rfl) ?_
            refine va_get (D := (dC, dI)) (ci := 1) (v := .ref b2) (C := RX1) (T := TX1) (N := 8) hx hb hts hin0 hown hK hP 0 rfl rfl 4 (by decide) (hts (.fieldLink RX1 13 "OnlineHullModel" "ys" "[I") (by decide +kernel)) (fun _ h9 => h9) rfl dX1_add_59 ?_
            refine lv_iload_n hx hb dX1_add_62 rfl (lv_at hl 3 rfl) ?_
            refine oh_ald hx hb hK hP 2 0 rfl rfl (k := i) (by omega) (by omega) dX1_add_63 ?_
            refine oh_ast hx hb hK hP hD hS 4 0 rfl rfl (k := i) (by omega) (by omega) dX1_add_64 (fun H locs hP hD hS => ?_)
            have hP : va_P (dC, dI) vwCl [(h, .inr (1, [.int (nI N), .int (nI n), .int pts, .ref b1, .ref b2, .ref b3, .ref b4, .ref b5])), (b1, .inl (cI, 66, .inl xs)), (b2, .inl (cI, 66, .inl ys)), (b3, .inl (cI, 66, .inl (upd px9 i (xs i)))), (b4, .inl (cI, 66, .inl (upd py9 i (ys i)))), (b5, .inl (cI, 67, .inl rd))] H := hP
            have hD : va_D A [(h, .inr (1, [.int (nI N), .int (nI n), .int pts, .ref b1, .ref b2, .ref b3, .ref b4, .ref b5])), (b1, .inl (cI, 66, .inl xs)), (b2, .inl (cI, 66, .inl ys)), (b3, .inl (cI, 66, .inl (upd px9 i (xs i)))), (b4, .inl (cI, 66, .inl (upd py9 i (ys i)))), (b5, .inl (cI, 67, .inl rd))] := hD
            refine lv_iinc (v := nI (i + 1)) (lv' := [(3, .int (nI (i + 1))), (0, .ref h), (1, .int x), (2, .int y)]) hx hb dX1_add_65 hl (k := 3) rfl (nI_1 i) (by decide) rfl (fun ls hl => ?_)
            refine lv_goto (tgt := 33) hx hb dX1_add_68 (by decide) ?_
            exact ih_lc (i + 1) (upd px9 i (xs i)) (upd py9 i (ys i)) (by omega) (by omega) (oh_cpU hC1) (oh_cpU hC2) _ _ hP hD hS ls (lv_sub hl [1, 2, 3, 0] rfl)
      exact lc (n + 1) 0 px py (by omega) (by omega) (fun t ht => by omega) (fun t ht => by omega) _ _ hP hD hS ls (lv_sub hl [1, 2, 3, 0] rfl)
    · have g_16 : 0 < r_13.toInt := oh_nleI0 c_16
      refine lv_aload_n hx hb dX1_add_19 rfl (lv_at hl 0 rfl) ?_
      refine lv_dup hx hb dX1_add_20 rfl ?_
      refine va_get (D := (dC, dI)) (ci := 1) (v := .int pts) (C := RX1) (T := TX1) (N := 8) hx hb hts hin0 hown hK hP 0 rfl rfl 2 (by decide) (hts (.fieldLink RX1 55 "OnlineHullModel" "points" "I") (by decide +kernel)) (fun _ h9 => h9) rfl dX1_add_21 ?_
      refine lv_iconst (v := nI 1) hx hb dX1_add_24 (by decide) ?_
      refine lv_iadd hx hb dX1_add_25 ?_
      refine va_put (D := (dC, dI)) (ci := 1) (v := .int (pts + (nI 1))) (ty := .int) (C := RX1) (T := TX1) (N := 8) hx hb hts hin0 tyX1 tyX1_ok nmX1 hown hK hP hD hS 0 rfl rfl 2 (by decide) (hts (.fieldLink RX1 55 "OnlineHullModel" "points" "I") (by decide +kernel)) (fun _ h9 => h9) rfl (by decide +kernel) rfl rfl (Nat.le_of_ble_eq_true rfl) dX1_add_26 (fun H locs hP hD hS => ?_)
      have hP : va_P (dC, dI) vwCl [(h, .inr (1, [.int (nI N), .int (nI n), .int (pts + (nI 1)), .ref b1, .ref b2, .ref b3, .ref b4, .ref b5])), (b1, .inl (cI, 66, .inl xs)), (b2, .inl (cI, 66, .inl ys)), (b3, .inl (cI, 66, .inl px)), (b4, .inl (cI, 66, .inl py)), (b5, .inl (cI, 67, .inl rd))] H := hP
      have hD : va_D A [(h, .inr (1, [.int (nI N), .int (nI n), .int (pts + (nI 1)), .ref b1, .ref b2, .ref b3, .ref b4, .ref b5])), (b1, .inl (cI, 66, .inl xs)), (b2, .inl (cI, 66, .inl ys)), (b3, .inl (cI, 66, .inl px)), (b4, .inl (cI, 66, .inl py)), (b5, .inl (cI, 67, .inl rd))] := hD
      refine lv_iconst (v := nI 0) hx hb dX1_add_29 (by decide) ?_
      exact W.iret (v := nI 0) hx hb hr (fun t ht hW => ⟨⟨_, (xs, ys, px, py, rd, n, pts + (nI 1)), rfl, ⟨_, _, _, _, _, _, _, rfl, Or.inr ⟨b_2, r_13, hpl, Or.inl ⟨by omega, rfl, rfl, rfl, rfl, rfl⟩⟩⟩, by rw [ht]; exact hP, va_K.moved hW.alike hK, hD⟩, hS.F ht⟩) hS.2.2 dX1_add_30
  · refine lv_if_ne (tgt := 10) hx hb dX1_add_5 (by decide) (fun q => absurd q (by decide)) (fun _ => ?_)
    refine lv_iconst (v := -1) hx hb dX1_add_8 (by decide) ?_
    exact W.iret (v := -1) hx hb hr (fun t ht hW => ⟨⟨_, (xs, ys, px, py, rd, n, pts), rfl, ⟨_, _, _, _, _, _, _, rfl, Or.inl ⟨b_2, rfl, rfl, rfl, rfl, rfl⟩⟩, by rw [ht]; exact hP, va_K.moved hW.alike hK, hD⟩, hS.F ht⟩) hS.2.2 dX1_add_9
end
section
/-! the same corners, the same answers -/
section
variable {n : Nat} {P P' : Nat → Int × Int} {q : Int × Int}
theorem oh_c_sd (h : ∀ i, i < n → P i = P' i) {i : Nat} (hi : i < n) : oh_sd n P q i = oh_sd n P' q i := by
  unfold oh_sd; rw [h i hi, h _ (oh_nx_lt hi)]
theorem oh_c_G (h : ∀ i, i < n → P i = P' i) : oh_G n P q = oh_G n P' q := by
  funext i
  unfold oh_G
  by_cases e : i < n
  · rw [if_pos e, if_pos e]; exact h i e
  · rw [if_neg e, if_neg e]
theorem oh_c_plR (h : ∀ i, i < n → P i = P' i) {r : Int32} (g : oh_plR n P q r) : oh_plR n P' q r := by
  rcases g with ⟨e, j, hj, g⟩ | ⟨e, g, j, hj, g2⟩ | ⟨e, g⟩
  · exact Or.inl ⟨e, j, hj, by rw [← oh_c_sd h hj]; exact g⟩
  · exact Or.inr (Or.inl ⟨e, fun i hi => by rw [← oh_c_sd h hi]; exact g i hi, j, hj, by rw [← oh_c_sd h hj]; exact g2⟩)
  · exact Or.inr (Or.inr ⟨e, fun i hi => by rw [← oh_c_sd h hi]; exact g i hi⟩)
theorem oh_c_on (h : ∀ i, i < n → P i = P' i) (h1 : 1 ≤ n) : oh_on n P q ↔ oh_on n P' q := by
  unfold oh_on
  rw [oh_c_sd h (show 0 < n by omega), h 0 (by omega), h (n - 1) (by omega)]
theorem oh_c_pl3 (h : ∀ i, i < n → P i = P' i) {r : Int32} (g : oh_pl3 n P q r) : oh_pl3 n P' q r := by
  rcases g with g | ⟨h1, h2, g⟩ | ⟨h3, g⟩
  · exact Or.inl g
  · refine Or.inr (Or.inl ⟨h1, h2, ?_⟩)
    unfold oh_plL at *
    rw [← oh_c_on h h1]
    exact g
  · exact Or.inr (Or.inr ⟨h3, oh_c_plR h g⟩)
theorem oh_c_fs (h : ∀ i, i < n → P i = P' i) {b : Int} {r : Int32} (g : oh_fs n P q b r) : oh_fs n P' q b r := by
  rcases g with ⟨i, hi, e, g1, g2⟩ | ⟨e, g⟩
  · exact Or.inl ⟨i, hi, e, by rw [← oh_c_sd h hi]; exact g1, by rw [← oh_c_sd h (oh_pv_lt hi)]; exact g2⟩
  · exact Or.inr ⟨e, fun i hi => by rw [← oh_c_sd h hi, ← oh_c_sd h (oh_pv_lt hi)]; exact g i hi⟩
theorem oh_c_la (h : ∀ i, i < n → P i = P' i) {b : Int} {r : Int32} (g : oh_la n P q b r) : oh_la n P' q b r := by
  rcases g with ⟨i, hi, e, g1, g2⟩ | ⟨e, g⟩
  · exact Or.inl ⟨i, hi, e, by rw [← oh_c_sd h hi]; exact g1, by rw [← oh_c_sd h (oh_pv_lt hi)]; exact g2⟩
  · exact Or.inr ⟨e, fun i hi => by rw [← oh_c_sd h hi, ← oh_c_sd h (oh_pv_lt hi)]; exact g i hi⟩
theorem oh_c_out (h : ∀ i, i < n → P i = P' i) : (∃ j, j < n ∧ oh_sd n P q j < 0) → ∃ j, j < n ∧ oh_sd n P' q j < 0 := by
  rintro ⟨j, hj, g⟩
  exact ⟨j, hj, by rw [← oh_c_sd h hj]; exact g⟩
theorem oh_c_tan (h : ∀ i, i < n → P i = P' i) {x y wh r : Int32} (g : oh_tan n P x y wh r) : oh_tan n P' x y wh r := by
  rcases g with ⟨h3, hq, ho, g⟩ | ⟨e, g⟩
  · refine Or.inl ⟨h3, hq, oh_c_out h ho, ?_⟩
    rcases g with ⟨e, g⟩ | ⟨e, g⟩
    · exact Or.inl ⟨e, oh_c_fs h g⟩
    · exact Or.inr ⟨e, oh_c_la h g⟩
  · exact Or.inr ⟨e, fun w => g ⟨w.1, w.2.1, oh_c_out (fun i hi => (h i hi).symm) w.2.2.1, w.2.2.2⟩⟩
theorem oh_c_far (h : ∀ i, i < n → P i = P' i) {x y r : Int32} (g : oh_far n P x y r) : oh_far n P' x y r := by
  have e : ∀ j, j < n → oh_rc P x.toInt y.toInt j = oh_rc P' x.toInt y.toInt j := fun j hj => by unfold oh_rc; rw [h j hj]
  rcases g with g | ⟨hq, b, hb, e1, g1, g2⟩
  · exact Or.inl g
  · exact Or.inr ⟨hq, b, hb, e1, fun j hj => by rw [← e j hj, ← e b hb]; exact g1 j hj, fun j hj => by rw [← e j (by omega), ← e b hb]; exact g2 j hj⟩
theorem oh_c_dia (h : ∀ i, i < n → P i = P' i) {r : Int32} (g : oh_dia n P r) : oh_dia n P' r := by
  obtain ⟨g0, g1, g2⟩ := g
  refine ⟨g0, fun a b h1 h2 => by rw [← h a (by omega), ← h b h2]; exact g1 a b h1 h2, ?_⟩
  rcases g2 with e | ⟨a, b, h1, h2, e⟩
  · exact Or.inl e
  · exact Or.inr ⟨a, b, h1, h2, by rw [← h a (by omega), ← h b h2]; exact e⟩
theorem oh_c_ar (h : ∀ i, i < n → P i = P' i) : ∀ k, k + 2 ≤ n → oh_ar P k = oh_ar P' k := by
  intro k
  induction k with
  | zero => intro _; rfl
  | succ k ih =>
    intro hk
    show oh_ar P k + _ = oh_ar P' k + _
    rw [ih (by omega), h 0 (by omega), h (k + 1) (by omega), h (k + 2) (by omega)]
theorem oh_c_ar2 (h : ∀ i, i < n → P i = P' i) : oh_ar P (n - 2) = oh_ar P' (n - 2) := by
  by_cases e : 2 ≤ n
  · exact oh_c_ar h (n - 2) (by omega)
  · rw [show n - 2 = 0 by omega]; rfl
theorem oh_c_hull (h : ∀ i, i < n → P i = P' i) (g : oh_hull n P) : oh_hull n P' := by
  refine ⟨fun i j k h1 h2 h3 => ?_, fun i h1 h2 => ?_⟩
  · rw [← h i (by omega), ← h j (by omega), ← h k h3]; exact g.1 i j k h1 h2 h3
  · rw [← h 0 (by omega), ← h i h2]; exact g.2 i h1 h2
theorem oh_c_step (h : ∀ i, i < n → P i = P' i) {m : Nat} {ρ : Nat → Nat} (g : oh_step n P q m ρ) : oh_step n P' q m ρ := by
  unfold oh_step at *
  rw [← oh_c_G h]; exact g
/-! uniqueness -/
theorem oh_u_pl3 {r s : Int32} (g : oh_pl3 n P q r) (k : oh_pl3 n P q s) : r = s := by
  rcases g with ⟨e, g⟩ | ⟨h1, h2, g⟩ | ⟨h3, g⟩ <;> rcases k with ⟨e', k⟩ | ⟨h1', h2', k⟩ | ⟨h3', k⟩ <;> (try omega)
  · rw [g, k]
  · rcases g with ⟨e, g⟩ | ⟨e, g⟩ <;> rcases k with ⟨e', k⟩ | ⟨e', k⟩
    · rw [e, e']
    · exact absurd g k
    · exact absurd k g
    · rw [e, e']
  · rcases g with ⟨e, j, hj, g⟩ | ⟨e, g, j, hj, g2⟩ | ⟨e, g⟩ <;> rcases k with ⟨e', i, hi, k⟩ | ⟨e', k, i, hi, k2⟩ | ⟨e', k⟩
    · rw [e, e']
    · have := k j hj; omega
    · have := k j hj; omega
    · have := g i hi; omega
    · rw [e, e']
    · have := k j hj; omega
    · have := g i hi; omega
    · have := g i hi; omega
    · rw [e, e']
theorem oh_u_far {x y r s : Int32} (g : oh_far n P x y r) (k : oh_far n P x y s) : r = s := by
  rcases g with ⟨e, g⟩ | ⟨hq, b, hb, e1, g1, g2⟩ <;> rcases k with ⟨e', k⟩ | ⟨hq', b', hb', e1', k1, k2⟩
  · rw [g, k]
  · rcases e with e | e
    · omega
    · exact absurd hq' e
  · rcases e' with e | e
    · omega
    · exact absurd hq e
  · rw [e1, e1']
    have a1 := g1 b' hb'
    have a2 := k1 b hb
    rcases Nat.lt_trichotomy b b' with w | w | w
    · have := k2 b w; omega
    · rw [w]
    · have := g2 b' w; omega
theorem oh_u_dia {r s : Int32} (g : oh_dia n P r) (k : oh_dia n P s) : r = s := by
  obtain ⟨g0, g1, g2⟩ := g
  obtain ⟨k0, k1, k2⟩ := k
  apply Int32.toInt_inj.mp
  have a : r.toInt ≤ s.toInt := by
    rcases g2 with e | ⟨a, b, h1, h2, e⟩
    · omega
    · rw [e]; exact k1 a b h1 h2
  have b : s.toInt ≤ r.toInt := by
    rcases k2 with e | ⟨a, b, h1, h2, e⟩
    · omega
    · rw [e]; exact g1 a b h1 h2
  omega
theorem oh_u_tan (hh : oh_hull n P) {x y wh r s : Int32} (g : oh_tan n P x y wh r) (k : oh_tan n P x y wh s) : r = s := by
  have n01 : (0 : Int32) ≠ 1 := by decide
  rcases g with ⟨h3, hq, ho, g⟩ | ⟨e, g⟩ <;> rcases k with ⟨h3', hq', ho', k⟩ | ⟨e', k⟩
  · rcases g with ⟨e, g⟩ | ⟨e, g⟩ <;> rcases k with ⟨e', k⟩ | ⟨e', k⟩
    · rcases g with ⟨i, hi, e1, g1, g2⟩ | ⟨e1, g⟩ <;> rcases k with ⟨j, hj, e2, k1, k2⟩ | ⟨e2, k⟩
      · rw [e1, e2, oh_uFS hh.1 h3 hi g1 g2 hj k1 k2]
      · exact absurd ⟨g1, g2⟩ (k i hi)
      · exact absurd ⟨k1, k2⟩ (g j hj)
      · rw [e1, e2]
    · exact absurd (e.symm.trans e') n01
    · exact absurd (e'.symm.trans e) n01
    · rcases g with ⟨i, hi, e1, g1, g2⟩ | ⟨e1, g⟩ <;> rcases k with ⟨j, hj, e2, k1, k2⟩ | ⟨e2, k⟩
      · rw [e1, e2, oh_uLS hh.1 h3 hi g1 g2 hj k1 k2]
      · exact absurd ⟨g1, g2⟩ (k i hi)
      · exact absurd ⟨k1, k2⟩ (g j hj)
      · rw [e1, e2]
  · exact absurd ⟨h3, hq, ho, by rcases g with w | w; exact Or.inl w.1; exact Or.inr w.1⟩ k
  · exact absurd ⟨h3', hq', ho', by rcases k with w | w; exact Or.inl w.1; exact Or.inr w.1⟩ g
  · rw [e, e']
end
/-- the state that both sides share -/
def oh_inv (N n : Nat) (fx fy xs ys : Nat → Int32) : Prop := N ≤ 64 ∧ 3 ≤ N ∧ n ≤ N ∧ (∀ j, j < n → oh_inR (fx j) (fy j)) ∧ oh_hull n (oh_pt fx fy) ∧ ∀ i, i < n → xs i = fx i ∧ ys i = fy i
theorem oh_invP {N n : Nat} {fx fy xs ys : Nat → Int32} (h : oh_inv N n fx fy xs ys) : ∀ i, i < n → oh_pt xs ys i = oh_pt fx fy i := by
  intro i hi
  have := h.2.2.2.2.2 i hi
  unfold oh_pt
  rw [this.1, this.2]
theorem oh_invR {N n : Nat} {fx fy xs ys : Nat → Int32} (h : oh_inv N n fx fy xs ys) : ∀ j, j < n → oh_inR (xs j) (ys j) := by
  intro i hi
  have := h.2.2.2.2.2 i hi
  rw [this.1, this.2]
  exact h.2.2.2.1 i hi
theorem oh_invH {N n : Nat} {fx fy xs ys : Nat → Int32} (h : oh_inv N n fx fy xs ys) : oh_hull n (oh_pt xs ys) := oh_c_hull (fun i hi => (oh_invP h i hi).symm) h.2.2.2.2.1
/-- what add did, with the ring named -/
def oh_addK (N n m : Nat) (ρ : Nat → Nat) (fx fy rx ry : Nat → Int32) (came x y r : Int32) (u : (Nat → Int32) × (Nat → Int32) × (Nat → Int32) × (Nat → Int32) × Nat × Int32) : Prop :=
  (¬ oh_inR x y ∧ r = -1 ∧ u = (fx, fy, rx, ry, n, came)) ∨ (oh_inR x y ∧ ∃ pl, oh_pl3 n (oh_pt fx fy) (x.toInt, y.toInt) pl ∧
    ((pl.toInt ≠ 0 ∧ r = 0 ∧ u = (fx, fy, rx, ry, n, came + nI 1)) ∨ (pl.toInt = 0 ∧ oh_step n (oh_pt fx fy) (x.toInt, y.toInt) m ρ ∧
      ((m ≤ N ∧ r = nI (n + 2 - m) ∧ ∃ gx gy rx9 ry9, u = (gx, gy, rx9, ry9, m, came + nI 1) ∧ oh_arr n m ρ fx fy x y gx gy) ∨ (N < m ∧ r = -2 ∧ u = (fx, fy, rx, ry, n, came))))))
theorem oh_addpick {N n : Nat} {fx fy rx ry xs ys : Nat → Int32} {came x y r : Int32} {u : (Nat → Int32) × (Nat → Int32) × (Nat → Int32) × (Nat → Int32) × Nat × Int32} (hi : oh_inv N n fx fy xs ys) (h : oh_addC N n fx fy rx ry came x y r u) : ∃ m ρ, oh_addK N n m ρ fx fy rx ry came x y r u ∧ ∀ pl, oh_pl3 n (oh_pt xs ys) (x.toInt, y.toInt) pl → pl.toInt = 0 → oh_inR x y → oh_step n (oh_pt xs ys) (x.toInt, y.toInt) m ρ := by
  rcases h with h | ⟨hq, pl, hpl, h⟩
  · exact ⟨0, fun _ => 0, Or.inl h, fun pl _ _ w => absurd w h.1⟩
  · rcases h with h | ⟨h0, m, ρ, hst, h⟩
    · refine ⟨0, fun _ => 0, Or.inr ⟨hq, pl, hpl, Or.inl h⟩, fun pl2 w1 w2 _ => ?_⟩
      rw [oh_u_pl3 (oh_c_pl3 (oh_invP hi) w1) hpl] at w2
      exact absurd w2 h.1
    · exact ⟨m, ρ, Or.inr ⟨hq, pl, hpl, Or.inr ⟨h0, hst, h⟩⟩, fun _ _ _ _ => oh_c_step (fun i w => (oh_invP hi i w).symm) hst⟩
theorem oh_addEq {N n m : Nat} {ρ : Nat → Nat} {fx fy rx ry xs ys gx gy rx2 ry2 hx9 hy9 p1 p2 p3 : Nat → Int32} {came x y r s c9 d9 : Int32} {m1 m2 : Nat} (hi : oh_inv N n fx fy xs ys) (h : oh_addK N n m ρ fx fy rx ry came x y r (gx, gy, rx2, ry2, m1, c9)) (k : oh_addM N n m ρ xs ys came x y s (hx9, hy9, p1, p2, p3, m2, d9)) : r = s ∧ m2 = m1 ∧ d9 = c9 ∧ oh_inv N m1 gx gy hx9 hy9 := by
  obtain ⟨qx, qy, q1, q2, q3, q4, q5, e, k⟩ := k
  simp only [Prod.mk.injEq] at e
  obtain ⟨rfl, rfl, rfl, rfl, rfl, rfl, rfl⟩ := e
  rcases h with ⟨hq, e, h⟩ | ⟨hq, pl, hpl, h⟩
  · simp only [Prod.mk.injEq] at h
    obtain ⟨rfl, rfl, rfl, rfl, rfl, rfl⟩ := h
    rcases k with ⟨-, e2, rfl, rfl, rfl, rfl⟩ | ⟨w, -⟩
    · exact ⟨e.trans e2.symm, rfl, rfl, hi⟩
    · exact absurd w hq
  · rcases k with ⟨w, -⟩ | ⟨-, pl2, hpl2, k⟩
    · exact absurd hq w
    · have epl := oh_u_pl3 (oh_c_pl3 (oh_invP hi) hpl2) hpl
      subst epl
      rcases h with ⟨h0, e, h⟩ | ⟨h0, hst, h⟩ <;> rcases k with ⟨k0, e2, k⟩ | ⟨k0, k⟩
      · simp only [Prod.mk.injEq] at h
        obtain ⟨rfl, rfl, rfl, rfl, rfl, rfl⟩ := h
        obtain ⟨rfl, rfl, rfl, rfl⟩ := k
        exact ⟨e.trans e2.symm, rfl, rfl, hi⟩
      · exact absurd k0 h0
      · exact absurd h0 k0
      · rcases h with ⟨hm, e, ax, ay, ar, as, h, ha⟩ | ⟨hm, e, h⟩ <;> rcases k with ⟨km, e2, k⟩ | ⟨km, e2, k⟩
        · simp only [Prod.mk.injEq] at h
          obtain ⟨rfl, rfl, rfl, rfl, rfl, rfl⟩ := h
          obtain ⟨rfl, rfl, ka⟩ := k
          refine ⟨e.trans e2.symm, rfl, rfl, hi.1, hi.2.1, hm, ?_, ?_, ?_⟩
          · intro j hj
            rw [(ha j hj).1, (ha j hj).2]
            unfold oh_g
            by_cases w : ρ j < n
            · rw [if_pos w, if_pos w]; exact hi.2.2.2.1 _ w
            · rw [if_neg w, if_neg w]; exact hq
          · have eG : ∀ t, t < m2 → oh_G n (oh_pt fx fy) (x.toInt, y.toInt) (ρ t) = oh_pt gx gy t := by
              intro t ht
              rw [← oh_gG]
              unfold oh_pt
              rw [(ha t ht).1, (ha t ht).2]
            refine oh_c_hull (P := fun t => oh_G n (oh_pt fx fy) (x.toInt, y.toInt) (ρ t)) eG ⟨hst.2, fun i h1 h2 => ?_⟩
            rcases hst.1 with ⟨-, e1, -⟩ | ⟨-, g1, g2, g3, g4, g5, g6⟩
            · omega
            · exact g6 _ (g3 i h2) (fun w => g4 0 i h1 h2 w.symm)
          · intro t ht
            rw [(ha t ht).1, (ha t ht).2, (ka t ht).1, (ka t ht).2]
            unfold oh_g
            by_cases w : ρ t < n
            · rw [if_pos w, if_pos w, if_pos w, if_pos w]; exact hi.2.2.2.2.2 _ w
            · rw [if_neg w, if_neg w, if_neg w, if_neg w]; exact ⟨rfl, rfl⟩
        · omega
        · omega
        · simp only [Prod.mk.injEq] at h
          obtain ⟨rfl, rfl, rfl, rfl, rfl, rfl⟩ := h
          obtain ⟨rfl, rfl, rfl, rfl⟩ := k
          exact ⟨e.trans e2.symm, rfl, rfl, hi⟩
end
section
/-! the rest of a division by 62; new rows -/
def oh_md (x : Int32) : Nat := (x.toInt % 62).toNat
theorem oh_md_lt (x : Int32) : oh_md x < 62 := by unfold oh_md; omega
theorem oh_tm (a : Int) : -62 < a.tmod 62 ∧ a.tmod 62 < 62 ∧ (0 ≤ a.tmod 62 → (0 ≤ a ∨ a.tmod 62 = 0)) ∧ (0 ≤ a.tmod 62 → a.tmod 62 = a % 62) ∧ (a.tmod 62 < 0 → a < 0 ∧ a.tmod 62 + 62 = a % 62) ∧ a - a.tdiv 62 * 62 = a.tmod 62 ∧ (a.tdiv 62 * 62 ≤ a ∨ a ≤ 0) ∧ (0 ≤ a → 0 ≤ a.tdiv 62) ∧ (a ≤ 0 → a ≤ a.tdiv 62 * 62 ∧ a.tdiv 62 ≤ 0) := by
  rcases oh_lg a 0 with h | h
  · obtain ⟨b, rfl⟩ : ∃ b, a = -b := ⟨-a, by omega⟩
    rw [Int.neg_tmod, Int.neg_tdiv, Int.tmod_eq_emod_of_nonneg (by omega), Int.tdiv_eq_ediv_of_nonneg (by omega)]
    omega
  · rw [Int.tmod_eq_emod_of_nonneg h, Int.tdiv_eq_ediv_of_nonneg h]
    omega
theorem oh_rem {x t : Int32} (e : t = x - x / nI 62 * nI 62) : t.toInt = x.toInt.tmod 62 := by
  have h62 : (nI 62).toInt = 62 := by decide
  have k := oh_tm x.toInt
  have b1 := x.toInt_lt
  have b2 := x.le_toInt
  have e1 : (x / nI 62).toInt = x.toInt.tdiv 62 := by
    rw [Int32.toInt_div_of_ne_right _ _ (by decide), h62]
  have e2 : (x / nI 62 * nI 62).toInt = x.toInt.tdiv 62 * 62 := by
    rw [oh_mul (by rw [e1, h62]; omega) (by rw [e1, h62]; omega), e1, h62]
  rw [e, oh_sub (by rw [e2]; omega) (by rw [e2]; omega), e2]
  omega
theorem oh_xs (x : Int32) : (x ^^^ nI 62).toInt < 0 ↔ x.toInt < 0 := by
  have a : ∀ y : Int32, y.toInt < 0 ↔ y.toBitVec.msb = true := fun y => by
    rw [BitVec.msb_eq_toInt, decide_eq_true_iff]; rfl
  rw [a, a, Int32.toBitVec_xor, BitVec.msb_xor, show (nI 62).toBitVec.msb = false by decide, Bool.xor_false]
theorem oh_md2 {x t : Int32} (h : t.toInt = x.toInt.tmod 62) (h0 : 0 ≤ t.toInt) : t = nI (oh_md x) := by
  have k := oh_tm x.toInt
  apply Int32.toInt_inj.mp
  rw [nI_toInt (by have := oh_md_lt x; omega)]
  unfold oh_md
  omega
theorem oh_md3 {x t : Int32} (h : t.toInt = x.toInt.tmod 62) (h0 : t.toInt < 0) : t + nI 62 = nI (oh_md x) := by
  have k := oh_tm x.toInt
  have h62 : (nI 62).toInt = 62 := by decide
  apply Int32.toInt_inj.mp
  rw [nI_toInt (by have := oh_md_lt x; omega), oh_add (by omega) (by omega)]
  unfold oh_md
  omega
section
variable {p : Program} {l : Launch} {e : Env} {R : Room} {s : State} {m : MethodId} {args : Array Value} {below : List Frame} {meth : Method} {c : Code} {H : Heap} {locs : List Loc} {cells slots : Nat} {Q : State → Prop}
variable {cc : ByteArray} {pc : Nat} {ls : Array Slot} {rest : List Value} {D : va_G} {cl : List vw_C} {A : Nat → Prop} {ws : va_W} {H0 : Heap}
theorem oh_newa (hexec : p.tables.exec = Jvm.exec) (hb : c.code = cc) {cI : ClassId} (harr : (Cond.arrayClass .int).before args s = true) (hK : va_K D cl [(cI, .int)] s) (hP : va_P D cl ws H) (hD : va_D A ws) (hS : va_S A H0 H locs) (hA : ∀ q, H0.size ≤ q → A q) {k : Nat} (hk : k ≤ 1000) (hcells : cells + 1 ≤ R.cells) (hslots : slots + k ≤ R.slots) (hdg : decode cc pc = .ok (.newarray .int, 2))
    (kk : ∀ (q : Nat) (H1 : Heap), va_P D cl (ws ++ [(q, .inl (cI, k, .inl (fun _ => (0 : Int32))))]) H1 → va_D A (ws ++ [(q, .inl (cI, k, .inl (fun _ => (0 : Int32))))]) → va_S A H0 H1 locs → W p l e R s m args below meth c H1 locs (cells + 1) (slots + k) Q (F0 m (pc + 2) ls (.ref q :: rest))) : W p l e R s m args below meth c H locs cells slots Q (F0 m pc ls (.int (nI k) :: rest)) := by
  refine va_newa (atype := ArrayType.int) (n := nI k) (N' := k) (a0 := (k, .inl (fun _ => (0 : Int32)))) (ty := .int) hexec hb harr rfl hK hP hD hS hA (fun cA => rfl) (nI_pos (by omega)) (nI_clamp (by omega)) (by show k * 4 ≤ _; omega) hcells hslots hdg (fun q cA H1 hK1 hP1 hD1 hS1 => ?_)
  have e1 : s.vm.findClass ("[" ++ (FieldType.int).toString) = some cI := (hK.2 0 (cI, .int) rfl).2
  have e2 : s.vm.findClass ("[" ++ (FieldType.int).toString) = some cA := (hK1.2 1 (cA, .int) rfl).2
  have e3 : cI = cA := Option.some.inj (e1.symm.trans e2)
  subst e3
  exact kk q H1 hP1 hD1 hS1
end
theorem oh_preI {s : State} {H : Heap} {D : va_G} {cl : List vw_C} {wc : va_W} {tys : List (ClassId × FieldType)} {A : Nat → Prop} {av : List Value} (hK : va_K D cl tys s) (hP : va_P D cl wc H) (hD : va_D A wc) : PreS s H (va_Pc av (fun U => U.heap.size = H.size ∧ va_P D cl wc U.heap ∧ va_K D cl tys U ∧ va_D (fun _ => True) wc)) av :=
  ⟨oh_blM, fun U hU hW => ⟨rfl, by rw [hU], by rw [hU]; exact hP, va_K.moved hW.alike hK, hD.weaken (fun _ _ _ _ => trivial)⟩⟩
section
variable {p : Program} {l : Launch} {e : Env} {R : Room} {s : State} {m : MethodId} {args : Array Value} {below : List Frame} {meth : Method} {c : Code} {H : Heap} {locs : List Loc} {cells slots : Nat} {Q : State → Prop}
variable {cc : ByteArray} {pc : Nat} {ls : Array Slot} {rest : List Value} {A : Nat → Prop} {H0 : Heap}
theorem oh_sld (hexec : p.tables.exec = Jvm.exec) (hb : c.code = cc) {b L : Nat} {xs : Nat → Int32} (hX : va_X b L xs s H0) (hbl : b < H0.size) (hbA : ¬ A b) (hS : va_S A H0 H locs) {k : Nat} (hk : k < L) (hL : L < 2 ^ 31) (hdg : decode cc pc = .ok (.iaload, 1))
    (kk : W p l e R s m args below meth c H locs cells slots Q (F0 m (pc + 1) ls (.int (xs k) :: rest))) : W p l e R s m args below meth c H locs cells slots Q (F0 m pc ls (.int (nI k) :: .ref b :: rest)) := by
  refine va_sld hexec hb hX hbl hbA hS (vp_in_nI hk hL) hdg ?_
  rw [nI_clamp (Nat.lt_trans hk hL)]
  exact kk
end
def oh_cell (L : Nat) (xs : Nat → Int32) : Int32 := if 0 < L then xs 0 else 0
theorem oh_blX {av : List Value} {b L : Nat} {xs : Nat → Int32} : FrameBlind (va_Pc av (fun U => va_X b L xs U U.heap)) := by
  intro a U g mk q
  obtain ⟨q0, scr, h1, h2, h3, h4, h5⟩ := q
  exact ⟨q0, scr, h1, State.isArrayOf_alike (s := U) (T := U.calling g mk a) (Vm.Alike.refl U.vm) h2, h3, h4, h5⟩
theorem oh_preX {s : State} {H H0 : Heap} {av : List Value} {A : Nat → Prop} {locs : List Loc} {b L : Nat} {xs : Nat → Int32} (hX : va_X b L xs s H0) (hbl : b < H0.size) (hbA : ¬ A b) (hS : va_S A H0 H locs) : PreS s H (va_Pc av (fun U => va_X b L xs U U.heap)) av := by
  refine ⟨oh_blX, fun U hU hW => ⟨rfl, ?_⟩⟩
  obtain ⟨scr, h1, h2, h3, h4, h5⟩ := hX
  exact ⟨scr, by rw [hU, hS.2.1 b hbl hbA]; exact h1, State.isArrayOf_alike hW.alike h2, h3, h4, h5⟩
/-- a contract by a walk, also of a method beside which the machine runs some members by entries, if it has no entry for this one -/
theorem oh_ofWF {l : Launch} {y : MethodName} {ws ws' : List Cond} {rm : Room} {Pc : Array Value → State → Prop} {Qc : Array Value → State → Outcome → State → Prop} {mc ms : Nat} {free : Addr → Prop} {cc : ByteArray} {maxL : Nat} {ret : Option FieldType}
    (hy : plainFor y = true) (hw : ws = Cond.code y cc maxL ret :: ws')
    (body : ∀ p e s m args below meth c s₁, BodyLoose p l y (headSpec ws rm) cc maxL ret e s m args below meth c s₁ → c.maxLocals = maxL → Pc args s →
      W p l e (headSpec ws rm).room s m args below meth c s.heap [] 0 0 (MQ below Qc args s mc ms free) (entryFrame m args maxL)) : Met l y ws rm Pc Qc mc ms free := by
  refine MetFree.of_bodySF (code := cc) (maxLocals := maxL) (ret := ret) hy ?_ ?_
  · intro args s m h hn
    obtain ⟨meth, c, h1, h2, h3, h4, h5, h6, -, -⟩ := Cond.code_spec hn (atoms_spec (ws := ws) h _ (by rw [hw]; exact List.mem_cons_self))
    exact ⟨meth, c, h1, h2, h3, h4, h5, h6⟩
  · intro p e s m args below meth c s₁ B hml hP _
    have hh0 : s₁.heap = s.heap := by rw [B.state]; rfl
    obtain ⟨t, a1, o, b1, b2, b3⟩ := body p e s m args below meth c s₁ B hml hP s₁ hh0 (Stand.of_body B)
    exact ⟨t, o, a1, b1, b2, ⟨b3.1, b3.2⟩⟩
end
section
set_option maxHeartbeats 4000000 in
set_option maxRecDepth 100000 in
theorem k_J9_floorMod_7cf53 (l : Launch) (x : Int32) : Met l yJ9_floorMod_7cf53 wsJ9_floorMod_7cf53 ({ frames := 0, cells := 0, slots := 0, locals := 0 }) (va_Pc [.int x, .int (nI 62)] (fun _ => True)) (vp_Si (fun r => r = nI (oh_md x))) 0 0 (fun _ => False) := by
  refine oh_ofWF (cc := cJ9_floorMod_7cf53) (maxL := 3) (ret := (some .int)) (by decide +kernel) rfl ?_
  intro p e s m args below meth c s₁ B hml hv
  obtain ⟨rfl, -⟩ := hv
  have hx := B.exec
  have hb := B.bytes
  have hr := B.returns
  have hts := atoms_spec (ws := wsJ9_floorMod_7cf53) B.pre
  have hlocks := B.notSynchronized
  have hl := lv_entry ([.int x, .int (nI 62)]) (n := 3) (Nat.le_of_ble_eq_true rfl)
  rw [lg_entry_eq]
  generalize (lg_sl ([.int x, .int (nI 62)]) ++ List.replicate (3 - (lg_sl ([.int x, .int (nI 62)])).length) Slot.unset).toArray = ls at hl ⊢
  have hl : lv_has ls 3 [(0, .int x), (1, .int (nI 62))] := hl
  refine lv_iload_n hx hb dJ9_floorMod_7cf53_0 rfl (lv_at hl 0 rfl) ?_
  refine lv_iload_n hx hb dJ9_floorMod_7cf53_1 rfl (lv_at hl 1 rfl) ?_
  refine lv_irem hx hb dJ9_floorMod_7cf53_2 (by decide) ?_
  refine lv_topi (fun t_2 e_2 => ?_)
  have w_2 := oh_rem e_2
  refine lv_istore_n (lv' := [(2, .int t_2), (0, .int x), (1, .int (nI 62))]) hx hb dJ9_floorMod_7cf53_3 rfl hl (by decide) rfl (fun ls hl => ?_)
  refine lv_iload_n hx hb dJ9_floorMod_7cf53_4 rfl (lv_at hl 1 rfl) ?_
  refine lv_iload_n hx hb dJ9_floorMod_7cf53_5 rfl (lv_at hl 2 rfl) ?_
  refine lv_ixor hx hb dJ9_floorMod_7cf53_6 ?_
  refine lv_if_ge (tgt := 18) hx hb dJ9_floorMod_7cf53_7 (by decide) (fun c_7 => ?_) (fun c_7 => ?_)
  · have g_7 : 0 ≤ (x ^^^ (nI 62)).toInt := oh_leI0r c_7
    have h7 : ¬ x.toInt < 0 := fun q => by have := (oh_xs x).mpr q; omega
    refine lv_iload_n hx hb dJ9_floorMod_7cf53_18 rfl (lv_at hl 0 rfl) ?_
    exact W.iret (v := t_2) hx hb hr (fun t ht hW => ⟨_, rfl, oh_md2 w_2 (by have := oh_tm x.toInt; omega), ht⟩) (fun _ h => by cases h) dJ9_floorMod_7cf53_19
  · have g_7 : (x ^^^ (nI 62)).toInt < 0 := oh_nleI0r c_7
    have h7 : x.toInt < 0 := (oh_xs x).mp g_7
    refine lv_iload_n hx hb dJ9_floorMod_7cf53_10 rfl (lv_at hl 0 rfl) ?_
    refine lv_if_eq (tgt := 18) hx hb dJ9_floorMod_7cf53_11 (by decide) (fun c_11 => ?_) (fun c_11 => ?_)
    · have g_11 : t_2.toInt = 0 := oh_eqI0 c_11
      refine lv_iload_n hx hb dJ9_floorMod_7cf53_18 rfl (lv_at hl 0 rfl) ?_
      exact W.iret (v := t_2) hx hb hr (fun t ht hW => ⟨_, rfl, oh_md2 w_2 (by have := oh_tm x.toInt; omega), ht⟩) (fun _ h => by cases h) dJ9_floorMod_7cf53_19
    · have g_11 : t_2.toInt ≠ 0 := oh_neI0 c_11
      have h11 : t_2.toInt < 0 := by have := oh_tm x.toInt; omega
      refine lv_iload_n hx hb dJ9_floorMod_7cf53_14 rfl (lv_at hl 0 rfl) ?_
      refine lv_iload_n hx hb dJ9_floorMod_7cf53_15 rfl (lv_at hl 2 rfl) ?_
      refine lv_iadd hx hb dJ9_floorMod_7cf53_16 ?_
      exact W.iret (v := t_2 + (nI 62)) hx hb hr (fun t ht hW => ⟨_, rfl, oh_md3 w_2 (by omega), ht⟩) (fun _ h => by cases h) dJ9_floorMod_7cf53_17

set_option maxHeartbeats 4000000 in
set_option maxRecDepth 100000 in
theorem k_X0_init (l : Launch) (dC : Nat → ClassId) (dI : Nat → Nat → Nat) (cI : ClassId) (h sz : Nat) (x : Int32) : Met l yX0_init wsX0_init ({ frames := 1, cells := 4, slots := 256, locals := 22 }) (va_Pc [.ref h, .int x] (fun U => U.heap.size = sz ∧ va_P (dC, dI) vwCl [(h, .inr (0, [.int 0, .null, .null, .null, .null, .int 0, .int 0]))] U.heap ∧ va_K (dC, dI) vwCl [(cI, .int)] U ∧ va_D (fun _ => True) [(h, .inr (0, [.int 0, .null, .null, .null, .null, .int 0, .int 0]))])) (va_Qv (S := Nat × Nat × Nat × Nat) (fun _ => True) (fun u t => va_P (dC, dI) vwCl [(h, .inr (0, [.int (nI (3 + oh_md x)), .ref u.1, .ref u.2.1, .ref u.2.2.1, .ref u.2.2.2, .int (nI 0), .int (nI 0)])), (u.1, .inl (cI, 3 + oh_md x, .inl (fun _ => 0))), (u.2.1, .inl (cI, 3 + oh_md x, .inl (fun _ => 0))), (u.2.2.1, .inl (cI, 3 + oh_md x, .inl (fun _ => 0))), (u.2.2.2, .inl (cI, 3 + oh_md x, .inl (fun _ => 0)))] t.heap ∧ va_K (dC, dI) vwCl [(cI, .int)] t ∧ va_D (va_A [(h, .inr (0, [.int 0, .null, .null, .null, .null, .int 0, .int 0]))] sz) [(h, .inr (0, [.int (nI (3 + oh_md x)), .ref u.1, .ref u.2.1, .ref u.2.2.1, .ref u.2.2.2, .int (nI 0), .int (nI 0)])), (u.1, .inl (cI, 3 + oh_md x, .inl (fun _ => 0))), (u.2.1, .inl (cI, 3 + oh_md x, .inl (fun _ => 0))), (u.2.2.1, .inl (cI, 3 + oh_md x, .inl (fun _ => 0))), (u.2.2.2, .inl (cI, 3 + oh_md x, .inl (fun _ => 0)))]) (va_A [(h, .inr (0, [.int 0, .null, .null, .null, .null, .int 0, .int 0]))] sz)) 4 256 (va_A [(h, .inr (0, [.int 0, .null, .null, .null, .null, .int 0, .int 0]))] sz) := by
  refine Met.ofW (cc := cX0_init) (maxL := 2) (ret := none) (by decide) rfl ?_
  intro p e s m args below meth c s₁ B hml hv
  obtain ⟨rfl, hsz, hP, hK, hD0⟩ := hv
  have hx := B.exec
  have hb := B.bytes
  have hr := B.returns
  have hts := atoms_spec (ws := wsX0_init) B.pre
  have hown : s.vm.findClass RX0 = some m.cls := findClass_of_methodNamed B.named
  have hlocks := B.notSynchronized
  have hin : meth.name = "<init>" := (name_of_methodNamed B.named B.method).1
  have hin0 : ∀ w ∈ wsX00, w ∈ wsX0_init := fun w h => List.mem_cons_of_mem _ (List.mem_append_right _ h)
  subst hsz
  have hD := hD0.self (sz := s.heap.size)
  generalize hAe : va_A [(h, .inr (0, [.int 0, .null, .null, .null, .null, .int 0, .int 0]))] s.heap.size = A at hD ⊢
  have hA : ∀ q : Nat, s.heap.size ≤ q → A q := fun q h => by rw [← hAe]; exact Or.inr h
  have hS : va_S A s.heap s.heap [] := va_S.rf
  have hl := lv_entry ([.ref h, .int x]) (n := 2) (Nat.le_of_ble_eq_true rfl)
  rw [lg_entry_eq]
  generalize (lg_sl ([.ref h, .int x]) ++ List.replicate (2 - (lg_sl ([.ref h, .int x])).length) Slot.unset).toArray = ls at hl ⊢
  have hl : lv_has ls 2 [(0, .ref h), (1, .int x)] := hl
  suffices hgo : ∀ (H : Heap) (locs : List Loc), va_P (dC, dI) vwCl [(h, .inr (0, [.int 0, .null, .null, .null, .null, .int 0, .int 0]))] H → va_D A [(h, .inr (0, [.int 0, .null, .null, .null, .null, .int 0, .int 0]))] → va_S A s.heap H locs → W p l e (headSpec wsX0_init ({ frames := 1, cells := 4, slots := 256, locals := 22 })).room s m ([.ref h, .int x] : List Value).toArray below meth c H locs 0 0 (MQ below (va_Qv (S := Nat × Nat × Nat × Nat) (fun _ => True) (fun u t => va_P (dC, dI) vwCl [(h, .inr (0, [.int (nI (3 + oh_md x)), .ref u.1, .ref u.2.1, .ref u.2.2.1, .ref u.2.2.2, .int (nI 0), .int (nI 0)])), (u.1, .inl (cI, 3 + oh_md x, .inl (fun _ => 0))), (u.2.1, .inl (cI, 3 + oh_md x, .inl (fun _ => 0))), (u.2.2.1, .inl (cI, 3 + oh_md x, .inl (fun _ => 0))), (u.2.2.2, .inl (cI, 3 + oh_md x, .inl (fun _ => 0)))] t.heap ∧ va_K (dC, dI) vwCl [(cI, .int)] t ∧ va_D A [(h, .inr (0, [.int (nI (3 + oh_md x)), .ref u.1, .ref u.2.1, .ref u.2.2.1, .ref u.2.2.2, .int (nI 0), .int (nI 0)])), (u.1, .inl (cI, 3 + oh_md x, .inl (fun _ => 0))), (u.2.1, .inl (cI, 3 + oh_md x, .inl (fun _ => 0))), (u.2.2.1, .inl (cI, 3 + oh_md x, .inl (fun _ => 0))), (u.2.2.2, .inl (cI, 3 + oh_md x, .inl (fun _ => 0)))]) A) ([.ref h, .int x] : List Value).toArray s 4 256 A) (F0 m 0 ls []) from hgo s.heap [] hP hD hS
  clear hP hD hS hD0
  intro H locs hP hD hS
  have hmd := oh_md_lt x
  refine lv_aload_n hx hb dX0_init_0 rfl (lv_at hl 0 rfl) ?_
  refine W.objInit hx hb hown (hts (.methodLink RX0 1 objectInit) (by decide +kernel)) (hts (.instanceMethod objectInit) (by decide +kernel)) (hts _ (List.mem_cons_of_mem _ (List.mem_append_left _ (List.mem_of_getElem? (i := 2) rfl)))) rfl (by rw [hml]; exact hl.1) rfl dX0_init_1 (Nat.le_of_ble_eq_true rfl) (Nat.le_of_ble_eq_true rfl) ?_
  refine W.eq (g2 := F0 m 4 ls []) rfl ?_
  refine lv_aload_n hx hb dX0_init_4 rfl (lv_at hl 0 rfl) ?_
  refine lv_iconst (v := nI 3) hx hb dX0_init_5 (by decide) ?_
  refine lv_iload_n hx hb dX0_init_6 rfl (lv_at hl 1 rfl) ?_
  refine lv_bipush (v := nI 62) hx hb dX0_init_7 (by decide) ?_
  refine vp_callSi (va_Run.run (va_runS (As := [.int x, .int (nI 62)]) (rest := [.int (nI 3), .ref h]) ⟨hx, hb, hml, hown, hts⟩ (k_J9_floorMod_7cf53 l x) (va_cwS 2 hts gX0_init_J9_floorMod_7cf53 rfl rfl rfl (by decide +kernel) ⟨Nat.le_of_ble_eq_true rfl, Nat.le_of_ble_eq_true rfl⟩) oh_pre0 rfl rfl hl.1 rfl (lv_room (Nat.le_of_ble_eq_true rfl)) dX0_init_9 ⟨Nat.zero_le _, Nat.zero_le _⟩)) (fun r_9 hr_9 => ?_)
  subst hr_9
  refine lv_iadd hx hb dX0_init_12 ?_
  rw [nI_add 3 ((oh_md x))]
  refine va_putF (D := (dC, dI)) (ci := 0) (v := .int (nI (3 + (oh_md x)))) (ty := .int) (C := RX0) (T := TX0) (N := 7) hx hb hts hin0 tyX0 tyX0_ok nmX0 hown hK hP hD hS 0 rfl rfl 0 (by decide) (hts (.fieldLink RX0 15 "OnlineHull" "cap" "I") (by decide +kernel)) (fun _ h9 => h9) rfl hin rfl (by decide +kernel) rfl rfl (Nat.le_of_ble_eq_true rfl) dX0_init_13 (fun H locs hP hD hS => ?_)
  have hP : va_P (dC, dI) vwCl [(h, .inr (0, [.int (nI (3 + (oh_md x))), .null, .null, .null, .null, .int 0, .int 0]))] H := hP
  have hD : va_D A [(h, .inr (0, [.int (nI (3 + (oh_md x))), .null, .null, .null, .null, .int 0, .int 0]))] := hD
  refine lv_aload_n hx hb dX0_init_16 rfl (lv_at hl 0 rfl) ?_
  refine lv_aload_n hx hb dX0_init_17 rfl (lv_at hl 0 rfl) ?_
  refine va_get (D := (dC, dI)) (ci := 0) (v := .int (nI (3 + (oh_md x)))) (C := RX0) (T := TX0) (N := 7) hx hb hts hin0 hown hK hP 0 rfl rfl 0 (by decide) (hts (.fieldLink RX0 15 "OnlineHull" "cap" "I") (by decide +kernel)) (fun _ h9 => h9) rfl dX0_init_18 ?_
  refine oh_newa hx hb (hts (.arrayClass .int) (by decide +kernel)) hK hP hD hS hA (k := (3 + (oh_md x))) (by omega) (Nat.le_of_ble_eq_true rfl) (show _ ≤ 256 by omega) dX0_init_21 (fun q_21 H hP hD hS => ?_)
  have hP : va_P (dC, dI) vwCl [(h, .inr (0, [.int (nI (3 + (oh_md x))), .null, .null, .null, .null, .int 0, .int 0])), (q_21, .inl (cI, (3 + (oh_md x)), .inl (fun _ => 0)))] H := hP
  have hD : va_D A [(h, .inr (0, [.int (nI (3 + (oh_md x))), .null, .null, .null, .null, .int 0, .int 0])), (q_21, .inl (cI, (3 + (oh_md x)), .inl (fun _ => 0)))] := hD
  refine W.widen (k := 1) (n := 64) (by omega) (by omega) ?_
  refine va_putF (D := (dC, dI)) (ci := 0) (v := .ref q_21) (ty := .array .int) (C := RX0) (T := TX0) (N := 7) hx hb hts hin0 tyX0 tyX0_ok nmX0 hown hK hP hD hS 0 rfl rfl 1 (by decide) (hts (.fieldLink RX0 19 "OnlineHull" "cornerX" "[I") (by decide +kernel)) (fun _ h9 => h9) rfl hin rfl (by decide +kernel) rfl rfl (Nat.le_of_ble_eq_true rfl) dX0_init_23 (fun H locs hP hD hS => ?_)
  have hP : va_P (dC, dI) vwCl [(h, .inr (0, [.int (nI (3 + (oh_md x))), .ref q_21, .null, .null, .null, .int 0, .int 0])), (q_21, .inl (cI, (3 + (oh_md x)), .inl (fun _ => 0)))] H := hP
  have hD : va_D A [(h, .inr (0, [.int (nI (3 + (oh_md x))), .ref q_21, .null, .null, .null, .int 0, .int 0])), (q_21, .inl (cI, (3 + (oh_md x)), .inl (fun _ => 0)))] := hD
  refine lv_aload_n hx hb dX0_init_26 rfl (lv_at hl 0 rfl) ?_
  refine lv_aload_n hx hb dX0_init_27 rfl (lv_at hl 0 rfl) ?_
  refine va_get (D := (dC, dI)) (ci := 0) (v := .int (nI (3 + (oh_md x)))) (C := RX0) (T := TX0) (N := 7) hx hb hts hin0 hown hK hP 0 rfl rfl 0 (by decide) (hts (.fieldLink RX0 15 "OnlineHull" "cap" "I") (by decide +kernel)) (fun _ h9 => h9) rfl dX0_init_28 ?_
  refine oh_newa hx hb (hts (.arrayClass .int) (by decide +kernel)) hK hP hD hS hA (k := (3 + (oh_md x))) (by omega) (Nat.le_of_ble_eq_true rfl) (show _ ≤ 256 by omega) dX0_init_31 (fun q_31 H hP hD hS => ?_)
  have hP : va_P (dC, dI) vwCl [(h, .inr (0, [.int (nI (3 + (oh_md x))), .ref q_21, .null, .null, .null, .int 0, .int 0])), (q_21, .inl (cI, (3 + (oh_md x)), .inl (fun _ => 0))), (q_31, .inl (cI, (3 + (oh_md x)), .inl (fun _ => 0)))] H := hP
  have hD : va_D A [(h, .inr (0, [.int (nI (3 + (oh_md x))), .ref q_21, .null, .null, .null, .int 0, .int 0])), (q_21, .inl (cI, (3 + (oh_md x)), .inl (fun _ => 0))), (q_31, .inl (cI, (3 + (oh_md x)), .inl (fun _ => 0)))] := hD
  refine W.widen (k := 2) (n := 128) (by omega) (by omega) ?_
  refine va_putF (D := (dC, dI)) (ci := 0) (v := .ref q_31) (ty := .array .int) (C := RX0) (T := TX0) (N := 7) hx hb hts hin0 tyX0 tyX0_ok nmX0 hown hK hP hD hS 0 rfl rfl 2 (by decide) (hts (.fieldLink RX0 23 "OnlineHull" "cornerY" "[I") (by decide +kernel)) (fun _ h9 => h9) rfl hin rfl (by decide +kernel) rfl rfl (Nat.le_of_ble_eq_true rfl) dX0_init_33 (fun H locs hP hD hS => ?_)
  have hP : va_P (dC, dI) vwCl [(h, .inr (0, [.int (nI (3 + (oh_md x))), .ref q_21, .ref q_31, .null, .null, .int 0, .int 0])), (q_21, .inl (cI, (3 + (oh_md x)), .inl (fun _ => 0))), (q_31, .inl (cI, (3 + (oh_md x)), .inl (fun _ => 0)))] H := hP
  have hD : va_D A [(h, .inr (0, [.int (nI (3 + (oh_md x))), .ref q_21, .ref q_31, .null, .null, .int 0, .int 0])), (q_21, .inl (cI, (3 + (oh_md x)), .inl (fun _ => 0))), (q_31, .inl (cI, (3 + (oh_md x)), .inl (fun _ => 0)))] := hD
  refine lv_aload_n hx hb dX0_init_36 rfl (lv_at hl 0 rfl) ?_
  refine lv_aload_n hx hb dX0_init_37 rfl (lv_at hl 0 rfl) ?_
  refine va_get (D := (dC, dI)) (ci := 0) (v := .int (nI (3 + (oh_md x)))) (C := RX0) (T := TX0) (N := 7) hx hb hts hin0 hown hK hP 0 rfl rfl 0 (by decide) (hts (.fieldLink RX0 15 "OnlineHull" "cap" "I") (by decide +kernel)) (fun _ h9 => h9) rfl dX0_init_38 ?_
  refine oh_newa hx hb (hts (.arrayClass .int) (by decide +kernel)) hK hP hD hS hA (k := (3 + (oh_md x))) (by omega) (Nat.le_of_ble_eq_true rfl) (show _ ≤ 256 by omega) dX0_init_41 (fun q_41 H hP hD hS => ?_)
  have hP : va_P (dC, dI) vwCl [(h, .inr (0, [.int (nI (3 + (oh_md x))), .ref q_21, .ref q_31, .null, .null, .int 0, .int 0])), (q_21, .inl (cI, (3 + (oh_md x)), .inl (fun _ => 0))), (q_31, .inl (cI, (3 + (oh_md x)), .inl (fun _ => 0))), (q_41, .inl (cI, (3 + (oh_md x)), .inl (fun _ => 0)))] H := hP
  have hD : va_D A [(h, .inr (0, [.int (nI (3 + (oh_md x))), .ref q_21, .ref q_31, .null, .null, .int 0, .int 0])), (q_21, .inl (cI, (3 + (oh_md x)), .inl (fun _ => 0))), (q_31, .inl (cI, (3 + (oh_md x)), .inl (fun _ => 0))), (q_41, .inl (cI, (3 + (oh_md x)), .inl (fun _ => 0)))] := hD
  refine W.widen (k := 3) (n := 192) (by omega) (by omega) ?_
  refine va_putF (D := (dC, dI)) (ci := 0) (v := .ref q_41) (ty := .array .int) (C := RX0) (T := TX0) (N := 7) hx hb hts hin0 tyX0 tyX0_ok nmX0 hown hK hP hD hS 0 rfl rfl 3 (by decide) (hts (.fieldLink RX0 26 "OnlineHull" "ringX" "[I") (by decide +kernel)) (fun _ h9 => h9) rfl hin rfl (by decide +kernel) rfl rfl (Nat.le_of_ble_eq_true rfl) dX0_init_43 (fun H locs hP hD hS => ?_)
  have hP : va_P (dC, dI) vwCl [(h, .inr (0, [.int (nI (3 + (oh_md x))), .ref q_21, .ref q_31, .ref q_41, .null, .int 0, .int 0])), (q_21, .inl (cI, (3 + (oh_md x)), .inl (fun _ => 0))), (q_31, .inl (cI, (3 + (oh_md x)), .inl (fun _ => 0))), (q_41, .inl (cI, (3 + (oh_md x)), .inl (fun _ => 0)))] H := hP
  have hD : va_D A [(h, .inr (0, [.int (nI (3 + (oh_md x))), .ref q_21, .ref q_31, .ref q_41, .null, .int 0, .int 0])), (q_21, .inl (cI, (3 + (oh_md x)), .inl (fun _ => 0))), (q_31, .inl (cI, (3 + (oh_md x)), .inl (fun _ => 0))), (q_41, .inl (cI, (3 + (oh_md x)), .inl (fun _ => 0)))] := hD
  refine lv_aload_n hx hb dX0_init_46 rfl (lv_at hl 0 rfl) ?_
  refine lv_aload_n hx hb dX0_init_47 rfl (lv_at hl 0 rfl) ?_
  refine va_get (D := (dC, dI)) (ci := 0) (v := .int (nI (3 + (oh_md x)))) (C := RX0) (T := TX0) (N := 7) hx hb hts hin0 hown hK hP 0 rfl rfl 0 (by decide) (hts (.fieldLink RX0 15 "OnlineHull" "cap" "I") (by decide +kernel)) (fun _ h9 => h9) rfl dX0_init_48 ?_
  refine oh_newa hx hb (hts (.arrayClass .int) (by decide +kernel)) hK hP hD hS hA (k := (3 + (oh_md x))) (by omega) (Nat.le_of_ble_eq_true rfl) (show _ ≤ 256 by omega) dX0_init_51 (fun q_51 H hP hD hS => ?_)
  have hP : va_P (dC, dI) vwCl [(h, .inr (0, [.int (nI (3 + (oh_md x))), .ref q_21, .ref q_31, .ref q_41, .null, .int 0, .int 0])), (q_21, .inl (cI, (3 + (oh_md x)), .inl (fun _ => 0))), (q_31, .inl (cI, (3 + (oh_md x)), .inl (fun _ => 0))), (q_41, .inl (cI, (3 + (oh_md x)), .inl (fun _ => 0))), (q_51, .inl (cI, (3 + (oh_md x)), .inl (fun _ => 0)))] H := hP
  have hD : va_D A [(h, .inr (0, [.int (nI (3 + (oh_md x))), .ref q_21, .ref q_31, .ref q_41, .null, .int 0, .int 0])), (q_21, .inl (cI, (3 + (oh_md x)), .inl (fun _ => 0))), (q_31, .inl (cI, (3 + (oh_md x)), .inl (fun _ => 0))), (q_41, .inl (cI, (3 + (oh_md x)), .inl (fun _ => 0))), (q_51, .inl (cI, (3 + (oh_md x)), .inl (fun _ => 0)))] := hD
  refine W.widen (k := 4) (n := 256) (by omega) (by omega) ?_
  refine va_putF (D := (dC, dI)) (ci := 0) (v := .ref q_51) (ty := .array .int) (C := RX0) (T := TX0) (N := 7) hx hb hts hin0 tyX0 tyX0_ok nmX0 hown hK hP hD hS 0 rfl rfl 4 (by decide) (hts (.fieldLink RX0 29 "OnlineHull" "ringY" "[I") (by decide +kernel)) (fun _ h9 => h9) rfl hin rfl (by decide +kernel) rfl rfl (Nat.le_of_ble_eq_true rfl) dX0_init_53 (fun H locs hP hD hS => ?_)
  have hP : va_P (dC, dI) vwCl [(h, .inr (0, [.int (nI (3 + (oh_md x))), .ref q_21, .ref q_31, .ref q_41, .ref q_51, .int 0, .int 0])), (q_21, .inl (cI, (3 + (oh_md x)), .inl (fun _ => 0))), (q_31, .inl (cI, (3 + (oh_md x)), .inl (fun _ => 0))), (q_41, .inl (cI, (3 + (oh_md x)), .inl (fun _ => 0))), (q_51, .inl (cI, (3 + (oh_md x)), .inl (fun _ => 0)))] H := hP
  have hD : va_D A [(h, .inr (0, [.int (nI (3 + (oh_md x))), .ref q_21, .ref q_31, .ref q_41, .ref q_51, .int 0, .int 0])), (q_21, .inl (cI, (3 + (oh_md x)), .inl (fun _ => 0))), (q_31, .inl (cI, (3 + (oh_md x)), .inl (fun _ => 0))), (q_41, .inl (cI, (3 + (oh_md x)), .inl (fun _ => 0))), (q_51, .inl (cI, (3 + (oh_md x)), .inl (fun _ => 0)))] := hD
  refine lv_aload_n hx hb dX0_init_56 rfl (lv_at hl 0 rfl) ?_
  refine lv_iconst (v := nI 0) hx hb dX0_init_57 (by decide) ?_
  refine va_put (D := (dC, dI)) (ci := 0) (v := .int (nI 0)) (ty := .int) (C := RX0) (T := TX0) (N := 7) hx hb hts hin0 tyX0 tyX0_ok nmX0 hown hK hP hD hS 0 rfl rfl 5 (by decide) (hts (.fieldLink RX0 32 "OnlineHull" "corners" "I") (by decide +kernel)) (fun _ h9 => h9) rfl (by decide +kernel) rfl rfl (Nat.le_of_ble_eq_true rfl) dX0_init_58 (fun H locs hP hD hS => ?_)
  have hP : va_P (dC, dI) vwCl [(h, .inr (0, [.int (nI (3 + (oh_md x))), .ref q_21, .ref q_31, .ref q_41, .ref q_51, .int (nI 0), .int 0])), (q_21, .inl (cI, (3 + (oh_md x)), .inl (fun _ => 0))), (q_31, .inl (cI, (3 + (oh_md x)), .inl (fun _ => 0))), (q_41, .inl (cI, (3 + (oh_md x)), .inl (fun _ => 0))), (q_51, .inl (cI, (3 + (oh_md x)), .inl (fun _ => 0)))] H := hP
  have hD : va_D A [(h, .inr (0, [.int (nI (3 + (oh_md x))), .ref q_21, .ref q_31, .ref q_41, .ref q_51, .int (nI 0), .int 0])), (q_21, .inl (cI, (3 + (oh_md x)), .inl (fun _ => 0))), (q_31, .inl (cI, (3 + (oh_md x)), .inl (fun _ => 0))), (q_41, .inl (cI, (3 + (oh_md x)), .inl (fun _ => 0))), (q_51, .inl (cI, (3 + (oh_md x)), .inl (fun _ => 0)))] := hD
  refine lv_aload_n hx hb dX0_init_61 rfl (lv_at hl 0 rfl) ?_
  refine lv_iconst (v := nI 0) hx hb dX0_init_62 (by decide) ?_
  refine va_put (D := (dC, dI)) (ci := 0) (v := .int (nI 0)) (ty := .int) (C := RX0) (T := TX0) (N := 7) hx hb hts hin0 tyX0 tyX0_ok nmX0 hown hK hP hD hS 0 rfl rfl 6 (by decide) (hts (.fieldLink RX0 35 "OnlineHull" "came" "I") (by decide +kernel)) (fun _ h9 => h9) rfl (by decide +kernel) rfl rfl (Nat.le_of_ble_eq_true rfl) dX0_init_63 (fun H locs hP hD hS => ?_)
  have hP : va_P (dC, dI) vwCl [(h, .inr (0, [.int (nI (3 + (oh_md x))), .ref q_21, .ref q_31, .ref q_41, .ref q_51, .int (nI 0), .int (nI 0)])), (q_21, .inl (cI, (3 + (oh_md x)), .inl (fun _ => 0))), (q_31, .inl (cI, (3 + (oh_md x)), .inl (fun _ => 0))), (q_41, .inl (cI, (3 + (oh_md x)), .inl (fun _ => 0))), (q_51, .inl (cI, (3 + (oh_md x)), .inl (fun _ => 0)))] H := hP
  have hD : va_D A [(h, .inr (0, [.int (nI (3 + (oh_md x))), .ref q_21, .ref q_31, .ref q_41, .ref q_51, .int (nI 0), .int (nI 0)])), (q_21, .inl (cI, (3 + (oh_md x)), .inl (fun _ => 0))), (q_31, .inl (cI, (3 + (oh_md x)), .inl (fun _ => 0))), (q_41, .inl (cI, (3 + (oh_md x)), .inl (fun _ => 0))), (q_51, .inl (cI, (3 + (oh_md x)), .inl (fun _ => 0)))] := hD
  exact W.vret hx hb hr (fun t ht hW => ⟨⟨(q_21, q_31, q_41, q_51), rfl, trivial, by rw [ht]; exact hP, va_K.moved hW.alike hK, hD⟩, hS.F ht⟩) hS.2.2 dX0_init_66

set_option maxHeartbeats 4000000 in
set_option maxRecDepth 100000 in
theorem k_X1_init (l : Launch) (dC : Nat → ClassId) (dI : Nat → Nat → Nat) (cI : ClassId) (h sz : Nat) (x : Int32) : Met l yX1_init wsX1_init ({ frames := 1, cells := 5, slots := 331, locals := 12 }) (va_Pc [.ref h, .int x] (fun U => U.heap.size = sz ∧ va_P (dC, dI) vwCl [(h, .inr (1, [.int 0, .int 0, .int 0, .null, .null, .null, .null, .null]))] U.heap ∧ va_K (dC, dI) vwCl [(cI, .int)] U ∧ va_D (fun _ => True) [(h, .inr (1, [.int 0, .int 0, .int 0, .null, .null, .null, .null, .null]))])) (va_Qv (S := Nat × Nat × Nat × Nat × Nat) (fun _ => True) (fun u t => va_P (dC, dI) vwCl [(h, .inr (1, [.int (nI (3 + oh_md x)), .int 0, .int 0, .ref u.1, .ref u.2.1, .ref u.2.2.1, .ref u.2.2.2.1, .ref u.2.2.2.2])), (u.1, .inl (cI, 66, .inl (fun _ => 0))), (u.2.1, .inl (cI, 66, .inl (fun _ => 0))), (u.2.2.1, .inl (cI, 66, .inl (fun _ => 0))), (u.2.2.2.1, .inl (cI, 66, .inl (fun _ => 0))), (u.2.2.2.2, .inl (cI, 67, .inl (fun _ => 0)))] t.heap ∧ va_K (dC, dI) vwCl [(cI, .int)] t ∧ va_D (va_A [(h, .inr (1, [.int 0, .int 0, .int 0, .null, .null, .null, .null, .null]))] sz) [(h, .inr (1, [.int (nI (3 + oh_md x)), .int 0, .int 0, .ref u.1, .ref u.2.1, .ref u.2.2.1, .ref u.2.2.2.1, .ref u.2.2.2.2])), (u.1, .inl (cI, 66, .inl (fun _ => 0))), (u.2.1, .inl (cI, 66, .inl (fun _ => 0))), (u.2.2.1, .inl (cI, 66, .inl (fun _ => 0))), (u.2.2.2.1, .inl (cI, 66, .inl (fun _ => 0))), (u.2.2.2.2, .inl (cI, 67, .inl (fun _ => 0)))]) (va_A [(h, .inr (1, [.int 0, .int 0, .int 0, .null, .null, .null, .null, .null]))] sz)) 5 331 (va_A [(h, .inr (1, [.int 0, .int 0, .int 0, .null, .null, .null, .null, .null]))] sz) := by
  refine Met.ofW (cc := cX1_init) (maxL := 3) (ret := none) (by decide) rfl ?_
  intro p e s m args below meth c s₁ B hml hv
  obtain ⟨rfl, hsz, hP, hK, hD0⟩ := hv
  have hx := B.exec
  have hb := B.bytes
  have hr := B.returns
  have hts := atoms_spec (ws := wsX1_init) B.pre
  have hown : s.vm.findClass RX1 = some m.cls := findClass_of_methodNamed B.named
  have hlocks := B.notSynchronized
  have hin : meth.name = "<init>" := (name_of_methodNamed B.named B.method).1
  have hin0 : ∀ w ∈ wsX10, w ∈ wsX1_init := fun w h => List.mem_cons_of_mem _ (List.mem_append_right _ h)
  subst hsz
  have hD := hD0.self (sz := s.heap.size)
  generalize hAe : va_A [(h, .inr (1, [.int 0, .int 0, .int 0, .null, .null, .null, .null, .null]))] s.heap.size = A at hD ⊢
  have hA : ∀ q : Nat, s.heap.size ≤ q → A q := fun q h => by rw [← hAe]; exact Or.inr h
  have hS : va_S A s.heap s.heap [] := va_S.rf
  have hl := lv_entry ([.ref h, .int x]) (n := 3) (Nat.le_of_ble_eq_true rfl)
  rw [lg_entry_eq]
  generalize (lg_sl ([.ref h, .int x]) ++ List.replicate (3 - (lg_sl ([.ref h, .int x])).length) Slot.unset).toArray = ls at hl ⊢
  have hl : lv_has ls 3 [(0, .ref h), (1, .int x)] := hl
  suffices hgo : ∀ (H : Heap) (locs : List Loc), va_P (dC, dI) vwCl [(h, .inr (1, [.int 0, .int 0, .int 0, .null, .null, .null, .null, .null]))] H → va_D A [(h, .inr (1, [.int 0, .int 0, .int 0, .null, .null, .null, .null, .null]))] → va_S A s.heap H locs → W p l e (headSpec wsX1_init ({ frames := 1, cells := 5, slots := 331, locals := 12 })).room s m ([.ref h, .int x] : List Value).toArray below meth c H locs 0 0 (MQ below (va_Qv (S := Nat × Nat × Nat × Nat × Nat) (fun _ => True) (fun u t => va_P (dC, dI) vwCl [(h, .inr (1, [.int (nI (3 + oh_md x)), .int 0, .int 0, .ref u.1, .ref u.2.1, .ref u.2.2.1, .ref u.2.2.2.1, .ref u.2.2.2.2])), (u.1, .inl (cI, 66, .inl (fun _ => 0))), (u.2.1, .inl (cI, 66, .inl (fun _ => 0))), (u.2.2.1, .inl (cI, 66, .inl (fun _ => 0))), (u.2.2.2.1, .inl (cI, 66, .inl (fun _ => 0))), (u.2.2.2.2, .inl (cI, 67, .inl (fun _ => 0)))] t.heap ∧ va_K (dC, dI) vwCl [(cI, .int)] t ∧ va_D A [(h, .inr (1, [.int (nI (3 + oh_md x)), .int 0, .int 0, .ref u.1, .ref u.2.1, .ref u.2.2.1, .ref u.2.2.2.1, .ref u.2.2.2.2])), (u.1, .inl (cI, 66, .inl (fun _ => 0))), (u.2.1, .inl (cI, 66, .inl (fun _ => 0))), (u.2.2.1, .inl (cI, 66, .inl (fun _ => 0))), (u.2.2.2.1, .inl (cI, 66, .inl (fun _ => 0))), (u.2.2.2.2, .inl (cI, 67, .inl (fun _ => 0)))]) A) ([.ref h, .int x] : List Value).toArray s 5 331 A) (F0 m 0 ls []) from hgo s.heap [] hP hD hS
  clear hP hD hS hD0
  intro H locs hP hD hS
  have hmd := oh_md_lt x
  refine lv_aload_n hx hb dX1_init_0 rfl (lv_at hl 0 rfl) ?_
  refine W.objInit hx hb hown (hts (.methodLink RX1 1 objectInit) (by decide +kernel)) (hts (.instanceMethod objectInit) (by decide +kernel)) (hts _ (List.mem_cons_of_mem _ (List.mem_append_left _ (List.mem_of_getElem? (i := 2) rfl)))) rfl (by rw [hml]; exact hl.1) rfl dX1_init_1 (Nat.le_of_ble_eq_true rfl) (Nat.le_of_ble_eq_true rfl) ?_
  refine W.eq (g2 := F0 m 4 ls []) rfl ?_
  refine lv_aload_n hx hb dX1_init_4 rfl (lv_at hl 0 rfl) ?_
  refine lv_bipush (v := nI 66) hx hb dX1_init_5 (by decide) ?_
  refine oh_newa hx hb (hts (.arrayClass .int) (by decide +kernel)) hK hP hD hS hA (k := 66) (by omega) (Nat.le_of_ble_eq_true rfl) (show _ ≤ 331 by omega) dX1_init_7 (fun q_7 H hP hD hS => ?_)
  have hP : va_P (dC, dI) vwCl [(h, .inr (1, [.int 0, .int 0, .int 0, .null, .null, .null, .null, .null])), (q_7, .inl (cI, 66, .inl (fun _ => 0)))] H := hP
  have hD : va_D A [(h, .inr (1, [.int 0, .int 0, .int 0, .null, .null, .null, .null, .null])), (q_7, .inl (cI, 66, .inl (fun _ => 0)))] := hD
  refine W.widen (k := 1) (n := 66) (by omega) (by omega) ?_
  refine va_putF (D := (dC, dI)) (ci := 1) (v := .ref q_7) (ty := .array .int) (C := RX1) (T := TX1) (N := 8) hx hb hts hin0 tyX1 tyX1_ok nmX1 hown hK hP hD hS 0 rfl rfl 3 (by decide) (hts (.fieldLink RX1 7 "OnlineHullModel" "xs" "[I") (by decide +kernel)) (fun _ h9 => h9) rfl hin rfl (by decide +kernel) rfl rfl (Nat.le_of_ble_eq_true rfl) dX1_init_9 (fun H locs hP hD hS => ?_)
  have hP : va_P (dC, dI) vwCl [(h, .inr (1, [.int 0, .int 0, .int 0, .ref q_7, .null, .null, .null, .null])), (q_7, .inl (cI, 66, .inl (fun _ => 0)))] H := hP
  have hD : va_D A [(h, .inr (1, [.int 0, .int 0, .int 0, .ref q_7, .null, .null, .null, .null])), (q_7, .inl (cI, 66, .inl (fun _ => 0)))] := hD
  refine lv_aload_n hx hb dX1_init_12 rfl (lv_at hl 0 rfl) ?_
  refine lv_bipush (v := nI 66) hx hb dX1_init_13 (by decide) ?_
  refine oh_newa hx hb (hts (.arrayClass .int) (by decide +kernel)) hK hP hD hS hA (k := 66) (by omega) (Nat.le_of_ble_eq_true rfl) (show _ ≤ 331 by omega) dX1_init_15 (fun q_15 H hP hD hS => ?_)
  have hP : va_P (dC, dI) vwCl [(h, .inr (1, [.int 0, .int 0, .int 0, .ref q_7, .null, .null, .null, .null])), (q_7, .inl (cI, 66, .inl (fun _ => 0))), (q_15, .inl (cI, 66, .inl (fun _ => 0)))] H := hP
  have hD : va_D A [(h, .inr (1, [.int 0, .int 0, .int 0, .ref q_7, .null, .null, .null, .null])), (q_7, .inl (cI, 66, .inl (fun _ => 0))), (q_15, .inl (cI, 66, .inl (fun _ => 0)))] := hD
  refine W.widen (k := 2) (n := 132) (by omega) (by omega) ?_
  refine va_putF (D := (dC, dI)) (ci := 1) (v := .ref q_15) (ty := .array .int) (C := RX1) (T := TX1) (N := 8) hx hb hts hin0 tyX1 tyX1_ok nmX1 hown hK hP hD hS 0 rfl rfl 4 (by decide) (hts (.fieldLink RX1 13 "OnlineHullModel" "ys" "[I") (by decide +kernel)) (fun _ h9 => h9) rfl hin rfl (by decide +kernel) rfl rfl (Nat.le_of_ble_eq_true rfl) dX1_init_17 (fun H locs hP hD hS => ?_)
  have hP : va_P (dC, dI) vwCl [(h, .inr (1, [.int 0, .int 0, .int 0, .ref q_7, .ref q_15, .null, .null, .null])), (q_7, .inl (cI, 66, .inl (fun _ => 0))), (q_15, .inl (cI, 66, .inl (fun _ => 0)))] H := hP
  have hD : va_D A [(h, .inr (1, [.int 0, .int 0, .int 0, .ref q_7, .ref q_15, .null, .null, .null])), (q_7, .inl (cI, 66, .inl (fun _ => 0))), (q_15, .inl (cI, 66, .inl (fun _ => 0)))] := hD
  refine lv_aload_n hx hb dX1_init_20 rfl (lv_at hl 0 rfl) ?_
  refine lv_bipush (v := nI 66) hx hb dX1_init_21 (by decide) ?_
  refine oh_newa hx hb (hts (.arrayClass .int) (by decide +kernel)) hK hP hD hS hA (k := 66) (by omega) (Nat.le_of_ble_eq_true rfl) (show _ ≤ 331 by omega) dX1_init_23 (fun q_23 H hP hD hS => ?_)
  have hP : va_P (dC, dI) vwCl [(h, .inr (1, [.int 0, .int 0, .int 0, .ref q_7, .ref q_15, .null, .null, .null])), (q_7, .inl (cI, 66, .inl (fun _ => 0))), (q_15, .inl (cI, 66, .inl (fun _ => 0))), (q_23, .inl (cI, 66, .inl (fun _ => 0)))] H := hP
  have hD : va_D A [(h, .inr (1, [.int 0, .int 0, .int 0, .ref q_7, .ref q_15, .null, .null, .null])), (q_7, .inl (cI, 66, .inl (fun _ => 0))), (q_15, .inl (cI, 66, .inl (fun _ => 0))), (q_23, .inl (cI, 66, .inl (fun _ => 0)))] := hD
  refine W.widen (k := 3) (n := 198) (by omega) (by omega) ?_
  refine va_putF (D := (dC, dI)) (ci := 1) (v := .ref q_23) (ty := .array .int) (C := RX1) (T := TX1) (N := 8) hx hb hts hin0 tyX1 tyX1_ok nmX1 hown hK hP hD hS 0 rfl rfl 5 (by decide) (hts (.fieldLink RX1 16 "OnlineHullModel" "px" "[I") (by decide +kernel)) (fun _ h9 => h9) rfl hin rfl (by decide +kernel) rfl rfl (Nat.le_of_ble_eq_true rfl) dX1_init_25 (fun H locs hP hD hS => ?_)
  have hP : va_P (dC, dI) vwCl [(h, .inr (1, [.int 0, .int 0, .int 0, .ref q_7, .ref q_15, .ref q_23, .null, .null])), (q_7, .inl (cI, 66, .inl (fun _ => 0))), (q_15, .inl (cI, 66, .inl (fun _ => 0))), (q_23, .inl (cI, 66, .inl (fun _ => 0)))] H := hP
  have hD : va_D A [(h, .inr (1, [.int 0, .int 0, .int 0, .ref q_7, .ref q_15, .ref q_23, .null, .null])), (q_7, .inl (cI, 66, .inl (fun _ => 0))), (q_15, .inl (cI, 66, .inl (fun _ => 0))), (q_23, .inl (cI, 66, .inl (fun _ => 0)))] := hD
  refine lv_aload_n hx hb dX1_init_28 rfl (lv_at hl 0 rfl) ?_
  refine lv_bipush (v := nI 66) hx hb dX1_init_29 (by decide) ?_
  refine oh_newa hx hb (hts (.arrayClass .int) (by decide +kernel)) hK hP hD hS hA (k := 66) (by omega) (Nat.le_of_ble_eq_true rfl) (show _ ≤ 331 by omega) dX1_init_31 (fun q_31 H hP hD hS => ?_)
  have hP : va_P (dC, dI) vwCl [(h, .inr (1, [.int 0, .int 0, .int 0, .ref q_7, .ref q_15, .ref q_23, .null, .null])), (q_7, .inl (cI, 66, .inl (fun _ => 0))), (q_15, .inl (cI, 66, .inl (fun _ => 0))), (q_23, .inl (cI, 66, .inl (fun _ => 0))), (q_31, .inl (cI, 66, .inl (fun _ => 0)))] H := hP
  have hD : va_D A [(h, .inr (1, [.int 0, .int 0, .int 0, .ref q_7, .ref q_15, .ref q_23, .null, .null])), (q_7, .inl (cI, 66, .inl (fun _ => 0))), (q_15, .inl (cI, 66, .inl (fun _ => 0))), (q_23, .inl (cI, 66, .inl (fun _ => 0))), (q_31, .inl (cI, 66, .inl (fun _ => 0)))] := hD
  refine W.widen (k := 4) (n := 264) (by omega) (by omega) ?_
  refine va_putF (D := (dC, dI)) (ci := 1) (v := .ref q_31) (ty := .array .int) (C := RX1) (T := TX1) (N := 8) hx hb hts hin0 tyX1 tyX1_ok nmX1 hown hK hP hD hS 0 rfl rfl 6 (by decide) (hts (.fieldLink RX1 19 "OnlineHullModel" "py" "[I") (by decide +kernel)) (fun _ h9 => h9) rfl hin rfl (by decide +kernel) rfl rfl (Nat.le_of_ble_eq_true rfl) dX1_init_33 (fun H locs hP hD hS => ?_)
  have hP : va_P (dC, dI) vwCl [(h, .inr (1, [.int 0, .int 0, .int 0, .ref q_7, .ref q_15, .ref q_23, .ref q_31, .null])), (q_7, .inl (cI, 66, .inl (fun _ => 0))), (q_15, .inl (cI, 66, .inl (fun _ => 0))), (q_23, .inl (cI, 66, .inl (fun _ => 0))), (q_31, .inl (cI, 66, .inl (fun _ => 0)))] H := hP
  have hD : va_D A [(h, .inr (1, [.int 0, .int 0, .int 0, .ref q_7, .ref q_15, .ref q_23, .ref q_31, .null])), (q_7, .inl (cI, 66, .inl (fun _ => 0))), (q_15, .inl (cI, 66, .inl (fun _ => 0))), (q_23, .inl (cI, 66, .inl (fun _ => 0))), (q_31, .inl (cI, 66, .inl (fun _ => 0)))] := hD
  refine lv_aload_n hx hb dX1_init_36 rfl (lv_at hl 0 rfl) ?_
  refine lv_bipush (v := nI 67) hx hb dX1_init_37 (by decide) ?_
  refine oh_newa hx hb (hts (.arrayClass .int) (by decide +kernel)) hK hP hD hS hA (k := 67) (by omega) (Nat.le_of_ble_eq_true rfl) (show _ ≤ 331 by omega) dX1_init_39 (fun q_39 H hP hD hS => ?_)
  have hP : va_P (dC, dI) vwCl [(h, .inr (1, [.int 0, .int 0, .int 0, .ref q_7, .ref q_15, .ref q_23, .ref q_31, .null])), (q_7, .inl (cI, 66, .inl (fun _ => 0))), (q_15, .inl (cI, 66, .inl (fun _ => 0))), (q_23, .inl (cI, 66, .inl (fun _ => 0))), (q_31, .inl (cI, 66, .inl (fun _ => 0))), (q_39, .inl (cI, 67, .inl (fun _ => 0)))] H := hP
  have hD : va_D A [(h, .inr (1, [.int 0, .int 0, .int 0, .ref q_7, .ref q_15, .ref q_23, .ref q_31, .null])), (q_7, .inl (cI, 66, .inl (fun _ => 0))), (q_15, .inl (cI, 66, .inl (fun _ => 0))), (q_23, .inl (cI, 66, .inl (fun _ => 0))), (q_31, .inl (cI, 66, .inl (fun _ => 0))), (q_39, .inl (cI, 67, .inl (fun _ => 0)))] := hD
  refine W.widen (k := 5) (n := 331) (by omega) (by omega) ?_
  refine va_putF (D := (dC, dI)) (ci := 1) (v := .ref q_39) (ty := .array .int) (C := RX1) (T := TX1) (N := 8) hx hb hts hin0 tyX1 tyX1_ok nmX1 hown hK hP hD hS 0 rfl rfl 7 (by decide) (hts (.fieldLink RX1 22 "OnlineHullModel" "round" "[I") (by decide +kernel)) (fun _ h9 => h9) rfl hin rfl (by decide +kernel) rfl rfl (Nat.le_of_ble_eq_true rfl) dX1_init_41 (fun H locs hP hD hS => ?_)
  have hP : va_P (dC, dI) vwCl [(h, .inr (1, [.int 0, .int 0, .int 0, .ref q_7, .ref q_15, .ref q_23, .ref q_31, .ref q_39])), (q_7, .inl (cI, 66, .inl (fun _ => 0))), (q_15, .inl (cI, 66, .inl (fun _ => 0))), (q_23, .inl (cI, 66, .inl (fun _ => 0))), (q_31, .inl (cI, 66, .inl (fun _ => 0))), (q_39, .inl (cI, 67, .inl (fun _ => 0)))] H := hP
  have hD : va_D A [(h, .inr (1, [.int 0, .int 0, .int 0, .ref q_7, .ref q_15, .ref q_23, .ref q_31, .ref q_39])), (q_7, .inl (cI, 66, .inl (fun _ => 0))), (q_15, .inl (cI, 66, .inl (fun _ => 0))), (q_23, .inl (cI, 66, .inl (fun _ => 0))), (q_31, .inl (cI, 66, .inl (fun _ => 0))), (q_39, .inl (cI, 67, .inl (fun _ => 0)))] := hD
  refine lv_iload_n hx hb dX1_init_44 rfl (lv_at hl 1 rfl) ?_
  refine lv_bipush (v := nI 62) hx hb dX1_init_45 (by decide) ?_
  refine lv_irem hx hb dX1_init_47 (by decide) ?_
  refine lv_topi (fun t_47 e_47 => ?_)
  have w_47 := oh_rem e_47
  refine lv_istore_n (lv' := [(2, .int t_47), (0, .ref h), (1, .int x)]) hx hb dX1_init_48 rfl hl (by decide) rfl (fun ls hl => ?_)
  refine lv_aload_n hx hb dX1_init_49 rfl (lv_at hl 1 rfl) ?_
  refine lv_iconst (v := nI 3) hx hb dX1_init_50 (by decide) ?_
  refine lv_iload_n hx hb dX1_init_51 rfl (lv_at hl 0 rfl) ?_
  refine lv_if_ge (tgt := 62) hx hb dX1_init_52 (by decide) (fun c_52 => ?_) (fun c_52 => ?_)
  · have g_52 : 0 ≤ t_47.toInt := oh_leI0r c_52
    have e9 := oh_md2 w_47 g_52
    subst e9
    skip
    refine lv_iload_n hx hb dX1_init_62 rfl (lv_at hl 0 rfl) ?_
    refine lv_iadd hx hb dX1_init_63 ?_
    rw [nI_add 3 ((oh_md x))]
    refine va_putF (D := (dC, dI)) (ci := 1) (v := .int (nI (3 + (oh_md x)))) (ty := .int) (C := RX1) (T := TX1) (N := 8) hx hb hts hin0 tyX1 tyX1_ok nmX1 hown hK hP hD hS 0 rfl rfl 0 (by decide) (hts (.fieldLink RX1 25 "OnlineHullModel" "cap" "I") (by decide +kernel)) (fun _ h9 => h9) rfl hin rfl (by decide +kernel) rfl rfl (Nat.le_of_ble_eq_true rfl) dX1_init_64 (fun H locs hP hD hS => ?_)
    have hP : va_P (dC, dI) vwCl [(h, .inr (1, [.int (nI (3 + (oh_md x))), .int 0, .int 0, .ref q_7, .ref q_15, .ref q_23, .ref q_31, .ref q_39])), (q_7, .inl (cI, 66, .inl (fun _ => 0))), (q_15, .inl (cI, 66, .inl (fun _ => 0))), (q_23, .inl (cI, 66, .inl (fun _ => 0))), (q_31, .inl (cI, 66, .inl (fun _ => 0))), (q_39, .inl (cI, 67, .inl (fun _ => 0)))] H := hP
    have hD : va_D A [(h, .inr (1, [.int (nI (3 + (oh_md x))), .int 0, .int 0, .ref q_7, .ref q_15, .ref q_23, .ref q_31, .ref q_39])), (q_7, .inl (cI, 66, .inl (fun _ => 0))), (q_15, .inl (cI, 66, .inl (fun _ => 0))), (q_23, .inl (cI, 66, .inl (fun _ => 0))), (q_31, .inl (cI, 66, .inl (fun _ => 0))), (q_39, .inl (cI, 67, .inl (fun _ => 0)))] := hD
    exact W.vret hx hb hr (fun t ht hW => ⟨⟨(q_7, q_15, q_23, q_31, q_39), rfl, trivial, by rw [ht]; exact hP, va_K.moved hW.alike hK, hD⟩, hS.F ht⟩) hS.2.2 dX1_init_67
  · have g_52 : t_47.toInt < 0 := oh_nleI0r c_52
    refine lv_iload_n hx hb dX1_init_55 rfl (lv_at hl 0 rfl) ?_
    refine lv_bipush (v := nI 62) hx hb dX1_init_56 (by decide) ?_
    refine lv_iadd hx hb dX1_init_58 ?_
    refine lv_topi (fun t_58 e_58 => ?_)
    have e8 := oh_md3 w_47 g_52
    rw [← e_58] at e8
    subst e8
    refine lv_goto (tgt := 63) hx hb dX1_init_59 (by decide) ?_
    refine lv_iadd hx hb dX1_init_63 ?_
    rw [nI_add 3 ((oh_md x))]
    refine va_putF (D := (dC, dI)) (ci := 1) (v := .int (nI (3 + (oh_md x)))) (ty := .int) (C := RX1) (T := TX1) (N := 8) hx hb hts hin0 tyX1 tyX1_ok nmX1 hown hK hP hD hS 0 rfl rfl 0 (by decide) (hts (.fieldLink RX1 25 "OnlineHullModel" "cap" "I") (by decide +kernel)) (fun _ h9 => h9) rfl hin rfl (by decide +kernel) rfl rfl (Nat.le_of_ble_eq_true rfl) dX1_init_64 (fun H locs hP hD hS => ?_)
    have hP : va_P (dC, dI) vwCl [(h, .inr (1, [.int (nI (3 + (oh_md x))), .int 0, .int 0, .ref q_7, .ref q_15, .ref q_23, .ref q_31, .ref q_39])), (q_7, .inl (cI, 66, .inl (fun _ => 0))), (q_15, .inl (cI, 66, .inl (fun _ => 0))), (q_23, .inl (cI, 66, .inl (fun _ => 0))), (q_31, .inl (cI, 66, .inl (fun _ => 0))), (q_39, .inl (cI, 67, .inl (fun _ => 0)))] H := hP
    have hD : va_D A [(h, .inr (1, [.int (nI (3 + (oh_md x))), .int 0, .int 0, .ref q_7, .ref q_15, .ref q_23, .ref q_31, .ref q_39])), (q_7, .inl (cI, 66, .inl (fun _ => 0))), (q_15, .inl (cI, 66, .inl (fun _ => 0))), (q_23, .inl (cI, 66, .inl (fun _ => 0))), (q_31, .inl (cI, 66, .inl (fun _ => 0))), (q_39, .inl (cI, 67, .inl (fun _ => 0)))] := hD
    exact W.vret hx hb hr (fun t ht hW => ⟨⟨(q_7, q_15, q_23, q_31, q_39), rfl, trivial, by rw [ht]; exact hP, va_K.moved hW.alike hK, hD⟩, hS.F ht⟩) hS.2.2 dX1_init_67

set_option maxHeartbeats 4000000 in
set_option maxRecDepth 100000 in
theorem k_L_cell (l : Launch) (b L : Nat) (xs : Nat → Int32) (hL : L ≤ 2049) : Met l yL_cell wsL_cell ({ frames := 0, cells := 0, slots := 0, locals := 0 }) (va_Pc [.ref b, .int (nI 0)] (fun U => va_X b L xs U U.heap)) (vp_Si (fun r => r = oh_cell L xs)) 0 0 (fun _ => False) := by
  refine Met.ofW (cc := cL_cell) (maxL := 2) (ret := (some .int)) (by decide) rfl ?_
  intro p e s m args below meth c s₁ B hml hv
  obtain ⟨rfl, hX⟩ := hv
  have hx := B.exec
  have hb := B.bytes
  have hr := B.returns
  have hts := atoms_spec (ws := wsL_cell) B.pre
  have hown : s.vm.findClass RL = some m.cls := findClass_of_methodNamed B.named
  have hlocks := B.notSynchronized
  have hl := lv_entry ([.ref b, .int (nI 0)]) (n := 2) (Nat.le_of_ble_eq_true rfl)
  rw [lg_entry_eq]
  generalize (lg_sl ([.ref b, .int (nI 0)]) ++ List.replicate (2 - (lg_sl ([.ref b, .int (nI 0)])).length) Slot.unset).toArray = ls at hl ⊢
  have hl : lv_has ls 2 [(0, .ref b), (1, .int (nI 0))] := hl
  have hbl : b < s.heap.size := by obtain ⟨scr, h1, -⟩ := hX; exact (Array.getElem?_eq_some_iff.mp h1).1
  have hS : va_S (fun _ => False) s.heap s.heap [] := va_S.rf
  have hbA : ¬ (fun _ : Nat => False) b := fun h => h
  refine lv_iload_n hx hb dL_cell_0 rfl (lv_at hl 1 rfl) ?_
  refine lv_aload_n hx hb dL_cell_1 rfl (lv_at hl 0 rfl) ?_
  refine va_slen hx hb hX hbl hbA hS dL_cell_2 ?_
  refine lv_icmp_ge (tgt := 12) hx hb dL_cell_3 (by decide) (fun c_3 => ?_) (fun c_3 => ?_)
  · have g_3 : L ≤ 0 := (nI_leI (a := L) (b := 0) (by omega) (by omega)).mp c_3
    refine lv_iconst (v := nI 0) hx hb dL_cell_12 (by decide) ?_
    exact W.iret (v := nI 0) hx hb hr (fun t ht hW => ⟨_, rfl, by unfold oh_cell; first | rw [if_pos (by omega)] | (rw [if_neg (by omega)]; rfl), ht⟩) (fun _ h => by cases h) dL_cell_13
  · have g_3 : ¬ L ≤ 0 := fun q => c_3 ((nI_leI (a := L) (b := 0) (by omega) (by omega)).mpr q)
    refine lv_aload_n hx hb dL_cell_6 rfl (lv_at hl 0 rfl) ?_
    refine lv_iload_n hx hb dL_cell_7 rfl (lv_at hl 1 rfl) ?_
    refine oh_sld hx hb hX hbl hbA hS (k := 0) (by omega) (by omega) dL_cell_8 ?_
    refine lv_goto (tgt := 13) hx hb dL_cell_9 (by decide) ?_
    exact W.iret (v := xs 0) hx hb hr (fun t ht hW => ⟨_, rfl, by unfold oh_cell; first | rw [if_pos (by omega)] | (rw [if_neg (by omega)]; rfl), ht⟩) (fun _ h => by cases h) dL_cell_13
end
section
theorem oh_xEq {n : Nat} {f g : Nat → Int32} {i r s : Int32} (h : ∀ k, k < n → g k = f k) (hn : n < 2 ^ 31) (a : (∃ k : Nat, k < n ∧ i = nI k ∧ r = f k) ∨ (¬ (0 ≤ i.toInt ∧ i.toInt < (n : Int)) ∧ r = 0)) (b : (∃ k : Nat, k < n ∧ i = nI k ∧ s = g k) ∨ (¬ (0 ≤ i.toInt ∧ i.toInt < (n : Int)) ∧ s = 0)) : r = s := by
  rcases a with ⟨k, hk, e, ea⟩ | ⟨ha, ea⟩ <;> rcases b with ⟨k2, hk2, e2, eb⟩ | ⟨hb, eb⟩
  · have : k = k2 := (nI_eq (by omega) (by omega)).mp (e.symm.trans e2)
    subst this
    rw [ea, eb, h k hk]
  · exact absurd (by rw [e, nI_toInt (by omega)]; omega) hb
  · exact absurd (by rw [e2, nI_toInt (by omega)]; omega) ha
  · rw [ea, eb]
theorem oh_inEq {n : Nat} {P P' : Nat → Int × Int} {x y r s : Int32} (h : ∀ i, i < n → P' i = P i) (a : (oh_inR x y ∧ oh_pl3 n P (x.toInt, y.toInt) r) ∨ (¬ oh_inR x y ∧ r = 0)) (b : (oh_inR x y ∧ oh_pl3 n P' (x.toInt, y.toInt) s) ∨ (¬ oh_inR x y ∧ s = 0)) : r = s := by
  rcases a with ⟨h1, a⟩ | ⟨h1, a⟩ <;> rcases b with ⟨h2, b⟩ | ⟨h2, b⟩
  · exact oh_u_pl3 a (oh_c_pl3 h b)
  · exact absurd h1 h2
  · exact absurd h2 h1
  · rw [a, b]
theorem oh_inv0 (x : Int32) (fx fy xs ys : Nat → Int32) : oh_inv (3 + oh_md x) 0 fx fy xs ys := by
  have := oh_md_lt x
  exact ⟨by omega, by omega, by omega, fun j hj => by omega, ⟨fun i j k _ _ h => by omega, fun i _ h => by omega⟩, fun i h => by omega⟩
end
section
/-! THE CLAIM OUT OF ONE WALK OF THE LAW'S BODY. Your part is whole_start (and what it stands on); all else here is the same for every law, but numbers. -/
def R_law : String := "OnlineHullLaw"
def lw_P (b : Addr) (xs : List Int32) (args : Array Value) (s : State) : Prop := args = #[.ref b] ∧ s.IntsAt b xs ∧ xs.length ≤ 2049 ∧ (Jvm.Cond.and given_1 narrow_1).before args s = true
def lw_Q (_ : Array Value) (s : State) (o : Outcome) (t : State) : Prop := o = .returned (some (.int 1)) ∧ Framed s o t [] 600000 7302250
def lw_Z (below : List Frame) (a : Array Value) (s : State) : State → Prop := fun t => ∃ o, t.status = .running ∧ Ended t below o ∧ lw_Q a s o t
/-- the law's own end, with 1 on the stack, nothing written that was there before, its room as the claim has it -/
theorem lw_ret {p : Program} {l : Launch} {e : Env} {s : State} {m : MethodId} {below : List Frame} {meth : Method} {c : Code} {b : Nat} (hx : p.tables.exec = Jvm.exec) (hb : c.code = code) (hr : meth.sig.returnType = ret) (hlocks : meth.locks = false) {pc : Nat} {H : Heap} {ls : Array Slot} (hdg : decode code pc = .ok (.ireturn, 1)) : W p l e room_1 s m #[Value.ref b] below meth c H [] 600000 7302250 (lw_Z below #[Value.ref b] s) (F0 m pc ls [.int 1]) := by
  intro T hT X
  obtain ⟨fs, hret, hrun, hended, hW, hframe⟩ := X.leave (v := some (.int 1)) (hlocks := hlocks) (fun h => by rw [hr] at h; cases h)
  have hmeth' : T.vm.method? m = some meth := X.method'
  refine ⟨T.setFrames fs, ?_, .returned (some (.int 1)), hrun, hended, rfl, ⟨_, rfl⟩, hW, hframe⟩
  jvm_step X.here [X.here.top, hx, hb, hdg, hmeth', hr, ret, narrow_b1]
  (try refine ⟨rfl, ?_⟩); (try refine ⟨rfl, ?_⟩)
  first | (intro acts; rw [hret _ acts rfl rfl rfl]) | rw [hret _ _ rfl rfl rfl]
  exact Steps.refl _
/-- what holds at the law's entry: the machine, the code, the tables' words (any of lw_tbl by 'hts w (by decide +kernel)'), the script of L ints xs at the cell b, what the Statement gives of the start (any of its parts by flat_of_before) -/
def lw_At (p : Program) (s : State) (m : MethodId) (meth : Method) (c : Code) (b L : Nat) (xs : Nat → Int32) : Prop :=
  p.tables.exec = Jvm.exec ∧ c.code = code ∧ meth.sig.returnType = ret ∧ c.maxLocals = 4 ∧ s.vm.findClass R_law = some m.cls ∧ (∀ w ∈ lw_tbl, w.before #[Value.ref b] s = true) ∧ va_X b L xs s s.heap ∧ b < s.heap.size ∧ meth.locks = false ∧ (Jvm.Cond.and given_1 narrow_1).before #[Value.ref b] s = true
end
section
set_option maxHeartbeats 4000000 in
set_option maxRecDepth 100000 in
/-- THE LAW'S LOOP: at its head both sides hold the same corners -/
theorem law_loop {p : Program} {l : Launch} {e : Env} {s : State} {m : MethodId} {below : List Frame} {meth : Method} {c : Code} {dC : Nat → ClassId} {dI : Nat → Nat → Nat} {cI : ClassId} {b L : Nat} {xs : Nat → Int32} (hL : L ≤ 2049) (C0 : lw_At p s m meth c b L xs) (hK : va_K (dC, dI) vwCl [(cI, .int)] s) (N q0 a1 a2 a3 a4 q1 b1 b2 b3 b4 b5 : Nat) :
    ∀ (k i n : Nat) (came : Int32) (fx fy rx ry xs9 ys9 px py rd : Nat → Int32), 1 ≤ i → i ≤ L + 4 → L + 5 ≤ i + k → oh_inv N n fx fy xs9 ys9 → ∀ (H : Heap) (locs : List Loc), va_P (dC, dI) vwCl [(q0, .inr (0, [.int (nI N), .ref a1, .ref a2, .ref a3, .ref a4, .int (nI n), .int came])), (a1, .inl (cI, N, .inl fx)), (a2, .inl (cI, N, .inl fy)), (a3, .inl (cI, N, .inl rx)), (a4, .inl (cI, N, .inl ry)), (q1, .inr (1, [.int (nI N), .int (nI n), .int came, .ref b1, .ref b2, .ref b3, .ref b4, .ref b5])), (b1, .inl (cI, 66, .inl xs9)), (b2, .inl (cI, 66, .inl ys9)), (b3, .inl (cI, 66, .inl px)), (b4, .inl (cI, 66, .inl py)), (b5, .inl (cI, 67, .inl rd))] H → va_D (fun q : Nat => s.heap.size ≤ q) [(q0, .inr (0, [.int (nI N), .ref a1, .ref a2, .ref a3, .ref a4, .int (nI n), .int came])), (a1, .inl (cI, N, .inl fx)), (a2, .inl (cI, N, .inl fy)), (a3, .inl (cI, N, .inl rx)), (a4, .inl (cI, N, .inl ry)), (q1, .inr (1, [.int (nI N), .int (nI n), .int came, .ref b1, .ref b2, .ref b3, .ref b4, .ref b5])), (b1, .inl (cI, 66, .inl xs9)), (b2, .inl (cI, 66, .inl ys9)), (b3, .inl (cI, 66, .inl px)), (b4, .inl (cI, 66, .inl py)), (b5, .inl (cI, 67, .inl rd))] → va_S (fun q : Nat => s.heap.size ≤ q) s.heap H locs → ∀ (ls : Array Slot), lv_has ls 4 [(0, .ref b), (1, .ref q0), (2, .ref q1), (3, .int (nI i))] → W p l e room_1 s m #[Value.ref b] below meth c H locs 11 602 (lw_Z below #[Value.ref b] s) (F0 m 28 ls []) := by
  obtain ⟨hx, hb, hr, hml, hown0, hts0, hX, hbl, hlocks, hgv⟩ := C0
  have hown : s.vm.findClass RL = some m.cls := hown0
  have hts : ∀ w ∈ wsL_law, w.before #[Value.ref b] s = true := fun w h => hts0 w (wsL_law_in w h)
  have hA : ∀ q : Nat, s.heap.size ≤ q → (fun q : Nat => s.heap.size ≤ q) q := fun _ h => h
  have hbA : ¬ (fun q : Nat => s.heap.size ≤ q) b := Nat.not_le.mpr hbl
  intro k
  induction k with
  | zero =>
    intro i n came fx fy rx ry xs9 ys9 px py rd h1 h2 h3
    exfalso; omega
  | succ k ih =>
    intro i n came fx fy rx ry xs9 ys9 px py rd hi1 hi2 hk hi9 H locs hP hD hS ls hl
    have hN := hi9.1
    have h3 := hi9.2.1
    have hn := hi9.2.2.1
    have hR := hi9.2.2.2.1
    have hh := hi9.2.2.2.2.1
    have hR1 := oh_invR hi9
    have hh1 := oh_invH hi9
    have hPP := oh_invP hi9
    refine lv_iload_n hx hb dL_law_28 rfl (lv_at hl 3 rfl) ?_
    refine lv_aload_n hx hb dL_law_29 rfl (lv_at hl 0 rfl) ?_
    refine va_slen hx hb hX hbl hbA hS dL_law_30 ?_
    refine lv_iconst (v := nI 4) hx hb dL_law_31 (by decide) ?_
    refine lv_isub hx hb dL_law_32 ?_
    refine lv_topi (fun d_32 e_32 => ?_)
    have w_32 : d_32.toInt = (L : Int) - 4 := by rw [e_32]; exact pk_sub_toInt (by omega) (by omega)
    refine lv_icmp_gt (tgt := 342) hx hb dL_law_33 (by decide) (fun c_33 => ?_) (fun c_33 => ?_)
    · have g_33 : d_32.toInt < (i : Int) := by have q := oh_ltI c_33; rw [nI_toInt (n := i) (by omega)] at q; exact q
      refine lv_iconst (v := 1) hx hb dL_law_342 (by decide) ?_
      refine va_forget (fun q hq => hS.2.2 q hq) ?_
      refine W.widen (k := 600000) (n := 7302250) (by omega) (by omega) ?_
      exact lw_ret hx hb hr hlocks dL_law_343
    · have g_33 : (i : Int) ≤ d_32.toInt := by have q := oh_nltI c_33; rw [nI_toInt (n := i) (by omega)] at q; exact q
      refine lv_aload_n hx hb dL_law_36 rfl (lv_at hl 0 rfl) ?_
      refine lv_iload_n hx hb dL_law_37 rfl (lv_at hl 3 rfl) ?_
      refine oh_sld hx hb hX hbl hbA hS (k := i) (by omega) (by omega) dL_law_38 ?_
      refine lv_bipush (v := nI 15) hx hb dL_law_39 (by decide) ?_
      refine lv_iand hx hb dL_law_41 ?_
      refine lv_topi (fun d_41 e_41 => ?_)
      obtain ⟨j, hj, ej⟩ := pk_andE (xs i) (m := nI 15) 4 (by decide)
      rw [← e_41] at ej
      subst ej
      rcases (show j = 0 ∨ j = 1 ∨ j = 2 ∨ j = 3 ∨ j = 4 ∨ j = 5 ∨ j = 6 ∨ j = 7 ∨ j = 8 ∨ j = 9 ∨ 10 ≤ j by omega) with ek | ek | ek | ek | ek | ek | ek | ek | ek | ek | ek
      · subst ek
        refine lv_tableIn (off := 54) (tgt := 96) hx hb dL_law_42 (by decide) (by decide) (by decide) (by decide) ?_
        refine lv_aload_n hx hb dL_law_96 rfl (lv_at hl 1 rfl) ?_
        refine lv_aload_n hx hb dL_law_97 rfl (lv_at hl 0 rfl) ?_
        refine lv_iload_n hx hb dL_law_98 rfl (lv_at hl 3 rfl) ?_
        refine lv_iconst (v := nI 1) hx hb dL_law_99 (by decide) ?_
        refine lv_iadd hx hb dL_law_100 ?_
        rw [nI_add i 1]
        refine oh_sld hx hb hX hbl hbA hS (k := (i + 1)) (by omega) (by omega) dL_law_101 ?_
        refine lv_aload_n hx hb dL_law_102 rfl (lv_at hl 0 rfl) ?_
        refine lv_iload_n hx hb dL_law_103 rfl (lv_at hl 3 rfl) ?_
        refine lv_iconst (v := nI 2) hx hb dL_law_104 (by decide) ?_
        refine lv_iadd hx hb dL_law_105 ?_
        rw [nI_add i 2]
        refine oh_sld hx hb hX hbl hbA hS (k := (i + 2)) (by omega) (by omega) dL_law_106 ?_
        have hPc := hP.sub (ws' := [(q0, .inr (0, [.int (nI N), .ref a1, .ref a2, .ref a3, .ref a4, .int (nI n), .int came])), (a1, .inl (cI, N, .inl fx)), (a2, .inl (cI, N, .inl fy)), (a3, .inl (cI, N, .inl rx)), (a4, .inl (cI, N, .inl ry))]) [0, 1, 2, 3, 4] rfl
        have hDc := hD.sub (ws' := [(q0, .inr (0, [.int (nI N), .ref a1, .ref a2, .ref a3, .ref a4, .int (nI n), .int came])), (a1, .inl (cI, N, .inl fx)), (a2, .inl (cI, N, .inl fy)), (a3, .inl (cI, N, .inl rx)), (a4, .inl (cI, N, .inl ry))]) [0, 1, 2, 3, 4] (by decide) rfl
        have hFc := va_free (wc := [(q0, .inr (0, [.int (nI N), .ref a1, .ref a2, .ref a3, .ref a4, .int (nI n), .int came])), (a1, .inl (cI, N, .inl fx)), (a2, .inl (cI, N, .inl fy)), (a3, .inl (cI, N, .inl rx)), (a4, .inl (cI, N, .inl ry))]) hD hS hA [0, 1, 2, 3, 4] rfl
        refine va_calli (va_runV (As := [.int (xs ((i + 1))), .int (xs ((i + 2)))]) (rest := []) ⟨hx, hb, hml, hown, hts⟩ (k_X0_add l dC dI cI q0 a1 a2 a3 a4 N n came fx fy rx ry H.size (xs ((i + 1))) (xs ((i + 2))) hN hn h3 hR hh) (cwV 2 hts gL_law_X0_add rfl rfl rfl (by decide +kernel) ⟨Nat.le_of_ble_eq_true rfl, Nat.le_of_ble_eq_true rfl⟩) (oh_preM (ci := 0) (q0 := 0) hK hPc hDc rfl rfl) rfl rfl hl.1 rfl (lv_room (Nat.le_of_ble_eq_true rfl)) dL_law_107 ⟨Nat.le_of_ble_eq_true rfl, Nat.le_of_ble_eq_true rfl⟩) hS (fun q _ h => hFc q h) hFc (fun r_107 u_107 t H1 locs ht hvm hw_107 hB hz1 hk1 hS => ?_)
        obtain ⟨gx9, gy9, rx9, ry9, n9, came9⟩ := u_107
        obtain ⟨hP1, hK1, hD1⟩ := hB
        rw [ht] at hP1
        have hC := hw_107
        obtain ⟨hP, hD⟩ := va_join (wr := [(q1, .inr (1, [.int (nI N), .int (nI n), .int came, .ref b1, .ref b2, .ref b3, .ref b4, .ref b5])), (b1, .inl (cI, 66, .inl xs9)), (b2, .inl (cI, 66, .inl ys9)), (b3, .inl (cI, 66, .inl px)), (b4, .inl (cI, 66, .inl py)), (b5, .inl (cI, 67, .inl rd))]) (w1 := [(q0, .inr (0, [.int (nI N), .ref a1, .ref a2, .ref a3, .ref a4, .int (nI n9), .int came9])), (a1, .inl (cI, N, .inl gx9)), (a2, .inl (cI, N, .inl gy9)), (a3, .inl (cI, N, .inl rx9)), (a4, .inl (cI, N, .inl ry9))]) hP hD [0, 1, 2, 3, 4] [5, 6, 7, 8, 9, 10] rfl rfl (by decide) (by decide) hk1 hFc hP1 hD1
        generalize H1 = H at hP hS ⊢
        have hP : va_P (dC, dI) vwCl [(q1, .inr (1, [.int (nI N), .int (nI n), .int came, .ref b1, .ref b2, .ref b3, .ref b4, .ref b5])), (b1, .inl (cI, 66, .inl xs9)), (b2, .inl (cI, 66, .inl ys9)), (b3, .inl (cI, 66, .inl px)), (b4, .inl (cI, 66, .inl py)), (b5, .inl (cI, 67, .inl rd)), (q0, .inr (0, [.int (nI N), .ref a1, .ref a2, .ref a3, .ref a4, .int (nI n9), .int came9])), (a1, .inl (cI, N, .inl gx9)), (a2, .inl (cI, N, .inl gy9)), (a3, .inl (cI, N, .inl rx9)), (a4, .inl (cI, N, .inl ry9))] H := hP
        have hD : va_D (fun q : Nat => s.heap.size ≤ q) [(q1, .inr (1, [.int (nI N), .int (nI n), .int came, .ref b1, .ref b2, .ref b3, .ref b4, .ref b5])), (b1, .inl (cI, 66, .inl xs9)), (b2, .inl (cI, 66, .inl ys9)), (b3, .inl (cI, 66, .inl px)), (b4, .inl (cI, 66, .inl py)), (b5, .inl (cI, 67, .inl rd)), (q0, .inr (0, [.int (nI N), .ref a1, .ref a2, .ref a3, .ref a4, .int (nI n9), .int came9])), (a1, .inl (cI, N, .inl gx9)), (a2, .inl (cI, N, .inl gy9)), (a3, .inl (cI, N, .inl rx9)), (a4, .inl (cI, N, .inl ry9))] := hD
        clear hPc hDc hFc hP1 hK1 hD1 hk1 hz1 ht
        obtain ⟨M9, ρ9, hC, hst9⟩ := oh_addpick hi9 hC
        refine lv_aload_n hx hb dL_law_110 rfl (lv_at hl 2 rfl) ?_
        refine lv_aload_n hx hb dL_law_111 rfl (lv_at hl 0 rfl) ?_
        refine lv_iload_n hx hb dL_law_112 rfl (lv_at hl 3 rfl) ?_
        refine lv_iconst (v := nI 1) hx hb dL_law_113 (by decide) ?_
        refine lv_iadd hx hb dL_law_114 ?_
        rw [nI_add i 1]
        refine oh_sld hx hb hX hbl hbA hS (k := (i + 1)) (by omega) (by omega) dL_law_115 ?_
        refine lv_aload_n hx hb dL_law_116 rfl (lv_at hl 0 rfl) ?_
        refine lv_iload_n hx hb dL_law_117 rfl (lv_at hl 3 rfl) ?_
        refine lv_iconst (v := nI 2) hx hb dL_law_118 (by decide) ?_
        refine lv_iadd hx hb dL_law_119 ?_
        rw [nI_add i 2]
        refine oh_sld hx hb hX hbl hbA hS (k := (i + 2)) (by omega) (by omega) dL_law_120 ?_
        have hPc := hP.sub (ws' := [(q1, .inr (1, [.int (nI N), .int (nI n), .int came, .ref b1, .ref b2, .ref b3, .ref b4, .ref b5])), (b1, .inl (cI, 66, .inl xs9)), (b2, .inl (cI, 66, .inl ys9)), (b3, .inl (cI, 66, .inl px)), (b4, .inl (cI, 66, .inl py)), (b5, .inl (cI, 67, .inl rd))]) [0, 1, 2, 3, 4, 5] rfl
        have hDc := hD.sub (ws' := [(q1, .inr (1, [.int (nI N), .int (nI n), .int came, .ref b1, .ref b2, .ref b3, .ref b4, .ref b5])), (b1, .inl (cI, 66, .inl xs9)), (b2, .inl (cI, 66, .inl ys9)), (b3, .inl (cI, 66, .inl px)), (b4, .inl (cI, 66, .inl py)), (b5, .inl (cI, 67, .inl rd))]) [0, 1, 2, 3, 4, 5] (by decide) rfl
        have hFc := va_free (wc := [(q1, .inr (1, [.int (nI N), .int (nI n), .int came, .ref b1, .ref b2, .ref b3, .ref b4, .ref b5])), (b1, .inl (cI, 66, .inl xs9)), (b2, .inl (cI, 66, .inl ys9)), (b3, .inl (cI, 66, .inl px)), (b4, .inl (cI, 66, .inl py)), (b5, .inl (cI, 67, .inl rd))]) hD hS hA [0, 1, 2, 3, 4, 5] rfl
        refine va_calli (va_runV (As := [.int (xs ((i + 1))), .int (xs ((i + 2)))]) (rest := [.int r_107]) ⟨hx, hb, hml, hown, hts⟩ (k_X1_add l dC dI cI q1 b1 b2 b3 b4 b5 N n came xs9 ys9 px py rd H.size (xs ((i + 1))) (xs ((i + 2))) M9 ρ9 hN hn hR1 hh1 hst9) (cwV 2 hts gL_law_X1_add rfl rfl rfl (by decide +kernel) ⟨Nat.le_of_ble_eq_true rfl, Nat.le_of_ble_eq_true rfl⟩) (oh_preM (ci := 1) (q0 := 0) hK hPc hDc rfl rfl) rfl rfl hl.1 rfl (lv_room (Nat.le_of_ble_eq_true rfl)) dL_law_121 ⟨Nat.le_of_ble_eq_true rfl, Nat.le_of_ble_eq_true rfl⟩) hS (fun q _ h => hFc q h) hFc (fun r_121 u_121 t H1 locs ht hvm hw_121 hB hz1 hk1 hS => ?_)
        obtain ⟨xs8, ys8, px8, py8, rd8, n8, pts8⟩ := u_121
        obtain ⟨hP1, hK1, hD1⟩ := hB
        rw [ht] at hP1
        have hM := hw_121
        obtain ⟨hP, hD⟩ := va_join (wr := [(q0, .inr (0, [.int (nI N), .ref a1, .ref a2, .ref a3, .ref a4, .int (nI n9), .int came9])), (a1, .inl (cI, N, .inl gx9)), (a2, .inl (cI, N, .inl gy9)), (a3, .inl (cI, N, .inl rx9)), (a4, .inl (cI, N, .inl ry9))]) (w1 := [(q1, .inr (1, [.int (nI N), .int (nI n8), .int pts8, .ref b1, .ref b2, .ref b3, .ref b4, .ref b5])), (b1, .inl (cI, 66, .inl xs8)), (b2, .inl (cI, 66, .inl ys8)), (b3, .inl (cI, 66, .inl px8)), (b4, .inl (cI, 66, .inl py8)), (b5, .inl (cI, 67, .inl rd8))]) hP hD [0, 1, 2, 3, 4, 5] [6, 7, 8, 9, 10] rfl rfl (by decide) (by decide) hk1 hFc hP1 hD1
        generalize H1 = H at hP hS ⊢
        have hP : va_P (dC, dI) vwCl [(q0, .inr (0, [.int (nI N), .ref a1, .ref a2, .ref a3, .ref a4, .int (nI n9), .int came9])), (a1, .inl (cI, N, .inl gx9)), (a2, .inl (cI, N, .inl gy9)), (a3, .inl (cI, N, .inl rx9)), (a4, .inl (cI, N, .inl ry9)), (q1, .inr (1, [.int (nI N), .int (nI n8), .int pts8, .ref b1, .ref b2, .ref b3, .ref b4, .ref b5])), (b1, .inl (cI, 66, .inl xs8)), (b2, .inl (cI, 66, .inl ys8)), (b3, .inl (cI, 66, .inl px8)), (b4, .inl (cI, 66, .inl py8)), (b5, .inl (cI, 67, .inl rd8))] H := hP
        have hD : va_D (fun q : Nat => s.heap.size ≤ q) [(q0, .inr (0, [.int (nI N), .ref a1, .ref a2, .ref a3, .ref a4, .int (nI n9), .int came9])), (a1, .inl (cI, N, .inl gx9)), (a2, .inl (cI, N, .inl gy9)), (a3, .inl (cI, N, .inl rx9)), (a4, .inl (cI, N, .inl ry9)), (q1, .inr (1, [.int (nI N), .int (nI n8), .int pts8, .ref b1, .ref b2, .ref b3, .ref b4, .ref b5])), (b1, .inl (cI, 66, .inl xs8)), (b2, .inl (cI, 66, .inl ys8)), (b3, .inl (cI, 66, .inl px8)), (b4, .inl (cI, 66, .inl py8)), (b5, .inl (cI, 67, .inl rd8))] := hD
        clear hPc hDc hFc hP1 hK1 hD1 hk1 hz1 ht
        obtain ⟨hre, hne, hce, hi8⟩ := oh_addEq hi9 hC hM
        rw [hne, hce] at hP hD
        refine lv_icmp_eq (tgt := 336) hx hb dL_law_124 (by decide) (fun c_124 => ?_) (fun c_124 => ?_)
        · refine lv_iinc (v := nI (i + 4)) (lv' := [(3, .int (nI (i + 4))), (0, .ref b), (1, .ref q0), (2, .ref q1)]) hx hb dL_law_336 hl (k := 3) rfl (nI_add i 4) (by decide) rfl (fun ls hl => ?_)
          refine lv_goto (tgt := 28) hx hb dL_law_339 (by decide) ?_
          exact ih (i + 4) n9 came9 gx9 gy9 rx9 ry9 xs8 ys8 px8 py8 rd8 (by omega) (by omega) (by omega) hi8 _ _ hP hD hS ls (lv_sub hl [1, 2, 3, 0] rfl)
        · exact absurd (hre) c_124
      · subst ek
        refine lv_tableIn (off := 87) (tgt := 129) hx hb dL_law_42 (by decide) (by decide) (by decide) (by decide) ?_
        refine lv_aload_n hx hb dL_law_129 rfl (lv_at hl 1 rfl) ?_
        have hPc := hP.sub (ws' := [(q0, .inr (0, [.int (nI N), .ref a1, .ref a2, .ref a3, .ref a4, .int (nI n), .int came])), (a1, .inl (cI, N, .inl fx)), (a2, .inl (cI, N, .inl fy)), (a3, .inl (cI, N, .inl rx)), (a4, .inl (cI, N, .inl ry))]) [0, 1, 2, 3, 4] rfl
        refine vp_callSi (va_Run.run (va_runV (As := []) (rest := []) ⟨hx, hb, hml, hown, hts⟩ (k_X0_size l dC dI cI q0 a1 a2 a3 a4 N n came fx fy rx ry hN hn) (cwV 0 hts gL_law_X0_size rfl rfl rfl (by decide +kernel) ⟨Nat.le_of_ble_eq_true rfl, Nat.le_of_ble_eq_true rfl⟩) (oh_pre (ci := 0) (q0 := 0) hK hPc rfl rfl) rfl rfl hl.1 rfl (lv_room (Nat.le_of_ble_eq_true rfl)) dL_law_130 ⟨Nat.le_of_ble_eq_true rfl, Nat.le_of_ble_eq_true rfl⟩)) (fun r_130 hr_130 => ?_)
        refine lv_aload_n hx hb dL_law_133 rfl (lv_at hl 2 rfl) ?_
        have hPc := hP.sub (ws' := [(q1, .inr (1, [.int (nI N), .int (nI n), .int came, .ref b1, .ref b2, .ref b3, .ref b4, .ref b5])), (b1, .inl (cI, 66, .inl xs9)), (b2, .inl (cI, 66, .inl ys9)), (b3, .inl (cI, 66, .inl px)), (b4, .inl (cI, 66, .inl py)), (b5, .inl (cI, 67, .inl rd))]) [5, 6, 7, 8, 9, 10] rfl
        refine vp_callSi (va_Run.run (va_runV (As := []) (rest := [.int r_130]) ⟨hx, hb, hml, hown, hts⟩ (k_X1_size l dC dI cI q1 b1 b2 b3 b4 b5 N n came xs9 ys9 px py rd hN hn) (cwV 0 hts gL_law_X1_size rfl rfl rfl (by decide +kernel) ⟨Nat.le_of_ble_eq_true rfl, Nat.le_of_ble_eq_true rfl⟩) (oh_pre (ci := 1) (q0 := 0) hK hPc rfl rfl) rfl rfl hl.1 rfl (lv_room (Nat.le_of_ble_eq_true rfl)) dL_law_134 ⟨Nat.le_of_ble_eq_true rfl, Nat.le_of_ble_eq_true rfl⟩)) (fun r_134 hr_134 => ?_)
        refine lv_icmp_eq (tgt := 336) hx hb dL_law_137 (by decide) (fun c_137 => ?_) (fun c_137 => ?_)
        · refine lv_iinc (v := nI (i + 4)) (lv' := [(3, .int (nI (i + 4))), (0, .ref b), (1, .ref q0), (2, .ref q1)]) hx hb dL_law_336 hl (k := 3) rfl (nI_add i 4) (by decide) rfl (fun ls hl => ?_)
          refine lv_goto (tgt := 28) hx hb dL_law_339 (by decide) ?_
          exact ih (i + 4) n came fx fy rx ry xs9 ys9 px py rd (by omega) (by omega) (by omega) hi9 _ _ hP hD hS ls (lv_sub hl [1, 2, 3, 0] rfl)
        · exact absurd (hr_130.trans hr_134.symm) c_137
      · subst ek
        refine lv_tableIn (off := 100) (tgt := 142) hx hb dL_law_42 (by decide) (by decide) (by decide) (by decide) ?_
        refine lv_aload_n hx hb dL_law_142 rfl (lv_at hl 1 rfl) ?_
        refine lv_aload_n hx hb dL_law_143 rfl (lv_at hl 0 rfl) ?_
        refine lv_iload_n hx hb dL_law_144 rfl (lv_at hl 3 rfl) ?_
        refine lv_iconst (v := nI 1) hx hb dL_law_145 (by decide) ?_
        refine lv_iadd hx hb dL_law_146 ?_
        rw [nI_add i 1]
        refine oh_sld hx hb hX hbl hbA hS (k := (i + 1)) (by omega) (by omega) dL_law_147 ?_
        have hPc := hP.sub (ws' := [(q0, .inr (0, [.int (nI N), .ref a1, .ref a2, .ref a3, .ref a4, .int (nI n), .int came])), (a1, .inl (cI, N, .inl fx)), (a2, .inl (cI, N, .inl fy)), (a3, .inl (cI, N, .inl rx)), (a4, .inl (cI, N, .inl ry))]) [0, 1, 2, 3, 4] rfl
        refine vp_callSi (va_Run.run (va_runV (As := [.int (xs ((i + 1)))]) (rest := []) ⟨hx, hb, hml, hown, hts⟩ (k_X0_xOf l dC dI cI q0 a1 a2 a3 a4 N n came fx fy rx ry (xs ((i + 1))) hN hn) (cwV 1 hts gL_law_X0_xOf rfl rfl rfl (by decide +kernel) ⟨Nat.le_of_ble_eq_true rfl, Nat.le_of_ble_eq_true rfl⟩) (oh_pre (ci := 0) (q0 := 0) hK hPc rfl rfl) rfl rfl hl.1 rfl (lv_room (Nat.le_of_ble_eq_true rfl)) dL_law_148 ⟨Nat.le_of_ble_eq_true rfl, Nat.le_of_ble_eq_true rfl⟩)) (fun r_148 hr_148 => ?_)
        refine lv_aload_n hx hb dL_law_151 rfl (lv_at hl 2 rfl) ?_
        refine lv_aload_n hx hb dL_law_152 rfl (lv_at hl 0 rfl) ?_
        refine lv_iload_n hx hb dL_law_153 rfl (lv_at hl 3 rfl) ?_
        refine lv_iconst (v := nI 1) hx hb dL_law_154 (by decide) ?_
        refine lv_iadd hx hb dL_law_155 ?_
        rw [nI_add i 1]
        refine oh_sld hx hb hX hbl hbA hS (k := (i + 1)) (by omega) (by omega) dL_law_156 ?_
        have hPc := hP.sub (ws' := [(q1, .inr (1, [.int (nI N), .int (nI n), .int came, .ref b1, .ref b2, .ref b3, .ref b4, .ref b5])), (b1, .inl (cI, 66, .inl xs9)), (b2, .inl (cI, 66, .inl ys9)), (b3, .inl (cI, 66, .inl px)), (b4, .inl (cI, 66, .inl py)), (b5, .inl (cI, 67, .inl rd))]) [5, 6, 7, 8, 9, 10] rfl
        refine vp_callSi (va_Run.run (va_runV (As := [.int (xs ((i + 1)))]) (rest := [.int r_148]) ⟨hx, hb, hml, hown, hts⟩ (k_X1_xOf l dC dI cI q1 b1 b2 b3 b4 b5 N n came xs9 ys9 px py rd (xs ((i + 1))) hN hn) (cwV 1 hts gL_law_X1_xOf rfl rfl rfl (by decide +kernel) ⟨Nat.le_of_ble_eq_true rfl, Nat.le_of_ble_eq_true rfl⟩) (oh_pre (ci := 1) (q0 := 0) hK hPc rfl rfl) rfl rfl hl.1 rfl (lv_room (Nat.le_of_ble_eq_true rfl)) dL_law_157 ⟨Nat.le_of_ble_eq_true rfl, Nat.le_of_ble_eq_true rfl⟩)) (fun r_157 hr_157 => ?_)
        refine lv_icmp_eq (tgt := 336) hx hb dL_law_160 (by decide) (fun c_160 => ?_) (fun c_160 => ?_)
        · refine lv_iinc (v := nI (i + 4)) (lv' := [(3, .int (nI (i + 4))), (0, .ref b), (1, .ref q0), (2, .ref q1)]) hx hb dL_law_336 hl (k := 3) rfl (nI_add i 4) (by decide) rfl (fun ls hl => ?_)
          refine lv_goto (tgt := 28) hx hb dL_law_339 (by decide) ?_
          exact ih (i + 4) n came fx fy rx ry xs9 ys9 px py rd (by omega) (by omega) (by omega) hi9 _ _ hP hD hS ls (lv_sub hl [1, 2, 3, 0] rfl)
        · exact absurd (oh_xEq (fun k hk => (hi9.2.2.2.2.2 k hk).1) (by omega) hr_148 hr_157) c_160
      · subst ek
        refine lv_tableIn (off := 123) (tgt := 165) hx hb dL_law_42 (by decide) (by decide) (by decide) (by decide) ?_
        refine lv_aload_n hx hb dL_law_165 rfl (lv_at hl 1 rfl) ?_
        refine lv_aload_n hx hb dL_law_166 rfl (lv_at hl 0 rfl) ?_
        refine lv_iload_n hx hb dL_law_167 rfl (lv_at hl 3 rfl) ?_
        refine lv_iconst (v := nI 1) hx hb dL_law_168 (by decide) ?_
        refine lv_iadd hx hb dL_law_169 ?_
        rw [nI_add i 1]
        refine oh_sld hx hb hX hbl hbA hS (k := (i + 1)) (by omega) (by omega) dL_law_170 ?_
        have hPc := hP.sub (ws' := [(q0, .inr (0, [.int (nI N), .ref a1, .ref a2, .ref a3, .ref a4, .int (nI n), .int came])), (a1, .inl (cI, N, .inl fx)), (a2, .inl (cI, N, .inl fy)), (a3, .inl (cI, N, .inl rx)), (a4, .inl (cI, N, .inl ry))]) [0, 1, 2, 3, 4] rfl
        refine vp_callSi (va_Run.run (va_runV (As := [.int (xs ((i + 1)))]) (rest := []) ⟨hx, hb, hml, hown, hts⟩ (k_X0_yOf l dC dI cI q0 a1 a2 a3 a4 N n came fx fy rx ry (xs ((i + 1))) hN hn) (cwV 1 hts gL_law_X0_yOf rfl rfl rfl (by decide +kernel) ⟨Nat.le_of_ble_eq_true rfl, Nat.le_of_ble_eq_true rfl⟩) (oh_pre (ci := 0) (q0 := 0) hK hPc rfl rfl) rfl rfl hl.1 rfl (lv_room (Nat.le_of_ble_eq_true rfl)) dL_law_171 ⟨Nat.le_of_ble_eq_true rfl, Nat.le_of_ble_eq_true rfl⟩)) (fun r_171 hr_171 => ?_)
        refine lv_aload_n hx hb dL_law_174 rfl (lv_at hl 2 rfl) ?_
        refine lv_aload_n hx hb dL_law_175 rfl (lv_at hl 0 rfl) ?_
        refine lv_iload_n hx hb dL_law_176 rfl (lv_at hl 3 rfl) ?_
        refine lv_iconst (v := nI 1) hx hb dL_law_177 (by decide) ?_
        refine lv_iadd hx hb dL_law_178 ?_
        rw [nI_add i 1]
        refine oh_sld hx hb hX hbl hbA hS (k := (i + 1)) (by omega) (by omega) dL_law_179 ?_
        have hPc := hP.sub (ws' := [(q1, .inr (1, [.int (nI N), .int (nI n), .int came, .ref b1, .ref b2, .ref b3, .ref b4, .ref b5])), (b1, .inl (cI, 66, .inl xs9)), (b2, .inl (cI, 66, .inl ys9)), (b3, .inl (cI, 66, .inl px)), (b4, .inl (cI, 66, .inl py)), (b5, .inl (cI, 67, .inl rd))]) [5, 6, 7, 8, 9, 10] rfl
        refine vp_callSi (va_Run.run (va_runV (As := [.int (xs ((i + 1)))]) (rest := [.int r_171]) ⟨hx, hb, hml, hown, hts⟩ (k_X1_yOf l dC dI cI q1 b1 b2 b3 b4 b5 N n came xs9 ys9 px py rd (xs ((i + 1))) hN hn) (cwV 1 hts gL_law_X1_yOf rfl rfl rfl (by decide +kernel) ⟨Nat.le_of_ble_eq_true rfl, Nat.le_of_ble_eq_true rfl⟩) (oh_pre (ci := 1) (q0 := 0) hK hPc rfl rfl) rfl rfl hl.1 rfl (lv_room (Nat.le_of_ble_eq_true rfl)) dL_law_180 ⟨Nat.le_of_ble_eq_true rfl, Nat.le_of_ble_eq_true rfl⟩)) (fun r_180 hr_180 => ?_)
        refine lv_icmp_eq (tgt := 336) hx hb dL_law_183 (by decide) (fun c_183 => ?_) (fun c_183 => ?_)
        · refine lv_iinc (v := nI (i + 4)) (lv' := [(3, .int (nI (i + 4))), (0, .ref b), (1, .ref q0), (2, .ref q1)]) hx hb dL_law_336 hl (k := 3) rfl (nI_add i 4) (by decide) rfl (fun ls hl => ?_)
          refine lv_goto (tgt := 28) hx hb dL_law_339 (by decide) ?_
          exact ih (i + 4) n came fx fy rx ry xs9 ys9 px py rd (by omega) (by omega) (by omega) hi9 _ _ hP hD hS ls (lv_sub hl [1, 2, 3, 0] rfl)
        · exact absurd (oh_xEq (fun k hk => (hi9.2.2.2.2.2 k hk).2) (by omega) hr_171 hr_180) c_183
      · subst ek
        refine lv_tableIn (off := 146) (tgt := 188) hx hb dL_law_42 (by decide) (by decide) (by decide) (by decide) ?_
        refine lv_aload_n hx hb dL_law_188 rfl (lv_at hl 1 rfl) ?_
        refine lv_aload_n hx hb dL_law_189 rfl (lv_at hl 0 rfl) ?_
        refine lv_iload_n hx hb dL_law_190 rfl (lv_at hl 3 rfl) ?_
        refine lv_iconst (v := nI 1) hx hb dL_law_191 (by decide) ?_
        refine lv_iadd hx hb dL_law_192 ?_
        rw [nI_add i 1]
        refine oh_sld hx hb hX hbl hbA hS (k := (i + 1)) (by omega) (by omega) dL_law_193 ?_
        refine lv_aload_n hx hb dL_law_194 rfl (lv_at hl 0 rfl) ?_
        refine lv_iload_n hx hb dL_law_195 rfl (lv_at hl 3 rfl) ?_
        refine lv_iconst (v := nI 2) hx hb dL_law_196 (by decide) ?_
        refine lv_iadd hx hb dL_law_197 ?_
        rw [nI_add i 2]
        refine oh_sld hx hb hX hbl hbA hS (k := (i + 2)) (by omega) (by omega) dL_law_198 ?_
        have hPc := hP.sub (ws' := [(q0, .inr (0, [.int (nI N), .ref a1, .ref a2, .ref a3, .ref a4, .int (nI n), .int came])), (a1, .inl (cI, N, .inl fx)), (a2, .inl (cI, N, .inl fy)), (a3, .inl (cI, N, .inl rx)), (a4, .inl (cI, N, .inl ry))]) [0, 1, 2, 3, 4] rfl
        refine vp_callSi (va_Run.run (va_runV (As := [.int (xs ((i + 1))), .int (xs ((i + 2)))]) (rest := []) ⟨hx, hb, hml, hown, hts⟩ (k_X0_inside l dC dI cI q0 a1 a2 a3 a4 N n came fx fy rx ry (xs ((i + 1))) (xs ((i + 2))) hN hn hR) (cwV 2 hts gL_law_X0_inside rfl rfl rfl (by decide +kernel) ⟨Nat.le_of_ble_eq_true rfl, Nat.le_of_ble_eq_true rfl⟩) (oh_pre (ci := 0) (q0 := 0) hK hPc rfl rfl) rfl rfl hl.1 rfl (lv_room (Nat.le_of_ble_eq_true rfl)) dL_law_199 ⟨Nat.le_of_ble_eq_true rfl, Nat.le_of_ble_eq_true rfl⟩)) (fun r_199 hr_199 => ?_)
        refine lv_aload_n hx hb dL_law_202 rfl (lv_at hl 2 rfl) ?_
        refine lv_aload_n hx hb dL_law_203 rfl (lv_at hl 0 rfl) ?_
        refine lv_iload_n hx hb dL_law_204 rfl (lv_at hl 3 rfl) ?_
        refine lv_iconst (v := nI 1) hx hb dL_law_205 (by decide) ?_
        refine lv_iadd hx hb dL_law_206 ?_
        rw [nI_add i 1]
        refine oh_sld hx hb hX hbl hbA hS (k := (i + 1)) (by omega) (by omega) dL_law_207 ?_
        refine lv_aload_n hx hb dL_law_208 rfl (lv_at hl 0 rfl) ?_
        refine lv_iload_n hx hb dL_law_209 rfl (lv_at hl 3 rfl) ?_
        refine lv_iconst (v := nI 2) hx hb dL_law_210 (by decide) ?_
        refine lv_iadd hx hb dL_law_211 ?_
        rw [nI_add i 2]
        refine oh_sld hx hb hX hbl hbA hS (k := (i + 2)) (by omega) (by omega) dL_law_212 ?_
        have hPc := hP.sub (ws' := [(q1, .inr (1, [.int (nI N), .int (nI n), .int came, .ref b1, .ref b2, .ref b3, .ref b4, .ref b5])), (b1, .inl (cI, 66, .inl xs9)), (b2, .inl (cI, 66, .inl ys9)), (b3, .inl (cI, 66, .inl px)), (b4, .inl (cI, 66, .inl py)), (b5, .inl (cI, 67, .inl rd))]) [5, 6, 7, 8, 9, 10] rfl
        refine vp_callSi (va_Run.run (va_runV (As := [.int (xs ((i + 1))), .int (xs ((i + 2)))]) (rest := [.int r_199]) ⟨hx, hb, hml, hown, hts⟩ (k_X1_inside l dC dI cI q1 b1 b2 b3 b4 b5 N n came xs9 ys9 px py rd (xs ((i + 1))) (xs ((i + 2))) hN hn hR1 hh1) (cwV 2 hts gL_law_X1_inside rfl rfl rfl (by decide +kernel) ⟨Nat.le_of_ble_eq_true rfl, Nat.le_of_ble_eq_true rfl⟩) (oh_pre (ci := 1) (q0 := 0) hK hPc rfl rfl) rfl rfl hl.1 rfl (lv_room (Nat.le_of_ble_eq_true rfl)) dL_law_213 ⟨Nat.le_of_ble_eq_true rfl, Nat.le_of_ble_eq_true rfl⟩)) (fun r_213 hr_213 => ?_)
        refine lv_icmp_eq (tgt := 336) hx hb dL_law_216 (by decide) (fun c_216 => ?_) (fun c_216 => ?_)
        · refine lv_iinc (v := nI (i + 4)) (lv' := [(3, .int (nI (i + 4))), (0, .ref b), (1, .ref q0), (2, .ref q1)]) hx hb dL_law_336 hl (k := 3) rfl (nI_add i 4) (by decide) rfl (fun ls hl => ?_)
          refine lv_goto (tgt := 28) hx hb dL_law_339 (by decide) ?_
          exact ih (i + 4) n came fx fy rx ry xs9 ys9 px py rd (by omega) (by omega) (by omega) hi9 _ _ hP hD hS ls (lv_sub hl [1, 2, 3, 0] rfl)
        · exact absurd (oh_inEq hPP hr_199 hr_213) c_216
      · subst ek
        refine lv_tableIn (off := 179) (tgt := 221) hx hb dL_law_42 (by decide) (by decide) (by decide) (by decide) ?_
        refine lv_aload_n hx hb dL_law_221 rfl (lv_at hl 1 rfl) ?_
        have hPc := hP.sub (ws' := [(q0, .inr (0, [.int (nI N), .ref a1, .ref a2, .ref a3, .ref a4, .int (nI n), .int came])), (a1, .inl (cI, N, .inl fx)), (a2, .inl (cI, N, .inl fy)), (a3, .inl (cI, N, .inl rx)), (a4, .inl (cI, N, .inl ry))]) [0, 1, 2, 3, 4] rfl
        refine vp_callSi (va_Run.run (va_runV (As := []) (rest := []) ⟨hx, hb, hml, hown, hts⟩ (k_X0_twiceArea l dC dI cI q0 a1 a2 a3 a4 N n came fx fy rx ry hN hn hR) (cwV 0 hts gL_law_X0_twiceArea rfl rfl rfl (by decide +kernel) ⟨Nat.le_of_ble_eq_true rfl, Nat.le_of_ble_eq_true rfl⟩) (oh_pre (ci := 0) (q0 := 0) hK hPc rfl rfl) rfl rfl hl.1 rfl (lv_room (Nat.le_of_ble_eq_true rfl)) dL_law_222 ⟨Nat.le_of_ble_eq_true rfl, Nat.le_of_ble_eq_true rfl⟩)) (fun r_222 hr_222 => ?_)
        refine lv_aload_n hx hb dL_law_225 rfl (lv_at hl 2 rfl) ?_
        have hPc := hP.sub (ws' := [(q1, .inr (1, [.int (nI N), .int (nI n), .int came, .ref b1, .ref b2, .ref b3, .ref b4, .ref b5])), (b1, .inl (cI, 66, .inl xs9)), (b2, .inl (cI, 66, .inl ys9)), (b3, .inl (cI, 66, .inl px)), (b4, .inl (cI, 66, .inl py)), (b5, .inl (cI, 67, .inl rd))]) [5, 6, 7, 8, 9, 10] rfl
        refine vp_callSi (va_Run.run (va_runV (As := []) (rest := [.int r_222]) ⟨hx, hb, hml, hown, hts⟩ (k_X1_twiceArea l dC dI cI q1 b1 b2 b3 b4 b5 N n came xs9 ys9 px py rd hN hn hR1) (cwV 0 hts gL_law_X1_twiceArea rfl rfl rfl (by decide +kernel) ⟨Nat.le_of_ble_eq_true rfl, Nat.le_of_ble_eq_true rfl⟩) (oh_pre (ci := 1) (q0 := 0) hK hPc rfl rfl) rfl rfl hl.1 rfl (lv_room (Nat.le_of_ble_eq_true rfl)) dL_law_226 ⟨Nat.le_of_ble_eq_true rfl, Nat.le_of_ble_eq_true rfl⟩)) (fun r_226 hr_226 => ?_)
        refine lv_icmp_eq (tgt := 336) hx hb dL_law_229 (by decide) (fun c_229 => ?_) (fun c_229 => ?_)
        · refine lv_iinc (v := nI (i + 4)) (lv' := [(3, .int (nI (i + 4))), (0, .ref b), (1, .ref q0), (2, .ref q1)]) hx hb dL_law_336 hl (k := 3) rfl (nI_add i 4) (by decide) rfl (fun ls hl => ?_)
          refine lv_goto (tgt := 28) hx hb dL_law_339 (by decide) ?_
          exact ih (i + 4) n came fx fy rx ry xs9 ys9 px py rd (by omega) (by omega) (by omega) hi9 _ _ hP hD hS ls (lv_sub hl [1, 2, 3, 0] rfl)
        · exact absurd (by rw [hr_222, hr_226, oh_c_ar2 hPP]) c_229
      · subst ek
        refine lv_tableIn (off := 192) (tgt := 234) hx hb dL_law_42 (by decide) (by decide) (by decide) (by decide) ?_
        refine lv_aload_n hx hb dL_law_234 rfl (lv_at hl 1 rfl) ?_
        refine lv_aload_n hx hb dL_law_235 rfl (lv_at hl 0 rfl) ?_
        refine lv_iload_n hx hb dL_law_236 rfl (lv_at hl 3 rfl) ?_
        refine lv_iconst (v := nI 1) hx hb dL_law_237 (by decide) ?_
        refine lv_iadd hx hb dL_law_238 ?_
        rw [nI_add i 1]
        refine oh_sld hx hb hX hbl hbA hS (k := (i + 1)) (by omega) (by omega) dL_law_239 ?_
        refine lv_aload_n hx hb dL_law_240 rfl (lv_at hl 0 rfl) ?_
        refine lv_iload_n hx hb dL_law_241 rfl (lv_at hl 3 rfl) ?_
        refine lv_iconst (v := nI 2) hx hb dL_law_242 (by decide) ?_
        refine lv_iadd hx hb dL_law_243 ?_
        rw [nI_add i 2]
        refine oh_sld hx hb hX hbl hbA hS (k := (i + 2)) (by omega) (by omega) dL_law_244 ?_
        have hPc := hP.sub (ws' := [(q0, .inr (0, [.int (nI N), .ref a1, .ref a2, .ref a3, .ref a4, .int (nI n), .int came])), (a1, .inl (cI, N, .inl fx)), (a2, .inl (cI, N, .inl fy)), (a3, .inl (cI, N, .inl rx)), (a4, .inl (cI, N, .inl ry))]) [0, 1, 2, 3, 4] rfl
        refine vp_callSi (va_Run.run (va_runV (As := [.int (xs ((i + 1))), .int (xs ((i + 2)))]) (rest := []) ⟨hx, hb, hml, hown, hts⟩ (k_X0_farthest l dC dI cI q0 a1 a2 a3 a4 N n came fx fy rx ry (xs ((i + 1))) (xs ((i + 2))) hN hn hR) (cwV 2 hts gL_law_X0_farthest rfl rfl rfl (by decide +kernel) ⟨Nat.le_of_ble_eq_true rfl, Nat.le_of_ble_eq_true rfl⟩) (oh_pre (ci := 0) (q0 := 0) hK hPc rfl rfl) rfl rfl hl.1 rfl (lv_room (Nat.le_of_ble_eq_true rfl)) dL_law_245 ⟨Nat.le_of_ble_eq_true rfl, Nat.le_of_ble_eq_true rfl⟩)) (fun r_245 hr_245 => ?_)
        refine lv_aload_n hx hb dL_law_248 rfl (lv_at hl 2 rfl) ?_
        refine lv_aload_n hx hb dL_law_249 rfl (lv_at hl 0 rfl) ?_
        refine lv_iload_n hx hb dL_law_250 rfl (lv_at hl 3 rfl) ?_
        refine lv_iconst (v := nI 1) hx hb dL_law_251 (by decide) ?_
        refine lv_iadd hx hb dL_law_252 ?_
        rw [nI_add i 1]
        refine oh_sld hx hb hX hbl hbA hS (k := (i + 1)) (by omega) (by omega) dL_law_253 ?_
        refine lv_aload_n hx hb dL_law_254 rfl (lv_at hl 0 rfl) ?_
        refine lv_iload_n hx hb dL_law_255 rfl (lv_at hl 3 rfl) ?_
        refine lv_iconst (v := nI 2) hx hb dL_law_256 (by decide) ?_
        refine lv_iadd hx hb dL_law_257 ?_
        rw [nI_add i 2]
        refine oh_sld hx hb hX hbl hbA hS (k := (i + 2)) (by omega) (by omega) dL_law_258 ?_
        have hPc := hP.sub (ws' := [(q1, .inr (1, [.int (nI N), .int (nI n), .int came, .ref b1, .ref b2, .ref b3, .ref b4, .ref b5])), (b1, .inl (cI, 66, .inl xs9)), (b2, .inl (cI, 66, .inl ys9)), (b3, .inl (cI, 66, .inl px)), (b4, .inl (cI, 66, .inl py)), (b5, .inl (cI, 67, .inl rd))]) [5, 6, 7, 8, 9, 10] rfl
        refine vp_callSi (va_Run.run (va_runV (As := [.int (xs ((i + 1))), .int (xs ((i + 2)))]) (rest := [.int r_245]) ⟨hx, hb, hml, hown, hts⟩ (k_X1_farthest l dC dI cI q1 b1 b2 b3 b4 b5 N n came xs9 ys9 px py rd (xs ((i + 1))) (xs ((i + 2))) hN hn hR1) (cwV 2 hts gL_law_X1_farthest rfl rfl rfl (by decide +kernel) ⟨Nat.le_of_ble_eq_true rfl, Nat.le_of_ble_eq_true rfl⟩) (oh_pre (ci := 1) (q0 := 0) hK hPc rfl rfl) rfl rfl hl.1 rfl (lv_room (Nat.le_of_ble_eq_true rfl)) dL_law_259 ⟨Nat.le_of_ble_eq_true rfl, Nat.le_of_ble_eq_true rfl⟩)) (fun r_259 hr_259 => ?_)
        refine lv_icmp_eq (tgt := 336) hx hb dL_law_262 (by decide) (fun c_262 => ?_) (fun c_262 => ?_)
        · refine lv_iinc (v := nI (i + 4)) (lv' := [(3, .int (nI (i + 4))), (0, .ref b), (1, .ref q0), (2, .ref q1)]) hx hb dL_law_336 hl (k := 3) rfl (nI_add i 4) (by decide) rfl (fun ls hl => ?_)
          refine lv_goto (tgt := 28) hx hb dL_law_339 (by decide) ?_
          exact ih (i + 4) n came fx fy rx ry xs9 ys9 px py rd (by omega) (by omega) (by omega) hi9 _ _ hP hD hS ls (lv_sub hl [1, 2, 3, 0] rfl)
        · exact absurd (oh_u_far hr_245 (oh_c_far hPP hr_259)) c_262
      · subst ek
        refine lv_tableIn (off := 225) (tgt := 267) hx hb dL_law_42 (by decide) (by decide) (by decide) (by decide) ?_
        refine lv_aload_n hx hb dL_law_267 rfl (lv_at hl 1 rfl) ?_
        refine lv_aload_n hx hb dL_law_268 rfl (lv_at hl 0 rfl) ?_
        refine lv_iload_n hx hb dL_law_269 rfl (lv_at hl 3 rfl) ?_
        refine lv_iconst (v := nI 1) hx hb dL_law_270 (by decide) ?_
        refine lv_iadd hx hb dL_law_271 ?_
        rw [nI_add i 1]
        refine oh_sld hx hb hX hbl hbA hS (k := (i + 1)) (by omega) (by omega) dL_law_272 ?_
        refine lv_aload_n hx hb dL_law_273 rfl (lv_at hl 0 rfl) ?_
        refine lv_iload_n hx hb dL_law_274 rfl (lv_at hl 3 rfl) ?_
        refine lv_iconst (v := nI 2) hx hb dL_law_275 (by decide) ?_
        refine lv_iadd hx hb dL_law_276 ?_
        rw [nI_add i 2]
        refine oh_sld hx hb hX hbl hbA hS (k := (i + 2)) (by omega) (by omega) dL_law_277 ?_
        refine lv_aload_n hx hb dL_law_278 rfl (lv_at hl 0 rfl) ?_
        refine lv_iload_n hx hb dL_law_279 rfl (lv_at hl 3 rfl) ?_
        refine lv_iconst (v := nI 3) hx hb dL_law_280 (by decide) ?_
        refine lv_iadd hx hb dL_law_281 ?_
        rw [nI_add i 3]
        refine oh_sld hx hb hX hbl hbA hS (k := (i + 3)) (by omega) (by omega) dL_law_282 ?_
        have hPc := hP.sub (ws' := [(q0, .inr (0, [.int (nI N), .ref a1, .ref a2, .ref a3, .ref a4, .int (nI n), .int came])), (a1, .inl (cI, N, .inl fx)), (a2, .inl (cI, N, .inl fy)), (a3, .inl (cI, N, .inl rx)), (a4, .inl (cI, N, .inl ry))]) [0, 1, 2, 3, 4] rfl
        refine vp_callSi (va_Run.run (va_runV (As := [.int (xs ((i + 1))), .int (xs ((i + 2))), .int (xs ((i + 3)))]) (rest := []) ⟨hx, hb, hml, hown, hts⟩ (k_X0_tangent l dC dI cI q0 a1 a2 a3 a4 N n came fx fy rx ry (xs ((i + 1))) (xs ((i + 2))) (xs ((i + 3))) hN hn hR) (cwV 3 hts gL_law_X0_tangent rfl rfl rfl (by decide +kernel) ⟨Nat.le_of_ble_eq_true rfl, Nat.le_of_ble_eq_true rfl⟩) (oh_pre (ci := 0) (q0 := 0) hK hPc rfl rfl) rfl rfl hl.1 rfl (lv_room (Nat.le_of_ble_eq_true rfl)) dL_law_283 ⟨Nat.le_of_ble_eq_true rfl, Nat.le_of_ble_eq_true rfl⟩)) (fun r_283 hr_283 => ?_)
        refine lv_aload_n hx hb dL_law_286 rfl (lv_at hl 2 rfl) ?_
        refine lv_aload_n hx hb dL_law_287 rfl (lv_at hl 0 rfl) ?_
        refine lv_iload_n hx hb dL_law_288 rfl (lv_at hl 3 rfl) ?_
        refine lv_iconst (v := nI 1) hx hb dL_law_289 (by decide) ?_
        refine lv_iadd hx hb dL_law_290 ?_
        rw [nI_add i 1]
        refine oh_sld hx hb hX hbl hbA hS (k := (i + 1)) (by omega) (by omega) dL_law_291 ?_
        refine lv_aload_n hx hb dL_law_292 rfl (lv_at hl 0 rfl) ?_
        refine lv_iload_n hx hb dL_law_293 rfl (lv_at hl 3 rfl) ?_
        refine lv_iconst (v := nI 2) hx hb dL_law_294 (by decide) ?_
        refine lv_iadd hx hb dL_law_295 ?_
        rw [nI_add i 2]
        refine oh_sld hx hb hX hbl hbA hS (k := (i + 2)) (by omega) (by omega) dL_law_296 ?_
        refine lv_aload_n hx hb dL_law_297 rfl (lv_at hl 0 rfl) ?_
        refine lv_iload_n hx hb dL_law_298 rfl (lv_at hl 3 rfl) ?_
        refine lv_iconst (v := nI 3) hx hb dL_law_299 (by decide) ?_
        refine lv_iadd hx hb dL_law_300 ?_
        rw [nI_add i 3]
        refine oh_sld hx hb hX hbl hbA hS (k := (i + 3)) (by omega) (by omega) dL_law_301 ?_
        have hPc := hP.sub (ws' := [(q1, .inr (1, [.int (nI N), .int (nI n), .int came, .ref b1, .ref b2, .ref b3, .ref b4, .ref b5])), (b1, .inl (cI, 66, .inl xs9)), (b2, .inl (cI, 66, .inl ys9)), (b3, .inl (cI, 66, .inl px)), (b4, .inl (cI, 66, .inl py)), (b5, .inl (cI, 67, .inl rd))]) [5, 6, 7, 8, 9, 10] rfl
        refine vp_callSi (va_Run.run (va_runV (As := [.int (xs ((i + 1))), .int (xs ((i + 2))), .int (xs ((i + 3)))]) (rest := [.int r_283]) ⟨hx, hb, hml, hown, hts⟩ (k_X1_tangent l dC dI cI q1 b1 b2 b3 b4 b5 N n came xs9 ys9 px py rd (xs ((i + 1))) (xs ((i + 2))) (xs ((i + 3))) hN hn hR1 hh1) (cwV 3 hts gL_law_X1_tangent rfl rfl rfl (by decide +kernel) ⟨Nat.le_of_ble_eq_true rfl, Nat.le_of_ble_eq_true rfl⟩) (oh_pre (ci := 1) (q0 := 0) hK hPc rfl rfl) rfl rfl hl.1 rfl (lv_room (Nat.le_of_ble_eq_true rfl)) dL_law_302 ⟨Nat.le_of_ble_eq_true rfl, Nat.le_of_ble_eq_true rfl⟩)) (fun r_302 hr_302 => ?_)
        refine lv_icmp_eq (tgt := 336) hx hb dL_law_305 (by decide) (fun c_305 => ?_) (fun c_305 => ?_)
        · refine lv_iinc (v := nI (i + 4)) (lv' := [(3, .int (nI (i + 4))), (0, .ref b), (1, .ref q0), (2, .ref q1)]) hx hb dL_law_336 hl (k := 3) rfl (nI_add i 4) (by decide) rfl (fun ls hl => ?_)
          refine lv_goto (tgt := 28) hx hb dL_law_339 (by decide) ?_
          exact ih (i + 4) n came fx fy rx ry xs9 ys9 px py rd (by omega) (by omega) (by omega) hi9 _ _ hP hD hS ls (lv_sub hl [1, 2, 3, 0] rfl)
        · exact absurd (oh_u_tan hh hr_283 (oh_c_tan hPP hr_302)) c_305
      · subst ek
        refine lv_tableIn (off := 268) (tgt := 310) hx hb dL_law_42 (by decide) (by decide) (by decide) (by decide) ?_
        refine lv_aload_n hx hb dL_law_310 rfl (lv_at hl 1 rfl) ?_
        have hPc := hP.sub (ws' := [(q0, .inr (0, [.int (nI N), .ref a1, .ref a2, .ref a3, .ref a4, .int (nI n), .int came])), (a1, .inl (cI, N, .inl fx)), (a2, .inl (cI, N, .inl fy)), (a3, .inl (cI, N, .inl rx)), (a4, .inl (cI, N, .inl ry))]) [0, 1, 2, 3, 4] rfl
        refine vp_callSi (va_Run.run (va_runV (As := []) (rest := []) ⟨hx, hb, hml, hown, hts⟩ (k_X0_diameter l dC dI cI q0 a1 a2 a3 a4 N n came fx fy rx ry hN hn hR) (cwV 0 hts gL_law_X0_diameter rfl rfl rfl (by decide +kernel) ⟨Nat.le_of_ble_eq_true rfl, Nat.le_of_ble_eq_true rfl⟩) (oh_pre (ci := 0) (q0 := 0) hK hPc rfl rfl) rfl rfl hl.1 rfl (lv_room (Nat.le_of_ble_eq_true rfl)) dL_law_311 ⟨Nat.le_of_ble_eq_true rfl, Nat.le_of_ble_eq_true rfl⟩)) (fun r_311 hr_311 => ?_)
        refine lv_aload_n hx hb dL_law_314 rfl (lv_at hl 2 rfl) ?_
        have hPc := hP.sub (ws' := [(q1, .inr (1, [.int (nI N), .int (nI n), .int came, .ref b1, .ref b2, .ref b3, .ref b4, .ref b5])), (b1, .inl (cI, 66, .inl xs9)), (b2, .inl (cI, 66, .inl ys9)), (b3, .inl (cI, 66, .inl px)), (b4, .inl (cI, 66, .inl py)), (b5, .inl (cI, 67, .inl rd))]) [5, 6, 7, 8, 9, 10] rfl
        refine vp_callSi (va_Run.run (va_runV (As := []) (rest := [.int r_311]) ⟨hx, hb, hml, hown, hts⟩ (k_X1_diameter l dC dI cI q1 b1 b2 b3 b4 b5 N n came xs9 ys9 px py rd hN hn hR1) (cwV 0 hts gL_law_X1_diameter rfl rfl rfl (by decide +kernel) ⟨Nat.le_of_ble_eq_true rfl, Nat.le_of_ble_eq_true rfl⟩) (oh_pre (ci := 1) (q0 := 0) hK hPc rfl rfl) rfl rfl hl.1 rfl (lv_room (Nat.le_of_ble_eq_true rfl)) dL_law_315 ⟨Nat.le_of_ble_eq_true rfl, Nat.le_of_ble_eq_true rfl⟩)) (fun r_315 hr_315 => ?_)
        refine lv_icmp_eq (tgt := 336) hx hb dL_law_318 (by decide) (fun c_318 => ?_) (fun c_318 => ?_)
        · refine lv_iinc (v := nI (i + 4)) (lv' := [(3, .int (nI (i + 4))), (0, .ref b), (1, .ref q0), (2, .ref q1)]) hx hb dL_law_336 hl (k := 3) rfl (nI_add i 4) (by decide) rfl (fun ls hl => ?_)
          refine lv_goto (tgt := 28) hx hb dL_law_339 (by decide) ?_
          exact ih (i + 4) n came fx fy rx ry xs9 ys9 px py rd (by omega) (by omega) (by omega) hi9 _ _ hP hD hS ls (lv_sub hl [1, 2, 3, 0] rfl)
        · exact absurd (oh_u_dia hr_311 (oh_c_dia hPP hr_315)) c_318
      · subst ek
        refine lv_tableIn (off := 281) (tgt := 323) hx hb dL_law_42 (by decide) (by decide) (by decide) (by decide) ?_
        refine lv_aload_n hx hb dL_law_323 rfl (lv_at hl 1 rfl) ?_
        have hPc := hP.sub (ws' := [(q0, .inr (0, [.int (nI N), .ref a1, .ref a2, .ref a3, .ref a4, .int (nI n), .int came])), (a1, .inl (cI, N, .inl fx)), (a2, .inl (cI, N, .inl fy)), (a3, .inl (cI, N, .inl rx)), (a4, .inl (cI, N, .inl ry))]) [0, 1, 2, 3, 4] rfl
        refine vp_callSi (va_Run.run (va_runV (As := []) (rest := []) ⟨hx, hb, hml, hown, hts⟩ (k_X0_points l dC dI cI q0 a1 a2 a3 a4 N n came fx fy rx ry hN hn) (cwV 0 hts gL_law_X0_points rfl rfl rfl (by decide +kernel) ⟨Nat.le_of_ble_eq_true rfl, Nat.le_of_ble_eq_true rfl⟩) (oh_pre (ci := 0) (q0 := 0) hK hPc rfl rfl) rfl rfl hl.1 rfl (lv_room (Nat.le_of_ble_eq_true rfl)) dL_law_324 ⟨Nat.le_of_ble_eq_true rfl, Nat.le_of_ble_eq_true rfl⟩)) (fun r_324 hr_324 => ?_)
        refine lv_aload_n hx hb dL_law_327 rfl (lv_at hl 2 rfl) ?_
        have hPc := hP.sub (ws' := [(q1, .inr (1, [.int (nI N), .int (nI n), .int came, .ref b1, .ref b2, .ref b3, .ref b4, .ref b5])), (b1, .inl (cI, 66, .inl xs9)), (b2, .inl (cI, 66, .inl ys9)), (b3, .inl (cI, 66, .inl px)), (b4, .inl (cI, 66, .inl py)), (b5, .inl (cI, 67, .inl rd))]) [5, 6, 7, 8, 9, 10] rfl
        refine vp_callSi (va_Run.run (va_runV (As := []) (rest := [.int r_324]) ⟨hx, hb, hml, hown, hts⟩ (k_X1_points l dC dI cI q1 b1 b2 b3 b4 b5 N n came xs9 ys9 px py rd hN hn) (cwV 0 hts gL_law_X1_points rfl rfl rfl (by decide +kernel) ⟨Nat.le_of_ble_eq_true rfl, Nat.le_of_ble_eq_true rfl⟩) (oh_pre (ci := 1) (q0 := 0) hK hPc rfl rfl) rfl rfl hl.1 rfl (lv_room (Nat.le_of_ble_eq_true rfl)) dL_law_328 ⟨Nat.le_of_ble_eq_true rfl, Nat.le_of_ble_eq_true rfl⟩)) (fun r_328 hr_328 => ?_)
        refine lv_icmp_eq (tgt := 336) hx hb dL_law_331 (by decide) (fun c_331 => ?_) (fun c_331 => ?_)
        · refine lv_iinc (v := nI (i + 4)) (lv' := [(3, .int (nI (i + 4))), (0, .ref b), (1, .ref q0), (2, .ref q1)]) hx hb dL_law_336 hl (k := 3) rfl (nI_add i 4) (by decide) rfl (fun ls hl => ?_)
          refine lv_goto (tgt := 28) hx hb dL_law_339 (by decide) ?_
          exact ih (i + 4) n came fx fy rx ry xs9 ys9 px py rd (by omega) (by omega) (by omega) hi9 _ _ hP hD hS ls (lv_sub hl [1, 2, 3, 0] rfl)
        · exact absurd (hr_324.trans hr_328.symm) c_331
      · refine lv_tableOut (tgt := 336) hx hb dL_law_42 (Or.inr (by rw [nI_toInt (by omega)]; omega)) (by decide) ?_
        refine lv_iinc (v := nI (i + 4)) (lv' := [(3, .int (nI (i + 4))), (0, .ref b), (1, .ref q0), (2, .ref q1)]) hx hb dL_law_336 hl (k := 3) rfl (nI_add i 4) (by decide) rfl (fun ls hl => ?_)
        refine lv_goto (tgt := 28) hx hb dL_law_339 (by decide) ?_
        exact ih (i + 4) n came fx fy rx ry xs9 ys9 px py rd (by omega) (by omega) (by omega) hi9 _ _ hP hD hS ls (lv_sub hl [1, 2, 3, 0] rfl)
end
section
set_option maxHeartbeats 4000000 in
set_option maxRecDepth 100000 in
/-- THE LAW, from its entry -/
theorem whole_start {p : Program} {e : Env} {s : State} {m : MethodId} {below : List Frame} {meth : Method} {c : Code} (l : Launch) {b L : Nat} {xs : Nat → Int32} (hL : L ≤ 2049) (C0 : lw_At p s m meth c b L xs) : W p l e room_1 s m #[Value.ref b] below meth c s.heap [] 0 0 (lw_Z below #[Value.ref b] s) (entryFrame m ([Value.ref b] : List Value).toArray 4) := by
  obtain ⟨hx, hb, hr, hml, hown0, hts0, hX, hbl, hlocks, hgv⟩ := id C0
  have hown : s.vm.findClass RL = some m.cls := hown0
  have hts : ∀ w ∈ wsL_law, w.before #[Value.ref b] s = true := fun w h => hts0 w (wsL_law_in w h)
  have hA : ∀ q : Nat, s.heap.size ≤ q → (fun q : Nat => s.heap.size ≤ q) q := fun _ h => h
  have hbA : ¬ (fun q : Nat => s.heap.size ≤ q) b := Nat.not_le.mpr hbl
  obtain ⟨c0, iS0, hKn0⟩ := u_known (C := RX0) (T := TX0) (N := 7) (n := 7) hts inlX0 (hts (.instantiable RX0 7) (by decide +kernel))
  obtain ⟨c1, iS1, hKn1⟩ := u_known (C := RX1) (T := TX1) (N := 8) (n := 8) hts inlX1 (hts (.instantiable RX1 8) (by decide +kernel))
  obtain ⟨dC, dI, hKc⟩ : ∃ (dC : Nat → ClassId) (dI : Nat → Nat → Nat), ∀ (k : Nat) (q : vw_C), vwCl[k]? = some q → u_Kn s q.1 q.2.1 q.2.2 (dC k) (dI k) := by
    refine ⟨fun k => if k = 0 then c0 else c1, fun k => if k = 0 then iS0 else iS1, ?_⟩
    intro k q hq
    match k, hq with
    | 0, hq => cases hq; exact hKn0
    | 1, hq => cases hq; exact hKn1
    | k + 2, hq => simp [vwCl] at hq
  obtain ⟨cI, kA, comp, hf1, hf2, hf3⟩ := Cond.arrayClass_spec (hts (.arrayClass .int) (by decide +kernel))
  have hS : va_S (fun q : Nat => s.heap.size ≤ q) s.heap s.heap [] := va_S.rf
  have hK : va_K (dC, dI) vwCl [(cI, .int)] s := ⟨hKc, fun k q h => by
    match k, h with
    | 0, h => cases h; exact ⟨fun n z => ⟨fun k h => (by cases h), kA, hf2, comp, hf3⟩, hf1⟩
    | k + 1, h => simp at h⟩
  have hP : va_P (dC, dI) vwCl [] s.heap := fun k q h => by simp at h
  have hD : va_D (fun q : Nat => s.heap.size ≤ q) [] := ⟨fun i j p q h => by simp at h, fun k q h => by simp at h⟩
  have hl := lv_entry ([.ref b]) (n := 4) (Nat.le_of_ble_eq_true rfl)
  rw [lg_entry_eq]
  generalize (lg_sl ([.ref b]) ++ List.replicate (4 - (lg_sl ([.ref b])).length) Slot.unset).toArray = ls at hl ⊢
  have hl : lv_has ls 4 [(0, .ref b)] := hl
  refine va_new (ci := 0) (fs := [.int 0, .null, .null, .null, .null, .int 0, .int 0]) (C := RX0) (T := TX0) (N := 7) hx hb hts inlX0 tyX0 tyX0_ok hown (hts (.classLink RL 7 RX0) (by decide +kernel)) (hts (.instantiable RX0 7) (by decide +kernel)) (hts (.initialized RX0) (by decide +kernel)) hK hP hD hS hA rfl (fun j hj => by rcases (show j = 0 ∨ j = 1 ∨ j = 2 ∨ j = 3 ∨ j = 4 ∨ j = 5 ∨ j = 6 by omega) with rfl | rfl | rfl | rfl | rfl | rfl | rfl <;> rfl) (Nat.le_of_ble_eq_true rfl) (Nat.le_of_ble_eq_true rfl) dL_law_0 (fun q0 H hP hD hS => ?_)
  have hP : va_P (dC, dI) vwCl [(q0, .inr (0, [.int 0, .null, .null, .null, .null, .int 0, .int 0]))] H := hP
  have hD : va_D (fun q : Nat => s.heap.size ≤ q) [(q0, .inr (0, [.int 0, .null, .null, .null, .null, .int 0, .int 0]))] := hD
  refine W.widen (k := 1) (n := 7) (by omega) (by omega) ?_
  refine lv_dup hx hb dL_law_3 rfl ?_
  refine lv_aload_n hx hb dL_law_4 rfl (lv_at hl 0 rfl) ?_
  refine lv_iconst (v := nI 0) hx hb dL_law_5 (by decide) ?_
  refine vp_callSi (va_Run.run (va_runS (As := [.ref b, .int (nI 0)]) (rest := [.ref q0, .ref q0]) ⟨hx, hb, hml, hown, hts⟩ (k_L_cell l b L xs hL) (va_cwS 2 hts gL_law_L_cell rfl rfl rfl (by decide +kernel) ⟨Nat.le_of_ble_eq_true rfl, Nat.le_of_ble_eq_true rfl⟩) (oh_preX hX hbl hbA hS) rfl rfl hl.1 rfl (lv_room (Nat.le_of_ble_eq_true rfl)) dL_law_6 ⟨Nat.le_of_ble_eq_true rfl, Nat.le_of_ble_eq_true rfl⟩)) (fun r_6 hr_6 => ?_)
  subst hr_6
  have hPc := hP.sub (ws' := [(q0, .inr (0, [.int 0, .null, .null, .null, .null, .int 0, .int 0]))]) [0] rfl
  have hDc := hD.sub (ws' := [(q0, .inr (0, [.int 0, .null, .null, .null, .null, .int 0, .int 0]))]) [0] (by decide) rfl
  have hFc := va_free (wc := [(q0, .inr (0, [.int 0, .null, .null, .null, .null, .int 0, .int 0]))]) hD hS hA [0] rfl
  refine va_callv (va_runI (As := [.int (oh_cell L xs)]) (rest := [.ref q0]) ⟨hx, hb, hml, hown, hts⟩ (k_X0_init l dC dI cI q0 H.size (oh_cell L xs)) (cwI 1 hts gL_law_X0_init rfl rfl rfl (hts (.initialized RX0) (by decide +kernel)) (hts (.methodLink RL 15 yX0_init) (by decide +kernel)) (hts (.instanceMethod yX0_init) (by decide +kernel)) rfl (by decide +kernel) ⟨Nat.le_of_ble_eq_true rfl, Nat.le_of_ble_eq_true rfl⟩) (oh_preI hK hPc hDc) rfl rfl hl.1 rfl (lv_room (Nat.le_of_ble_eq_true rfl)) dL_law_9 ⟨Nat.le_of_ble_eq_true rfl, Nat.le_of_ble_eq_true rfl⟩) hS (fun q _ h => hFc q h) hFc (fun u_9 t H1 locs ht hvm hw_9 hB hz1 hk1 hS => ?_)
  obtain ⟨a1, a2, a3, a4⟩ := u_9
  obtain ⟨hP1, hK1, hD1⟩ := hB
  rw [ht] at hP1
  obtain ⟨hP, hD⟩ := va_join (wr := []) (w1 := [(q0, .inr (0, [.int (nI (3 + oh_md (oh_cell L xs))), .ref a1, .ref a2, .ref a3, .ref a4, .int (nI 0), .int (nI 0)])), (a1, .inl (cI, 3 + oh_md (oh_cell L xs), .inl (fun _ => 0))), (a2, .inl (cI, 3 + oh_md (oh_cell L xs), .inl (fun _ => 0))), (a3, .inl (cI, 3 + oh_md (oh_cell L xs), .inl (fun _ => 0))), (a4, .inl (cI, 3 + oh_md (oh_cell L xs), .inl (fun _ => 0)))]) hP hD [0] [] rfl rfl (by decide) (by decide) hk1 hFc hP1 hD1
  generalize H1 = H at hP hS ⊢
  have hP : va_P (dC, dI) vwCl [(q0, .inr (0, [.int (nI (3 + oh_md (oh_cell L xs))), .ref a1, .ref a2, .ref a3, .ref a4, .int (nI 0), .int (nI 0)])), (a1, .inl (cI, 3 + oh_md (oh_cell L xs), .inl (fun _ => 0))), (a2, .inl (cI, 3 + oh_md (oh_cell L xs), .inl (fun _ => 0))), (a3, .inl (cI, 3 + oh_md (oh_cell L xs), .inl (fun _ => 0))), (a4, .inl (cI, 3 + oh_md (oh_cell L xs), .inl (fun _ => 0)))] H := hP
  have hD : va_D (fun q : Nat => s.heap.size ≤ q) [(q0, .inr (0, [.int (nI (3 + oh_md (oh_cell L xs))), .ref a1, .ref a2, .ref a3, .ref a4, .int (nI 0), .int (nI 0)])), (a1, .inl (cI, 3 + oh_md (oh_cell L xs), .inl (fun _ => 0))), (a2, .inl (cI, 3 + oh_md (oh_cell L xs), .inl (fun _ => 0))), (a3, .inl (cI, 3 + oh_md (oh_cell L xs), .inl (fun _ => 0))), (a4, .inl (cI, 3 + oh_md (oh_cell L xs), .inl (fun _ => 0)))] := hD
  clear hPc hDc hFc hP1 hK1 hD1 hk1 hz1 ht
  refine W.widen (k := 5) (n := 263) (by omega) (by omega) ?_
  refine lv_astore_n (lv' := [(1, .ref q0), (0, .ref b)]) hx hb dL_law_12 rfl hl (by decide) rfl (fun ls hl => ?_)
  refine va_new (ci := 1) (fs := [.int 0, .int 0, .int 0, .null, .null, .null, .null, .null]) (C := RX1) (T := TX1) (N := 8) hx hb hts inlX1 tyX1 tyX1_ok hown (hts (.classLink RL 18 RX1) (by decide +kernel)) (hts (.instantiable RX1 8) (by decide +kernel)) (hts (.initialized RX1) (by decide +kernel)) hK hP hD hS hA rfl (fun j hj => by rcases (show j = 0 ∨ j = 1 ∨ j = 2 ∨ j = 3 ∨ j = 4 ∨ j = 5 ∨ j = 6 ∨ j = 7 by omega) with rfl | rfl | rfl | rfl | rfl | rfl | rfl | rfl <;> rfl) (Nat.le_of_ble_eq_true rfl) (Nat.le_of_ble_eq_true rfl) dL_law_13 (fun q1 H hP hD hS => ?_)
  have hP : va_P (dC, dI) vwCl [(q0, .inr (0, [.int (nI (3 + oh_md (oh_cell L xs))), .ref a1, .ref a2, .ref a3, .ref a4, .int (nI 0), .int (nI 0)])), (a1, .inl (cI, 3 + oh_md (oh_cell L xs), .inl (fun _ => 0))), (a2, .inl (cI, 3 + oh_md (oh_cell L xs), .inl (fun _ => 0))), (a3, .inl (cI, 3 + oh_md (oh_cell L xs), .inl (fun _ => 0))), (a4, .inl (cI, 3 + oh_md (oh_cell L xs), .inl (fun _ => 0))), (q1, .inr (1, [.int 0, .int 0, .int 0, .null, .null, .null, .null, .null]))] H := hP
  have hD : va_D (fun q : Nat => s.heap.size ≤ q) [(q0, .inr (0, [.int (nI (3 + oh_md (oh_cell L xs))), .ref a1, .ref a2, .ref a3, .ref a4, .int (nI 0), .int (nI 0)])), (a1, .inl (cI, 3 + oh_md (oh_cell L xs), .inl (fun _ => 0))), (a2, .inl (cI, 3 + oh_md (oh_cell L xs), .inl (fun _ => 0))), (a3, .inl (cI, 3 + oh_md (oh_cell L xs), .inl (fun _ => 0))), (a4, .inl (cI, 3 + oh_md (oh_cell L xs), .inl (fun _ => 0))), (q1, .inr (1, [.int 0, .int 0, .int 0, .null, .null, .null, .null, .null]))] := hD
  refine W.widen (k := 6) (n := 271) (by omega) (by omega) ?_
  refine lv_dup hx hb dL_law_16 rfl ?_
  refine lv_aload_n hx hb dL_law_17 rfl (lv_at hl 1 rfl) ?_
  refine lv_iconst (v := nI 0) hx hb dL_law_18 (by decide) ?_
  refine vp_callSi (va_Run.run (va_runS (As := [.ref b, .int (nI 0)]) (rest := [.ref q1, .ref q1]) ⟨hx, hb, hml, hown, hts⟩ (k_L_cell l b L xs hL) (va_cwS 2 hts gL_law_L_cell rfl rfl rfl (by decide +kernel) ⟨Nat.le_of_ble_eq_true rfl, Nat.le_of_ble_eq_true rfl⟩) (oh_preX hX hbl hbA hS) rfl rfl hl.1 rfl (lv_room (Nat.le_of_ble_eq_true rfl)) dL_law_19 ⟨Nat.le_of_ble_eq_true rfl, Nat.le_of_ble_eq_true rfl⟩)) (fun r_19 hr_19 => ?_)
  subst hr_19
  have hPc := hP.sub (ws' := [(q1, .inr (1, [.int 0, .int 0, .int 0, .null, .null, .null, .null, .null]))]) [5] rfl
  have hDc := hD.sub (ws' := [(q1, .inr (1, [.int 0, .int 0, .int 0, .null, .null, .null, .null, .null]))]) [5] (by decide) rfl
  have hFc := va_free (wc := [(q1, .inr (1, [.int 0, .int 0, .int 0, .null, .null, .null, .null, .null]))]) hD hS hA [5] rfl
  refine va_callv (va_runI (As := [.int (oh_cell L xs)]) (rest := [.ref q1]) ⟨hx, hb, hml, hown, hts⟩ (k_X1_init l dC dI cI q1 H.size (oh_cell L xs)) (cwI 1 hts gL_law_X1_init rfl rfl rfl (hts (.initialized RX1) (by decide +kernel)) (hts (.methodLink RL 20 yX1_init) (by decide +kernel)) (hts (.instanceMethod yX1_init) (by decide +kernel)) rfl (by decide +kernel) ⟨Nat.le_of_ble_eq_true rfl, Nat.le_of_ble_eq_true rfl⟩) (oh_preI hK hPc hDc) rfl rfl hl.1 rfl (lv_room (Nat.le_of_ble_eq_true rfl)) dL_law_22 ⟨Nat.le_of_ble_eq_true rfl, Nat.le_of_ble_eq_true rfl⟩) hS (fun q _ h => hFc q h) hFc (fun u_22 t H1 locs ht hvm hw_22 hB hz1 hk1 hS => ?_)
  obtain ⟨b1, b2, b3, b4, b5⟩ := u_22
  obtain ⟨hP1, hK1, hD1⟩ := hB
  rw [ht] at hP1
  obtain ⟨hP, hD⟩ := va_join (wr := [(q0, .inr (0, [.int (nI (3 + oh_md (oh_cell L xs))), .ref a1, .ref a2, .ref a3, .ref a4, .int (nI 0), .int (nI 0)])), (a1, .inl (cI, 3 + oh_md (oh_cell L xs), .inl (fun _ => 0))), (a2, .inl (cI, 3 + oh_md (oh_cell L xs), .inl (fun _ => 0))), (a3, .inl (cI, 3 + oh_md (oh_cell L xs), .inl (fun _ => 0))), (a4, .inl (cI, 3 + oh_md (oh_cell L xs), .inl (fun _ => 0)))]) (w1 := [(q1, .inr (1, [.int (nI (3 + oh_md (oh_cell L xs))), .int 0, .int 0, .ref b1, .ref b2, .ref b3, .ref b4, .ref b5])), (b1, .inl (cI, 66, .inl (fun _ => 0))), (b2, .inl (cI, 66, .inl (fun _ => 0))), (b3, .inl (cI, 66, .inl (fun _ => 0))), (b4, .inl (cI, 66, .inl (fun _ => 0))), (b5, .inl (cI, 67, .inl (fun _ => 0)))]) hP hD [5] [0, 1, 2, 3, 4] rfl rfl (by decide) (by decide) hk1 hFc hP1 hD1
  generalize H1 = H at hP hS ⊢
  have hP : va_P (dC, dI) vwCl [(q0, .inr (0, [.int (nI (3 + oh_md (oh_cell L xs))), .ref a1, .ref a2, .ref a3, .ref a4, .int (nI 0), .int (nI 0)])), (a1, .inl (cI, 3 + oh_md (oh_cell L xs), .inl (fun _ => 0))), (a2, .inl (cI, 3 + oh_md (oh_cell L xs), .inl (fun _ => 0))), (a3, .inl (cI, 3 + oh_md (oh_cell L xs), .inl (fun _ => 0))), (a4, .inl (cI, 3 + oh_md (oh_cell L xs), .inl (fun _ => 0))), (q1, .inr (1, [.int (nI (3 + oh_md (oh_cell L xs))), .int 0, .int 0, .ref b1, .ref b2, .ref b3, .ref b4, .ref b5])), (b1, .inl (cI, 66, .inl (fun _ => 0))), (b2, .inl (cI, 66, .inl (fun _ => 0))), (b3, .inl (cI, 66, .inl (fun _ => 0))), (b4, .inl (cI, 66, .inl (fun _ => 0))), (b5, .inl (cI, 67, .inl (fun _ => 0)))] H := hP
  have hD : va_D (fun q : Nat => s.heap.size ≤ q) [(q0, .inr (0, [.int (nI (3 + oh_md (oh_cell L xs))), .ref a1, .ref a2, .ref a3, .ref a4, .int (nI 0), .int (nI 0)])), (a1, .inl (cI, 3 + oh_md (oh_cell L xs), .inl (fun _ => 0))), (a2, .inl (cI, 3 + oh_md (oh_cell L xs), .inl (fun _ => 0))), (a3, .inl (cI, 3 + oh_md (oh_cell L xs), .inl (fun _ => 0))), (a4, .inl (cI, 3 + oh_md (oh_cell L xs), .inl (fun _ => 0))), (q1, .inr (1, [.int (nI (3 + oh_md (oh_cell L xs))), .int 0, .int 0, .ref b1, .ref b2, .ref b3, .ref b4, .ref b5])), (b1, .inl (cI, 66, .inl (fun _ => 0))), (b2, .inl (cI, 66, .inl (fun _ => 0))), (b3, .inl (cI, 66, .inl (fun _ => 0))), (b4, .inl (cI, 66, .inl (fun _ => 0))), (b5, .inl (cI, 67, .inl (fun _ => 0)))] := hD
  clear hPc hDc hFc hP1 hK1 hD1 hk1 hz1 ht
  refine W.widen (k := 11) (n := 602) (by omega) (by omega) ?_
  refine lv_astore_n (lv' := [(2, .ref q1), (1, .ref q0), (0, .ref b)]) hx hb dL_law_25 rfl hl (by decide) rfl (fun ls hl => ?_)
  refine lv_iconst (v := nI 1) hx hb dL_law_26 (by decide) ?_
  refine lv_istore_n (lv' := [(3, .int (nI 1)), (2, .ref q1), (1, .ref q0), (0, .ref b)]) hx hb dL_law_27 rfl hl (by decide) rfl (fun ls hl => ?_)
  exact law_loop hL C0 hK (3 + oh_md (oh_cell L xs)) q0 a1 a2 a3 a4 q1 b1 b2 b3 b4 b5 (L + 4) 1 0 (nI 0) (fun _ => 0) (fun _ => 0) (fun _ => 0) (fun _ => 0) (fun _ => 0) (fun _ => 0) (fun _ => 0) (fun _ => 0) (fun _ => 0) (by omega) (by omega) (by omega) (oh_inv0 _ _ _ _ _) _ _ hP hD hS ls (lv_sub hl [3, 2, 1, 0] rfl)
end
section
set_option maxHeartbeats 4000000 in
theorem lw_walk (l : Launch) (b : Addr) (xs : List Int32) : MetFree l x (headSpec (Jvm.Cond.code x code maxLocals ret :: tables_1) room_1) (lw_P b xs) (fun _ _ _ _ _ => True) lw_Q := by
  refine MetFree.of_bodyS (code := code) (maxLocals := maxLocals) (ret := ret) (by decide) ?_ ?_
  · intro args s m h hn
    obtain ⟨meth, c, h1, h2, h3, h4, h5, h6, -, -⟩ := Cond.code_spec hn (atoms_spec (ws := Jvm.Cond.code x code maxLocals ret :: tables_1) h _ List.mem_cons_self)
    exact ⟨meth, c, h1, h2, h3, h4, h5, h6⟩
  · intro p e s m args below meth c s₁ B hml0 hP _
    obtain ⟨rfl, hx, hbd, hgv⟩ := hP
    obtain ⟨scr, harrAt, hlist, hof, hsmall⟩ := hx
    obtain ⟨hcb, hkn, -, -⟩ := State.arrayAt?_spec harrAt
    have hown : s.vm.findClass R_law = some m.cls := findClass_of_methodNamed B.named
    have hts0 : ∀ c ∈ (Jvm.Cond.code x code maxLocals ret :: tables_1), c.before #[Value.ref b] s = true := atoms_spec (ws := Jvm.Cond.code x code maxLocals ret :: tables_1) B.pre
    have hts : ∀ w ∈ lw_tbl, w.before #[Value.ref b] s = true := k2_hts_sels lw_privs (fun w hw => hts0 w (List.mem_cons_of_mem _ hw)) lw_privs_ok
    have hml : c.maxLocals = 4 := B.maxLocals_eq (hts0 _ List.mem_cons_self)
    have X₀ : Stand p l e room_1 s m #[Value.ref b] below meth c s₁ [] 0 0 := Stand.of_body B
    have hh0 : s₁.heap = s.heap := by rw [B.state]; rfl
    have hsz : scr.slots.size = xs.length := by rw [← Array.length_toList, hlist, List.length_map]
    have hval : ∀ j : Nat, j < xs.length → scr.slots[j]? = some (.int (xs.getD j 0)) := fun j hj => by
      rw [← Array.getElem?_toList, hlist]
      simp [hj]
    have hbl : b < s.heap.size := (Array.getElem?_eq_some_iff.mp hcb).1
    have hX : va_X b xs.length (fun j => xs.getD j 0) s s.heap := ⟨scr, hcb, hof, hkn, hsz, hval⟩
    have K : W p l e room_1 s m #[Value.ref b] below meth c s₁.heap [] 0 0 (lw_Z below #[Value.ref b] s) (entryFrame m ([Value.ref b] : List Value).toArray 4) := by
      rw [hh0]
      exact whole_start l hbd ⟨B.exec, B.bytes, B.returns, hml, hown, hts, hX, hbl, B.notSynchronized, hgv⟩
    obtain ⟨t, a1, o, b1, b2, b3⟩ := K s₁ rfl X₀
    exact ⟨t, o, a1, b1, b2, b3⟩
theorem lw_pre_spec {args : Array Value} {s : State} (h : (Jvm.Cond.and given_1 narrow_1).before args s = true) (hr : rest_1_c.before args s = true) : ∃ (b : Addr) (xs : List Int32), lw_P b xs args s := by
  have hs := flat_of_before _ h
  have hq := flat_of_before _ hr
  have hc : (Cond.count 1).before args s = true := hs _ (by decide +kernel)
  have harr : (Cond.arrayOf (.arg 0) .int).before args s = true := hs _ (by decide +kernel)
  have hle : (Cond.le (.length (.arg 0)) (.int 2049)).before args s = true := hs _ (by decide +kernel)
  have hlen : (Cond.isInt (.length (.arg 0))).before args s = true := hq _ (by decide +kernel)
  have hall : (Cond.all (.arg 0) (.isInt (.elem (.arg 0) (.index 0)))).before args s = true := hq _ (by decide +kernel)
  obtain ⟨b, xs, hb, hx⟩ := State.ints_of_pre rfl harr hlen hall
  have hsm : xs.length < 2 ^ 31 := hx.choose_spec.2.2.2
  have hev : (Term.length (.arg 0)).eval args s none [] s = some (.int xs.length.toInt32) := hx.length_eval hb
  have hv := Cond.le_ints hev (show (Term.int 2049).eval args s none [] s = some (.int 2049) from rfl)
  have hd : xs.length.toInt32 ≤ 2049 := by
    simpa [Cond.before, Cond.holds, hv] using hle
  have hN : xs.length ≤ 2049 := (Int32.ofNat_le_ofNat hsm (by decide)).mp (show Int32.ofNat xs.length ≤ Int32.ofNat 2049 from hd)
  exact ⟨b, xs, Cond.one_arg hc (show args[0]? = some (.ref b) from hb), hx, hN, h⟩
theorem lw_comes (l : Launch) : Comes l x (Jvm.Cond.code x code maxLocals ret :: tables_1) room_1 (fun tb e args s => Calls_1 tb e args s ∧ rest_1 tb e args s ∧ Pre_1 tb e args s)
    (fun _ _ args s o t => lw_Q args s o t) := by
  intro p e ha hc hk s m args below hf hfit hheap happ hpre
  obtain ⟨b, xs, hP⟩ := lw_pre_spec hpre.2.2 hpre.2.1
  obtain ⟨k, o, h1, h2, h3, hQ⟩ := lw_walk l b xs p e ha hc hk s m args below hf ((Spec.applies_iff_loose hf).mp happ).1 hP trivial
  exact ⟨k, o, h1, h2, h3, hQ⟩
theorem lw_frame {s t : State} {o : Outcome} {args : Array Value} (h : Framed s o t [] 600000 7302250) :
    Framed s o t (fieldLocs frame_1_writes args s ++ arrayLocs frame_1_arrays args s ++ staticLocs frame_1_statics s) 600000 7302250 := h
theorem lw_limb (L : Cond) (hL : ∀ (args : Array Value) (s t : State), L.after args s (.returned (some (.int 1))) t = true) :
    ArmFor flags0 classFile x code maxLocals ret World_1 tables_1 room_1 Calls_1 rest_1 Pre_1
      (fun tb e a s o t => postC L tb e a s o t ∧ Framed s o t (fieldLocs frame_1_writes a s ++ arrayLocs frame_1_arrays a s ++ staticLocs frame_1_statics s) 600000 7302250) := by
  intro l _ _ _ p e ha hc hk s m args below hf hfit hheap happ hpre
  obtain ⟨k, o, h1, h2, h3, rfl, hF⟩ := lw_comes l p e ha hc hk s m args below hf hfit hheap happ hpre
  exact ⟨k, _, h1, h2, h3, hL args s _, lw_frame hF⟩
theorem i_vc : Claimed_1_1 ∧ Claimed_1_2 := ⟨lw_limb limb_1_1 (fun args s t => by simp [limb_1_1, Cond.after, Cond.holds, Cond.value]), lw_limb limb_1_2 (fun args s t => Cond.after_iff.mpr (by
  first | (rw [show limb_1_2 = Cond.eq .result (.int 1) from rfl, Cond.eq_ints (x := 1) (y := 1) rfl rfl]; simp; done) | (simp [limb_1_2, Cond.value, Term.eval]; done)))⟩
end
