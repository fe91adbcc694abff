/-! ===== BEGIN words of one list among another's, by their places ===== -/
theorem goodIn_r {big : List Cond} (ws : List Cond) (ps : List Nat) (hp : ws = ps.filterMap (fun i => big[i]?)) (h : ws.all goodWord = true) : GoodIn big ws := by
  intro w hw
  have h1 := List.all_eq_true.mp h w hw
  rw [hp] at hw
  obtain ⟨i, -, hi⟩ := List.mem_filterMap.mp hw
  have hm : w ∈ big := by first | exact List.mem_of_getElem? hi | exact List.getElem?_mem hi
  exact ⟨hm, good_of_word h1⟩
theorem goodIn_app {big a b : List Cond} (ha : GoodIn big a) (hb : GoodIn big b) : GoodIn big (a ++ b) := fun w h => (List.mem_append.mp h).elim (ha w) (hb w)
theorem goodIn_ca {big a b : List Cond} {c : Cond} (ha : GoodIn big (c :: a)) (hb : GoodIn big b) : GoodIn big (c :: (a ++ b)) := fun w h => (List.mem_cons.mp h).elim (fun e => ha w (List.mem_cons.mpr (Or.inl e))) (fun h => (List.mem_append.mp h).elim (fun h => ha w (List.mem_cons.mpr (Or.inr h))) (hb w))
theorem goodIn_sub {big ws : List Cond} (hm : ∀ w ∈ ws, w ∈ big) (h : ws.all goodWord = true) : GoodIn big ws := fun w hw => ⟨hm w hw, good_of_word (List.all_eq_true.mp h w hw)⟩
/-! ===== END ===== -/

/-! ===== BEGIN printed: names, fields, word lists, decode rows ===== -/
def RX0 : String := "OldLadder$Climber"
def TX0 : u_T := fun k => match k with
  | _ => ("", "", "", false)
def tyX0 : Nat → FieldType := fun k => match k with
  | _ => .int
abbrev wsX00 : List Cond := u_ws RX0 TX0 0
theorem nmX0 : ∀ a, a < 0 → ∀ b, b < 0 → a ≠ b → (TX0 a).2.1 ≠ (TX0 b).2.1 := by decide +kernel
theorem tyX0_ok : ∀ k, k < 0 → parseFieldDescriptor (TX0 k).2.2.1 = some (tyX0 k) := by decide +kernel
abbrev cX0_init : ByteArray := prog_2_method_1_code
def yX0_init : MethodName := ⟨RX0, "<init>", "(I)V"⟩
abbrev cX0_stride : ByteArray := prog_2_method_4_code
def yX0_stride : MethodName := ⟨RX0, "stride", "()I"⟩
abbrev cX0_aim : ByteArray := prog_2_method_5_code
def yX0_aim : MethodName := ⟨RX0, "aim", "(III)I"⟩
abbrev cX0_pathFrom : ByteArray := prog_2_method_6_code
def yX0_pathFrom : MethodName := ⟨RX0, "pathFrom", "(III)I"⟩
def RX1 : String := "OldLadder$Crew"
def TX1 : u_T := fun k => match k with
  | 0 => ("OldLadder$Crew", "members", "[LOldLadder$Climber;", true)
  | _ => ("OldLadder$Crew", "size", "I", false)
def tyX1 : Nat → FieldType := fun k => match k with
  | 0 => .array (.object "OldLadder$Climber")
  | _ => .int
abbrev wsX10 : List Cond := u_ws RX1 TX1 2
theorem nmX1 : ∀ a, a < 2 → ∀ b, b < 2 → a ≠ b → (TX1 a).2.1 ≠ (TX1 b).2.1 := by decide +kernel
theorem tyX1_ok : ∀ k, k < 2 → parseFieldDescriptor (TX1 k).2.2.1 = some (tyX1 k) := by decide +kernel
abbrev cX1_init : ByteArray := prog_3_method_1_code
def yX1_init : MethodName := ⟨RX1, "<init>", "()V"⟩
abbrev cX1_member : ByteArray := prog_3_method_2_code
def yX1_member : MethodName := ⟨RX1, "member", "(I)LOldLadder$Climber;"⟩
abbrev cX1_hasAll : ByteArray := prog_3_method_3_code
def yX1_hasAll : MethodName := ⟨RX1, "hasAll", "(I)Z"⟩
abbrev cX1_join : ByteArray := prog_3_method_4_code
def yX1_join : MethodName := ⟨RX1, "join", "(LOldLadder$Climber;)V"⟩
abbrev cX1_burden : ByteArray := prog_3_method_5_code
def yX1_burden : MethodName := ⟨RX1, "burden", "(II)V"⟩
abbrev cX1_toGround : ByteArray := prog_3_method_6_code
def yX1_toGround : MethodName := ⟨RX1, "toGround", "()V"⟩
abbrev cX1_standingAt : ByteArray := prog_3_method_7_code
def yX1_standingAt : MethodName := ⟨RX1, "standingAt", "(I)I"⟩
def RX2 : String := "OldLadder$Crowd"
def TX2 : u_T := fun k => match k with
  | 0 => ("OldLadder$Crowd", "now", "[J", false)
  | 1 => ("OldLadder$Crowd", "next", "[J", false)
  | 2 => ("OldLadder$Crowd", "strides", "[I", true)
  | 3 => ("OldLadder$Crowd", "weights", "[I", true)
  | 4 => ("OldLadder$Crowd", "gaps", "[I", true)
  | 5 => ("OldLadder$Crowd", "size", "I", false)
  | 6 => ("OldLadder$Crowd", "states", "I", false)
  | 7 => ("OldLadder$Crowd", "allWeights", "I", false)
  | _ => ("OldLadder$Crowd", "mending", "Z", false)
def tyX2 : Nat → FieldType := fun k => match k with
  | 0 => .array .long
  | 1 => .array .long
  | 2 => .array .int
  | 3 => .array .int
  | 4 => .array .int
  | 5 => .int
  | 6 => .int
  | 7 => .int
  | _ => .boolean
abbrev wsX20 : List Cond := u_ws RX2 TX2 9
theorem nmX2 : ∀ a, a < 9 → ∀ b, b < 9 → a ≠ b → (TX2 a).2.1 ≠ (TX2 b).2.1 := by decide +kernel
theorem tyX2_ok : ∀ k, k < 9 → parseFieldDescriptor (TX2 k).2.2.1 = some (tyX2 k) := by decide +kernel
abbrev cX2_init : ByteArray := prog_4_method_1_code
def yX2_init : MethodName := ⟨RX2, "<init>", "()V"⟩
abbrev cX2_waysOf : ByteArray := prog_4_method_2_code
def yX2_waysOf : MethodName := ⟨RX2, "waysOf", "(LOldLadder$Crew;ILOldLadder$Rungs;)J"⟩
abbrev cX2_mendsOf : ByteArray := prog_4_method_3_code
def yX2_mendsOf : MethodName := ⟨RX2, "mendsOf", "(LOldLadder$Crew;ILOldLadder$Rungs;)I"⟩
abbrev cX2_goUp : ByteArray := prog_4_method_4_code
def yX2_goUp : MethodName := ⟨RX2, "goUp", "(LOldLadder$Crew;ILOldLadder$Rungs;)V"⟩
abbrev cX2_enrol : ByteArray := prog_4_method_5_code
def yX2_enrol : MethodName := ⟨RX2, "enrol", "(LOldLadder$Crew;I)V"⟩
abbrev cX2_makeRoom : ByteArray := prog_4_method_6_code
def yX2_makeRoom : MethodName := ⟨RX2, "makeRoom", "()V"⟩
abbrev cX2_passBy : ByteArray := prog_4_method_7_code
def yX2_passBy : MethodName := ⟨RX2, "passBy", "(Z)V"⟩
abbrev cX2_countGaps : ByteArray := prog_4_method_8_code
def yX2_countGaps : MethodName := ⟨RX2, "countGaps", "()V"⟩
abbrev cX2_giveRung : ByteArray := prog_4_method_9_code
def yX2_giveRung : MethodName := ⟨RX2, "giveRung", "(IJZ)V"⟩
abbrev cX2_reach : ByteArray := prog_4_method_10_code
def yX2_reach : MethodName := ⟨RX2, "reach", "(IJ)V"⟩
abbrev cX2_lesser : ByteArray := prog_4_method_11_code
def yX2_lesser : MethodName := ⟨RX2, "lesser", "(JJ)J"⟩
def RX3 : String := "OldLadder$Far"
def TX3 : u_T := fun k => match k with
  | 0 => ("OldLadder$Climber", "reach", "I", true)
  | 1 => ("OldLadder$Climber", "load", "I", false)
  | _ => ("OldLadder$Climber", "at", "I", false)
def tyX3 : Nat → FieldType := fun k => match k with
  | 0 => .int
  | 1 => .int
  | _ => .int
abbrev wsX30 : List Cond := u_ws RX3 TX3 3
theorem nmX3 : ∀ a, a < 3 → ∀ b, b < 3 → a ≠ b → (TX3 a).2.1 ≠ (TX3 b).2.1 := by decide +kernel
theorem tyX3_ok : ∀ k, k < 3 → parseFieldDescriptor (TX3 k).2.2.1 = some (tyX3 k) := by decide +kernel
abbrev cX3_init : ByteArray := prog_5_method_1_code
def yX3_init : MethodName := ⟨RX3, "<init>", "(I)V"⟩
abbrev cX3_ownKind : ByteArray := prog_5_method_2_code
def yX3_ownKind : MethodName := ⟨RX3, "ownKind", "()I"⟩
abbrev cX3_pick : ByteArray := prog_5_method_3_code
def yX3_pick : MethodName := ⟨RX3, "pick", "(I)I"⟩
def RX4 : String := "OldLadder$Image"
def TX4 : u_T := fun k => match k with
  | 0 => ("OldLadder$Image", "taken", "Z", false)
  | 1 => ("OldLadder$Image", "spent", "I", false)
  | 2 => ("OldLadder$Image", "treaders", "[I", true)
  | _ => ("OldLadder$Image", "places", "[I", true)
def tyX4 : Nat → FieldType := fun k => match k with
  | 0 => .boolean
  | 1 => .int
  | 2 => .array .int
  | _ => .array .int
abbrev wsX40 : List Cond := u_ws RX4 TX4 4
theorem nmX4 : ∀ a, a < 4 → ∀ b, b < 4 → a ≠ b → (TX4 a).2.1 ≠ (TX4 b).2.1 := by decide +kernel
theorem tyX4_ok : ∀ k, k < 4 → parseFieldDescriptor (TX4 k).2.2.1 = some (tyX4 k) := by decide +kernel
abbrev cX4_init : ByteArray := prog_6_method_1_code
def yX4_init : MethodName := ⟨RX4, "<init>", "()V"⟩
abbrev cX4_take : ByteArray := prog_6_method_2_code
def yX4_take : MethodName := ⟨RX4, "take", "(LOldLadder$Rungs;LOldLadder$Crew;)V"⟩
abbrev cX4_restore : ByteArray := prog_6_method_3_code
def yX4_restore : MethodName := ⟨RX4, "restore", "(LOldLadder$Rungs;LOldLadder$Crew;)V"⟩
def RX5 : String := "OldLadder$Middle"
def TX5 : u_T := fun k => match k with
  | 0 => ("OldLadder$Climber", "reach", "I", true)
  | 1 => ("OldLadder$Climber", "load", "I", false)
  | _ => ("OldLadder$Climber", "at", "I", false)
def tyX5 : Nat → FieldType := fun k => match k with
  | 0 => .int
  | 1 => .int
  | _ => .int
abbrev wsX50 : List Cond := u_ws RX5 TX5 3
theorem nmX5 : ∀ a, a < 3 → ∀ b, b < 3 → a ≠ b → (TX5 a).2.1 ≠ (TX5 b).2.1 := by decide +kernel
theorem tyX5_ok : ∀ k, k < 3 → parseFieldDescriptor (TX5 k).2.2.1 = some (tyX5 k) := by decide +kernel
abbrev cX5_init : ByteArray := prog_7_method_1_code
def yX5_init : MethodName := ⟨RX5, "<init>", "(I)V"⟩
abbrev cX5_ownKind : ByteArray := prog_7_method_2_code
def yX5_ownKind : MethodName := ⟨RX5, "ownKind", "()I"⟩
abbrev cX5_pick : ByteArray := prog_7_method_3_code
def yX5_pick : MethodName := ⟨RX5, "pick", "(I)I"⟩
def RX6 : String := "OldLadder$Near"
def TX6 : u_T := fun k => match k with
  | 0 => ("OldLadder$Climber", "reach", "I", true)
  | 1 => ("OldLadder$Climber", "load", "I", false)
  | _ => ("OldLadder$Climber", "at", "I", false)
def tyX6 : Nat → FieldType := fun k => match k with
  | 0 => .int
  | 1 => .int
  | _ => .int
abbrev wsX60 : List Cond := u_ws RX6 TX6 3
theorem nmX6 : ∀ a, a < 3 → ∀ b, b < 3 → a ≠ b → (TX6 a).2.1 ≠ (TX6 b).2.1 := by decide +kernel
theorem tyX6_ok : ∀ k, k < 3 → parseFieldDescriptor (TX6 k).2.2.1 = some (tyX6 k) := by decide +kernel
abbrev cX6_init : ByteArray := prog_8_method_1_code
def yX6_init : MethodName := ⟨RX6, "<init>", "(I)V"⟩
abbrev cX6_ownKind : ByteArray := prog_8_method_2_code
def yX6_ownKind : MethodName := ⟨RX6, "ownKind", "()I"⟩
abbrev cX6_pick : ByteArray := prog_8_method_3_code
def yX6_pick : MethodName := ⟨RX6, "pick", "(I)I"⟩
def RX7 : String := "OldLadder$Rows"
def TX7 : u_T := fun k => match k with
  | 0 => ("OldLadder$Rows", "row", "[I", true)
  | 1 => ("OldLadder$Rows", "best", "[I", true)
  | _ => ("OldLadder$Rows", "bestUp", "I", false)
def tyX7 : Nat → FieldType := fun k => match k with
  | 0 => .array .int
  | 1 => .array .int
  | _ => .int
abbrev wsX70 : List Cond := u_ws RX7 TX7 3
theorem nmX7 : ∀ a, a < 3 → ∀ b, b < 3 → a ≠ b → (TX7 a).2.1 ≠ (TX7 b).2.1 := by decide +kernel
theorem tyX7_ok : ∀ k, k < 3 → parseFieldDescriptor (TX7 k).2.2.1 = some (tyX7 k) := by decide +kernel
abbrev cX7_init : ByteArray := prog_9_method_1_code
def yX7_init : MethodName := ⟨RX7, "<init>", "()V"⟩
abbrev cX7_findBest : ByteArray := prog_9_method_2_code
def yX7_findBest : MethodName := ⟨RX7, "findBest", "(LOldLadder$Crew;ILOldLadder$Rungs;)V"⟩
abbrev cX7_tryRows : ByteArray := prog_9_method_3_code
def yX7_tryRows : MethodName := ⟨RX7, "tryRows", "(LOldLadder$Crew;IIIII)V"⟩
def RX8 : String := "OldLadder$Rungs"
def TX8 : u_T := fun k => match k with
  | 0 => ("OldLadder$Rungs", "height", "I", false)
  | 1 => ("OldLadder$Rungs", "weak", "I", false)
  | 2 => ("OldLadder$Rungs", "gone", "I", false)
  | 3 => ("OldLadder$Rungs", "spent", "I", false)
  | 4 => ("OldLadder$Rungs", "tenths", "[I", true)
  | _ => ("OldLadder$Rungs", "treaders", "[I", true)
def tyX8 : Nat → FieldType := fun k => match k with
  | 0 => .int
  | 1 => .int
  | 2 => .int
  | 3 => .int
  | 4 => .array .int
  | _ => .array .int
abbrev wsX80 : List Cond := u_ws RX8 TX8 6
theorem nmX8 : ∀ a, a < 6 → ∀ b, b < 6 → a ≠ b → (TX8 a).2.1 ≠ (TX8 b).2.1 := by decide +kernel
theorem tyX8_ok : ∀ k, k < 6 → parseFieldDescriptor (TX8 k).2.2.1 = some (tyX8 k) := by decide +kernel
abbrev cX8_init : ByteArray := prog_10_method_1_code
def yX8_init : MethodName := ⟨RX8, "<init>", "()V"⟩
abbrev cX8_top : ByteArray := prog_10_method_2_code
def yX8_top : MethodName := ⟨RX8, "top", "()I"⟩
abbrev cX8_has : ByteArray := prog_10_method_3_code
def yX8_has : MethodName := ⟨RX8, "has", "(I)Z"⟩
abbrev cX8_hasAll : ByteArray := prog_10_method_4_code
def yX8_hasAll : MethodName := ⟨RX8, "hasAll", "(I)Z"⟩
abbrev cX8_whole : ByteArray := prog_10_method_5_code
def yX8_whole : MethodName := ⟨RX8, "whole", "()I"⟩
abbrev cX8_free : ByteArray := prog_10_method_6_code
def yX8_free : MethodName := ⟨RX8, "free", "()I"⟩
abbrev cX8_stateOf : ByteArray := prog_10_method_7_code
def yX8_stateOf : MethodName := ⟨RX8, "stateOf", "(I)I"⟩
abbrev cX8_tenthsOf : ByteArray := prog_10_method_8_code
def yX8_tenthsOf : MethodName := ⟨RX8, "tenthsOf", "(I)I"⟩
abbrev cX8_treaderOf : ByteArray := prog_10_method_9_code
def yX8_treaderOf : MethodName := ⟨RX8, "treaderOf", "(I)I"⟩
abbrev cX8_renew : ByteArray := prog_10_method_10_code
def yX8_renew : MethodName := ⟨RX8, "renew", "(I)V"⟩
abbrev cX8_lose : ByteArray := prog_10_method_11_code
def yX8_lose : MethodName := ⟨RX8, "lose", "(I)V"⟩
abbrev cX8_weaken : ByteArray := prog_10_method_12_code
def yX8_weaken : MethodName := ⟨RX8, "weaken", "(II)V"⟩
abbrev cX8_heal : ByteArray := prog_10_method_13_code
def yX8_heal : MethodName := ⟨RX8, "heal", "(I)V"⟩
abbrev cX8_freeAll : ByteArray := prog_10_method_14_code
def yX8_freeAll : MethodName := ⟨RX8, "freeAll", "()V"⟩
abbrev cX8_tread : ByteArray := prog_10_method_15_code
def yX8_tread : MethodName := ⟨RX8, "tread", "(II)V"⟩
def RX9 : String := "OldLadder$Text"
def TX9 : u_T := fun k => match k with
  | 0 => ("OldLadder$Text", "bytes", "[I", true)
  | 1 => ("OldLadder$Text", "length", "I", false)
  | 2 => ("OldLadder$Text", "words", "[I", true)
  | 3 => ("OldLadder$Text", "firsts", "[I", true)
  | 4 => ("OldLadder$Text", "seconds", "[I", true)
  | 5 => ("OldLadder$Text", "lines", "I", false)
  | 6 => ("OldLadder$Text", "begin", "I", false)
  | 7 => ("OldLadder$Text", "end", "I", false)
  | 8 => ("OldLadder$Text", "token", "I", false)
  | 9 => ("OldLadder$Text", "value", "I", false)
  | 10 => ("OldLadder$Text", "height", "I", false)
  | _ => ("OldLadder$Text", "people", "I", false)
def tyX9 : Nat → FieldType := fun k => match k with
  | 0 => .array .int
  | 1 => .int
  | 2 => .array .int
  | 3 => .array .int
  | 4 => .array .int
  | 5 => .int
  | 6 => .int
  | 7 => .int
  | 8 => .int
  | 9 => .int
  | 10 => .int
  | _ => .int
abbrev wsX90 : List Cond := u_ws RX9 TX9 12
theorem nmX9 : ∀ a, a < 12 → ∀ b, b < 12 → a ≠ b → (TX9 a).2.1 ≠ (TX9 b).2.1 := by decide +kernel
theorem tyX9_ok : ∀ k, k < 12 → parseFieldDescriptor (TX9 k).2.2.1 = some (tyX9 k) := by decide +kernel
abbrev cX9_init : ByteArray := prog_11_method_1_code
def yX9_init : MethodName := ⟨RX9, "<init>", "()V"⟩
abbrev cX9_append : ByteArray := prog_11_method_2_code
def yX9_append : MethodName := ⟨RX9, "append", "(I)V"⟩
abbrev cX9_firstFault : ByteArray := prog_11_method_3_code
def yX9_firstFault : MethodName := ⟨RX9, "firstFault", "(II)I"⟩
abbrev cX9_lineStands : ByteArray := prog_11_method_4_code
def yX9_lineStands : MethodName := ⟨RX9, "lineStands", "(I)Z"⟩
abbrev cX9_numberStands : ByteArray := prog_11_method_5_code
def yX9_numberStands : MethodName := ⟨RX9, "numberStands", "([IIII)Z"⟩
abbrev cX9_readToken : ByteArray := prog_11_method_6_code
def yX9_readToken : MethodName := ⟨RX9, "readToken", "()V"⟩
abbrev cX9_rowEnd : ByteArray := prog_11_method_7_code
def yX9_rowEnd : MethodName := ⟨RX9, "rowEnd", "(III)I"⟩
abbrev cX9_wordRead : ByteArray := prog_11_method_8_code
def yX9_wordRead : MethodName := ⟨RX9, "wordRead", "()I"⟩
abbrev cX9_isSpelt : ByteArray := prog_11_method_9_code
def yX9_isSpelt : MethodName := ⟨RX9, "isSpelt", "(Ljava/lang/String;)Z"⟩
abbrev cX9_numberRead : ByteArray := prog_11_method_10_code
def yX9_numberRead : MethodName := ⟨RX9, "numberRead", "()I"⟩
def RX10 : String := "OldLadder$Told"
def TX10 : u_T := fun k => match k with
  | 0 => ("OldLadder$Climber", "reach", "I", true)
  | 1 => ("OldLadder$Climber", "load", "I", false)
  | 2 => ("OldLadder$Climber", "at", "I", false)
  | _ => ("OldLadder$Told", "minded", "I", false)
def tyX10 : Nat → FieldType := fun k => match k with
  | 0 => .int
  | 1 => .int
  | 2 => .int
  | _ => .int
abbrev wsX100 : List Cond := u_ws RX10 TX10 4
theorem nmX10 : ∀ a, a < 4 → ∀ b, b < 4 → a ≠ b → (TX10 a).2.1 ≠ (TX10 b).2.1 := by decide +kernel
theorem tyX10_ok : ∀ k, k < 4 → parseFieldDescriptor (TX10 k).2.2.1 = some (tyX10 k) := by decide +kernel
abbrev cX10_init : ByteArray := prog_12_method_1_code
def yX10_init : MethodName := ⟨RX10, "<init>", "(I)V"⟩
abbrev cX10_ownKind : ByteArray := prog_12_method_2_code
def yX10_ownKind : MethodName := ⟨RX10, "ownKind", "()I"⟩
abbrev cX10_pick : ByteArray := prog_12_method_3_code
def yX10_pick : MethodName := ⟨RX10, "pick", "(I)I"⟩
def RX11 : String := "OldLadder"
def TX11 : u_T := fun k => match k with
  | 0 => ("OldLadder", "text", "LOldLadder$Text;", true)
  | 1 => ("OldLadder", "rungs", "LOldLadder$Rungs;", true)
  | 2 => ("OldLadder", "crew", "LOldLadder$Crew;", true)
  | 3 => ("OldLadder", "images", "[LOldLadder$Image;", true)
  | 4 => ("OldLadder", "crowd", "LOldLadder$Crowd;", true)
  | 5 => ("OldLadder", "rows", "LOldLadder$Rows;", true)
  | _ => ("OldLadder", "gapOdds", "[J", true)
def tyX11 : Nat → FieldType := fun k => match k with
  | 0 => .object "OldLadder$Text"
  | 1 => .object "OldLadder$Rungs"
  | 2 => .object "OldLadder$Crew"
  | 3 => .array (.object "OldLadder$Image")
  | 4 => .object "OldLadder$Crowd"
  | 5 => .object "OldLadder$Rows"
  | _ => .array .long
abbrev wsX110 : List Cond := u_ws RX11 TX11 7
theorem nmX11 : ∀ a, a < 7 → ∀ b, b < 7 → a ≠ b → (TX11 a).2.1 ≠ (TX11 b).2.1 := by decide +kernel
theorem tyX11_ok : ∀ k, k < 7 → parseFieldDescriptor (TX11 k).2.2.1 = some (tyX11 k) := by decide +kernel
abbrev cX11_init : ByteArray := prog_1_method_1_code
def yX11_init : MethodName := ⟨RX11, "<init>", "()V"⟩
abbrev cX11_write : ByteArray := prog_1_method_2_code
def yX11_write : MethodName := ⟨RX11, "write", "(JI)I"⟩
abbrev cX11_erase : ByteArray := prog_1_method_3_code
def yX11_erase : MethodName := ⟨RX11, "erase", "()I"⟩
abbrev cX11_fault : ByteArray := prog_1_method_4_code
def yX11_fault : MethodName := ⟨RX11, "fault", "()I"⟩
abbrev cX11_ladder : ByteArray := prog_1_method_5_code
def yX11_ladder : MethodName := ⟨RX11, "ladder", "()I"⟩
abbrev cX11_rung : ByteArray := prog_1_method_6_code
def yX11_rung : MethodName := ⟨RX11, "rung", "(II)I"⟩
abbrev cX11_climber : ByteArray := prog_1_method_7_code
def yX11_climber : MethodName := ⟨RX11, "climber", "(II)I"⟩
abbrev cX11_as : ByteArray := prog_1_method_8_code
def yX11_as : MethodName := ⟨RX11, "as", "(II)I"⟩
abbrev cX11_mind : ByteArray := prog_1_method_9_code
def yX11_mind : MethodName := ⟨RX11, "mind", "(II)I"⟩
abbrev cX11_step : ByteArray := prog_1_method_10_code
def yX11_step : MethodName := ⟨RX11, "step", "(II)I"⟩
abbrev cX11_climb : ByteArray := prog_1_method_11_code
def yX11_climb : MethodName := ⟨RX11, "climb", "(I)I"⟩
abbrev cX11_lower : ByteArray := prog_1_method_12_code
def yX11_lower : MethodName := ⟨RX11, "lower", "(I)I"⟩
abbrev cX11_judge : ByteArray := prog_1_method_13_code
def yX11_judge : MethodName := ⟨RX11, "judge", "(II)I"⟩
abbrev cX11_keep : ByteArray := prog_1_method_14_code
def yX11_keep : MethodName := ⟨RX11, "keep", "(I)I"⟩
abbrev cX11_back : ByteArray := prog_1_method_15_code
def yX11_back : MethodName := ⟨RX11, "back", "(I)I"⟩
abbrev cX11_most : ByteArray := prog_1_method_16_code
def yX11_most : MethodName := ⟨RX11, "most", "(II)I"⟩
abbrev cX11_ways : ByteArray := prog_1_method_17_code
def yX11_ways : MethodName := ⟨RX11, "ways", "(I)J"⟩
abbrev cX11_largest : ByteArray := prog_1_method_18_code
def yX11_largest : MethodName := ⟨RX11, "largest", "(I)I"⟩
abbrev cX11_order : ByteArray := prog_1_method_19_code
def yX11_order : MethodName := ⟨RX11, "order", "(II)I"⟩
abbrev cX11_mends : ByteArray := prog_1_method_20_code
def yX11_mends : MethodName := ⟨RX11, "mends", "(I)I"⟩
abbrev cX11_spoilt : ByteArray := prog_1_method_21_code
def yX11_spoilt : MethodName := ⟨RX11, "spoilt", "(II)I"⟩
abbrev cX11_both : ByteArray := prog_1_method_22_code
def yX11_both : MethodName := ⟨RX11, "both", "(I)I"⟩
abbrev cX11_odds : ByteArray := prog_1_method_23_code
def yX11_odds : MethodName := ⟨RX11, "odds", "(II)J"⟩
abbrev cX11_fits : ByteArray := prog_1_method_24_code
def yX11_fits : MethodName := ⟨RX11, "fits", "(II)I"⟩
abbrev cX11_make : ByteArray := prog_1_method_25_code
def yX11_make : MethodName := ⟨RX11, "make", "(II)I"⟩
abbrev cX11_count : ByteArray := prog_1_method_26_code
def yX11_count : MethodName := ⟨RX11, "count", "(I)I"⟩
abbrev cX11_obey : ByteArray := prog_1_method_27_code
def yX11_obey : MethodName := ⟨RX11, "obey", "(III)V"⟩
abbrev cX11_startAnew : ByteArray := prog_1_method_28_code
def yX11_startAnew : MethodName := ⟨RX11, "startAnew", "()V"⟩
abbrev cX11_canStep : ByteArray := prog_1_method_29_code
def yX11_canStep : MethodName := ⟨RX11, "canStep", "(LOldLadder$Climber;II)Z"⟩
abbrev cX11_mostAlike : ByteArray := prog_1_method_30_code
def yX11_mostAlike : MethodName := ⟨RX11, "mostAlike", "(I)I"⟩
abbrev cX11_narrowStretch : ByteArray := prog_1_method_31_code
def yX11_narrowStretch : MethodName := ⟨RX11, "narrowStretch", "(I)I"⟩
abbrev cX11_freeInStretch : ByteArray := prog_1_method_32_code
def yX11_freeInStretch : MethodName := ⟨RX11, "freeInStretch", "(II)I"⟩
abbrev cX11_weightOfUp : ByteArray := prog_1_method_33_code
def yX11_weightOfUp : MethodName := ⟨RX11, "weightOfUp", "(I)J"⟩
abbrev cX11_passRung : ByteArray := prog_1_method_34_code
def yX11_passRung : MethodName := ⟨RX11, "passRung", "(III)V"⟩
abbrev cX11_sumOfGaps : ByteArray := prog_1_method_35_code
def yX11_sumOfGaps : MethodName := ⟨RX11, "sumOfGaps", "(I)J"⟩
abbrev cX11_commonDivisor : ByteArray := prog_1_method_36_code
def yX11_commonDivisor : MethodName := ⟨RX11, "commonDivisor", "(JJ)J"⟩
abbrev cX11_isReach : ByteArray := prog_1_method_37_code
def yX11_isReach : MethodName := ⟨RX11, "isReach", "(I)Z"⟩
abbrev cX11_isSuch : ByteArray := prog_1_method_38_code
def yX11_isSuch : MethodName := ⟨RX11, "isSuch", "(LOldLadder$Climber;I)Z"⟩
abbrev cX11_newClimber : ByteArray := prog_1_method_39_code
def yX11_newClimber : MethodName := ⟨RX11, "newClimber", "(II)LOldLadder$Climber;"⟩
abbrev cX11_bit : ByteArray := prog_1_method_40_code
def yX11_bit : MethodName := ⟨RX11, "bit", "(I)I"⟩
abbrev cX11_holds : ByteArray := prog_1_method_41_code
def yX11_holds : MethodName := ⟨RX11, "holds", "(II)Z"⟩
abbrev cX11_nthRung : ByteArray := prog_1_method_42_code
def yX11_nthRung : MethodName := ⟨RX11, "nthRung", "(II)I"⟩
abbrev cX11_spelling : ByteArray := prog_1_method_43_code
def yX11_spelling : MethodName := ⟨RX11, "spelling", "(I)Ljava/lang/String;"⟩
def RX12 : String := "OldLadderModel"
def TX12 : u_T := fun k => match k with
  | 0 => ("OldLadderModel", "row", "[I", true)
  | 1 => ("OldLadderModel", "isKept", "[Z", true)
  | 2 => ("OldLadderModel", "text", "[I", true)
  | 3 => ("OldLadderModel", "length", "I", false)
  | 4 => ("OldLadderModel", "read", "[I", true)
  | 5 => ("OldLadderModel", "readMany", "I", false)
  | 6 => ("OldLadderModel", "high", "I", false)
  | 7 => ("OldLadderModel", "sorts", "[I", true)
  | 8 => ("OldLadderModel", "tenths", "[I", true)
  | 9 => ("OldLadderModel", "kinds", "[I", true)
  | 10 => ("OldLadderModel", "reaches", "[I", true)
  | 11 => ("OldLadderModel", "loads", "[I", true)
  | 12 => ("OldLadderModel", "minds", "[I", true)
  | 13 => ("OldLadderModel", "many", "I", false)
  | 14 => ("OldLadderModel", "at", "I", false)
  | 15 => ("OldLadderModel", "place", "I", false)
  | 16 => ("OldLadderModel", "end", "I", false)
  | 17 => ("OldLadderModel", "readHigh", "I", false)
  | 18 => ("OldLadderModel", "readClimbers", "I", false)
  | 19 => ("OldLadderModel", "counts", "[J", true)
  | 20 => ("OldLadderModel", "nextCounts", "[J", true)
  | 21 => ("OldLadderModel", "costs", "[I", true)
  | 22 => ("OldLadderModel", "nextCosts", "[I", true)
  | 23 => ("OldLadderModel", "chosen", "[I", true)
  | 24 => ("OldLadderModel", "chosenMany", "I", false)
  | _ => ("OldLadderModel", "chances", "[J", true)
def tyX12 : Nat → FieldType := fun k => match k with
  | 0 => .array .int
  | 1 => .array .boolean
  | 2 => .array .int
  | 3 => .int
  | 4 => .array .int
  | 5 => .int
  | 6 => .int
  | 7 => .array .int
  | 8 => .array .int
  | 9 => .array .int
  | 10 => .array .int
  | 11 => .array .int
  | 12 => .array .int
  | 13 => .int
  | 14 => .int
  | 15 => .int
  | 16 => .int
  | 17 => .int
  | 18 => .int
  | 19 => .array .long
  | 20 => .array .long
  | 21 => .array .int
  | 22 => .array .int
  | 23 => .array .int
  | 24 => .int
  | _ => .array .long
abbrev wsX120 : List Cond := u_ws RX12 TX12 26
theorem nmX12 : ∀ a, a < 26 → ∀ b, b < 26 → a ≠ b → (TX12 a).2.1 ≠ (TX12 b).2.1 := by decide +kernel
theorem tyX12_ok : ∀ k, k < 26 → parseFieldDescriptor (TX12 k).2.2.1 = some (tyX12 k) := by decide +kernel
abbrev cX12_init : ByteArray := prog_14_method_1_code
def yX12_init : MethodName := ⟨RX12, "<init>", "()V"⟩
abbrev cX12_in : ByteArray := prog_14_method_2_code
def yX12_in : MethodName := ⟨RX12, "in", "(JJJ)Z"⟩
abbrev cX12_has : ByteArray := prog_14_method_3_code
def yX12_has : MethodName := ⟨RX12, "has", "(II)Z"⟩
abbrev cX12_bits : ByteArray := prog_14_method_4_code
def yX12_bits : MethodName := ⟨RX12, "bits", "(I)I"⟩
abbrev cX12_begin : ByteArray := prog_14_method_5_code
def yX12_begin : MethodName := ⟨RX12, "begin", "()V"⟩
abbrev cX12_write : ByteArray := prog_14_method_6_code
def yX12_write : MethodName := ⟨RX12, "write", "(JI)I"⟩
abbrev cX12_erase : ByteArray := prog_14_method_7_code
def yX12_erase : MethodName := ⟨RX12, "erase", "()I"⟩
abbrev cX12_sort : ByteArray := prog_14_method_8_code
def yX12_sort : MethodName := ⟨RX12, "sort", "(I)I"⟩
abbrev cX12_token : ByteArray := prog_14_method_9_code
def yX12_token : MethodName := ⟨RX12, "token", "()V"⟩
abbrev cX12_isWord : ByteArray := prog_14_method_10_code
def yX12_isWord : MethodName := ⟨RX12, "isWord", "(II)Z"⟩
abbrev cX12_rungWord : ByteArray := prog_14_method_11_code
def yX12_rungWord : MethodName := ⟨RX12, "rungWord", "()I"⟩
abbrev cX12_wordOf : ByteArray := prog_14_method_12_code
def yX12_wordOf : MethodName := ⟨RX12, "wordOf", "()I"⟩
abbrev cX12_reads : ByteArray := prog_14_method_13_code
def yX12_reads : MethodName := ⟨RX12, "reads", "(III)Z"⟩
abbrev cX12_readsRest : ByteArray := prog_14_method_14_code
def yX12_readsRest : MethodName := ⟨RX12, "readsRest", "(I)Z"⟩
abbrev cX12_isClimberWord : ByteArray := prog_14_method_15_code
def yX12_isClimberWord : MethodName := ⟨RX12, "isClimberWord", "(I)Z"⟩
abbrev cX12_readsLine : ByteArray := prog_14_method_16_code
def yX12_readsLine : MethodName := ⟨RX12, "readsLine", "()Z"⟩
abbrev cX12_fault : ByteArray := prog_14_method_17_code
def yX12_fault : MethodName := ⟨RX12, "fault", "()I"⟩
abbrev cX12_tell : ByteArray := prog_14_method_18_code
def yX12_tell : MethodName := ⟨RX12, "tell", "(I)V"⟩
abbrev cX12_ladder : ByteArray := prog_14_method_19_code
def yX12_ladder : MethodName := ⟨RX12, "ladder", "()I"⟩
abbrev cX12_isRung : ByteArray := prog_14_method_20_code
def yX12_isRung : MethodName := ⟨RX12, "isRung", "(I)Z"⟩
abbrev cX12_isClimber : ByteArray := prog_14_method_21_code
def yX12_isClimber : MethodName := ⟨RX12, "isClimber", "(I)Z"⟩
abbrev cX12_isSet : ByteArray := prog_14_method_22_code
def yX12_isSet : MethodName := ⟨RX12, "isSet", "(I)Z"⟩
abbrev cX12_areRungs : ByteArray := prog_14_method_23_code
def yX12_areRungs : MethodName := ⟨RX12, "areRungs", "(I)Z"⟩
abbrev cX12_there : ByteArray := prog_14_method_24_code
def yX12_there : MethodName := ⟨RX12, "there", "()I"⟩
abbrev cX12_spent : ByteArray := prog_14_method_25_code
def yX12_spent : MethodName := ⟨RX12, "spent", "(I)I"⟩
abbrev cX12_free : ByteArray := prog_14_method_26_code
def yX12_free : MethodName := ⟨RX12, "free", "(I)I"⟩
abbrev cX12_tenthsOf : ByteArray := prog_14_method_27_code
def yX12_tenthsOf : MethodName := ⟨RX12, "tenthsOf", "(I)I"⟩
abbrev cX12_rung : ByteArray := prog_14_method_28_code
def yX12_rung : MethodName := ⟨RX12, "rung", "(II)I"⟩
abbrev cX12_strideOf : ByteArray := prog_14_method_29_code
def yX12_strideOf : MethodName := ⟨RX12, "strideOf", "(I)I"⟩
abbrev cX12_climber : ByteArray := prog_14_method_30_code
def yX12_climber : MethodName := ⟨RX12, "climber", "(II)I"⟩
abbrev cX12_kth : ByteArray := prog_14_method_31_code
def yX12_kth : MethodName := ⟨RX12, "kth", "(II)I"⟩
abbrev cX12_inStride : ByteArray := prog_14_method_32_code
def yX12_inStride : MethodName := ⟨RX12, "inStride", "(II)I"⟩
abbrev cX12_stepOf : ByteArray := prog_14_method_33_code
def yX12_stepOf : MethodName := ⟨RX12, "stepOf", "(IIIII)I"⟩
abbrev cX12_nextOf : ByteArray := prog_14_method_34_code
def yX12_nextOf : MethodName := ⟨RX12, "nextOf", "(II)I"⟩
abbrev cX12_as : ByteArray := prog_14_method_35_code
def yX12_as : MethodName := ⟨RX12, "as", "(II)I"⟩
abbrev cX12_mind : ByteArray := prog_14_method_36_code
def yX12_mind : MethodName := ⟨RX12, "mind", "(II)I"⟩
abbrev cX12_go : ByteArray := prog_14_method_37_code
def yX12_go : MethodName := ⟨RX12, "go", "(III)V"⟩
abbrev cX12_step : ByteArray := prog_14_method_38_code
def yX12_step : MethodName := ⟨RX12, "step", "(II)I"⟩
abbrev cX12_climbOn : ByteArray := prog_14_method_39_code
def yX12_climbOn : MethodName := ⟨RX12, "climbOn", "(II)V"⟩
abbrev cX12_climb : ByteArray := prog_14_method_40_code
def yX12_climb : MethodName := ⟨RX12, "climb", "(I)I"⟩
abbrev cX12_lower : ByteArray := prog_14_method_41_code
def yX12_lower : MethodName := ⟨RX12, "lower", "(I)I"⟩
abbrev cX12_judge : ByteArray := prog_14_method_42_code
def yX12_judge : MethodName := ⟨RX12, "judge", "(II)I"⟩
abbrev cX12_copy : ByteArray := prog_14_method_43_code
def yX12_copy : MethodName := ⟨RX12, "copy", "(II)V"⟩
abbrev cX12_keep : ByteArray := prog_14_method_44_code
def yX12_keep : MethodName := ⟨RX12, "keep", "(I)I"⟩
abbrev cX12_back : ByteArray := prog_14_method_45_code
def yX12_back : MethodName := ⟨RX12, "back", "(I)I"⟩
abbrev cX12_isStride : ByteArray := prog_14_method_46_code
def yX12_isStride : MethodName := ⟨RX12, "isStride", "(I)Z"⟩
abbrev cX12_mostBy : ByteArray := prog_14_method_47_code
def yX12_mostBy : MethodName := ⟨RX12, "mostBy", "(II)I"⟩
abbrev cX12_most : ByteArray := prog_14_method_48_code
def yX12_most : MethodName := ⟨RX12, "most", "(II)I"⟩
abbrev cX12_spoilt : ByteArray := prog_14_method_49_code
def yX12_spoilt : MethodName := ⟨RX12, "spoilt", "(II)I"⟩
abbrev cX12_both : ByteArray := prog_14_method_50_code
def yX12_both : MethodName := ⟨RX12, "both", "(I)I"⟩
abbrev cX12_power : ByteArray := prog_14_method_51_code
def yX12_power : MethodName := ⟨RX12, "power", "(I)I"⟩
abbrev cX12_choose : ByteArray := prog_14_method_52_code
def yX12_choose : MethodName := ⟨RX12, "choose", "(I)V"⟩
abbrev cX12_onBy : ByteArray := prog_14_method_53_code
def yX12_onBy : MethodName := ⟨RX12, "onBy", "(II)I"⟩
abbrev cX12_put : ByteArray := prog_14_method_54_code
def yX12_put : MethodName := ⟨RX12, "put", "(IJI)V"⟩
abbrev cX12_layStates : ByteArray := prog_14_method_55_code
def yX12_layStates : MethodName := ⟨RX12, "layStates", "(I)V"⟩
abbrev cX12_waysOf : ByteArray := prog_14_method_56_code
def yX12_waysOf : MethodName := ⟨RX12, "waysOf", "(I)J"⟩
abbrev cX12_ways : ByteArray := prog_14_method_57_code
def yX12_ways : MethodName := ⟨RX12, "ways", "(I)J"⟩
abbrev cX12_largest : ByteArray := prog_14_method_58_code
def yX12_largest : MethodName := ⟨RX12, "largest", "(I)I"⟩
abbrev cX12_mends : ByteArray := prog_14_method_59_code
def yX12_mends : MethodName := ⟨RX12, "mends", "(I)I"⟩
abbrev cX12_rowOf : ByteArray := prog_14_method_60_code
def yX12_rowOf : MethodName := ⟨RX12, "rowOf", "(II)I"⟩
abbrev cX12_order : ByteArray := prog_14_method_61_code
def yX12_order : MethodName := ⟨RX12, "order", "(II)I"⟩
abbrev cX12_upBy : ByteArray := prog_14_method_62_code
def yX12_upBy : MethodName := ⟨RX12, "upBy", "(I)I"⟩
abbrev cX12_odds : ByteArray := prog_14_method_63_code
def yX12_odds : MethodName := ⟨RX12, "odds", "(II)J"⟩
abbrev cX12_treads : ByteArray := prog_14_method_64_code
def yX12_treads : MethodName := ⟨RX12, "treads", "(II)I"⟩
abbrev cX12_fits : ByteArray := prog_14_method_65_code
def yX12_fits : MethodName := ⟨RX12, "fits", "(II)I"⟩
abbrev cX12_make : ByteArray := prog_14_method_66_code
def yX12_make : MethodName := ⟨RX12, "make", "(II)I"⟩
abbrev cX12_count : ByteArray := prog_14_method_67_code
def yX12_count : MethodName := ⟨RX12, "count", "(I)I"⟩
def RJ6 : String := "java/lang/Integer"
def TJ6 : u_T := fun k => match k with
  | _ => ("", "", "", false)
def tyJ6 : Nat → FieldType := fun k => match k with
  | _ => .int
abbrev wsJ60 : List Cond := u_ws RJ6 TJ6 0
theorem nmJ6 : ∀ a, a < 0 → ∀ b, b < 0 → a ≠ b → (TJ6 a).2.1 ≠ (TJ6 b).2.1 := by decide +kernel
theorem tyJ6_ok : ∀ k, k < 0 → parseFieldDescriptor (TJ6 k).2.2.1 = some (tyJ6 k) := by decide +kernel
abbrev cJ6_bitCount_0f7a4 : ByteArray := prog_15_method_49_code
def yJ6_bitCount_0f7a4 : MethodName := ⟨RJ6, "bitCount", "(I)I"⟩
def RJ9 : String := "java/lang/Math"
def TJ9 : u_T := fun k => match k with
  | _ => ("", "", "", false)
def tyJ9 : Nat → FieldType := fun k => match k with
  | _ => .int
abbrev wsJ90 : List Cond := u_ws RJ9 TJ9 0
theorem nmJ9 : ∀ a, a < 0 → ∀ b, b < 0 → a ≠ b → (TJ9 a).2.1 ≠ (TJ9 b).2.1 := by decide +kernel
theorem tyJ9_ok : ∀ k, k < 0 → parseFieldDescriptor (TJ9 k).2.2.1 = some (tyJ9 k) := by decide +kernel
abbrev cJ9_max_7cf53 : ByteArray := prog_16_method_65_code
def yJ9_max_7cf53 : MethodName := ⟨RJ9, "max", "(II)I"⟩
abbrev cJ9_max_f86c9 : ByteArray := prog_16_method_66_code
def yJ9_max_f86c9 : MethodName := ⟨RJ9, "max", "(JJ)J"⟩
abbrev cJ9_min_f86c9 : ByteArray := prog_16_method_70_code
def yJ9_min_f86c9 : MethodName := ⟨RJ9, "min", "(JJ)J"⟩
def RJ0 : String := "java/lang/String"
def TJ0 : u_T := fun k => match k with
  | _ => ("", "", "", false)
def tyJ0 : Nat → FieldType := fun k => match k with
  | _ => .int
abbrev wsJ00 : List Cond := u_ws RJ0 TJ0 0
theorem nmJ0 : ∀ a, a < 0 → ∀ b, b < 0 → a ≠ b → (TJ0 a).2.1 ≠ (TJ0 b).2.1 := by decide +kernel
theorem tyJ0_ok : ∀ k, k < 0 → parseFieldDescriptor (TJ0 k).2.2.1 = some (tyJ0 k) := by decide +kernel
abbrev cJ0_length_8abf5 : ByteArray := prog_17_method_54_code
def yJ0_length_8abf5 : MethodName := ⟨RJ0, "length", "()I"⟩
abbrev cJ0_charAt_5068e : ByteArray := prog_17_method_56_code
def yJ0_charAt_5068e : MethodName := ⟨RJ0, "charAt", "(I)C"⟩
abbrev cJ0_coder_7d493 : ByteArray := prog_17_method_152_code
def yJ0_coder_7d493 : MethodName := ⟨RJ0, "coder", "()B"⟩
abbrev cJ0_isLatin1_aae02 : ByteArray := prog_17_method_154_code
def yJ0_isLatin1_aae02 : MethodName := ⟨RJ0, "isLatin1", "()Z"⟩
abbrev cJ0_checkIndex_df160 : ByteArray := prog_17_method_155_code
def yJ0_checkIndex_df160 : MethodName := ⟨RJ0, "checkIndex", "(II)V"⟩
def RJ1 : String := "java/lang/StringLatin1"
def TJ1 : u_T := fun k => match k with
  | _ => ("", "", "", false)
def tyJ1 : Nat → FieldType := fun k => match k with
  | _ => .int
abbrev wsJ10 : List Cond := u_ws RJ1 TJ1 0
theorem nmJ1 : ∀ a, a < 0 → ∀ b, b < 0 → a ≠ b → (TJ1 a).2.1 ≠ (TJ1 b).2.1 := by decide +kernel
theorem tyJ1_ok : ∀ k, k < 0 → parseFieldDescriptor (TJ1 k).2.2.1 = some (tyJ1 k) := by decide +kernel
abbrev cJ1_charAt_3b067 : ByteArray := prog_18_method_2_code
def yJ1_charAt_3b067 : MethodName := ⟨RJ1, "charAt", "([BI)C"⟩
def RJ2 : String := "java/lang/StringUTF16"
def TJ2 : u_T := fun k => match k with
  | _ => ("", "", "", false)
def tyJ2 : Nat → FieldType := fun k => match k with
  | _ => .int
abbrev wsJ20 : List Cond := u_ws RJ2 TJ2 0
theorem nmJ2 : ∀ a, a < 0 → ∀ b, b < 0 → a ≠ b → (TJ2 a).2.1 ≠ (TJ2 b).2.1 := by decide +kernel
theorem tyJ2_ok : ∀ k, k < 0 → parseFieldDescriptor (TJ2 k).2.2.1 = some (tyJ2 k) := by decide +kernel
abbrev cJ2_getChar_3b067 : ByteArray := prog_19_method_5_code
def yJ2_getChar_3b067 : MethodName := ⟨RJ2, "getChar", "([BI)C"⟩
abbrev cJ2_length_9d52b : ByteArray := prog_19_method_6_code
def yJ2_length_9d52b : MethodName := ⟨RJ2, "length", "([B)I"⟩
abbrev cJ2_charAt_3b067 : ByteArray := prog_19_method_83_code
def yJ2_charAt_3b067 : MethodName := ⟨RJ2, "charAt", "([BI)C"⟩
abbrev cJ2_checkIndex_2214a : ByteArray := prog_19_method_91_code
def yJ2_checkIndex_2214a : MethodName := ⟨RJ2, "checkIndex", "(I[B)V"⟩
def RJ10 : String := "java/lang/System"
def TJ10 : u_T := fun k => match k with
  | _ => ("", "", "", false)
def tyJ10 : Nat → FieldType := fun k => match k with
  | _ => .int
abbrev wsJ100 : List Cond := u_ws RJ10 TJ10 0
theorem nmJ10 : ∀ a, a < 0 → ∀ b, b < 0 → a ≠ b → (TJ10 a).2.1 ≠ (TJ10 b).2.1 := by decide +kernel
theorem tyJ10_ok : ∀ k, k < 0 → parseFieldDescriptor (TJ10 k).2.2.1 = some (tyJ10 k) := by decide +kernel
def RJ3 : String := "jdk/internal/util/Preconditions"
def TJ3 : u_T := fun k => match k with
  | _ => ("", "", "", false)
def tyJ3 : Nat → FieldType := fun k => match k with
  | _ => .int
abbrev wsJ30 : List Cond := u_ws RJ3 TJ3 0
theorem nmJ3 : ∀ a, a < 0 → ∀ b, b < 0 → a ≠ b → (TJ3 a).2.1 ≠ (TJ3 b).2.1 := by decide +kernel
theorem tyJ3_ok : ∀ k, k < 0 → parseFieldDescriptor (TJ3 k).2.2.1 = some (tyJ3 k) := by decide +kernel
abbrev cJ3_checkIndex_8e157 : ByteArray := prog_21_method_11_code
def yJ3_checkIndex_8e157 : MethodName := ⟨RJ3, "checkIndex", "(IILjava/util/function/BiFunction;)I"⟩
def RL : String := "OldLadderLaw"
abbrev cL_law : ByteArray := code
def yL_law : MethodName := ⟨RL, "law", "([I)Z"⟩
abbrev vwCl : List vw_C := [(RX1, TX1, 2), (RX2, TX2, 9), (RX3, TX3, 3), (RX4, TX4, 4), (RX5, TX5, 3), (RX6, TX6, 3), (RX7, TX7, 3), (RX8, TX8, 6), (RX9, TX9, 12), (RX10, TX10, 4), (RX11, TX11, 7), (RX12, TX12, 26)]
