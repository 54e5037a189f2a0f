/-! ===== BEGIN words of one list among another's, by their places ===== -/
theorem goodIn_r {big : List Cond} (ws : List Cond) (ps : List Nat) (hp : ws = ps.filterMap (fun i => big[i]?)) (h : ws.all goodWord = true) : GoodIn big ws := by
  intro w hw
  have h1 := List.all_eq_true.mp h w hw
  rw [hp] at hw
  obtain ⟨i, -, hi⟩ := List.mem_filterMap.mp hw
  have hm : w ∈ big := by first | exact List.mem_of_getElem? hi | exact List.getElem?_mem hi
  exact ⟨hm, good_of_word h1⟩
theorem goodIn_app {big a b : List Cond} (ha : GoodIn big a) (hb : GoodIn big b) : GoodIn big (a ++ b) := fun w h => (List.mem_append.mp h).elim (ha w) (hb w)
theorem goodIn_ca {big a b : List Cond} {c : Cond} (ha : GoodIn big (c :: a)) (hb : GoodIn big b) : GoodIn big (c :: (a ++ b)) := fun w h => (List.mem_cons.mp h).elim (fun e => ha w (List.mem_cons.mpr (Or.inl e))) (fun h => (List.mem_append.mp h).elim (fun h => ha w (List.mem_cons.mpr (Or.inr h))) (hb w))
theorem goodIn_sub {big ws : List Cond} (hm : ∀ w ∈ ws, w ∈ big) (h : ws.all goodWord = true) : GoodIn big ws := fun w hw => ⟨hm w hw, good_of_word (List.all_eq_true.mp h w hw)⟩
/-! ===== END ===== -/

/-! ===== BEGIN printed: names, fields, word lists, decode rows ===== -/
def RX0 : String := "BandBoat$Band"
def TX0 : u_T := fun k => match k with
  | 0 => ("BandBoat$Band", "force", "I", false)
  | 1 => ("BandBoat$Band", "stretch", "I", false)
  | 2 => ("BandBoat$Band", "knot", "I", false)
  | 3 => ("BandBoat$Band", "warmth", "I", false)
  | 4 => ("BandBoat$Band", "returned", "I", false)
  | 5 => ("BandBoat$Band", "fresh", "I", false)
  | _ => ("BandBoat$Band", "spinBy", "I", false)
def tyX0 : Nat → FieldType := fun k => match k with
  | 0 => .int
  | 1 => .int
  | 2 => .int
  | 3 => .int
  | 4 => .int
  | 5 => .int
  | _ => .int
abbrev wsX00 : List Cond := u_ws RX0 TX0 7
theorem nmX0 : ∀ a, a < 7 → ∀ b, b < 7 → a ≠ b → (TX0 a).2.1 ≠ (TX0 b).2.1 := by decide +kernel
theorem tyX0_ok : ∀ k, k < 7 → parseFieldDescriptor (TX0 k).2.2.1 = some (tyX0 k) := by decide +kernel
abbrev cX0_init : ByteArray := prog_2_method_1_code
def yX0_init : MethodName := ⟨RX0, "<init>", "()V"⟩
abbrev cX0_fit : ByteArray := prog_2_method_2_code
def yX0_fit : MethodName := ⟨RX0, "fit", "(LBandBoat$Rig;)V"⟩
abbrev cX0_wound : ByteArray := prog_2_method_3_code
def yX0_wound : MethodName := ⟨RX0, "wound", "(I)I"⟩
abbrev cX0_loosed : ByteArray := prog_2_method_4_code
def yX0_loosed : MethodName := ⟨RX0, "loosed", "(I)I"⟩
def RX1 : String := "BandBoat$Gauge"
def TX1 : u_T := fun k => match k with
  | 0 => ("BandBoat$Gauge", "turns", "[I", true)
  | 1 => ("BandBoat$Gauge", "ups", "[I", true)
  | 2 => ("BandBoat$Gauge", "downs", "[I", true)
  | _ => ("BandBoat$Gauge", "readings", "I", false)
def tyX1 : Nat → FieldType := fun k => match k with
  | 0 => .array .int
  | 1 => .array .int
  | 2 => .array .int
  | _ => .int
abbrev wsX10 : List Cond := u_ws RX1 TX1 4
theorem nmX1 : ∀ a, a < 4 → ∀ b, b < 4 → a ≠ b → (TX1 a).2.1 ≠ (TX1 b).2.1 := by decide +kernel
theorem tyX1_ok : ∀ k, k < 4 → parseFieldDescriptor (TX1 k).2.2.1 = some (tyX1 k) := by decide +kernel
abbrev cX1_init : ByteArray := prog_3_method_1_code
def yX1_init : MethodName := ⟨RX1, "<init>", "()V"⟩
abbrev cX1_add : ByteArray := prog_3_method_2_code
def yX1_add : MethodName := ⟨RX1, "add", "(III)Z"⟩
abbrev cX1_agrees : ByteArray := prog_3_method_3_code
def yX1_agrees : MethodName := ⟨RX1, "agrees", "(LBandBoat$Band;IZ)Z"⟩
def RX2 : String := "BandBoat$Marks"
def TX2 : u_T := fun k => match k with
  | 0 => ("BandBoat$Marks", "places", "[I", true)
  | 1 => ("BandBoat$Marks", "times", "[I", true)
  | _ => ("BandBoat$Marks", "marked", "I", false)
def tyX2 : Nat → FieldType := fun k => match k with
  | 0 => .array .int
  | 1 => .array .int
  | _ => .int
abbrev wsX20 : List Cond := u_ws RX2 TX2 3
theorem nmX2 : ∀ a, a < 3 → ∀ b, b < 3 → a ≠ b → (TX2 a).2.1 ≠ (TX2 b).2.1 := by decide +kernel
theorem tyX2_ok : ∀ k, k < 3 → parseFieldDescriptor (TX2 k).2.2.1 = some (tyX2 k) := by decide +kernel
abbrev cX2_init : ByteArray := prog_4_method_1_code
def yX2_init : MethodName := ⟨RX2, "<init>", "()V"⟩
abbrev cX2_add : ByteArray := prog_4_method_2_code
def yX2_add : MethodName := ⟨RX2, "add", "(II)Z"⟩
abbrev cX2_latest : ByteArray := prog_4_method_3_code
def yX2_latest : MethodName := ⟨RX2, "latest", "()I"⟩
abbrev cX2_agree : ByteArray := prog_4_method_4_code
def yX2_agree : MethodName := ⟨RX2, "agree", "(LBandBoat$Trial;I)Z"⟩
def RX3 : String := "BandBoat$Memo"
def TX3 : u_T := fun k => match k with
  | 0 => ("BandBoat$Memo", "answers", "[I", true)
  | 1 => ("BandBoat$Memo", "known", "Z", false)
  | 2 => ("BandBoat$Memo", "first", "I", false)
  | _ => ("BandBoat$Memo", "second", "I", false)
def tyX3 : Nat → FieldType := fun k => match k with
  | 0 => .array .int
  | 1 => .boolean
  | 2 => .int
  | _ => .int
abbrev wsX30 : List Cond := u_ws RX3 TX3 4
theorem nmX3 : ∀ a, a < 4 → ∀ b, b < 4 → a ≠ b → (TX3 a).2.1 ≠ (TX3 b).2.1 := by decide +kernel
theorem tyX3_ok : ∀ k, k < 4 → parseFieldDescriptor (TX3 k).2.2.1 = some (tyX3 k) := by decide +kernel
abbrev cX3_init : ByteArray := prog_5_method_1_code
def yX3_init : MethodName := ⟨RX3, "<init>", "(I)V"⟩
abbrev cX3_holds : ByteArray := prog_5_method_2_code
def yX3_holds : MethodName := ⟨RX3, "holds", "(II)Z"⟩
abbrev cX3_learn : ByteArray := prog_5_method_3_code
def yX3_learn : MethodName := ⟨RX3, "learn", "(II)V"⟩
abbrev cX3_drop : ByteArray := prog_5_method_4_code
def yX3_drop : MethodName := ⟨RX3, "drop", "()V"⟩
abbrev cX3_answer : ByteArray := prog_5_method_5_code
def yX3_answer : MethodName := ⟨RX3, "answer", "(I)I"⟩
abbrev cX3_put : ByteArray := prog_5_method_6_code
def yX3_put : MethodName := ⟨RX3, "put", "(II)V"⟩
abbrev cX3_widen : ByteArray := prog_5_method_7_code
def yX3_widen : MethodName := ⟨RX3, "widen", "(IZI)V"⟩
def RX4 : String := "BandBoat$Motion"
def TX4 : u_T := fun k => match k with
  | 0 => ("BandBoat$Motion", "parts", "I", false)
  | 1 => ("BandBoat$Motion", "pace", "I", false)
  | 2 => ("BandBoat$Motion", "place", "I", false)
  | 3 => ("BandBoat$Motion", "turn", "I", false)
  | 4 => ("BandBoat$Motion", "side", "I", false)
  | 5 => ("BandBoat$Motion", "tenth", "I", false)
  | _ => ("BandBoat$Motion", "steady", "Z", false)
def tyX4 : Nat → FieldType := fun k => match k with
  | 0 => .int
  | 1 => .int
  | 2 => .int
  | 3 => .int
  | 4 => .int
  | 5 => .int
  | _ => .boolean
abbrev wsX40 : List Cond := u_ws RX4 TX4 7
theorem nmX4 : ∀ a, a < 7 → ∀ b, b < 7 → a ≠ b → (TX4 a).2.1 ≠ (TX4 b).2.1 := by decide +kernel
theorem tyX4_ok : ∀ k, k < 7 → parseFieldDescriptor (TX4 k).2.2.1 = some (tyX4 k) := by decide +kernel
abbrev cX4_init : ByteArray := prog_6_method_1_code
def yX4_init : MethodName := ⟨RX4, "<init>", "()V"⟩
abbrev cX4_rest : ByteArray := prog_6_method_2_code
def yX4_rest : MethodName := ⟨RX4, "rest", "()V"⟩
abbrev cX4_copy : ByteArray := prog_6_method_3_code
def yX4_copy : MethodName := ⟨RX4, "copy", "(LBandBoat$Motion;)V"⟩
abbrev cX4_isOver : ByteArray := prog_6_method_4_code
def yX4_isOver : MethodName := ⟨RX4, "isOver", "()Z"⟩
abbrev cX4_step : ByteArray := prog_6_method_5_code
def yX4_step : MethodName := ⟨RX4, "step", "(LBandBoat$Rig;LBandBoat$Band;I)V"⟩
abbrev cX4_drift : ByteArray := prog_6_method_6_code
def yX4_drift : MethodName := ⟨RX4, "drift", "(LBandBoat$Rig;I)V"⟩
abbrev cX4_gustOf : ByteArray := prog_6_method_7_code
def yX4_gustOf : MethodName := ⟨RX4, "gustOf", "(II)I"⟩
def RX5 : String := "BandBoat$Reader"
def TX5 : u_T := fun k => match k with
  | 0 => ("BandBoat$Reader", "rig", "LBandBoat$Rig;", true)
  | 1 => ("BandBoat$Reader", "stuffNumbers", "[I", true)
  | _ => ("BandBoat$Reader", "numbers", "[I", true)
def tyX5 : Nat → FieldType := fun k => match k with
  | 0 => .object "BandBoat$Rig"
  | 1 => .array .int
  | _ => .array .int
abbrev wsX50 : List Cond := u_ws RX5 TX5 3
theorem nmX5 : ∀ a, a < 3 → ∀ b, b < 3 → a ≠ b → (TX5 a).2.1 ≠ (TX5 b).2.1 := by decide +kernel
theorem tyX5_ok : ∀ k, k < 3 → parseFieldDescriptor (TX5 k).2.2.1 = some (tyX5 k) := by decide +kernel
abbrev cX5_init : ByteArray := prog_7_method_1_code
def yX5_init : MethodName := ⟨RX5, "<init>", "()V"⟩
abbrev cX5_readAll : ByteArray := prog_7_method_2_code
def yX5_readAll : MethodName := ⟨RX5, "readAll", "(LBandBoat$Script;)I"⟩
abbrev cX5_itemEnd : ByteArray := prog_7_method_3_code
def yX5_itemEnd : MethodName := ⟨RX5, "itemEnd", "(LBandBoat$Script;I)I"⟩
abbrev cX5_numberEnd : ByteArray := prog_7_method_4_code
def yX5_numberEnd : MethodName := ⟨RX5, "numberEnd", "(LBandBoat$Script;III)I"⟩
abbrev cX5_numbersOf : ByteArray := prog_7_method_5_code
def yX5_numbersOf : MethodName := ⟨RX5, "numbersOf", "(I)I"⟩
abbrev cX5_take : ByteArray := prog_7_method_6_code
def yX5_take : MethodName := ⟨RX5, "take", "(I)Z"⟩
abbrev cX5_takeStuff : ByteArray := prog_7_method_7_code
def yX5_takeStuff : MethodName := ⟨RX5, "takeStuff", "()Z"⟩
abbrev cX5_takeBand : ByteArray := prog_7_method_8_code
def yX5_takeBand : MethodName := ⟨RX5, "takeBand", "()Z"⟩
abbrev cX5_takeBlade : ByteArray := prog_7_method_9_code
def yX5_takeBlade : MethodName := ⟨RX5, "takeBlade", "()Z"⟩
abbrev cX5_takeHull : ByteArray := prog_7_method_10_code
def yX5_takeHull : MethodName := ⟨RX5, "takeHull", "()Z"⟩
def RX6 : String := "BandBoat$Rig"
def TX6 : u_T := fun k => match k with
  | 0 => ("BandBoat$Rig", "stuffs", "I", false)
  | 1 => ("BandBoat$Rig", "banded", "Z", false)
  | 2 => ("BandBoat$Rig", "pulls", "I", false)
  | 3 => ("BandBoat$Rig", "loses", "I", false)
  | 4 => ("BandBoat$Rig", "knots", "I", false)
  | 5 => ("BandBoat$Rig", "snaps", "I", false)
  | 6 => ("BandBoat$Rig", "strands", "I", false)
  | 7 => ("BandBoat$Rig", "length", "I", false)
  | 8 => ("BandBoat$Rig", "pitch", "I", false)
  | 9 => ("BandBoat$Rig", "width", "I", false)
  | 10 => ("BandBoat$Rig", "weight", "I", false)
  | 11 => ("BandBoat$Rig", "drag", "I", false)
  | 12 => ("BandBoat$Rig", "veer", "I", false)
  | 13 => ("BandBoat$Rig", "rudder", "I", false)
  | 14 => ("BandBoat$Rig", "cold", "I", false)
  | 15 => ("BandBoat$Rig", "days", "I", false)
  | _ => ("BandBoat$Rig", "gust", "I", false)
def tyX6 : Nat → FieldType := fun k => match k with
  | 0 => .int
  | 1 => .boolean
  | 2 => .int
  | 3 => .int
  | 4 => .int
  | 5 => .int
  | 6 => .int
  | 7 => .int
  | 8 => .int
  | 9 => .int
  | 10 => .int
  | 11 => .int
  | 12 => .int
  | 13 => .int
  | 14 => .int
  | 15 => .int
  | _ => .int
abbrev wsX60 : List Cond := u_ws RX6 TX6 17
theorem nmX6 : ∀ a, a < 17 → ∀ b, b < 17 → a ≠ b → (TX6 a).2.1 ≠ (TX6 b).2.1 := by decide +kernel
theorem tyX6_ok : ∀ k, k < 17 → parseFieldDescriptor (TX6 k).2.2.1 = some (tyX6 k) := by decide +kernel
abbrev cX6_init : ByteArray := prog_8_method_1_code
def yX6_init : MethodName := ⟨RX6, "<init>", "()V"⟩
abbrev cX6_clear : ByteArray := prog_8_method_2_code
def yX6_clear : MethodName := ⟨RX6, "clear", "()V"⟩
abbrev cX6_layFirst : ByteArray := prog_8_method_3_code
def yX6_layFirst : MethodName := ⟨RX6, "layFirst", "()V"⟩
abbrev cX6_copy : ByteArray := prog_8_method_4_code
def yX6_copy : MethodName := ⟨RX6, "copy", "(LBandBoat$Rig;)V"⟩
def RX7 : String := "BandBoat$Script"
def TX7 : u_T := fun k => match k with
  | 0 => ("BandBoat$Script", "bytes", "[B", true)
  | _ => ("BandBoat$Script", "length", "I", false)
def tyX7 : Nat → FieldType := fun k => match k with
  | 0 => .array .byte
  | _ => .int
abbrev wsX70 : List Cond := u_ws RX7 TX7 2
theorem nmX7 : ∀ a, a < 2 → ∀ b, b < 2 → a ≠ b → (TX7 a).2.1 ≠ (TX7 b).2.1 := by decide +kernel
theorem tyX7_ok : ∀ k, k < 2 → parseFieldDescriptor (TX7 k).2.2.1 = some (tyX7 k) := by decide +kernel
abbrev cX7_init : ByteArray := prog_9_method_1_code
def yX7_init : MethodName := ⟨RX7, "<init>", "()V"⟩
abbrev cX7_append : ByteArray := prog_9_method_2_code
def yX7_append : MethodName := ⟨RX7, "append", "(IJ)Z"⟩
abbrev cX7_at : ByteArray := prog_9_method_3_code
def yX7_at : MethodName := ⟨RX7, "at", "(I)I"⟩
def RX8 : String := "BandBoat$Trial"
def TX8 : u_T := fun k => match k with
  | 0 => ("BandBoat$Trial", "motion", "LBandBoat$Motion;", true)
  | 1 => ("BandBoat$Trial", "band", "LBandBoat$Band;", true)
  | 2 => ("BandBoat$Trial", "path", "[I", true)
  | 3 => ("BandBoat$Trial", "tenths", "I", false)
  | 4 => ("BandBoat$Trial", "topPace", "I", false)
  | _ => ("BandBoat$Trial", "emptyAt", "I", false)
def tyX8 : Nat → FieldType := fun k => match k with
  | 0 => .object "BandBoat$Motion"
  | 1 => .object "BandBoat$Band"
  | 2 => .array .int
  | 3 => .int
  | 4 => .int
  | _ => .int
abbrev wsX80 : List Cond := u_ws RX8 TX8 6
theorem nmX8 : ∀ a, a < 6 → ∀ b, b < 6 → a ≠ b → (TX8 a).2.1 ≠ (TX8 b).2.1 := by decide +kernel
theorem tyX8_ok : ∀ k, k < 6 → parseFieldDescriptor (TX8 k).2.2.1 = some (tyX8 k) := by decide +kernel
abbrev cX8_init : ByteArray := prog_10_method_1_code
def yX8_init : MethodName := ⟨RX8, "<init>", "()V"⟩
abbrev cX8_make : ByteArray := prog_10_method_2_code
def yX8_make : MethodName := ⟨RX8, "make", "(LBandBoat$Rig;IIIZ)V"⟩
abbrev cX8_note : ByteArray := prog_10_method_3_code
def yX8_note : MethodName := ⟨RX8, "note", "(I)V"⟩
abbrev cX8_firstAt : ByteArray := prog_10_method_4_code
def yX8_firstAt : MethodName := ⟨RX8, "firstAt", "(I)I"⟩
abbrev cX8_reachedBy : ByteArray := prog_10_method_5_code
def yX8_reachedBy : MethodName := ⟨RX8, "reachedBy", "(II)Z"⟩
def RX9 : String := "BandBoat"
def TX9 : u_T := fun k => match k with
  | 0 => ("BandBoat", "script", "LBandBoat$Script;", true)
  | 1 => ("BandBoat", "reader", "LBandBoat$Reader;", true)
  | 2 => ("BandBoat", "laid", "LBandBoat$Rig;", true)
  | 3 => ("BandBoat", "tried", "LBandBoat$Rig;", true)
  | 4 => ("BandBoat", "band", "LBandBoat$Band;", true)
  | 5 => ("BandBoat", "trial", "LBandBoat$Trial;", true)
  | 6 => ("BandBoat", "gauge", "LBandBoat$Gauge;", true)
  | 7 => ("BandBoat", "marks", "LBandBoat$Marks;", true)
  | 8 => ("BandBoat", "boat", "LBandBoat$Motion;", true)
  | 9 => ("BandBoat", "kept", "[LBandBoat$Motion;", true)
  | 10 => ("BandBoat", "keptCount", "I", false)
  | 11 => ("BandBoat", "calmPlaces", "[I", true)
  | 12 => ("BandBoat", "calmPlacesKnown", "Z", false)
  | 13 => ("BandBoat", "bestMemo", "LBandBoat$Memo;", true)
  | 14 => ("BandBoat", "spanMemo", "LBandBoat$Memo;", true)
  | 15 => ("BandBoat", "straightMemo", "LBandBoat$Memo;", true)
  | 16 => ("BandBoat", "fitsMemo", "LBandBoat$Memo;", true)
  | _ => ("BandBoat", "toldMemo", "LBandBoat$Memo;", true)
def tyX9 : Nat → FieldType := fun k => match k with
  | 0 => .object "BandBoat$Script"
  | 1 => .object "BandBoat$Reader"
  | 2 => .object "BandBoat$Rig"
  | 3 => .object "BandBoat$Rig"
  | 4 => .object "BandBoat$Band"
  | 5 => .object "BandBoat$Trial"
  | 6 => .object "BandBoat$Gauge"
  | 7 => .object "BandBoat$Marks"
  | 8 => .object "BandBoat$Motion"
  | 9 => .array (.object "BandBoat$Motion")
  | 10 => .int
  | 11 => .array .int
  | 12 => .boolean
  | 13 => .object "BandBoat$Memo"
  | 14 => .object "BandBoat$Memo"
  | 15 => .object "BandBoat$Memo"
  | 16 => .object "BandBoat$Memo"
  | _ => .object "BandBoat$Memo"
abbrev wsX90 : List Cond := u_ws RX9 TX9 18
theorem nmX9 : ∀ a, a < 18 → ∀ b, b < 18 → a ≠ b → (TX9 a).2.1 ≠ (TX9 b).2.1 := by decide +kernel
theorem tyX9_ok : ∀ k, k < 18 → parseFieldDescriptor (TX9 k).2.2.1 = some (tyX9 k) := by decide +kernel
abbrev cX9_init : ByteArray := prog_1_method_1_code
def yX9_init : MethodName := ⟨RX9, "<init>", "()V"⟩
abbrev cX9_write : ByteArray := prog_1_method_2_code
def yX9_write : MethodName := ⟨RX9, "write", "(IJ)I"⟩
abbrev cX9_wipe : ByteArray := prog_1_method_3_code
def yX9_wipe : MethodName := ⟨RX9, "wipe", "()I"⟩
abbrev cX9_fault : ByteArray := prog_1_method_4_code
def yX9_fault : MethodName := ⟨RX9, "fault", "()I"⟩
abbrev cX9_lay : ByteArray := prog_1_method_5_code
def yX9_lay : MethodName := ⟨RX9, "lay", "()I"⟩
abbrev cX9_pull : ByteArray := prog_1_method_6_code
def yX9_pull : MethodName := ⟨RX9, "pull", "(IZ)I"⟩
abbrev cX9_run : ByteArray := prog_1_method_7_code
def yX9_run : MethodName := ⟨RX9, "run", "(III)I"⟩
abbrev cX9_when : ByteArray := prog_1_method_8_code
def yX9_when : MethodName := ⟨RX9, "when", "(III)I"⟩
abbrev cX9_lost : ByteArray := prog_1_method_9_code
def yX9_lost : MethodName := ⟨RX9, "lost", "(II)J"⟩
abbrev cX9_snap : ByteArray := prog_1_method_10_code
def yX9_snap : MethodName := ⟨RX9, "snap", "(I)I"⟩
abbrev cX9_wise : ByteArray := prog_1_method_11_code
def yX9_wise : MethodName := ⟨RX9, "wise", "()I"⟩
abbrev cX9_best : ByteArray := prog_1_method_12_code
def yX9_best : MethodName := ⟨RX9, "best", "(III)I"⟩
abbrev cX9_just : ByteArray := prog_1_method_13_code
def yX9_just : MethodName := ⟨RX9, "just", "(II)I"⟩
abbrev cX9_span : ByteArray := prog_1_method_14_code
def yX9_span : MethodName := ⟨RX9, "span", "(III)I"⟩
abbrev cX9_straight : ByteArray := prog_1_method_15_code
def yX9_straight : MethodName := ⟨RX9, "straight", "(II)I"⟩
abbrev cX9_two : ByteArray := prog_1_method_16_code
def yX9_two : MethodName := ⟨RX9, "two", "(I)I"⟩
abbrev cX9_reading : ByteArray := prog_1_method_17_code
def yX9_reading : MethodName := ⟨RX9, "reading", "(III)I"⟩
abbrev cX9_fits : ByteArray := prog_1_method_18_code
def yX9_fits : MethodName := ⟨RX9, "fits", "(II)I"⟩
abbrev cX9_mark : ByteArray := prog_1_method_19_code
def yX9_mark : MethodName := ⟨RX9, "mark", "(II)I"⟩
abbrev cX9_told : ByteArray := prog_1_method_20_code
def yX9_told : MethodName := ⟨RX9, "told", "(II)I"⟩
abbrev cX9_forget : ByteArray := prog_1_method_21_code
def yX9_forget : MethodName := ⟨RX9, "forget", "()I"⟩
abbrev cX9_wind : ByteArray := prog_1_method_22_code
def yX9_wind : MethodName := ⟨RX9, "wind", "(I)I"⟩
abbrev cX9_go : ByteArray := prog_1_method_23_code
def yX9_go : MethodName := ⟨RX9, "go", "(II)I"⟩
abbrev cX9_weed : ByteArray := prog_1_method_24_code
def yX9_weed : MethodName := ⟨RX9, "weed", "()I"⟩
abbrev cX9_now : ByteArray := prog_1_method_25_code
def yX9_now : MethodName := ⟨RX9, "now", "(I)I"⟩
abbrev cX9_keep : ByteArray := prog_1_method_26_code
def yX9_keep : MethodName := ⟨RX9, "keep", "()I"⟩
abbrev cX9_back : ByteArray := prog_1_method_27_code
def yX9_back : MethodName := ⟨RX9, "back", "()I"⟩
abbrev cX9_count : ByteArray := prog_1_method_28_code
def yX9_count : MethodName := ⟨RX9, "count", "(I)I"⟩
abbrev cX9_within : ByteArray := prog_1_method_29_code
def yX9_within : MethodName := ⟨RX9, "within", "(III)Z"⟩
abbrev cX9_isTurns : ByteArray := prog_1_method_30_code
def yX9_isTurns : MethodName := ⟨RX9, "isTurns", "(I)Z"⟩
abbrev cX9_limit : ByteArray := prog_1_method_31_code
def yX9_limit : MethodName := ⟨RX9, "limit", "(III)I"⟩
abbrev cX9_cut : ByteArray := prog_1_method_32_code
def yX9_cut : MethodName := ⟨RX9, "cut", "(II)I"⟩
abbrev cX9_keptAt : ByteArray := prog_1_method_33_code
def yX9_keptAt : MethodName := ⟨RX9, "keptAt", "(I)LBandBoat$Motion;"⟩
abbrev cX9_dropMemos : ByteArray := prog_1_method_34_code
def yX9_dropMemos : MethodName := ⟨RX9, "dropMemos", "()V"⟩
abbrev cX9_learnCalmPlaces : ByteArray := prog_1_method_35_code
def yX9_learnCalmPlaces : MethodName := ⟨RX9, "learnCalmPlaces", "()V"⟩
abbrev cX9_snapOf : ByteArray := prog_1_method_36_code
def yX9_snapOf : MethodName := ⟨RX9, "snapOf", "(I)I"⟩
abbrev cX9_searchBest : ByteArray := prog_1_method_37_code
def yX9_searchBest : MethodName := ⟨RX9, "searchBest", "(II)V"⟩
abbrev cX9_searchPitch : ByteArray := prog_1_method_38_code
def yX9_searchPitch : MethodName := ⟨RX9, "searchPitch", "(I)V"⟩
abbrev cX9_searchSpan : ByteArray := prog_1_method_39_code
def yX9_searchSpan : MethodName := ⟨RX9, "searchSpan", "(II)V"⟩
abbrev cX9_searchStraight : ByteArray := prog_1_method_40_code
def yX9_searchStraight : MethodName := ⟨RX9, "searchStraight", "(I)V"⟩
abbrev cX9_searchFits : ByteArray := prog_1_method_41_code
def yX9_searchFits : MethodName := ⟨RX9, "searchFits", "(I)V"⟩
abbrev cX9_searchLoses : ByteArray := prog_1_method_42_code
def yX9_searchLoses : MethodName := ⟨RX9, "searchLoses", "(I)V"⟩
abbrev cX9_searchTold : ByteArray := prog_1_method_43_code
def yX9_searchTold : MethodName := ⟨RX9, "searchTold", "(I)V"⟩
abbrev cX9_noteTold : ByteArray := prog_1_method_44_code
def yX9_noteTold : MethodName := ⟨RX9, "noteTold", "(I)V"⟩
def RX10 : String := "BandBoatModel"
def TX10 : u_T := fun k => match k with
  | 0 => ("BandBoatModel", "thrown", "I", false)
  | 1 => ("BandBoatModel", "text", "[I", true)
  | 2 => ("BandBoatModel", "typed", "I", false)
  | 3 => ("BandBoatModel", "at", "I", false)
  | 4 => ("BandBoatModel", "isWell", "Z", false)
  | 5 => ("BandBoatModel", "boat", "[I", true)
  | 6 => ("BandBoatModel", "pulls", "I", false)
  | 7 => ("BandBoatModel", "loses", "I", false)
  | 8 => ("BandBoatModel", "knots", "I", false)
  | 9 => ("BandBoatModel", "strands", "I", false)
  | 10 => ("BandBoatModel", "length", "I", false)
  | 11 => ("BandBoatModel", "pitch", "I", false)
  | 12 => ("BandBoatModel", "rudder", "I", false)
  | 13 => ("BandBoatModel", "now", "[I", true)
  | 14 => ("BandBoatModel", "run", "[I", true)
  | 15 => ("BandBoatModel", "kept", "[I", true)
  | 16 => ("BandBoatModel", "keptMany", "I", false)
  | 17 => ("BandBoatModel", "runTenths", "I", false)
  | 18 => ("BandBoatModel", "fastest", "I", false)
  | 19 => ("BandBoatModel", "unwound", "I", false)
  | 20 => ("BandBoatModel", "reached", "I", false)
  | 21 => ("BandBoatModel", "reading", "[I", true)
  | 22 => ("BandBoatModel", "readings", "I", false)
  | 23 => ("BandBoatModel", "mark", "[I", true)
  | 24 => ("BandBoatModel", "whens", "[I", true)
  | 25 => ("BandBoatModel", "marks", "I", false)
  | _ => ("BandBoatModel", "answer", "[I", true)
def tyX10 : Nat → FieldType := fun k => match k with
  | 0 => .int
  | 1 => .array .int
  | 2 => .int
  | 3 => .int
  | 4 => .boolean
  | 5 => .array .int
  | 6 => .int
  | 7 => .int
  | 8 => .int
  | 9 => .int
  | 10 => .int
  | 11 => .int
  | 12 => .int
  | 13 => .array .int
  | 14 => .array .int
  | 15 => .array .int
  | 16 => .int
  | 17 => .int
  | 18 => .int
  | 19 => .int
  | 20 => .int
  | 21 => .array .int
  | 22 => .int
  | 23 => .array .int
  | 24 => .array .int
  | 25 => .int
  | _ => .array .int
abbrev wsX100 : List Cond := u_ws RX10 TX10 27
theorem nmX10 : ∀ a, a < 27 → ∀ b, b < 27 → a ≠ b → (TX10 a).2.1 ≠ (TX10 b).2.1 := by decide +kernel
theorem tyX10_ok : ∀ k, k < 27 → parseFieldDescriptor (TX10 k).2.2.1 = some (tyX10 k) := by decide +kernel
abbrev cX10_init : ByteArray := prog_12_method_1_code
def yX10_init : MethodName := ⟨RX10, "<init>", "()V"⟩
abbrev cX10_in : ByteArray := prog_12_method_3_code
def yX10_in : MethodName := ⟨RX10, "in", "(III)Z"⟩
abbrev cX10_begins : ByteArray := prog_12_method_4_code
def yX10_begins : MethodName := ⟨RX10, "begins", "(I)V"⟩
abbrev cX10_write : ByteArray := prog_12_method_5_code
def yX10_write : MethodName := ⟨RX10, "write", "(IJ)I"⟩
abbrev cX10_wipe : ByteArray := prog_12_method_6_code
def yX10_wipe : MethodName := ⟨RX10, "wipe", "()I"⟩
abbrev cX10_byteAt : ByteArray := prog_12_method_7_code
def yX10_byteAt : MethodName := ⟨RX10, "byteAt", "(I)I"⟩
abbrev cX10_number : ByteArray := prog_12_method_8_code
def yX10_number : MethodName := ⟨RX10, "number", "(III)I"⟩
abbrev cX10_puts : ByteArray := prog_12_method_9_code
def yX10_puts : MethodName := ⟨RX10, "puts", "(II)V"⟩
abbrev cX10_readsItem : ByteArray := prog_12_method_10_code
def yX10_readsItem : MethodName := ⟨RX10, "readsItem", "(I)V"⟩
abbrev cX10_reads : ByteArray := prog_12_method_11_code
def yX10_reads : MethodName := ⟨RX10, "reads", "()I"⟩
abbrev cX10_fault : ByteArray := prog_12_method_12_code
def yX10_fault : MethodName := ⟨RX10, "fault", "()I"⟩
abbrev cX10_lay : ByteArray := prog_12_method_13_code
def yX10_lay : MethodName := ⟨RX10, "lay", "()I"⟩
abbrev cX10_asItIs : ByteArray := prog_12_method_14_code
def yX10_asItIs : MethodName := ⟨RX10, "asItIs", "()V"⟩
abbrev cX10_woundPull : ByteArray := prog_12_method_15_code
def yX10_woundPull : MethodName := ⟨RX10, "woundPull", "(I)I"⟩
abbrev cX10_freePull : ByteArray := prog_12_method_16_code
def yX10_freePull : MethodName := ⟨RX10, "freePull", "(I)I"⟩
abbrev cX10_pull : ByteArray := prog_12_method_17_code
def yX10_pull : MethodName := ⟨RX10, "pull", "(IZ)I"⟩
abbrev cX10_windAt : ByteArray := prog_12_method_18_code
def yX10_windAt : MethodName := ⟨RX10, "windAt", "(II)I"⟩
abbrev cX10_within : ByteArray := prog_12_method_19_code
def yX10_within : MethodName := ⟨RX10, "within", "(III)I"⟩
abbrev cX10_tenth : ByteArray := prog_12_method_20_code
def yX10_tenth : MethodName := ⟨RX10, "tenth", "([II)V"⟩
abbrev cX10_runs : ByteArray := prog_12_method_21_code
def yX10_runs : MethodName := ⟨RX10, "runs", "(IIIZI)V"⟩
abbrev cX10_placeOf : ByteArray := prog_12_method_22_code
def yX10_placeOf : MethodName := ⟨RX10, "placeOf", "(II)I"⟩
abbrev cX10_areTurns : ByteArray := prog_12_method_23_code
def yX10_areTurns : MethodName := ⟨RX10, "areTurns", "(I)Z"⟩
abbrev cX10_isWind : ByteArray := prog_12_method_24_code
def yX10_isWind : MethodName := ⟨RX10, "isWind", "(I)Z"⟩
abbrev cX10_run : ByteArray := prog_12_method_25_code
def yX10_run : MethodName := ⟨RX10, "run", "(III)I"⟩
abbrev cX10_when : ByteArray := prog_12_method_26_code
def yX10_when : MethodName := ⟨RX10, "when", "(III)I"⟩
abbrev cX10_lost : ByteArray := prog_12_method_27_code
def yX10_lost : MethodName := ⟨RX10, "lost", "(II)J"⟩
abbrev cX10_snapOf : ByteArray := prog_12_method_28_code
def yX10_snapOf : MethodName := ⟨RX10, "snapOf", "(I)I"⟩
abbrev cX10_snap : ByteArray := prog_12_method_29_code
def yX10_snap : MethodName := ⟨RX10, "snap", "(I)I"⟩
abbrev cX10_wise : ByteArray := prog_12_method_30_code
def yX10_wise : MethodName := ⟨RX10, "wise", "()I"⟩
abbrev cX10_best : ByteArray := prog_12_method_31_code
def yX10_best : MethodName := ⟨RX10, "best", "(III)I"⟩
abbrev cX10_just : ByteArray := prog_12_method_32_code
def yX10_just : MethodName := ⟨RX10, "just", "(II)I"⟩
abbrev cX10_span : ByteArray := prog_12_method_33_code
def yX10_span : MethodName := ⟨RX10, "span", "(III)I"⟩
abbrev cX10_straight : ByteArray := prog_12_method_34_code
def yX10_straight : MethodName := ⟨RX10, "straight", "(II)I"⟩
abbrev cX10_two : ByteArray := prog_12_method_35_code
def yX10_two : MethodName := ⟨RX10, "two", "(I)I"⟩
abbrev cX10_reading : ByteArray := prog_12_method_36_code
def yX10_reading : MethodName := ⟨RX10, "reading", "(III)I"⟩
abbrev cX10_isNear : ByteArray := prog_12_method_37_code
def yX10_isNear : MethodName := ⟨RX10, "isNear", "(III)Z"⟩
abbrev cX10_fitsAll : ByteArray := prog_12_method_38_code
def yX10_fitsAll : MethodName := ⟨RX10, "fitsAll", "(I)Z"⟩
abbrev cX10_widens : ByteArray := prog_12_method_39_code
def yX10_widens : MethodName := ⟨RX10, "widens", "(II)V"⟩
abbrev cX10_fits : ByteArray := prog_12_method_40_code
def yX10_fits : MethodName := ⟨RX10, "fits", "(II)I"⟩
abbrev cX10_mark : ByteArray := prog_12_method_41_code
def yX10_mark : MethodName := ⟨RX10, "mark", "(II)I"⟩
abbrev cX10_runsByMarks : ByteArray := prog_12_method_42_code
def yX10_runsByMarks : MethodName := ⟨RX10, "runsByMarks", "(I)V"⟩
abbrev cX10_isByMarks : ByteArray := prog_12_method_43_code
def yX10_isByMarks : MethodName := ⟨RX10, "isByMarks", "(I)Z"⟩
abbrev cX10_told : ByteArray := prog_12_method_44_code
def yX10_told : MethodName := ⟨RX10, "told", "(II)I"⟩
abbrev cX10_forget : ByteArray := prog_12_method_45_code
def yX10_forget : MethodName := ⟨RX10, "forget", "()I"⟩
abbrev cX10_wind : ByteArray := prog_12_method_46_code
def yX10_wind : MethodName := ⟨RX10, "wind", "(I)I"⟩
abbrev cX10_go : ByteArray := prog_12_method_47_code
def yX10_go : MethodName := ⟨RX10, "go", "(II)I"⟩
abbrev cX10_weed : ByteArray := prog_12_method_48_code
def yX10_weed : MethodName := ⟨RX10, "weed", "()I"⟩
abbrev cX10_now : ByteArray := prog_12_method_49_code
def yX10_now : MethodName := ⟨RX10, "now", "(I)I"⟩
abbrev cX10_keep : ByteArray := prog_12_method_50_code
def yX10_keep : MethodName := ⟨RX10, "keep", "()I"⟩
abbrev cX10_back : ByteArray := prog_12_method_51_code
def yX10_back : MethodName := ⟨RX10, "back", "()I"⟩
abbrev cX10_count : ByteArray := prog_12_method_52_code
def yX10_count : MethodName := ⟨RX10, "count", "(I)I"⟩
def RJ9 : String := "java/lang/Math"
def TJ9 : u_T := fun k => match k with
  | _ => ("", "", "", false)
def tyJ9 : Nat → FieldType := fun k => match k with
  | _ => .int
abbrev wsJ90 : List Cond := u_ws RJ9 TJ9 0
theorem nmJ9 : ∀ a, a < 0 → ∀ b, b < 0 → a ≠ b → (TJ9 a).2.1 ≠ (TJ9 b).2.1 := by decide +kernel
theorem tyJ9_ok : ∀ k, k < 0 → parseFieldDescriptor (TJ9 k).2.2.1 = some (tyJ9 k) := by decide +kernel
abbrev cJ9_abs_0f7a4 : ByteArray := prog_13_method_59_code
def yJ9_abs_0f7a4 : MethodName := ⟨RJ9, "abs", "(I)I"⟩
abbrev cJ9_max_7cf53 : ByteArray := prog_13_method_65_code
def yJ9_max_7cf53 : MethodName := ⟨RJ9, "max", "(II)I"⟩
abbrev cJ9_min_7cf53 : ByteArray := prog_13_method_69_code
def yJ9_min_7cf53 : MethodName := ⟨RJ9, "min", "(II)I"⟩
def RJ10 : String := "java/lang/System"
def TJ10 : u_T := fun k => match k with
  | _ => ("", "", "", false)
def tyJ10 : Nat → FieldType := fun k => match k with
  | _ => .int
abbrev wsJ100 : List Cond := u_ws RJ10 TJ10 0
theorem nmJ10 : ∀ a, a < 0 → ∀ b, b < 0 → a ≠ b → (TJ10 a).2.1 ≠ (TJ10 b).2.1 := by decide +kernel
theorem tyJ10_ok : ∀ k, k < 0 → parseFieldDescriptor (TJ10 k).2.2.1 = some (tyJ10 k) := by decide +kernel
def RL : String := "BandBoatLaw"
abbrev cL_law : ByteArray := code
def yL_law : MethodName := ⟨RL, "law", "([I)Z"⟩
def wsX0_init : List Cond := .code yX0_init cX0_init 1 none :: ([.methodLink RX0 1 objectInit, .instanceMethod objectInit, .code objectInit ⟨#[0xb1]⟩ 1 none])
def wsX9_cut : List Cond := .code yX9_cut cX9_cut 2 (some .int) :: ([])
def wsX0_fit : List Cond := .code yX0_fit cX0_fit 2 none :: ([.fieldLink RX0 16 "BandBoat$Band" "force" "I", .fieldLink RX0 24 "BandBoat$Band" "stretch" "I", .fieldLink RX0 36 "BandBoat$Band" "knot" "I", .fieldLink RX0 42 "BandBoat$Band" "warmth" "I", .fieldLink RX0 48 "BandBoat$Band" "returned" "I", .fieldLink RX0 54 "BandBoat$Band" "fresh" "I", .fieldLink RX0 60 "BandBoat$Band" "spinBy" "I", .static yX9_cut, .initialized RX9, .code yX9_cut cX9_cut 2 (some .int)] ++ wsX60 ++ wsX00)
def wsX0_wound : List Cond := .code yX0_wound cX0_wound 3 (some .int) :: ([.fieldLink RX0 24 "BandBoat$Band" "stretch" "I", .fieldLink RX0 16 "BandBoat$Band" "force" "I", .fieldLink RX0 36 "BandBoat$Band" "knot" "I", .fieldLink RX0 42 "BandBoat$Band" "warmth" "I"] ++ wsX00)
def wsX0_loosed : List Cond := .code yX0_loosed cX0_loosed 2 (some .int) :: ([.fieldLink RX0 48 "BandBoat$Band" "returned" "I", .fieldLink RX0 54 "BandBoat$Band" "fresh" "I", .methodLink RX0 63 yX0_wound, .instanceMethod yX0_wound, .selects RX0 yX0_wound yX0_wound, .initialized RX0, .code yX0_wound cX0_wound 3 (some .int), .fieldLink RX0 24 "BandBoat$Band" "stretch" "I", .fieldLink RX0 16 "BandBoat$Band" "force" "I", .fieldLink RX0 36 "BandBoat$Band" "knot" "I", .fieldLink RX0 42 "BandBoat$Band" "warmth" "I"] ++ wsX00)
def wsX1_init : List Cond := .code yX1_init cX1_init 1 none :: ([.methodLink RX1 3 objectInit, .instanceMethod objectInit, .code objectInit ⟨#[0xb1]⟩ 1 none, .arrayClass .int, .fieldLink RX1 9 "BandBoat$Gauge" "turns" "[I", .fieldLink RX1 15 "BandBoat$Gauge" "ups" "[I", .fieldLink RX1 18 "BandBoat$Gauge" "downs" "[I"] ++ wsX10)
def wsX9_within : List Cond := .code yX9_within cX9_within 3 (some .boolean) :: ([])
def wsX1_add : List Cond := .code yX1_add cX1_add 4 (some .boolean) :: ([.fieldLink RX1 21 "BandBoat$Gauge" "readings" "I", .fieldLink RX1 9 "BandBoat$Gauge" "turns" "[I", .fieldLink RX1 15 "BandBoat$Gauge" "ups" "[I", .fieldLink RX1 18 "BandBoat$Gauge" "downs" "[I", .static yX9_within, .initialized RX9, .code yX9_within cX9_within 3 (some .boolean)] ++ wsX10)
def wsX1_agrees : List Cond := .code yX1_agrees cX1_agrees 7 (some .boolean) :: ([.fieldLink RX1 21 "BandBoat$Gauge" "readings" "I", .fieldLink RX1 9 "BandBoat$Gauge" "turns" "[I", .fieldLink RX1 18 "BandBoat$Gauge" "downs" "[I", .fieldLink RX1 15 "BandBoat$Gauge" "ups" "[I", .methodLink RX1 38 Lib.Math.abs.name, .static Lib.Math.abs.name, .initialized "java/lang/Math", .code Lib.Math.abs.name Lib.Math.abs.code 1 (some .int), .instanceMethod yX0_loosed, .initialized RX0, .selects RX0 yX0_loosed yX0_loosed, .code yX0_loosed cX0_loosed 2 (some .int), .fieldLink RX0 48 "BandBoat$Band" "returned" "I", .fieldLink RX0 54 "BandBoat$Band" "fresh" "I", .methodLink RX0 63 yX0_wound, .instanceMethod yX0_wound, .selects RX0 yX0_wound yX0_wound, .code yX0_wound cX0_wound 3 (some .int), .fieldLink RX0 24 "BandBoat$Band" "stretch" "I", .fieldLink RX0 16 "BandBoat$Band" "force" "I", .fieldLink RX0 36 "BandBoat$Band" "knot" "I", .fieldLink RX0 42 "BandBoat$Band" "warmth" "I"] ++ wsX10 ++ wsX00)
def wsX2_init : List Cond := .code yX2_init cX2_init 1 none :: ([.methodLink RX2 3 objectInit, .instanceMethod objectInit, .code objectInit ⟨#[0xb1]⟩ 1 none, .arrayClass .int, .fieldLink RX2 9 "BandBoat$Marks" "places" "[I", .fieldLink RX2 15 "BandBoat$Marks" "times" "[I"] ++ wsX20)
def wsX2_add : List Cond := .code yX2_add cX2_add 3 (some .boolean) :: ([.fieldLink RX2 18 "BandBoat$Marks" "marked" "I", .fieldLink RX2 9 "BandBoat$Marks" "places" "[I", .fieldLink RX2 15 "BandBoat$Marks" "times" "[I", .static yX9_within, .initialized RX9, .code yX9_within cX9_within 3 (some .boolean)] ++ wsX20)
def wsX2_latest : List Cond := .code yX2_latest cX2_latest 3 (some .int) :: ([.fieldLink RX2 18 "BandBoat$Marks" "marked" "I", .fieldLink RX2 15 "BandBoat$Marks" "times" "[I", .methodLink RX2 26 Lib.Math.max.name, .static Lib.Math.max.name, .initialized "java/lang/Math", .code Lib.Math.max.name Lib.Math.max.code 2 (some .int)] ++ wsX20)
def wsX8_reachedBy : List Cond := .code yX8_reachedBy cX8_reachedBy 4 (some .boolean) :: ([.fieldLink RX8 40 "BandBoat$Trial" "tenths" "I", .methodLink RX8 86 Lib.Math.min.name, .static Lib.Math.min.name, .initialized "java/lang/Math", .code Lib.Math.min.name Lib.Math.min.code 2 (some .int), .fieldLink RX8 25 "BandBoat$Trial" "path" "[I"] ++ wsX80)
def wsX2_agree : List Cond := .code yX2_agree cX2_agree 4 (some .boolean) :: ([.fieldLink RX2 18 "BandBoat$Marks" "marked" "I", .fieldLink RX2 15 "BandBoat$Marks" "times" "[I", .fieldLink RX2 9 "BandBoat$Marks" "places" "[I", .instanceMethod yX8_reachedBy, .initialized RX8, .selects RX8 yX8_reachedBy yX8_reachedBy, .code yX8_reachedBy cX8_reachedBy 4 (some .boolean), .fieldLink RX8 40 "BandBoat$Trial" "tenths" "I", .methodLink RX8 86 Lib.Math.min.name, .static Lib.Math.min.name, .initialized "java/lang/Math", .code Lib.Math.min.name Lib.Math.min.code 2 (some .int), .fieldLink RX8 25 "BandBoat$Trial" "path" "[I"] ++ wsX20 ++ wsX80)
def wsX3_init : List Cond := .code yX3_init cX3_init 2 none :: ([.methodLink RX3 1 objectInit, .instanceMethod objectInit, .code objectInit ⟨#[0xb1]⟩ 1 none, .arrayClass .int, .fieldLink RX3 7 "BandBoat$Memo" "answers" "[I"] ++ wsX30)
def wsX3_holds : List Cond := .code yX3_holds cX3_holds 3 (some .boolean) :: ([.fieldLink RX3 13 "BandBoat$Memo" "known" "Z", .fieldLink RX3 17 "BandBoat$Memo" "first" "I", .fieldLink RX3 21 "BandBoat$Memo" "second" "I"] ++ wsX30)
def wsX3_learn : List Cond := .code yX3_learn cX3_learn 4 none :: ([.fieldLink RX3 13 "BandBoat$Memo" "known" "Z", .fieldLink RX3 17 "BandBoat$Memo" "first" "I", .fieldLink RX3 21 "BandBoat$Memo" "second" "I", .fieldLink RX3 7 "BandBoat$Memo" "answers" "[I"] ++ wsX30)
def wsX3_drop : List Cond := .code yX3_drop cX3_drop 1 none :: ([.fieldLink RX3 13 "BandBoat$Memo" "known" "Z"] ++ wsX30)
def wsX3_answer : List Cond := .code yX3_answer cX3_answer 2 (some .int) :: ([.fieldLink RX3 7 "BandBoat$Memo" "answers" "[I"] ++ wsX30)
def wsX3_put : List Cond := .code yX3_put cX3_put 3 none :: ([.fieldLink RX3 7 "BandBoat$Memo" "answers" "[I"] ++ wsX30)
def wsX3_widen : List Cond := .code yX3_widen cX3_widen 4 none :: ([.methodLink RX3 24 yX3_answer, .instanceMethod yX3_answer, .selects RX3 yX3_answer yX3_answer, .initialized RX3, .code yX3_answer cX3_answer 2 (some .int), .fieldLink RX3 7 "BandBoat$Memo" "answers" "[I", .methodLink RX3 28 yX3_put, .instanceMethod yX3_put, .selects RX3 yX3_put yX3_put, .code yX3_put cX3_put 3 none] ++ wsX30)
def wsX4_init : List Cond := .code yX4_init cX4_init 1 none :: ([.methodLink RX4 3 objectInit, .instanceMethod objectInit, .code objectInit ⟨#[0xb1]⟩ 1 none])
def wsX4_rest : List Cond := .code yX4_rest cX4_rest 1 none :: ([.fieldLink RX4 9 "BandBoat$Motion" "parts" "I", .fieldLink RX4 15 "BandBoat$Motion" "pace" "I", .fieldLink RX4 18 "BandBoat$Motion" "place" "I", .fieldLink RX4 21 "BandBoat$Motion" "turn" "I", .fieldLink RX4 24 "BandBoat$Motion" "side" "I", .fieldLink RX4 27 "BandBoat$Motion" "tenth" "I", .fieldLink RX4 30 "BandBoat$Motion" "steady" "Z"] ++ wsX40)
def wsX4_copy : List Cond := .code yX4_copy cX4_copy 2 none :: ([.fieldLink RX4 9 "BandBoat$Motion" "parts" "I", .fieldLink RX4 15 "BandBoat$Motion" "pace" "I", .fieldLink RX4 18 "BandBoat$Motion" "place" "I", .fieldLink RX4 21 "BandBoat$Motion" "turn" "I", .fieldLink RX4 24 "BandBoat$Motion" "side" "I", .fieldLink RX4 27 "BandBoat$Motion" "tenth" "I", .fieldLink RX4 30 "BandBoat$Motion" "steady" "Z"] ++ wsX40)
def wsX4_isOver : List Cond := .code yX4_isOver cX4_isOver 1 (some .boolean) :: ([.fieldLink RX4 9 "BandBoat$Motion" "parts" "I", .fieldLink RX4 15 "BandBoat$Motion" "pace" "I"] ++ wsX40)
def wsX4_gustOf : List Cond := .code yX4_gustOf cX4_gustOf 5 (some .int) :: ([.constantLong RX4 91 (7919), .constantLong RX4 93 (6151), .fieldLink RX4 27 "BandBoat$Motion" "tenth" "I", .constantLong RX4 95 (65521)] ++ wsX40)
def wsX9_limit : List Cond := .code yX9_limit cX9_limit 3 (some .int) :: ([])
def wsX4_drift : List Cond := .code yX4_drift cX4_drift 3 none :: ([.fieldLink RX4 18 "BandBoat$Motion" "place" "I", .fieldLink RX4 15 "BandBoat$Motion" "pace" "I", .fieldLink RX4 21 "BandBoat$Motion" "turn" "I", .fieldLink RX4 24 "BandBoat$Motion" "side" "I", .constant RX4 89 (-9999999), .constant RX4 90 (9999999), .fieldLink RX4 27 "BandBoat$Motion" "tenth" "I", .static yX9_limit, .initialized RX9, .code yX9_limit cX9_limit 3 (some .int)] ++ wsX40 ++ wsX60)
def wsX4_step_r1 : List Cond := [Cond.fieldLink RX4 9 "BandBoat$Motion" "parts" "I", Cond.methodLink RX4 47 Lib.Math.min.name, Cond.static Lib.Math.min.name, Cond.initialized "java/lang/Math", Cond.code Lib.Math.min.name Lib.Math.min.code 2 (some .int), Cond.fieldLink RX4 15 "BandBoat$Motion" "pace" "I", Cond.methodLink RX4 57 Lib.Math.max.name, Cond.static Lib.Math.max.name, Cond.code Lib.Math.max.name Lib.Math.max.code 2 (some .int), Cond.fieldLink RX4 30 "BandBoat$Motion" "steady" "Z", Cond.instanceMethod yX0_loosed, Cond.initialized RX0, Cond.selects RX0 yX0_loosed yX0_loosed, Cond.code yX0_loosed cX0_loosed 2 (some .int), Cond.fieldLink RX0 48 "BandBoat$Band" "returned" "I", Cond.fieldLink RX0 54 "BandBoat$Band" "fresh" "I", Cond.methodLink RX0 63 yX0_wound, Cond.instanceMethod yX0_wound, Cond.selects RX0 yX0_wound yX0_wound, Cond.code yX0_wound cX0_wound 3 (some .int), Cond.fieldLink RX0 24 "BandBoat$Band" "stretch" "I", Cond.fieldLink RX0 16 "BandBoat$Band" "force" "I", Cond.fieldLink RX0 36 "BandBoat$Band" "knot" "I", Cond.fieldLink RX0 42 "BandBoat$Band" "warmth" "I"]
def wsX4_step_r2 : List Cond := [Cond.static yX9_cut, Cond.initialized RX9, Cond.code yX9_cut cX9_cut 2 (some .int), Cond.methodLink RX4 69 yX4_gustOf, Cond.instanceMethod yX4_gustOf, Cond.selects RX4 yX4_gustOf yX4_gustOf, Cond.initialized RX4, Cond.code yX4_gustOf cX4_gustOf 5 (some .int), Cond.constantLong RX4 91 (7919), Cond.constantLong RX4 93 (6151), Cond.fieldLink RX4 27 "BandBoat$Motion" "tenth" "I", Cond.constantLong RX4 95 (65521), Cond.static yX9_limit, Cond.code yX9_limit cX9_limit 3 (some .int), Cond.methodLink RX4 79 yX4_drift, Cond.instanceMethod yX4_drift, Cond.selects RX4 yX4_drift yX4_drift, Cond.code yX4_drift cX4_drift 3 none, Cond.fieldLink RX4 18 "BandBoat$Motion" "place" "I", Cond.fieldLink RX4 21 "BandBoat$Motion" "turn" "I", Cond.fieldLink RX4 24 "BandBoat$Motion" "side" "I", Cond.constant RX4 89 (-9999999), Cond.constant RX4 90 (9999999)]
def wsX4_step : List Cond := .code yX4_step cX4_step 8 none :: ((wsX4_step_r1 ++ wsX4_step_r2) ++ wsX40 ++ wsX00 ++ wsX60)
def wsX6_init : List Cond := .code yX6_init cX6_init 1 none :: ([.methodLink RX6 1 objectInit, .instanceMethod objectInit, .code objectInit ⟨#[0xb1]⟩ 1 none])
def wsX5_init : List Cond := .code yX5_init cX5_init 1 none :: ([.methodLink RX5 3 objectInit, .instanceMethod objectInit, .code objectInit ⟨#[0xb1]⟩ 1 none, .classLink RX5 9 RX6, .instantiable RX6 17, .initialized RX6, .fieldLink RX5 12 "BandBoat$Reader" "rig" "LBandBoat$Rig;", .arrayClass .int, .fieldLink RX5 18 "BandBoat$Reader" "stuffNumbers" "[I", .fieldLink RX5 22 "BandBoat$Reader" "numbers" "[I", .instanceMethod yX6_init, .code yX6_init cX6_init 1 none, .methodLink RX6 1 objectInit] ++ wsX60 ++ wsX50)
def wsX6_clear : List Cond := .code yX6_clear cX6_clear 1 none :: ([.fieldLink RX6 7 "BandBoat$Rig" "stuffs" "I", .fieldLink RX6 13 "BandBoat$Rig" "banded" "Z", .fieldLink RX6 17 "BandBoat$Rig" "pulls" "I", .fieldLink RX6 20 "BandBoat$Rig" "loses" "I", .fieldLink RX6 23 "BandBoat$Rig" "knots" "I", .fieldLink RX6 26 "BandBoat$Rig" "snaps" "I", .fieldLink RX6 29 "BandBoat$Rig" "strands" "I", .fieldLink RX6 32 "BandBoat$Rig" "length" "I", .fieldLink RX6 35 "BandBoat$Rig" "pitch" "I", .fieldLink RX6 38 "BandBoat$Rig" "width" "I", .fieldLink RX6 41 "BandBoat$Rig" "weight" "I", .fieldLink RX6 44 "BandBoat$Rig" "drag" "I", .fieldLink RX6 47 "BandBoat$Rig" "veer" "I", .fieldLink RX6 50 "BandBoat$Rig" "rudder" "I", .fieldLink RX6 53 "BandBoat$Rig" "cold" "I", .fieldLink RX6 56 "BandBoat$Rig" "days" "I", .fieldLink RX6 59 "BandBoat$Rig" "gust" "I"] ++ wsX60)
def wsX7_at : List Cond := .code yX7_at cX7_at 2 (some .int) :: ([.fieldLink RX7 15 "BandBoat$Script" "length" "I", .fieldLink RX7 9 "BandBoat$Script" "bytes" "[B"] ++ wsX70)
def wsX5_numbersOf : List Cond := .code yX5_numbersOf cX5_numbersOf 1 (some .int) :: ([])
def wsX5_numberEnd : List Cond := .code yX5_numberEnd cX5_numberEnd 7 (some .int) :: ([.fieldLink RX5 22 "BandBoat$Reader" "numbers" "[I", .instanceMethod yX7_at, .initialized RX7, .selects RX7 yX7_at yX7_at, .code yX7_at cX7_at 2 (some .int), .fieldLink RX7 15 "BandBoat$Script" "length" "I", .fieldLink RX7 9 "BandBoat$Script" "bytes" "[B", .static yX9_within, .initialized RX9, .code yX9_within cX9_within 3 (some .boolean)] ++ wsX50 ++ wsX70)
def wsX5_takeStuff : List Cond := .code yX5_takeStuff cX5_takeStuff 2 (some .boolean) :: ([.fieldLink RX5 12 "BandBoat$Reader" "rig" "LBandBoat$Rig;", .fieldLink RX5 22 "BandBoat$Reader" "numbers" "[I", .fieldLink RX5 18 "BandBoat$Reader" "stuffNumbers" "[I", .methodLink RX5 85 arraycopyName, .native arraycopyName, .static arraycopyName, .initialized "java/lang/System", .static yX9_within, .initialized RX9, .code yX9_within cX9_within 3 (some .boolean)] ++ wsX50 ++ wsX60)
def wsX5_takeBand : List Cond := .code yX5_takeBand cX5_takeBand 2 (some .boolean) :: ([.fieldLink RX5 22 "BandBoat$Reader" "numbers" "[I", .fieldLink RX5 12 "BandBoat$Reader" "rig" "LBandBoat$Rig;", .fieldLink RX5 18 "BandBoat$Reader" "stuffNumbers" "[I", .static yX9_within, .initialized RX9, .code yX9_within cX9_within 3 (some .boolean)] ++ wsX50 ++ wsX60)
def wsX5_takeBlade : List Cond := .code yX5_takeBlade cX5_takeBlade 1 (some .boolean) :: ([.fieldLink RX5 12 "BandBoat$Reader" "rig" "LBandBoat$Rig;", .fieldLink RX5 22 "BandBoat$Reader" "numbers" "[I", .static yX9_within, .initialized RX9, .code yX9_within cX9_within 3 (some .boolean)] ++ wsX50 ++ wsX60)
def wsX5_takeHull : List Cond := .code yX5_takeHull cX5_takeHull 1 (some .boolean) :: ([.fieldLink RX5 12 "BandBoat$Reader" "rig" "LBandBoat$Rig;", .fieldLink RX5 22 "BandBoat$Reader" "numbers" "[I", .static yX9_within, .initialized RX9, .code yX9_within cX9_within 3 (some .boolean)] ++ wsX50 ++ wsX60)
def wsX5_take_r1 : List Cond := [Cond.fieldLink RX5 22 "BandBoat$Reader" "numbers" "[I", Cond.fieldLink RX5 12 "BandBoat$Reader" "rig" "LBandBoat$Rig;", Cond.methodLink RX5 57 yX5_takeStuff, Cond.instanceMethod yX5_takeStuff, Cond.selects RX5 yX5_takeStuff yX5_takeStuff, Cond.initialized RX5, Cond.code yX5_takeStuff cX5_takeStuff 2 (some .boolean), Cond.fieldLink RX5 18 "BandBoat$Reader" "stuffNumbers" "[I", Cond.methodLink RX5 85 arraycopyName, Cond.native arraycopyName, Cond.static arraycopyName, Cond.initialized "java/lang/System", Cond.static yX9_within, Cond.initialized RX9, Cond.code yX9_within cX9_within 3 (some .boolean), Cond.methodLink RX5 61 yX5_takeBand, Cond.instanceMethod yX5_takeBand, Cond.selects RX5 yX5_takeBand yX5_takeBand, Cond.code yX5_takeBand cX5_takeBand 2 (some .boolean), Cond.methodLink RX5 64 yX5_takeBlade, Cond.instanceMethod yX5_takeBlade, Cond.selects RX5 yX5_takeBlade yX5_takeBlade, Cond.code yX5_takeBlade cX5_takeBlade 1 (some .boolean), Cond.methodLink RX5 67 yX5_takeHull]
def wsX5_take_r2 : List Cond := [Cond.instanceMethod yX5_takeHull, Cond.selects RX5 yX5_takeHull yX5_takeHull, Cond.code yX5_takeHull cX5_takeHull 1 (some .boolean)]
def wsX5_take : List Cond := .code yX5_take cX5_take 3 (some .boolean) :: ((wsX5_take_r1 ++ wsX5_take_r2) ++ wsX50 ++ wsX60)
def wsX5_itemEnd_r1 : List Cond := [Cond.instanceMethod yX7_at, Cond.initialized RX7, Cond.selects RX7 yX7_at yX7_at, Cond.code yX7_at cX7_at 2 (some .int), Cond.fieldLink RX7 15 "BandBoat$Script" "length" "I", Cond.fieldLink RX7 9 "BandBoat$Script" "bytes" "[B", Cond.methodLink RX5 42 yX5_numbersOf, Cond.static yX5_numbersOf, Cond.initialized RX5, Cond.code yX5_numbersOf cX5_numbersOf 1 (some .int), Cond.methodLink RX5 45 yX5_numberEnd, Cond.instanceMethod yX5_numberEnd, Cond.selects RX5 yX5_numberEnd yX5_numberEnd, Cond.code yX5_numberEnd cX5_numberEnd 7 (some .int), Cond.fieldLink RX5 22 "BandBoat$Reader" "numbers" "[I", Cond.static yX9_within, Cond.initialized RX9, Cond.code yX9_within cX9_within 3 (some .boolean), Cond.methodLink RX5 49 yX5_take, Cond.instanceMethod yX5_take, Cond.selects RX5 yX5_take yX5_take, Cond.code yX5_take cX5_take 3 (some .boolean), Cond.fieldLink RX5 12 "BandBoat$Reader" "rig" "LBandBoat$Rig;", Cond.methodLink RX5 57 yX5_takeStuff]
def wsX5_itemEnd_r2 : List Cond := [Cond.instanceMethod yX5_takeStuff, Cond.selects RX5 yX5_takeStuff yX5_takeStuff, Cond.code yX5_takeStuff cX5_takeStuff 2 (some .boolean), Cond.fieldLink RX5 18 "BandBoat$Reader" "stuffNumbers" "[I", Cond.methodLink RX5 85 arraycopyName, Cond.native arraycopyName, Cond.static arraycopyName, Cond.initialized "java/lang/System", Cond.methodLink RX5 61 yX5_takeBand, Cond.instanceMethod yX5_takeBand, Cond.selects RX5 yX5_takeBand yX5_takeBand, Cond.code yX5_takeBand cX5_takeBand 2 (some .boolean), Cond.methodLink RX5 64 yX5_takeBlade, Cond.instanceMethod yX5_takeBlade, Cond.selects RX5 yX5_takeBlade yX5_takeBlade, Cond.code yX5_takeBlade cX5_takeBlade 1 (some .boolean), Cond.methodLink RX5 67 yX5_takeHull, Cond.instanceMethod yX5_takeHull, Cond.selects RX5 yX5_takeHull yX5_takeHull, Cond.code yX5_takeHull cX5_takeHull 1 (some .boolean)]
def wsX5_itemEnd : List Cond := .code yX5_itemEnd cX5_itemEnd 7 (some .int) :: ((wsX5_itemEnd_r1 ++ wsX5_itemEnd_r2) ++ wsX70 ++ wsX50 ++ wsX60)
def wsX5_readAll_r1 : List Cond := [Cond.fieldLink RX5 12 "BandBoat$Reader" "rig" "LBandBoat$Rig;", Cond.instanceMethod yX6_clear, Cond.initialized RX6, Cond.selects RX6 yX6_clear yX6_clear, Cond.code yX6_clear cX6_clear 1 none, Cond.fieldLink RX6 7 "BandBoat$Rig" "stuffs" "I", Cond.fieldLink RX6 13 "BandBoat$Rig" "banded" "Z", Cond.fieldLink RX6 17 "BandBoat$Rig" "pulls" "I", Cond.fieldLink RX6 20 "BandBoat$Rig" "loses" "I", Cond.fieldLink RX6 23 "BandBoat$Rig" "knots" "I", Cond.fieldLink RX6 26 "BandBoat$Rig" "snaps" "I", Cond.fieldLink RX6 29 "BandBoat$Rig" "strands" "I", Cond.fieldLink RX6 32 "BandBoat$Rig" "length" "I", Cond.fieldLink RX6 35 "BandBoat$Rig" "pitch" "I", Cond.fieldLink RX6 38 "BandBoat$Rig" "width" "I", Cond.fieldLink RX6 41 "BandBoat$Rig" "weight" "I", Cond.fieldLink RX6 44 "BandBoat$Rig" "drag" "I", Cond.fieldLink RX6 47 "BandBoat$Rig" "veer" "I", Cond.fieldLink RX6 50 "BandBoat$Rig" "rudder" "I", Cond.fieldLink RX6 53 "BandBoat$Rig" "cold" "I", Cond.fieldLink RX6 56 "BandBoat$Rig" "days" "I", Cond.fieldLink RX6 59 "BandBoat$Rig" "gust" "I", Cond.methodLink RX5 34 yX5_itemEnd, Cond.instanceMethod yX5_itemEnd]
def wsX5_readAll_r2 : List Cond := [Cond.selects RX5 yX5_itemEnd yX5_itemEnd, Cond.initialized RX5, Cond.code yX5_itemEnd cX5_itemEnd 7 (some .int), Cond.instanceMethod yX7_at, Cond.initialized RX7, Cond.selects RX7 yX7_at yX7_at, Cond.code yX7_at cX7_at 2 (some .int), Cond.fieldLink RX7 15 "BandBoat$Script" "length" "I", Cond.fieldLink RX7 9 "BandBoat$Script" "bytes" "[B", Cond.methodLink RX5 42 yX5_numbersOf, Cond.static yX5_numbersOf, Cond.code yX5_numbersOf cX5_numbersOf 1 (some .int), Cond.methodLink RX5 45 yX5_numberEnd, Cond.instanceMethod yX5_numberEnd, Cond.selects RX5 yX5_numberEnd yX5_numberEnd, Cond.code yX5_numberEnd cX5_numberEnd 7 (some .int), Cond.fieldLink RX5 22 "BandBoat$Reader" "numbers" "[I", Cond.static yX9_within, Cond.initialized RX9, Cond.code yX9_within cX9_within 3 (some .boolean), Cond.methodLink RX5 49 yX5_take, Cond.instanceMethod yX5_take, Cond.selects RX5 yX5_take yX5_take, Cond.code yX5_take cX5_take 3 (some .boolean)]
def wsX5_readAll_r3 : List Cond := [Cond.methodLink RX5 57 yX5_takeStuff, Cond.instanceMethod yX5_takeStuff, Cond.selects RX5 yX5_takeStuff yX5_takeStuff, Cond.code yX5_takeStuff cX5_takeStuff 2 (some .boolean), Cond.fieldLink RX5 18 "BandBoat$Reader" "stuffNumbers" "[I", Cond.methodLink RX5 85 arraycopyName, Cond.native arraycopyName, Cond.static arraycopyName, Cond.initialized "java/lang/System", Cond.methodLink RX5 61 yX5_takeBand, Cond.instanceMethod yX5_takeBand, Cond.selects RX5 yX5_takeBand yX5_takeBand, Cond.code yX5_takeBand cX5_takeBand 2 (some .boolean), Cond.methodLink RX5 64 yX5_takeBlade, Cond.instanceMethod yX5_takeBlade, Cond.selects RX5 yX5_takeBlade yX5_takeBlade, Cond.code yX5_takeBlade cX5_takeBlade 1 (some .boolean), Cond.methodLink RX5 67 yX5_takeHull, Cond.instanceMethod yX5_takeHull, Cond.selects RX5 yX5_takeHull yX5_takeHull, Cond.code yX5_takeHull cX5_takeHull 1 (some .boolean)]
def wsX5_readAll : List Cond := .code yX5_readAll cX5_readAll 5 (some .int) :: ((wsX5_readAll_r1 ++ (wsX5_readAll_r2 ++ wsX5_readAll_r3)) ++ wsX50 ++ wsX70 ++ wsX60)
def wsX6_layFirst : List Cond := .code yX6_layFirst cX6_layFirst 1 none :: ([.fieldLink RX6 7 "BandBoat$Rig" "stuffs" "I", .fieldLink RX6 13 "BandBoat$Rig" "banded" "Z", .methodLink RX6 62 yX6_clear, .instanceMethod yX6_clear, .selects RX6 yX6_clear yX6_clear, .initialized RX6, .code yX6_clear cX6_clear 1 none, .fieldLink RX6 17 "BandBoat$Rig" "pulls" "I", .fieldLink RX6 20 "BandBoat$Rig" "loses" "I", .fieldLink RX6 23 "BandBoat$Rig" "knots" "I", .fieldLink RX6 26 "BandBoat$Rig" "snaps" "I", .fieldLink RX6 29 "BandBoat$Rig" "strands" "I", .fieldLink RX6 32 "BandBoat$Rig" "length" "I", .fieldLink RX6 35 "BandBoat$Rig" "pitch" "I", .fieldLink RX6 38 "BandBoat$Rig" "width" "I", .fieldLink RX6 41 "BandBoat$Rig" "weight" "I", .fieldLink RX6 44 "BandBoat$Rig" "drag" "I", .fieldLink RX6 47 "BandBoat$Rig" "veer" "I", .fieldLink RX6 50 "BandBoat$Rig" "rudder" "I", .fieldLink RX6 53 "BandBoat$Rig" "cold" "I", .fieldLink RX6 56 "BandBoat$Rig" "days" "I", .fieldLink RX6 59 "BandBoat$Rig" "gust" "I"] ++ wsX60)
def wsX6_copy : List Cond := .code yX6_copy cX6_copy 2 none :: ([.fieldLink RX6 7 "BandBoat$Rig" "stuffs" "I", .fieldLink RX6 13 "BandBoat$Rig" "banded" "Z", .fieldLink RX6 17 "BandBoat$Rig" "pulls" "I", .fieldLink RX6 20 "BandBoat$Rig" "loses" "I", .fieldLink RX6 23 "BandBoat$Rig" "knots" "I", .fieldLink RX6 26 "BandBoat$Rig" "snaps" "I", .fieldLink RX6 29 "BandBoat$Rig" "strands" "I", .fieldLink RX6 32 "BandBoat$Rig" "length" "I", .fieldLink RX6 35 "BandBoat$Rig" "pitch" "I", .fieldLink RX6 38 "BandBoat$Rig" "width" "I", .fieldLink RX6 41 "BandBoat$Rig" "weight" "I", .fieldLink RX6 44 "BandBoat$Rig" "drag" "I", .fieldLink RX6 47 "BandBoat$Rig" "veer" "I", .fieldLink RX6 50 "BandBoat$Rig" "rudder" "I", .fieldLink RX6 53 "BandBoat$Rig" "cold" "I", .fieldLink RX6 56 "BandBoat$Rig" "days" "I", .fieldLink RX6 59 "BandBoat$Rig" "gust" "I"] ++ wsX60)
def wsX7_init : List Cond := .code yX7_init cX7_init 1 none :: ([.methodLink RX7 3 objectInit, .instanceMethod objectInit, .code objectInit ⟨#[0xb1]⟩ 1 none, .arrayClass .byte, .fieldLink RX7 9 "BandBoat$Script" "bytes" "[B"] ++ wsX70)
def wsX7_append : List Cond := .code yX7_append cX7_append 5 (some .boolean) :: ([.fieldLink RX7 9 "BandBoat$Script" "bytes" "[B", .fieldLink RX7 15 "BandBoat$Script" "length" "I"] ++ wsX70)
def wsX8_init : List Cond := .code yX8_init cX8_init 1 none :: ([.methodLink RX8 3 objectInit, .instanceMethod objectInit, .code objectInit ⟨#[0xb1]⟩ 1 none, .classLink RX8 9 RX4, .instantiable RX4 7, .initialized RX4, .fieldLink RX8 12 "BandBoat$Trial" "motion" "LBandBoat$Motion;", .classLink RX8 18 RX0, .instantiable RX0 7, .initialized RX0, .fieldLink RX8 21 "BandBoat$Trial" "band" "LBandBoat$Band;", .arrayClass .int, .fieldLink RX8 25 "BandBoat$Trial" "path" "[I", .instanceMethod yX4_init, .code yX4_init cX4_init 1 none, .methodLink RX4 3 objectInit, .instanceMethod yX0_init, .code yX0_init cX0_init 1 none, .methodLink RX0 1 objectInit] ++ wsX40 ++ wsX80 ++ wsX00)
def wsX8_note : List Cond := .code yX8_note cX8_note 2 none :: ([.fieldLink RX8 40 "BandBoat$Trial" "tenths" "I", .fieldLink RX8 43 "BandBoat$Trial" "topPace" "I", .fieldLink RX8 12 "BandBoat$Trial" "motion" "LBandBoat$Motion;", .methodLink RX8 77 Lib.Math.max.name, .static Lib.Math.max.name, .initialized "java/lang/Math", .code Lib.Math.max.name Lib.Math.max.code 2 (some .int), .fieldLink RX8 25 "BandBoat$Trial" "path" "[I", .fieldLink RX8 46 "BandBoat$Trial" "emptyAt" "I"] ++ wsX80 ++ wsX40)
def wsX8_make_r1 : List Cond := [Cond.fieldLink RX8 21 "BandBoat$Trial" "band" "LBandBoat$Band;", Cond.fieldLink RX8 12 "BandBoat$Trial" "motion" "LBandBoat$Motion;", Cond.fieldLink RX8 40 "BandBoat$Trial" "tenths" "I", Cond.fieldLink RX8 43 "BandBoat$Trial" "topPace" "I", Cond.fieldLink RX8 46 "BandBoat$Trial" "emptyAt" "I", Cond.instanceMethod yX0_fit, Cond.initialized RX0, Cond.selects RX0 yX0_fit yX0_fit, Cond.code yX0_fit cX0_fit 2 none, Cond.fieldLink RX0 16 "BandBoat$Band" "force" "I", Cond.fieldLink RX0 24 "BandBoat$Band" "stretch" "I", Cond.fieldLink RX0 36 "BandBoat$Band" "knot" "I", Cond.fieldLink RX0 42 "BandBoat$Band" "warmth" "I", Cond.fieldLink RX0 48 "BandBoat$Band" "returned" "I", Cond.fieldLink RX0 54 "BandBoat$Band" "fresh" "I", Cond.fieldLink RX0 60 "BandBoat$Band" "spinBy" "I", Cond.static yX9_cut, Cond.initialized RX9, Cond.code yX9_cut cX9_cut 2 (some .int), Cond.instanceMethod yX4_rest, Cond.initialized RX4, Cond.selects RX4 yX4_rest yX4_rest, Cond.code yX4_rest cX4_rest 1 none, Cond.fieldLink RX4 9 "BandBoat$Motion" "parts" "I"]
def wsX8_make_r2 : List Cond := [Cond.fieldLink RX4 15 "BandBoat$Motion" "pace" "I", Cond.fieldLink RX4 18 "BandBoat$Motion" "place" "I", Cond.fieldLink RX4 21 "BandBoat$Motion" "turn" "I", Cond.fieldLink RX4 24 "BandBoat$Motion" "side" "I", Cond.fieldLink RX4 27 "BandBoat$Motion" "tenth" "I", Cond.fieldLink RX4 30 "BandBoat$Motion" "steady" "Z", Cond.instanceMethod yX4_isOver, Cond.selects RX4 yX4_isOver yX4_isOver, Cond.code yX4_isOver cX4_isOver 1 (some .boolean), Cond.instanceMethod yX4_drift, Cond.selects RX4 yX4_drift yX4_drift, Cond.code yX4_drift cX4_drift 3 none, Cond.constant RX4 89 (-9999999), Cond.constant RX4 90 (9999999), Cond.static yX9_limit, Cond.code yX9_limit cX9_limit 3 (some .int), Cond.instanceMethod yX4_step, Cond.selects RX4 yX4_step yX4_step, Cond.code yX4_step cX4_step 8 none, Cond.methodLink RX4 47 Lib.Math.min.name, Cond.static Lib.Math.min.name, Cond.initialized "java/lang/Math", Cond.code Lib.Math.min.name Lib.Math.min.code 2 (some .int), Cond.methodLink RX4 57 Lib.Math.max.name]
def wsX8_make_r3 : List Cond := [Cond.static Lib.Math.max.name, Cond.code Lib.Math.max.name Lib.Math.max.code 2 (some .int), Cond.instanceMethod yX0_loosed, Cond.selects RX0 yX0_loosed yX0_loosed, Cond.code yX0_loosed cX0_loosed 2 (some .int), Cond.methodLink RX0 63 yX0_wound, Cond.instanceMethod yX0_wound, Cond.selects RX0 yX0_wound yX0_wound, Cond.code yX0_wound cX0_wound 3 (some .int), Cond.methodLink RX4 69 yX4_gustOf, Cond.instanceMethod yX4_gustOf, Cond.selects RX4 yX4_gustOf yX4_gustOf, Cond.code yX4_gustOf cX4_gustOf 5 (some .int), Cond.constantLong RX4 91 (7919), Cond.constantLong RX4 93 (6151), Cond.constantLong RX4 95 (65521), Cond.methodLink RX4 79 yX4_drift, Cond.methodLink RX8 70 yX8_note, Cond.instanceMethod yX8_note, Cond.selects RX8 yX8_note yX8_note, Cond.initialized RX8, Cond.code yX8_note cX8_note 2 none, Cond.methodLink RX8 77 Lib.Math.max.name, Cond.fieldLink RX8 25 "BandBoat$Trial" "path" "[I"]
def wsX8_make : List Cond := .code yX8_make cX8_make 8 none :: ((wsX8_make_r1 ++ (wsX8_make_r2 ++ wsX8_make_r3)) ++ wsX80 ++ wsX40 ++ wsX60 ++ wsX00)
def wsX8_firstAt : List Cond := .code yX8_firstAt cX8_firstAt 3 (some .int) :: ([.fieldLink RX8 40 "BandBoat$Trial" "tenths" "I", .fieldLink RX8 25 "BandBoat$Trial" "path" "[I"] ++ wsX80)
def wsX9_init_r1 : List Cond := [Cond.methodLink RX9 1 objectInit, Cond.instanceMethod objectInit, Cond.code objectInit ⟨#[0xb1]⟩ 1 none, Cond.classLink RX9 7 RX7, Cond.instantiable RX7 2, Cond.initialized RX7, Cond.fieldLink RX9 10 "BandBoat" "script" "LBandBoat$Script;", Cond.classLink RX9 16 RX5, Cond.instantiable RX5 3, Cond.initialized RX5, Cond.fieldLink RX9 19 "BandBoat" "reader" "LBandBoat$Reader;", Cond.classLink RX9 23 RX6, Cond.instantiable RX6 17, Cond.initialized RX6, Cond.fieldLink RX9 26 "BandBoat" "laid" "LBandBoat$Rig;", Cond.fieldLink RX9 30 "BandBoat" "tried" "LBandBoat$Rig;", Cond.classLink RX9 33 RX0, Cond.instantiable RX0 7, Cond.initialized RX0, Cond.fieldLink RX9 36 "BandBoat" "band" "LBandBoat$Band;", Cond.classLink RX9 40 RX8, Cond.instantiable RX8 6, Cond.initialized RX8, Cond.fieldLink RX9 43 "BandBoat" "trial" "LBandBoat$Trial;"]
def wsX9_init_r2 : List Cond := [Cond.classLink RX9 47 RX1, Cond.instantiable RX1 4, Cond.initialized RX1, Cond.fieldLink RX9 50 "BandBoat" "gauge" "LBandBoat$Gauge;", Cond.classLink RX9 54 RX2, Cond.instantiable RX2 3, Cond.initialized RX2, Cond.fieldLink RX9 57 "BandBoat" "marks" "LBandBoat$Marks;", Cond.classLink RX9 61 RX4, Cond.instantiable RX4 7, Cond.initialized RX4, Cond.fieldLink RX9 64 "BandBoat" "boat" "LBandBoat$Motion;", Cond.fieldLink RX9 68 "BandBoat" "kept" "[LBandBoat$Motion;", Cond.arrayClass .int, Cond.fieldLink RX9 72 "BandBoat" "calmPlaces" "[I", Cond.classLink RX9 76 RX3, Cond.instantiable RX3 4, Cond.initialized RX3, Cond.fieldLink RX9 81 "BandBoat" "bestMemo" "LBandBoat$Memo;", Cond.fieldLink RX9 85 "BandBoat" "spanMemo" "LBandBoat$Memo;", Cond.fieldLink RX9 88 "BandBoat" "straightMemo" "LBandBoat$Memo;", Cond.fieldLink RX9 91 "BandBoat" "fitsMemo" "LBandBoat$Memo;", Cond.fieldLink RX9 94 "BandBoat" "toldMemo" "LBandBoat$Memo;", Cond.instanceMethod yX7_init]
def wsX9_init_r3 : List Cond := [Cond.code yX7_init cX7_init 1 none, Cond.methodLink RX7 3 objectInit, Cond.arrayClass .byte, Cond.fieldLink RX7 9 "BandBoat$Script" "bytes" "[B", Cond.instanceMethod yX5_init, Cond.code yX5_init cX5_init 1 none, Cond.methodLink RX5 3 objectInit, Cond.classLink RX5 9 RX6, Cond.fieldLink RX5 12 "BandBoat$Reader" "rig" "LBandBoat$Rig;", Cond.fieldLink RX5 18 "BandBoat$Reader" "stuffNumbers" "[I", Cond.fieldLink RX5 22 "BandBoat$Reader" "numbers" "[I", Cond.instanceMethod yX6_init, Cond.code yX6_init cX6_init 1 none, Cond.methodLink RX6 1 objectInit, Cond.instanceMethod yX0_init, Cond.code yX0_init cX0_init 1 none, Cond.methodLink RX0 1 objectInit, Cond.instanceMethod yX8_init, Cond.code yX8_init cX8_init 1 none, Cond.methodLink RX8 3 objectInit, Cond.classLink RX8 9 RX4, Cond.fieldLink RX8 12 "BandBoat$Trial" "motion" "LBandBoat$Motion;", Cond.classLink RX8 18 RX0, Cond.fieldLink RX8 21 "BandBoat$Trial" "band" "LBandBoat$Band;"]
def wsX9_init_r4 : List Cond := [Cond.fieldLink RX8 25 "BandBoat$Trial" "path" "[I", Cond.instanceMethod yX4_init, Cond.code yX4_init cX4_init 1 none, Cond.methodLink RX4 3 objectInit, Cond.instanceMethod yX1_init, Cond.code yX1_init cX1_init 1 none, Cond.methodLink RX1 3 objectInit, Cond.fieldLink RX1 9 "BandBoat$Gauge" "turns" "[I", Cond.fieldLink RX1 15 "BandBoat$Gauge" "ups" "[I", Cond.fieldLink RX1 18 "BandBoat$Gauge" "downs" "[I", Cond.instanceMethod yX2_init, Cond.code yX2_init cX2_init 1 none, Cond.methodLink RX2 3 objectInit, Cond.fieldLink RX2 9 "BandBoat$Marks" "places" "[I", Cond.fieldLink RX2 15 "BandBoat$Marks" "times" "[I", Cond.instanceMethod yX3_init, Cond.code yX3_init cX3_init 2 none, Cond.methodLink RX3 1 objectInit, Cond.fieldLink RX3 7 "BandBoat$Memo" "answers" "[I", Cond.instanceMethod yX6_layFirst, Cond.selects RX6 yX6_layFirst yX6_layFirst, Cond.code yX6_layFirst cX6_layFirst 1 none, Cond.fieldLink RX6 7 "BandBoat$Rig" "stuffs" "I", Cond.fieldLink RX6 13 "BandBoat$Rig" "banded" "Z"]
def wsX9_init_r5 : List Cond := [Cond.methodLink RX6 62 yX6_clear, Cond.instanceMethod yX6_clear, Cond.selects RX6 yX6_clear yX6_clear, Cond.code yX6_clear cX6_clear 1 none, Cond.fieldLink RX6 17 "BandBoat$Rig" "pulls" "I", Cond.fieldLink RX6 20 "BandBoat$Rig" "loses" "I", Cond.fieldLink RX6 23 "BandBoat$Rig" "knots" "I", Cond.fieldLink RX6 26 "BandBoat$Rig" "snaps" "I", Cond.fieldLink RX6 29 "BandBoat$Rig" "strands" "I", Cond.fieldLink RX6 32 "BandBoat$Rig" "length" "I", Cond.fieldLink RX6 35 "BandBoat$Rig" "pitch" "I", Cond.fieldLink RX6 38 "BandBoat$Rig" "width" "I", Cond.fieldLink RX6 41 "BandBoat$Rig" "weight" "I", Cond.fieldLink RX6 44 "BandBoat$Rig" "drag" "I", Cond.fieldLink RX6 47 "BandBoat$Rig" "veer" "I", Cond.fieldLink RX6 50 "BandBoat$Rig" "rudder" "I", Cond.fieldLink RX6 53 "BandBoat$Rig" "cold" "I", Cond.fieldLink RX6 56 "BandBoat$Rig" "days" "I", Cond.fieldLink RX6 59 "BandBoat$Rig" "gust" "I", Cond.instanceMethod yX0_fit, Cond.selects RX0 yX0_fit yX0_fit, Cond.code yX0_fit cX0_fit 2 none, Cond.fieldLink RX0 16 "BandBoat$Band" "force" "I", Cond.fieldLink RX0 24 "BandBoat$Band" "stretch" "I"]
def wsX9_init_r6 : List Cond := [Cond.fieldLink RX0 36 "BandBoat$Band" "knot" "I", Cond.fieldLink RX0 42 "BandBoat$Band" "warmth" "I", Cond.fieldLink RX0 48 "BandBoat$Band" "returned" "I", Cond.fieldLink RX0 54 "BandBoat$Band" "fresh" "I", Cond.fieldLink RX0 60 "BandBoat$Band" "spinBy" "I", Cond.static yX9_cut, Cond.initialized RX9, Cond.code yX9_cut cX9_cut 2 (some .int)]
def wsX9_init : List Cond := .code yX9_init cX9_init 2 none :: ((wsX9_init_r1 ++ (wsX9_init_r2 ++ (wsX9_init_r3 ++ (wsX9_init_r4 ++ (wsX9_init_r5 ++ wsX9_init_r6))))) ++ wsX70 ++ wsX90 ++ wsX50 ++ wsX60 ++ wsX00 ++ wsX80 ++ wsX10 ++ wsX20 ++ wsX40 ++ wsX30)
def wsX9_write : List Cond := .code yX9_write cX9_write 4 (some .int) :: ([.fieldLink RX9 10 "BandBoat" "script" "LBandBoat$Script;", .methodLink RX9 104 yX9_within, .static yX9_within, .initialized RX9, .code yX9_within cX9_within 3 (some .boolean), .instanceMethod yX7_append, .initialized RX7, .selects RX7 yX7_append yX7_append, .code yX7_append cX7_append 5 (some .boolean), .fieldLink RX7 9 "BandBoat$Script" "bytes" "[B", .fieldLink RX7 15 "BandBoat$Script" "length" "I"] ++ wsX90 ++ wsX70)
def wsX9_wipe : List Cond := .code yX9_wipe cX9_wipe 2 (some .int) :: ([.fieldLink RX9 10 "BandBoat" "script" "LBandBoat$Script;"] ++ wsX90 ++ wsX70)
def wsX9_fault_r1 : List Cond := [Cond.fieldLink RX9 19 "BandBoat" "reader" "LBandBoat$Reader;", Cond.fieldLink RX9 10 "BandBoat" "script" "LBandBoat$Script;", Cond.instanceMethod yX5_readAll, Cond.initialized RX5, Cond.selects RX5 yX5_readAll yX5_readAll, Cond.code yX5_readAll cX5_readAll 5 (some .int), Cond.fieldLink RX5 12 "BandBoat$Reader" "rig" "LBandBoat$Rig;", Cond.instanceMethod yX6_clear, Cond.initialized RX6, Cond.selects RX6 yX6_clear yX6_clear, Cond.code yX6_clear cX6_clear 1 none, Cond.fieldLink RX6 7 "BandBoat$Rig" "stuffs" "I", Cond.fieldLink RX6 13 "BandBoat$Rig" "banded" "Z", Cond.fieldLink RX6 17 "BandBoat$Rig" "pulls" "I", Cond.fieldLink RX6 20 "BandBoat$Rig" "loses" "I", Cond.fieldLink RX6 23 "BandBoat$Rig" "knots" "I", Cond.fieldLink RX6 26 "BandBoat$Rig" "snaps" "I", Cond.fieldLink RX6 29 "BandBoat$Rig" "strands" "I", Cond.fieldLink RX6 32 "BandBoat$Rig" "length" "I", Cond.fieldLink RX6 35 "BandBoat$Rig" "pitch" "I", Cond.fieldLink RX6 38 "BandBoat$Rig" "width" "I", Cond.fieldLink RX6 41 "BandBoat$Rig" "weight" "I", Cond.fieldLink RX6 44 "BandBoat$Rig" "drag" "I", Cond.fieldLink RX6 47 "BandBoat$Rig" "veer" "I"]
def wsX9_fault_r2 : List Cond := [Cond.fieldLink RX6 50 "BandBoat$Rig" "rudder" "I", Cond.fieldLink RX6 53 "BandBoat$Rig" "cold" "I", Cond.fieldLink RX6 56 "BandBoat$Rig" "days" "I", Cond.fieldLink RX6 59 "BandBoat$Rig" "gust" "I", Cond.methodLink RX5 34 yX5_itemEnd, Cond.instanceMethod yX5_itemEnd, Cond.selects RX5 yX5_itemEnd yX5_itemEnd, Cond.code yX5_itemEnd cX5_itemEnd 7 (some .int), Cond.instanceMethod yX7_at, Cond.initialized RX7, Cond.selects RX7 yX7_at yX7_at, Cond.code yX7_at cX7_at 2 (some .int), Cond.fieldLink RX7 15 "BandBoat$Script" "length" "I", Cond.fieldLink RX7 9 "BandBoat$Script" "bytes" "[B", Cond.methodLink RX5 42 yX5_numbersOf, Cond.static yX5_numbersOf, Cond.code yX5_numbersOf cX5_numbersOf 1 (some .int), Cond.methodLink RX5 45 yX5_numberEnd, Cond.instanceMethod yX5_numberEnd, Cond.selects RX5 yX5_numberEnd yX5_numberEnd, Cond.code yX5_numberEnd cX5_numberEnd 7 (some .int), Cond.fieldLink RX5 22 "BandBoat$Reader" "numbers" "[I", Cond.static yX9_within, Cond.initialized RX9]
def wsX9_fault_r3 : List Cond := [Cond.code yX9_within cX9_within 3 (some .boolean), Cond.methodLink RX5 49 yX5_take, Cond.instanceMethod yX5_take, Cond.selects RX5 yX5_take yX5_take, Cond.code yX5_take cX5_take 3 (some .boolean), Cond.methodLink RX5 57 yX5_takeStuff, Cond.instanceMethod yX5_takeStuff, Cond.selects RX5 yX5_takeStuff yX5_takeStuff, Cond.code yX5_takeStuff cX5_takeStuff 2 (some .boolean), Cond.fieldLink RX5 18 "BandBoat$Reader" "stuffNumbers" "[I", Cond.methodLink RX5 85 arraycopyName, Cond.native arraycopyName, Cond.static arraycopyName, Cond.initialized "java/lang/System", Cond.methodLink RX5 61 yX5_takeBand, Cond.instanceMethod yX5_takeBand, Cond.selects RX5 yX5_takeBand yX5_takeBand, Cond.code yX5_takeBand cX5_takeBand 2 (some .boolean), Cond.methodLink RX5 64 yX5_takeBlade, Cond.instanceMethod yX5_takeBlade, Cond.selects RX5 yX5_takeBlade yX5_takeBlade, Cond.code yX5_takeBlade cX5_takeBlade 1 (some .boolean), Cond.methodLink RX5 67 yX5_takeHull, Cond.instanceMethod yX5_takeHull]
def wsX9_fault_r4 : List Cond := [Cond.selects RX5 yX5_takeHull yX5_takeHull, Cond.code yX5_takeHull cX5_takeHull 1 (some .boolean)]
def wsX9_fault : List Cond := .code yX9_fault cX9_fault 1 (some .int) :: ((wsX9_fault_r1 ++ (wsX9_fault_r2 ++ (wsX9_fault_r3 ++ wsX9_fault_r4))) ++ wsX90 ++ wsX50 ++ wsX70 ++ wsX60)
def wsX9_dropMemos : List Cond := .code yX9_dropMemos cX9_dropMemos 1 none :: ([.fieldLink RX9 254 "BandBoat" "calmPlacesKnown" "Z", .fieldLink RX9 81 "BandBoat" "bestMemo" "LBandBoat$Memo;", .fieldLink RX9 85 "BandBoat" "spanMemo" "LBandBoat$Memo;", .fieldLink RX9 88 "BandBoat" "straightMemo" "LBandBoat$Memo;", .fieldLink RX9 91 "BandBoat" "fitsMemo" "LBandBoat$Memo;", .fieldLink RX9 94 "BandBoat" "toldMemo" "LBandBoat$Memo;", .instanceMethod yX3_drop, .initialized RX3, .selects RX3 yX3_drop yX3_drop, .code yX3_drop cX3_drop 1 none, .fieldLink RX3 13 "BandBoat$Memo" "known" "Z"] ++ wsX90 ++ wsX30)
def wsX9_lay_r1 : List Cond := [Cond.fieldLink RX9 19 "BandBoat" "reader" "LBandBoat$Reader;", Cond.fieldLink RX9 10 "BandBoat" "script" "LBandBoat$Script;", Cond.fieldLink RX9 26 "BandBoat" "laid" "LBandBoat$Rig;", Cond.fieldLink RX9 36 "BandBoat" "band" "LBandBoat$Band;", Cond.fieldLink RX9 64 "BandBoat" "boat" "LBandBoat$Motion;", Cond.fieldLink RX9 50 "BandBoat" "gauge" "LBandBoat$Gauge;", Cond.fieldLink RX9 57 "BandBoat" "marks" "LBandBoat$Marks;", Cond.fieldLink RX9 139 "BandBoat" "keptCount" "I", Cond.instanceMethod yX5_readAll, Cond.initialized RX5, Cond.selects RX5 yX5_readAll yX5_readAll, Cond.code yX5_readAll cX5_readAll 5 (some .int), Cond.fieldLink RX5 12 "BandBoat$Reader" "rig" "LBandBoat$Rig;", Cond.instanceMethod yX6_clear, Cond.initialized RX6, Cond.selects RX6 yX6_clear yX6_clear, Cond.code yX6_clear cX6_clear 1 none, Cond.fieldLink RX6 7 "BandBoat$Rig" "stuffs" "I", Cond.fieldLink RX6 13 "BandBoat$Rig" "banded" "Z", Cond.fieldLink RX6 17 "BandBoat$Rig" "pulls" "I", Cond.fieldLink RX6 20 "BandBoat$Rig" "loses" "I", Cond.fieldLink RX6 23 "BandBoat$Rig" "knots" "I", Cond.fieldLink RX6 26 "BandBoat$Rig" "snaps" "I", Cond.fieldLink RX6 29 "BandBoat$Rig" "strands" "I"]
def wsX9_lay_r2 : List Cond := [Cond.fieldLink RX6 32 "BandBoat$Rig" "length" "I", Cond.fieldLink RX6 35 "BandBoat$Rig" "pitch" "I", Cond.fieldLink RX6 38 "BandBoat$Rig" "width" "I", Cond.fieldLink RX6 41 "BandBoat$Rig" "weight" "I", Cond.fieldLink RX6 44 "BandBoat$Rig" "drag" "I", Cond.fieldLink RX6 47 "BandBoat$Rig" "veer" "I", Cond.fieldLink RX6 50 "BandBoat$Rig" "rudder" "I", Cond.fieldLink RX6 53 "BandBoat$Rig" "cold" "I", Cond.fieldLink RX6 56 "BandBoat$Rig" "days" "I", Cond.fieldLink RX6 59 "BandBoat$Rig" "gust" "I", Cond.methodLink RX5 34 yX5_itemEnd, Cond.instanceMethod yX5_itemEnd, Cond.selects RX5 yX5_itemEnd yX5_itemEnd, Cond.code yX5_itemEnd cX5_itemEnd 7 (some .int), Cond.instanceMethod yX7_at, Cond.initialized RX7, Cond.selects RX7 yX7_at yX7_at, Cond.code yX7_at cX7_at 2 (some .int), Cond.fieldLink RX7 15 "BandBoat$Script" "length" "I", Cond.fieldLink RX7 9 "BandBoat$Script" "bytes" "[B", Cond.methodLink RX5 42 yX5_numbersOf, Cond.static yX5_numbersOf, Cond.code yX5_numbersOf cX5_numbersOf 1 (some .int), Cond.methodLink RX5 45 yX5_numberEnd]
def wsX9_lay_r3 : List Cond := [Cond.instanceMethod yX5_numberEnd, Cond.selects RX5 yX5_numberEnd yX5_numberEnd, Cond.code yX5_numberEnd cX5_numberEnd 7 (some .int), Cond.fieldLink RX5 22 "BandBoat$Reader" "numbers" "[I", Cond.static yX9_within, Cond.initialized RX9, Cond.code yX9_within cX9_within 3 (some .boolean), Cond.methodLink RX5 49 yX5_take, Cond.instanceMethod yX5_take, Cond.selects RX5 yX5_take yX5_take, Cond.code yX5_take cX5_take 3 (some .boolean), Cond.methodLink RX5 57 yX5_takeStuff, Cond.instanceMethod yX5_takeStuff, Cond.selects RX5 yX5_takeStuff yX5_takeStuff, Cond.code yX5_takeStuff cX5_takeStuff 2 (some .boolean), Cond.fieldLink RX5 18 "BandBoat$Reader" "stuffNumbers" "[I", Cond.methodLink RX5 85 arraycopyName, Cond.native arraycopyName, Cond.static arraycopyName, Cond.initialized "java/lang/System", Cond.methodLink RX5 61 yX5_takeBand, Cond.instanceMethod yX5_takeBand, Cond.selects RX5 yX5_takeBand yX5_takeBand, Cond.code yX5_takeBand cX5_takeBand 2 (some .boolean)]
def wsX9_lay_r4 : List Cond := [Cond.methodLink RX5 64 yX5_takeBlade, Cond.instanceMethod yX5_takeBlade, Cond.selects RX5 yX5_takeBlade yX5_takeBlade, Cond.code yX5_takeBlade cX5_takeBlade 1 (some .boolean), Cond.methodLink RX5 67 yX5_takeHull, Cond.instanceMethod yX5_takeHull, Cond.selects RX5 yX5_takeHull yX5_takeHull, Cond.code yX5_takeHull cX5_takeHull 1 (some .boolean), Cond.instanceMethod yX6_copy, Cond.selects RX6 yX6_copy yX6_copy, Cond.code yX6_copy cX6_copy 2 none, Cond.instanceMethod yX0_fit, Cond.initialized RX0, Cond.selects RX0 yX0_fit yX0_fit, Cond.code yX0_fit cX0_fit 2 none, Cond.fieldLink RX0 16 "BandBoat$Band" "force" "I", Cond.fieldLink RX0 24 "BandBoat$Band" "stretch" "I", Cond.fieldLink RX0 36 "BandBoat$Band" "knot" "I", Cond.fieldLink RX0 42 "BandBoat$Band" "warmth" "I", Cond.fieldLink RX0 48 "BandBoat$Band" "returned" "I", Cond.fieldLink RX0 54 "BandBoat$Band" "fresh" "I", Cond.fieldLink RX0 60 "BandBoat$Band" "spinBy" "I", Cond.static yX9_cut, Cond.code yX9_cut cX9_cut 2 (some .int)]
def wsX9_lay_r5 : List Cond := [Cond.instanceMethod yX4_rest, Cond.initialized RX4, Cond.selects RX4 yX4_rest yX4_rest, Cond.code yX4_rest cX4_rest 1 none, Cond.fieldLink RX4 9 "BandBoat$Motion" "parts" "I", Cond.fieldLink RX4 15 "BandBoat$Motion" "pace" "I", Cond.fieldLink RX4 18 "BandBoat$Motion" "place" "I", Cond.fieldLink RX4 21 "BandBoat$Motion" "turn" "I", Cond.fieldLink RX4 24 "BandBoat$Motion" "side" "I", Cond.fieldLink RX4 27 "BandBoat$Motion" "tenth" "I", Cond.fieldLink RX4 30 "BandBoat$Motion" "steady" "Z", Cond.methodLink RX9 142 yX9_dropMemos, Cond.instanceMethod yX9_dropMemos, Cond.selects RX9 yX9_dropMemos yX9_dropMemos, Cond.code yX9_dropMemos cX9_dropMemos 1 none, Cond.fieldLink RX9 254 "BandBoat" "calmPlacesKnown" "Z", Cond.fieldLink RX9 81 "BandBoat" "bestMemo" "LBandBoat$Memo;", Cond.fieldLink RX9 85 "BandBoat" "spanMemo" "LBandBoat$Memo;", Cond.fieldLink RX9 88 "BandBoat" "straightMemo" "LBandBoat$Memo;", Cond.fieldLink RX9 91 "BandBoat" "fitsMemo" "LBandBoat$Memo;", Cond.fieldLink RX9 94 "BandBoat" "toldMemo" "LBandBoat$Memo;", Cond.instanceMethod yX3_drop, Cond.initialized RX3, Cond.selects RX3 yX3_drop yX3_drop]
def wsX9_lay_r6 : List Cond := [Cond.code yX3_drop cX3_drop 1 none, Cond.fieldLink RX3 13 "BandBoat$Memo" "known" "Z"]
def wsX9_lay : List Cond := .code yX9_lay cX9_lay 1 (some .int) :: ((wsX9_lay_r1 ++ (wsX9_lay_r2 ++ (wsX9_lay_r3 ++ (wsX9_lay_r4 ++ (wsX9_lay_r5 ++ wsX9_lay_r6))))) ++ wsX90 ++ wsX50 ++ wsX60 ++ wsX10 ++ wsX20 ++ wsX70 ++ wsX00 ++ wsX40 ++ wsX30)
def wsX9_pull : List Cond := .code yX9_pull cX9_pull 3 (some .int) :: ([.constant RX9 148 (40000), .fieldLink RX9 36 "BandBoat" "band" "LBandBoat$Band;", .methodLink RX9 104 yX9_within, .static yX9_within, .initialized RX9, .code yX9_within cX9_within 3 (some .boolean), .instanceMethod yX0_loosed, .initialized RX0, .selects RX0 yX0_loosed yX0_loosed, .code yX0_loosed cX0_loosed 2 (some .int), .fieldLink RX0 48 "BandBoat$Band" "returned" "I", .fieldLink RX0 54 "BandBoat$Band" "fresh" "I", .methodLink RX0 63 yX0_wound, .instanceMethod yX0_wound, .selects RX0 yX0_wound yX0_wound, .code yX0_wound cX0_wound 3 (some .int), .fieldLink RX0 24 "BandBoat$Band" "stretch" "I", .fieldLink RX0 16 "BandBoat$Band" "force" "I", .fieldLink RX0 36 "BandBoat$Band" "knot" "I", .fieldLink RX0 42 "BandBoat$Band" "warmth" "I"] ++ wsX90 ++ wsX00)
def wsX9_isTurns : List Cond := .code yX9_isTurns cX9_isTurns 1 (some .boolean) :: ([.methodLink RX9 104 yX9_within, .static yX9_within, .initialized RX9, .code yX9_within cX9_within 3 (some .boolean)])
def wsX9_run_r1 : List Cond := [Cond.fieldLink RX9 43 "BandBoat" "trial" "LBandBoat$Trial;", Cond.fieldLink RX9 26 "BandBoat" "laid" "LBandBoat$Rig;", Cond.constant RX9 179 (10000000), Cond.methodLink RX9 156 yX9_isTurns, Cond.static yX9_isTurns, Cond.initialized RX9, Cond.code yX9_isTurns cX9_isTurns 1 (some .boolean), Cond.methodLink RX9 104 yX9_within, Cond.static yX9_within, Cond.code yX9_within cX9_within 3 (some .boolean), Cond.instanceMethod yX8_make, Cond.initialized RX8, Cond.selects RX8 yX8_make yX8_make, Cond.code yX8_make cX8_make 8 none, Cond.fieldLink RX8 21 "BandBoat$Trial" "band" "LBandBoat$Band;", Cond.fieldLink RX8 12 "BandBoat$Trial" "motion" "LBandBoat$Motion;", Cond.fieldLink RX8 40 "BandBoat$Trial" "tenths" "I", Cond.fieldLink RX8 43 "BandBoat$Trial" "topPace" "I", Cond.fieldLink RX8 46 "BandBoat$Trial" "emptyAt" "I", Cond.instanceMethod yX0_fit, Cond.initialized RX0, Cond.selects RX0 yX0_fit yX0_fit, Cond.code yX0_fit cX0_fit 2 none, Cond.fieldLink RX0 16 "BandBoat$Band" "force" "I"]
def wsX9_run_r2 : List Cond := [Cond.fieldLink RX0 24 "BandBoat$Band" "stretch" "I", Cond.fieldLink RX0 36 "BandBoat$Band" "knot" "I", Cond.fieldLink RX0 42 "BandBoat$Band" "warmth" "I", Cond.fieldLink RX0 48 "BandBoat$Band" "returned" "I", Cond.fieldLink RX0 54 "BandBoat$Band" "fresh" "I", Cond.fieldLink RX0 60 "BandBoat$Band" "spinBy" "I", Cond.static yX9_cut, Cond.code yX9_cut cX9_cut 2 (some .int), Cond.instanceMethod yX4_rest, Cond.initialized RX4, Cond.selects RX4 yX4_rest yX4_rest, Cond.code yX4_rest cX4_rest 1 none, Cond.fieldLink RX4 9 "BandBoat$Motion" "parts" "I", Cond.fieldLink RX4 15 "BandBoat$Motion" "pace" "I", Cond.fieldLink RX4 18 "BandBoat$Motion" "place" "I", Cond.fieldLink RX4 21 "BandBoat$Motion" "turn" "I", Cond.fieldLink RX4 24 "BandBoat$Motion" "side" "I", Cond.fieldLink RX4 27 "BandBoat$Motion" "tenth" "I", Cond.fieldLink RX4 30 "BandBoat$Motion" "steady" "Z", Cond.instanceMethod yX4_isOver, Cond.selects RX4 yX4_isOver yX4_isOver, Cond.code yX4_isOver cX4_isOver 1 (some .boolean), Cond.instanceMethod yX4_drift, Cond.selects RX4 yX4_drift yX4_drift]
def wsX9_run_r3 : List Cond := [Cond.code yX4_drift cX4_drift 3 none, Cond.constant RX4 89 (-9999999), Cond.constant RX4 90 (9999999), Cond.static yX9_limit, Cond.code yX9_limit cX9_limit 3 (some .int), Cond.instanceMethod yX4_step, Cond.selects RX4 yX4_step yX4_step, Cond.code yX4_step cX4_step 8 none, Cond.methodLink RX4 47 Lib.Math.min.name, Cond.static Lib.Math.min.name, Cond.initialized "java/lang/Math", Cond.code Lib.Math.min.name Lib.Math.min.code 2 (some .int), Cond.methodLink RX4 57 Lib.Math.max.name, Cond.static Lib.Math.max.name, Cond.code Lib.Math.max.name Lib.Math.max.code 2 (some .int), Cond.instanceMethod yX0_loosed, Cond.selects RX0 yX0_loosed yX0_loosed, Cond.code yX0_loosed cX0_loosed 2 (some .int), Cond.methodLink RX0 63 yX0_wound, Cond.instanceMethod yX0_wound, Cond.selects RX0 yX0_wound yX0_wound, Cond.code yX0_wound cX0_wound 3 (some .int), Cond.methodLink RX4 69 yX4_gustOf, Cond.instanceMethod yX4_gustOf]
def wsX9_run_r4 : List Cond := [Cond.selects RX4 yX4_gustOf yX4_gustOf, Cond.code yX4_gustOf cX4_gustOf 5 (some .int), Cond.constantLong RX4 91 (7919), Cond.constantLong RX4 93 (6151), Cond.constantLong RX4 95 (65521), Cond.methodLink RX4 79 yX4_drift, Cond.methodLink RX8 70 yX8_note, Cond.instanceMethod yX8_note, Cond.selects RX8 yX8_note yX8_note, Cond.code yX8_note cX8_note 2 none, Cond.methodLink RX8 77 Lib.Math.max.name, Cond.fieldLink RX8 25 "BandBoat$Trial" "path" "[I"]
def wsX9_run : List Cond := .code yX9_run cX9_run 4 (some .int) :: ((wsX9_run_r1 ++ (wsX9_run_r2 ++ (wsX9_run_r3 ++ wsX9_run_r4))) ++ wsX90 ++ wsX80 ++ wsX40 ++ wsX60 ++ wsX00)
def wsX9_when_r1 : List Cond := [Cond.constant RX9 183 (99999), Cond.fieldLink RX9 43 "BandBoat" "trial" "LBandBoat$Trial;", Cond.fieldLink RX9 26 "BandBoat" "laid" "LBandBoat$Rig;", Cond.methodLink RX9 156 yX9_isTurns, Cond.static yX9_isTurns, Cond.initialized RX9, Cond.code yX9_isTurns cX9_isTurns 1 (some .boolean), Cond.methodLink RX9 104 yX9_within, Cond.static yX9_within, Cond.code yX9_within cX9_within 3 (some .boolean), Cond.instanceMethod yX8_make, Cond.initialized RX8, Cond.selects RX8 yX8_make yX8_make, Cond.code yX8_make cX8_make 8 none, Cond.fieldLink RX8 21 "BandBoat$Trial" "band" "LBandBoat$Band;", Cond.fieldLink RX8 12 "BandBoat$Trial" "motion" "LBandBoat$Motion;", Cond.fieldLink RX8 40 "BandBoat$Trial" "tenths" "I", Cond.fieldLink RX8 43 "BandBoat$Trial" "topPace" "I", Cond.fieldLink RX8 46 "BandBoat$Trial" "emptyAt" "I", Cond.instanceMethod yX0_fit, Cond.initialized RX0, Cond.selects RX0 yX0_fit yX0_fit, Cond.code yX0_fit cX0_fit 2 none, Cond.fieldLink RX0 16 "BandBoat$Band" "force" "I"]
def wsX9_when_r2 : List Cond := [Cond.fieldLink RX0 24 "BandBoat$Band" "stretch" "I", Cond.fieldLink RX0 36 "BandBoat$Band" "knot" "I", Cond.fieldLink RX0 42 "BandBoat$Band" "warmth" "I", Cond.fieldLink RX0 48 "BandBoat$Band" "returned" "I", Cond.fieldLink RX0 54 "BandBoat$Band" "fresh" "I", Cond.fieldLink RX0 60 "BandBoat$Band" "spinBy" "I", Cond.static yX9_cut, Cond.code yX9_cut cX9_cut 2 (some .int), Cond.instanceMethod yX4_rest, Cond.initialized RX4, Cond.selects RX4 yX4_rest yX4_rest, Cond.code yX4_rest cX4_rest 1 none, Cond.fieldLink RX4 9 "BandBoat$Motion" "parts" "I", Cond.fieldLink RX4 15 "BandBoat$Motion" "pace" "I", Cond.fieldLink RX4 18 "BandBoat$Motion" "place" "I", Cond.fieldLink RX4 21 "BandBoat$Motion" "turn" "I", Cond.fieldLink RX4 24 "BandBoat$Motion" "side" "I", Cond.fieldLink RX4 27 "BandBoat$Motion" "tenth" "I", Cond.fieldLink RX4 30 "BandBoat$Motion" "steady" "Z", Cond.instanceMethod yX4_isOver, Cond.selects RX4 yX4_isOver yX4_isOver, Cond.code yX4_isOver cX4_isOver 1 (some .boolean), Cond.instanceMethod yX4_drift, Cond.selects RX4 yX4_drift yX4_drift]
def wsX9_when_r3 : List Cond := [Cond.code yX4_drift cX4_drift 3 none, Cond.constant RX4 89 (-9999999), Cond.constant RX4 90 (9999999), Cond.static yX9_limit, Cond.code yX9_limit cX9_limit 3 (some .int), Cond.instanceMethod yX4_step, Cond.selects RX4 yX4_step yX4_step, Cond.code yX4_step cX4_step 8 none, Cond.methodLink RX4 47 Lib.Math.min.name, Cond.static Lib.Math.min.name, Cond.initialized "java/lang/Math", Cond.code Lib.Math.min.name Lib.Math.min.code 2 (some .int), Cond.methodLink RX4 57 Lib.Math.max.name, Cond.static Lib.Math.max.name, Cond.code Lib.Math.max.name Lib.Math.max.code 2 (some .int), Cond.instanceMethod yX0_loosed, Cond.selects RX0 yX0_loosed yX0_loosed, Cond.code yX0_loosed cX0_loosed 2 (some .int), Cond.methodLink RX0 63 yX0_wound, Cond.instanceMethod yX0_wound, Cond.selects RX0 yX0_wound yX0_wound, Cond.code yX0_wound cX0_wound 3 (some .int), Cond.methodLink RX4 69 yX4_gustOf, Cond.instanceMethod yX4_gustOf]
def wsX9_when_r4 : List Cond := [Cond.selects RX4 yX4_gustOf yX4_gustOf, Cond.code yX4_gustOf cX4_gustOf 5 (some .int), Cond.constantLong RX4 91 (7919), Cond.constantLong RX4 93 (6151), Cond.constantLong RX4 95 (65521), Cond.methodLink RX4 79 yX4_drift, Cond.methodLink RX8 70 yX8_note, Cond.instanceMethod yX8_note, Cond.selects RX8 yX8_note yX8_note, Cond.code yX8_note cX8_note 2 none, Cond.methodLink RX8 77 Lib.Math.max.name, Cond.fieldLink RX8 25 "BandBoat$Trial" "path" "[I", Cond.instanceMethod yX8_firstAt, Cond.selects RX8 yX8_firstAt yX8_firstAt, Cond.code yX8_firstAt cX8_firstAt 3 (some .int)]
def wsX9_when : List Cond := .code yX9_when cX9_when 4 (some .int) :: ((wsX9_when_r1 ++ (wsX9_when_r2 ++ (wsX9_when_r3 ++ wsX9_when_r4))) ++ wsX90 ++ wsX80 ++ wsX40 ++ wsX60 ++ wsX00)
def wsX9_lost : List Cond := .code yX9_lost cX9_lost 8 (some .long) :: ([.constantLong RX9 187 (-1), .fieldLink RX9 36 "BandBoat" "band" "LBandBoat$Band;", .methodLink RX9 156 yX9_isTurns, .static yX9_isTurns, .initialized RX9, .code yX9_isTurns cX9_isTurns 1 (some .boolean), .methodLink RX9 104 yX9_within, .static yX9_within, .code yX9_within cX9_within 3 (some .boolean), .instanceMethod yX0_wound, .initialized RX0, .selects RX0 yX0_wound yX0_wound, .code yX0_wound cX0_wound 3 (some .int), .fieldLink RX0 24 "BandBoat$Band" "stretch" "I", .fieldLink RX0 16 "BandBoat$Band" "force" "I", .fieldLink RX0 36 "BandBoat$Band" "knot" "I", .fieldLink RX0 42 "BandBoat$Band" "warmth" "I", .instanceMethod yX0_loosed, .selects RX0 yX0_loosed yX0_loosed, .code yX0_loosed cX0_loosed 2 (some .int), .fieldLink RX0 48 "BandBoat$Band" "returned" "I", .fieldLink RX0 54 "BandBoat$Band" "fresh" "I", .methodLink RX0 63 yX0_wound] ++ wsX90 ++ wsX00)
def wsX9_snapOf : List Cond := .code yX9_snapOf cX9_snapOf 4 (some .int) :: ([.fieldLink RX9 26 "BandBoat" "laid" "LBandBoat$Rig;", .methodLink RX9 271 Lib.Math.min.name, .static Lib.Math.min.name, .initialized "java/lang/Math", .code Lib.Math.min.name Lib.Math.min.code 2 (some .int), .methodLink RX9 264 yX9_cut, .static yX9_cut, .initialized RX9, .code yX9_cut cX9_cut 2 (some .int)] ++ wsX90 ++ wsX60)
def wsX9_snap : List Cond := .code yX9_snap cX9_snap 2 (some .int) :: ([.methodLink RX9 156 yX9_isTurns, .static yX9_isTurns, .initialized RX9, .code yX9_isTurns cX9_isTurns 1 (some .boolean), .methodLink RX9 104 yX9_within, .static yX9_within, .code yX9_within cX9_within 3 (some .boolean), .methodLink RX9 189 yX9_snapOf, .instanceMethod yX9_snapOf, .selects RX9 yX9_snapOf yX9_snapOf, .code yX9_snapOf cX9_snapOf 4 (some .int), .fieldLink RX9 26 "BandBoat" "laid" "LBandBoat$Rig;", .methodLink RX9 271 Lib.Math.min.name, .static Lib.Math.min.name, .initialized "java/lang/Math", .code Lib.Math.min.name Lib.Math.min.code 2 (some .int), .methodLink RX9 264 yX9_cut, .static yX9_cut, .code yX9_cut cX9_cut 2 (some .int)] ++ wsX90 ++ wsX60)
def wsX9_learnCalmPlaces_r1 : List Cond := [Cond.fieldLink RX9 254 "BandBoat" "calmPlacesKnown" "Z", Cond.fieldLink RX9 72 "BandBoat" "calmPlaces" "[I", Cond.fieldLink RX9 43 "BandBoat" "trial" "LBandBoat$Trial;", Cond.fieldLink RX9 26 "BandBoat" "laid" "LBandBoat$Rig;", Cond.instanceMethod yX8_make, Cond.initialized RX8, Cond.selects RX8 yX8_make yX8_make, Cond.code yX8_make cX8_make 8 none, Cond.fieldLink RX8 21 "BandBoat$Trial" "band" "LBandBoat$Band;", Cond.fieldLink RX8 12 "BandBoat$Trial" "motion" "LBandBoat$Motion;", Cond.fieldLink RX8 40 "BandBoat$Trial" "tenths" "I", Cond.fieldLink RX8 43 "BandBoat$Trial" "topPace" "I", Cond.fieldLink RX8 46 "BandBoat$Trial" "emptyAt" "I", Cond.instanceMethod yX0_fit, Cond.initialized RX0, Cond.selects RX0 yX0_fit yX0_fit, Cond.code yX0_fit cX0_fit 2 none, Cond.fieldLink RX0 16 "BandBoat$Band" "force" "I", Cond.fieldLink RX0 24 "BandBoat$Band" "stretch" "I", Cond.fieldLink RX0 36 "BandBoat$Band" "knot" "I", Cond.fieldLink RX0 42 "BandBoat$Band" "warmth" "I", Cond.fieldLink RX0 48 "BandBoat$Band" "returned" "I", Cond.fieldLink RX0 54 "BandBoat$Band" "fresh" "I", Cond.fieldLink RX0 60 "BandBoat$Band" "spinBy" "I"]
def wsX9_learnCalmPlaces_r2 : List Cond := [Cond.static yX9_cut, Cond.initialized RX9, Cond.code yX9_cut cX9_cut 2 (some .int), Cond.instanceMethod yX4_rest, Cond.initialized RX4, Cond.selects RX4 yX4_rest yX4_rest, Cond.code yX4_rest cX4_rest 1 none, Cond.fieldLink RX4 9 "BandBoat$Motion" "parts" "I", Cond.fieldLink RX4 15 "BandBoat$Motion" "pace" "I", Cond.fieldLink RX4 18 "BandBoat$Motion" "place" "I", Cond.fieldLink RX4 21 "BandBoat$Motion" "turn" "I", Cond.fieldLink RX4 24 "BandBoat$Motion" "side" "I", Cond.fieldLink RX4 27 "BandBoat$Motion" "tenth" "I", Cond.fieldLink RX4 30 "BandBoat$Motion" "steady" "Z", Cond.instanceMethod yX4_isOver, Cond.selects RX4 yX4_isOver yX4_isOver, Cond.code yX4_isOver cX4_isOver 1 (some .boolean), Cond.instanceMethod yX4_drift, Cond.selects RX4 yX4_drift yX4_drift, Cond.code yX4_drift cX4_drift 3 none, Cond.constant RX4 89 (-9999999), Cond.constant RX4 90 (9999999), Cond.static yX9_limit, Cond.code yX9_limit cX9_limit 3 (some .int)]
def wsX9_learnCalmPlaces_r3 : List Cond := [Cond.instanceMethod yX4_step, Cond.selects RX4 yX4_step yX4_step, Cond.code yX4_step cX4_step 8 none, Cond.methodLink RX4 47 Lib.Math.min.name, Cond.static Lib.Math.min.name, Cond.initialized "java/lang/Math", Cond.code Lib.Math.min.name Lib.Math.min.code 2 (some .int), Cond.methodLink RX4 57 Lib.Math.max.name, Cond.static Lib.Math.max.name, Cond.code Lib.Math.max.name Lib.Math.max.code 2 (some .int), Cond.instanceMethod yX0_loosed, Cond.selects RX0 yX0_loosed yX0_loosed, Cond.code yX0_loosed cX0_loosed 2 (some .int), Cond.methodLink RX0 63 yX0_wound, Cond.instanceMethod yX0_wound, Cond.selects RX0 yX0_wound yX0_wound, Cond.code yX0_wound cX0_wound 3 (some .int), Cond.methodLink RX4 69 yX4_gustOf, Cond.instanceMethod yX4_gustOf, Cond.selects RX4 yX4_gustOf yX4_gustOf, Cond.code yX4_gustOf cX4_gustOf 5 (some .int), Cond.constantLong RX4 91 (7919), Cond.constantLong RX4 93 (6151), Cond.constantLong RX4 95 (65521)]
def wsX9_learnCalmPlaces_r4 : List Cond := [Cond.methodLink RX4 79 yX4_drift, Cond.methodLink RX8 70 yX8_note, Cond.instanceMethod yX8_note, Cond.selects RX8 yX8_note yX8_note, Cond.code yX8_note cX8_note 2 none, Cond.methodLink RX8 77 Lib.Math.max.name, Cond.fieldLink RX8 25 "BandBoat$Trial" "path" "[I"]
def wsX9_learnCalmPlaces : List Cond := .code yX9_learnCalmPlaces cX9_learnCalmPlaces 2 none :: ((wsX9_learnCalmPlaces_r1 ++ (wsX9_learnCalmPlaces_r2 ++ (wsX9_learnCalmPlaces_r3 ++ wsX9_learnCalmPlaces_r4))) ++ wsX90 ++ wsX80 ++ wsX40 ++ wsX60 ++ wsX00)
def wsX9_wise_r1 : List Cond := [Cond.constantLong RX9 187 (-1), Cond.fieldLink RX9 72 "BandBoat" "calmPlaces" "[I", Cond.methodLink RX9 192 yX9_learnCalmPlaces, Cond.instanceMethod yX9_learnCalmPlaces, Cond.selects RX9 yX9_learnCalmPlaces yX9_learnCalmPlaces, Cond.initialized RX9, Cond.code yX9_learnCalmPlaces cX9_learnCalmPlaces 2 none, Cond.fieldLink RX9 254 "BandBoat" "calmPlacesKnown" "Z", Cond.fieldLink RX9 43 "BandBoat" "trial" "LBandBoat$Trial;", Cond.fieldLink RX9 26 "BandBoat" "laid" "LBandBoat$Rig;", Cond.instanceMethod yX8_make, Cond.initialized RX8, Cond.selects RX8 yX8_make yX8_make, Cond.code yX8_make cX8_make 8 none, Cond.fieldLink RX8 21 "BandBoat$Trial" "band" "LBandBoat$Band;", Cond.fieldLink RX8 12 "BandBoat$Trial" "motion" "LBandBoat$Motion;", Cond.fieldLink RX8 40 "BandBoat$Trial" "tenths" "I", Cond.fieldLink RX8 43 "BandBoat$Trial" "topPace" "I", Cond.fieldLink RX8 46 "BandBoat$Trial" "emptyAt" "I", Cond.instanceMethod yX0_fit, Cond.initialized RX0, Cond.selects RX0 yX0_fit yX0_fit, Cond.code yX0_fit cX0_fit 2 none, Cond.fieldLink RX0 16 "BandBoat$Band" "force" "I"]
def wsX9_wise_r2 : List Cond := [Cond.fieldLink RX0 24 "BandBoat$Band" "stretch" "I", Cond.fieldLink RX0 36 "BandBoat$Band" "knot" "I", Cond.fieldLink RX0 42 "BandBoat$Band" "warmth" "I", Cond.fieldLink RX0 48 "BandBoat$Band" "returned" "I", Cond.fieldLink RX0 54 "BandBoat$Band" "fresh" "I", Cond.fieldLink RX0 60 "BandBoat$Band" "spinBy" "I", Cond.static yX9_cut, Cond.code yX9_cut cX9_cut 2 (some .int), Cond.instanceMethod yX4_rest, Cond.initialized RX4, Cond.selects RX4 yX4_rest yX4_rest, Cond.code yX4_rest cX4_rest 1 none, Cond.fieldLink RX4 9 "BandBoat$Motion" "parts" "I", Cond.fieldLink RX4 15 "BandBoat$Motion" "pace" "I", Cond.fieldLink RX4 18 "BandBoat$Motion" "place" "I", Cond.fieldLink RX4 21 "BandBoat$Motion" "turn" "I", Cond.fieldLink RX4 24 "BandBoat$Motion" "side" "I", Cond.fieldLink RX4 27 "BandBoat$Motion" "tenth" "I", Cond.fieldLink RX4 30 "BandBoat$Motion" "steady" "Z", Cond.instanceMethod yX4_isOver, Cond.selects RX4 yX4_isOver yX4_isOver, Cond.code yX4_isOver cX4_isOver 1 (some .boolean), Cond.instanceMethod yX4_drift, Cond.selects RX4 yX4_drift yX4_drift]
def wsX9_wise_r3 : List Cond := [Cond.code yX4_drift cX4_drift 3 none, Cond.constant RX4 89 (-9999999), Cond.constant RX4 90 (9999999), Cond.static yX9_limit, Cond.code yX9_limit cX9_limit 3 (some .int), Cond.instanceMethod yX4_step, Cond.selects RX4 yX4_step yX4_step, Cond.code yX4_step cX4_step 8 none, Cond.methodLink RX4 47 Lib.Math.min.name, Cond.static Lib.Math.min.name, Cond.initialized "java/lang/Math", Cond.code Lib.Math.min.name Lib.Math.min.code 2 (some .int), Cond.methodLink RX4 57 Lib.Math.max.name, Cond.static Lib.Math.max.name, Cond.code Lib.Math.max.name Lib.Math.max.code 2 (some .int), Cond.instanceMethod yX0_loosed, Cond.selects RX0 yX0_loosed yX0_loosed, Cond.code yX0_loosed cX0_loosed 2 (some .int), Cond.methodLink RX0 63 yX0_wound, Cond.instanceMethod yX0_wound, Cond.selects RX0 yX0_wound yX0_wound, Cond.code yX0_wound cX0_wound 3 (some .int), Cond.methodLink RX4 69 yX4_gustOf, Cond.instanceMethod yX4_gustOf]
def wsX9_wise_r4 : List Cond := [Cond.selects RX4 yX4_gustOf yX4_gustOf, Cond.code yX4_gustOf cX4_gustOf 5 (some .int), Cond.constantLong RX4 91 (7919), Cond.constantLong RX4 93 (6151), Cond.constantLong RX4 95 (65521), Cond.methodLink RX4 79 yX4_drift, Cond.methodLink RX8 70 yX8_note, Cond.instanceMethod yX8_note, Cond.selects RX8 yX8_note yX8_note, Cond.code yX8_note cX8_note 2 none, Cond.methodLink RX8 77 Lib.Math.max.name, Cond.fieldLink RX8 25 "BandBoat$Trial" "path" "[I", Cond.methodLink RX9 189 yX9_snapOf, Cond.instanceMethod yX9_snapOf, Cond.selects RX9 yX9_snapOf yX9_snapOf, Cond.code yX9_snapOf cX9_snapOf 4 (some .int), Cond.methodLink RX9 271 Lib.Math.min.name, Cond.methodLink RX9 264 yX9_cut]
def wsX9_wise : List Cond := .code yX9_wise cX9_wise 7 (some .int) :: ((wsX9_wise_r1 ++ (wsX9_wise_r2 ++ (wsX9_wise_r3 ++ wsX9_wise_r4))) ++ wsX90 ++ wsX80 ++ wsX40 ++ wsX60 ++ wsX00)
def wsX9_searchPitch_r1 : List Cond := [Cond.fieldLink RX9 30 "BandBoat" "tried" "LBandBoat$Rig;", Cond.fieldLink RX9 43 "BandBoat" "trial" "LBandBoat$Trial;", Cond.fieldLink RX9 81 "BandBoat" "bestMemo" "LBandBoat$Memo;", Cond.instanceMethod yX8_make, Cond.initialized RX8, Cond.selects RX8 yX8_make yX8_make, Cond.code yX8_make cX8_make 8 none, Cond.fieldLink RX8 21 "BandBoat$Trial" "band" "LBandBoat$Band;", Cond.fieldLink RX8 12 "BandBoat$Trial" "motion" "LBandBoat$Motion;", Cond.fieldLink RX8 40 "BandBoat$Trial" "tenths" "I", Cond.fieldLink RX8 43 "BandBoat$Trial" "topPace" "I", Cond.fieldLink RX8 46 "BandBoat$Trial" "emptyAt" "I", Cond.instanceMethod yX0_fit, Cond.initialized RX0, Cond.selects RX0 yX0_fit yX0_fit, Cond.code yX0_fit cX0_fit 2 none, Cond.fieldLink RX0 16 "BandBoat$Band" "force" "I", Cond.fieldLink RX0 24 "BandBoat$Band" "stretch" "I", Cond.fieldLink RX0 36 "BandBoat$Band" "knot" "I", Cond.fieldLink RX0 42 "BandBoat$Band" "warmth" "I", Cond.fieldLink RX0 48 "BandBoat$Band" "returned" "I", Cond.fieldLink RX0 54 "BandBoat$Band" "fresh" "I", Cond.fieldLink RX0 60 "BandBoat$Band" "spinBy" "I", Cond.static yX9_cut]
def wsX9_searchPitch_r2 : List Cond := [Cond.initialized RX9, Cond.code yX9_cut cX9_cut 2 (some .int), Cond.instanceMethod yX4_rest, Cond.initialized RX4, Cond.selects RX4 yX4_rest yX4_rest, Cond.code yX4_rest cX4_rest 1 none, Cond.fieldLink RX4 9 "BandBoat$Motion" "parts" "I", Cond.fieldLink RX4 15 "BandBoat$Motion" "pace" "I", Cond.fieldLink RX4 18 "BandBoat$Motion" "place" "I", Cond.fieldLink RX4 21 "BandBoat$Motion" "turn" "I", Cond.fieldLink RX4 24 "BandBoat$Motion" "side" "I", Cond.fieldLink RX4 27 "BandBoat$Motion" "tenth" "I", Cond.fieldLink RX4 30 "BandBoat$Motion" "steady" "Z", Cond.instanceMethod yX4_isOver, Cond.selects RX4 yX4_isOver yX4_isOver, Cond.code yX4_isOver cX4_isOver 1 (some .boolean), Cond.instanceMethod yX4_drift, Cond.selects RX4 yX4_drift yX4_drift, Cond.code yX4_drift cX4_drift 3 none, Cond.constant RX4 89 (-9999999), Cond.constant RX4 90 (9999999), Cond.static yX9_limit, Cond.code yX9_limit cX9_limit 3 (some .int), Cond.instanceMethod yX4_step]
def wsX9_searchPitch_r3 : List Cond := [Cond.selects RX4 yX4_step yX4_step, Cond.code yX4_step cX4_step 8 none, Cond.methodLink RX4 47 Lib.Math.min.name, Cond.static Lib.Math.min.name, Cond.initialized "java/lang/Math", Cond.code Lib.Math.min.name Lib.Math.min.code 2 (some .int), Cond.methodLink RX4 57 Lib.Math.max.name, Cond.static Lib.Math.max.name, Cond.code Lib.Math.max.name Lib.Math.max.code 2 (some .int), Cond.instanceMethod yX0_loosed, Cond.selects RX0 yX0_loosed yX0_loosed, Cond.code yX0_loosed cX0_loosed 2 (some .int), Cond.methodLink RX0 63 yX0_wound, Cond.instanceMethod yX0_wound, Cond.selects RX0 yX0_wound yX0_wound, Cond.code yX0_wound cX0_wound 3 (some .int), Cond.methodLink RX4 69 yX4_gustOf, Cond.instanceMethod yX4_gustOf, Cond.selects RX4 yX4_gustOf yX4_gustOf, Cond.code yX4_gustOf cX4_gustOf 5 (some .int), Cond.constantLong RX4 91 (7919), Cond.constantLong RX4 93 (6151), Cond.constantLong RX4 95 (65521), Cond.methodLink RX4 79 yX4_drift]
def wsX9_searchPitch_r4 : List Cond := [Cond.methodLink RX8 70 yX8_note, Cond.instanceMethod yX8_note, Cond.selects RX8 yX8_note yX8_note, Cond.code yX8_note cX8_note 2 none, Cond.methodLink RX8 77 Lib.Math.max.name, Cond.fieldLink RX8 25 "BandBoat$Trial" "path" "[I", Cond.instanceMethod yX3_answer, Cond.initialized RX3, Cond.selects RX3 yX3_answer yX3_answer, Cond.code yX3_answer cX3_answer 2 (some .int), Cond.fieldLink RX3 7 "BandBoat$Memo" "answers" "[I", Cond.instanceMethod yX3_put, Cond.selects RX3 yX3_put yX3_put, Cond.code yX3_put cX3_put 3 none]
def wsX9_searchPitch : List Cond := .code yX9_searchPitch cX9_searchPitch 3 none :: ((wsX9_searchPitch_r1 ++ (wsX9_searchPitch_r2 ++ (wsX9_searchPitch_r3 ++ wsX9_searchPitch_r4))) ++ wsX90 ++ wsX60 ++ wsX80 ++ wsX40 ++ wsX00 ++ wsX30)
def wsX9_searchBest_r1 : List Cond := [Cond.fieldLink RX9 30 "BandBoat" "tried" "LBandBoat$Rig;", Cond.fieldLink RX9 26 "BandBoat" "laid" "LBandBoat$Rig;", Cond.fieldLink RX9 81 "BandBoat" "bestMemo" "LBandBoat$Memo;", Cond.instanceMethod yX6_copy, Cond.initialized RX6, Cond.selects RX6 yX6_copy yX6_copy, Cond.code yX6_copy cX6_copy 2 none, Cond.fieldLink RX6 7 "BandBoat$Rig" "stuffs" "I", Cond.fieldLink RX6 13 "BandBoat$Rig" "banded" "Z", Cond.fieldLink RX6 17 "BandBoat$Rig" "pulls" "I", Cond.fieldLink RX6 20 "BandBoat$Rig" "loses" "I", Cond.fieldLink RX6 23 "BandBoat$Rig" "knots" "I", Cond.fieldLink RX6 26 "BandBoat$Rig" "snaps" "I", Cond.fieldLink RX6 29 "BandBoat$Rig" "strands" "I", Cond.fieldLink RX6 32 "BandBoat$Rig" "length" "I", Cond.fieldLink RX6 35 "BandBoat$Rig" "pitch" "I", Cond.fieldLink RX6 38 "BandBoat$Rig" "width" "I", Cond.fieldLink RX6 41 "BandBoat$Rig" "weight" "I", Cond.fieldLink RX6 44 "BandBoat$Rig" "drag" "I", Cond.fieldLink RX6 47 "BandBoat$Rig" "veer" "I", Cond.fieldLink RX6 50 "BandBoat$Rig" "rudder" "I", Cond.fieldLink RX6 53 "BandBoat$Rig" "cold" "I", Cond.fieldLink RX6 56 "BandBoat$Rig" "days" "I", Cond.fieldLink RX6 59 "BandBoat$Rig" "gust" "I"]
def wsX9_searchBest_r2 : List Cond := [Cond.instanceMethod yX3_learn, Cond.initialized RX3, Cond.selects RX3 yX3_learn yX3_learn, Cond.code yX3_learn cX3_learn 4 none, Cond.fieldLink RX3 13 "BandBoat$Memo" "known" "Z", Cond.fieldLink RX3 17 "BandBoat$Memo" "first" "I", Cond.fieldLink RX3 21 "BandBoat$Memo" "second" "I", Cond.fieldLink RX3 7 "BandBoat$Memo" "answers" "[I", Cond.instanceMethod yX3_put, Cond.selects RX3 yX3_put yX3_put, Cond.code yX3_put cX3_put 3 none, Cond.methodLink RX9 280 yX9_searchPitch, Cond.instanceMethod yX9_searchPitch, Cond.selects RX9 yX9_searchPitch yX9_searchPitch, Cond.initialized RX9, Cond.code yX9_searchPitch cX9_searchPitch 3 none, Cond.fieldLink RX9 43 "BandBoat" "trial" "LBandBoat$Trial;", Cond.instanceMethod yX8_make, Cond.initialized RX8, Cond.selects RX8 yX8_make yX8_make, Cond.code yX8_make cX8_make 8 none, Cond.fieldLink RX8 21 "BandBoat$Trial" "band" "LBandBoat$Band;", Cond.fieldLink RX8 12 "BandBoat$Trial" "motion" "LBandBoat$Motion;", Cond.fieldLink RX8 40 "BandBoat$Trial" "tenths" "I"]
def wsX9_searchBest_r3 : List Cond := [Cond.fieldLink RX8 43 "BandBoat$Trial" "topPace" "I", Cond.fieldLink RX8 46 "BandBoat$Trial" "emptyAt" "I", Cond.instanceMethod yX0_fit, Cond.initialized RX0, Cond.selects RX0 yX0_fit yX0_fit, Cond.code yX0_fit cX0_fit 2 none, Cond.fieldLink RX0 16 "BandBoat$Band" "force" "I", Cond.fieldLink RX0 24 "BandBoat$Band" "stretch" "I", Cond.fieldLink RX0 36 "BandBoat$Band" "knot" "I", Cond.fieldLink RX0 42 "BandBoat$Band" "warmth" "I", Cond.fieldLink RX0 48 "BandBoat$Band" "returned" "I", Cond.fieldLink RX0 54 "BandBoat$Band" "fresh" "I", Cond.fieldLink RX0 60 "BandBoat$Band" "spinBy" "I", Cond.static yX9_cut, Cond.code yX9_cut cX9_cut 2 (some .int), Cond.instanceMethod yX4_rest, Cond.initialized RX4, Cond.selects RX4 yX4_rest yX4_rest, Cond.code yX4_rest cX4_rest 1 none, Cond.fieldLink RX4 9 "BandBoat$Motion" "parts" "I", Cond.fieldLink RX4 15 "BandBoat$Motion" "pace" "I", Cond.fieldLink RX4 18 "BandBoat$Motion" "place" "I", Cond.fieldLink RX4 21 "BandBoat$Motion" "turn" "I", Cond.fieldLink RX4 24 "BandBoat$Motion" "side" "I"]
def wsX9_searchBest_r4 : List Cond := [Cond.fieldLink RX4 27 "BandBoat$Motion" "tenth" "I", Cond.fieldLink RX4 30 "BandBoat$Motion" "steady" "Z", Cond.instanceMethod yX4_isOver, Cond.selects RX4 yX4_isOver yX4_isOver, Cond.code yX4_isOver cX4_isOver 1 (some .boolean), Cond.instanceMethod yX4_drift, Cond.selects RX4 yX4_drift yX4_drift, Cond.code yX4_drift cX4_drift 3 none, Cond.constant RX4 89 (-9999999), Cond.constant RX4 90 (9999999), Cond.static yX9_limit, Cond.code yX9_limit cX9_limit 3 (some .int), Cond.instanceMethod yX4_step, Cond.selects RX4 yX4_step yX4_step, Cond.code yX4_step cX4_step 8 none, Cond.methodLink RX4 47 Lib.Math.min.name, Cond.static Lib.Math.min.name, Cond.initialized "java/lang/Math", Cond.code Lib.Math.min.name Lib.Math.min.code 2 (some .int), Cond.methodLink RX4 57 Lib.Math.max.name, Cond.static Lib.Math.max.name, Cond.code Lib.Math.max.name Lib.Math.max.code 2 (some .int), Cond.instanceMethod yX0_loosed, Cond.selects RX0 yX0_loosed yX0_loosed]
def wsX9_searchBest_r5 : List Cond := [Cond.code yX0_loosed cX0_loosed 2 (some .int), Cond.methodLink RX0 63 yX0_wound, Cond.instanceMethod yX0_wound, Cond.selects RX0 yX0_wound yX0_wound, Cond.code yX0_wound cX0_wound 3 (some .int), Cond.methodLink RX4 69 yX4_gustOf, Cond.instanceMethod yX4_gustOf, Cond.selects RX4 yX4_gustOf yX4_gustOf, Cond.code yX4_gustOf cX4_gustOf 5 (some .int), Cond.constantLong RX4 91 (7919), Cond.constantLong RX4 93 (6151), Cond.constantLong RX4 95 (65521), Cond.methodLink RX4 79 yX4_drift, Cond.methodLink RX8 70 yX8_note, Cond.instanceMethod yX8_note, Cond.selects RX8 yX8_note yX8_note, Cond.code yX8_note cX8_note 2 none, Cond.methodLink RX8 77 Lib.Math.max.name, Cond.fieldLink RX8 25 "BandBoat$Trial" "path" "[I", Cond.instanceMethod yX3_answer, Cond.selects RX3 yX3_answer yX3_answer, Cond.code yX3_answer cX3_answer 2 (some .int)]
def wsX9_searchBest : List Cond := .code yX9_searchBest cX9_searchBest 5 none :: ((wsX9_searchBest_r1 ++ (wsX9_searchBest_r2 ++ (wsX9_searchBest_r3 ++ (wsX9_searchBest_r4 ++ wsX9_searchBest_r5)))) ++ wsX90 ++ wsX60 ++ wsX30 ++ wsX80 ++ wsX40 ++ wsX00)
def wsX9_best_r1 : List Cond := [Cond.fieldLink RX9 81 "BandBoat" "bestMemo" "LBandBoat$Memo;", Cond.methodLink RX9 104 yX9_within, Cond.static yX9_within, Cond.initialized RX9, Cond.code yX9_within cX9_within 3 (some .boolean), Cond.methodLink RX9 156 yX9_isTurns, Cond.static yX9_isTurns, Cond.code yX9_isTurns cX9_isTurns 1 (some .boolean), Cond.instanceMethod yX3_holds, Cond.initialized RX3, Cond.selects RX3 yX3_holds yX3_holds, Cond.code yX3_holds cX3_holds 3 (some .boolean), Cond.fieldLink RX3 13 "BandBoat$Memo" "known" "Z", Cond.fieldLink RX3 17 "BandBoat$Memo" "first" "I", Cond.fieldLink RX3 21 "BandBoat$Memo" "second" "I", Cond.methodLink RX9 199 yX9_searchBest, Cond.instanceMethod yX9_searchBest, Cond.selects RX9 yX9_searchBest yX9_searchBest, Cond.code yX9_searchBest cX9_searchBest 5 none, Cond.fieldLink RX9 30 "BandBoat" "tried" "LBandBoat$Rig;", Cond.fieldLink RX9 26 "BandBoat" "laid" "LBandBoat$Rig;", Cond.instanceMethod yX6_copy, Cond.initialized RX6, Cond.selects RX6 yX6_copy yX6_copy]
def wsX9_best_r2 : List Cond := [Cond.code yX6_copy cX6_copy 2 none, Cond.fieldLink RX6 7 "BandBoat$Rig" "stuffs" "I", Cond.fieldLink RX6 13 "BandBoat$Rig" "banded" "Z", Cond.fieldLink RX6 17 "BandBoat$Rig" "pulls" "I", Cond.fieldLink RX6 20 "BandBoat$Rig" "loses" "I", Cond.fieldLink RX6 23 "BandBoat$Rig" "knots" "I", Cond.fieldLink RX6 26 "BandBoat$Rig" "snaps" "I", Cond.fieldLink RX6 29 "BandBoat$Rig" "strands" "I", Cond.fieldLink RX6 32 "BandBoat$Rig" "length" "I", Cond.fieldLink RX6 35 "BandBoat$Rig" "pitch" "I", Cond.fieldLink RX6 38 "BandBoat$Rig" "width" "I", Cond.fieldLink RX6 41 "BandBoat$Rig" "weight" "I", Cond.fieldLink RX6 44 "BandBoat$Rig" "drag" "I", Cond.fieldLink RX6 47 "BandBoat$Rig" "veer" "I", Cond.fieldLink RX6 50 "BandBoat$Rig" "rudder" "I", Cond.fieldLink RX6 53 "BandBoat$Rig" "cold" "I", Cond.fieldLink RX6 56 "BandBoat$Rig" "days" "I", Cond.fieldLink RX6 59 "BandBoat$Rig" "gust" "I", Cond.instanceMethod yX3_learn, Cond.selects RX3 yX3_learn yX3_learn, Cond.code yX3_learn cX3_learn 4 none, Cond.fieldLink RX3 7 "BandBoat$Memo" "answers" "[I", Cond.instanceMethod yX3_put, Cond.selects RX3 yX3_put yX3_put]
def wsX9_best_r3 : List Cond := [Cond.code yX3_put cX3_put 3 none, Cond.methodLink RX9 280 yX9_searchPitch, Cond.instanceMethod yX9_searchPitch, Cond.selects RX9 yX9_searchPitch yX9_searchPitch, Cond.code yX9_searchPitch cX9_searchPitch 3 none, Cond.fieldLink RX9 43 "BandBoat" "trial" "LBandBoat$Trial;", Cond.instanceMethod yX8_make, Cond.initialized RX8, Cond.selects RX8 yX8_make yX8_make, Cond.code yX8_make cX8_make 8 none, Cond.fieldLink RX8 21 "BandBoat$Trial" "band" "LBandBoat$Band;", Cond.fieldLink RX8 12 "BandBoat$Trial" "motion" "LBandBoat$Motion;", Cond.fieldLink RX8 40 "BandBoat$Trial" "tenths" "I", Cond.fieldLink RX8 43 "BandBoat$Trial" "topPace" "I", Cond.fieldLink RX8 46 "BandBoat$Trial" "emptyAt" "I", Cond.instanceMethod yX0_fit, Cond.initialized RX0, Cond.selects RX0 yX0_fit yX0_fit, Cond.code yX0_fit cX0_fit 2 none, Cond.fieldLink RX0 16 "BandBoat$Band" "force" "I", Cond.fieldLink RX0 24 "BandBoat$Band" "stretch" "I", Cond.fieldLink RX0 36 "BandBoat$Band" "knot" "I", Cond.fieldLink RX0 42 "BandBoat$Band" "warmth" "I", Cond.fieldLink RX0 48 "BandBoat$Band" "returned" "I"]
def wsX9_best_r4 : List Cond := [Cond.fieldLink RX0 54 "BandBoat$Band" "fresh" "I", Cond.fieldLink RX0 60 "BandBoat$Band" "spinBy" "I", Cond.static yX9_cut, Cond.code yX9_cut cX9_cut 2 (some .int), Cond.instanceMethod yX4_rest, Cond.initialized RX4, Cond.selects RX4 yX4_rest yX4_rest, Cond.code yX4_rest cX4_rest 1 none, Cond.fieldLink RX4 9 "BandBoat$Motion" "parts" "I", Cond.fieldLink RX4 15 "BandBoat$Motion" "pace" "I", Cond.fieldLink RX4 18 "BandBoat$Motion" "place" "I", Cond.fieldLink RX4 21 "BandBoat$Motion" "turn" "I", Cond.fieldLink RX4 24 "BandBoat$Motion" "side" "I", Cond.fieldLink RX4 27 "BandBoat$Motion" "tenth" "I", Cond.fieldLink RX4 30 "BandBoat$Motion" "steady" "Z", Cond.instanceMethod yX4_isOver, Cond.selects RX4 yX4_isOver yX4_isOver, Cond.code yX4_isOver cX4_isOver 1 (some .boolean), Cond.instanceMethod yX4_drift, Cond.selects RX4 yX4_drift yX4_drift, Cond.code yX4_drift cX4_drift 3 none, Cond.constant RX4 89 (-9999999), Cond.constant RX4 90 (9999999), Cond.static yX9_limit]
def wsX9_best_r5 : List Cond := [Cond.code yX9_limit cX9_limit 3 (some .int), Cond.instanceMethod yX4_step, Cond.selects RX4 yX4_step yX4_step, Cond.code yX4_step cX4_step 8 none, Cond.methodLink RX4 47 Lib.Math.min.name, Cond.static Lib.Math.min.name, Cond.initialized "java/lang/Math", Cond.code Lib.Math.min.name Lib.Math.min.code 2 (some .int), Cond.methodLink RX4 57 Lib.Math.max.name, Cond.static Lib.Math.max.name, Cond.code Lib.Math.max.name Lib.Math.max.code 2 (some .int), Cond.instanceMethod yX0_loosed, Cond.selects RX0 yX0_loosed yX0_loosed, Cond.code yX0_loosed cX0_loosed 2 (some .int), Cond.methodLink RX0 63 yX0_wound, Cond.instanceMethod yX0_wound, Cond.selects RX0 yX0_wound yX0_wound, Cond.code yX0_wound cX0_wound 3 (some .int), Cond.methodLink RX4 69 yX4_gustOf, Cond.instanceMethod yX4_gustOf, Cond.selects RX4 yX4_gustOf yX4_gustOf, Cond.code yX4_gustOf cX4_gustOf 5 (some .int), Cond.constantLong RX4 91 (7919), Cond.constantLong RX4 93 (6151)]
def wsX9_best_r6 : List Cond := [Cond.constantLong RX4 95 (65521), Cond.methodLink RX4 79 yX4_drift, Cond.methodLink RX8 70 yX8_note, Cond.instanceMethod yX8_note, Cond.selects RX8 yX8_note yX8_note, Cond.code yX8_note cX8_note 2 none, Cond.methodLink RX8 77 Lib.Math.max.name, Cond.fieldLink RX8 25 "BandBoat$Trial" "path" "[I", Cond.instanceMethod yX3_answer, Cond.selects RX3 yX3_answer yX3_answer, Cond.code yX3_answer cX3_answer 2 (some .int)]
def wsX9_best : List Cond := .code yX9_best cX9_best 4 (some .int) :: ((wsX9_best_r1 ++ (wsX9_best_r2 ++ (wsX9_best_r3 ++ (wsX9_best_r4 ++ (wsX9_best_r5 ++ wsX9_best_r6))))) ++ wsX90 ++ wsX30 ++ wsX60 ++ wsX80 ++ wsX40 ++ wsX00)
def wsX9_just_r1 : List Cond := [Cond.constant RX9 183 (99999), Cond.fieldLink RX9 72 "BandBoat" "calmPlaces" "[I", Cond.methodLink RX9 206 Lib.Math.abs.name, Cond.static Lib.Math.abs.name, Cond.initialized "java/lang/Math", Cond.code Lib.Math.abs.name Lib.Math.abs.code 1 (some .int), Cond.methodLink RX9 104 yX9_within, Cond.static yX9_within, Cond.initialized RX9, Cond.code yX9_within cX9_within 3 (some .boolean), Cond.methodLink RX9 192 yX9_learnCalmPlaces, Cond.instanceMethod yX9_learnCalmPlaces, Cond.selects RX9 yX9_learnCalmPlaces yX9_learnCalmPlaces, Cond.code yX9_learnCalmPlaces cX9_learnCalmPlaces 2 none, Cond.fieldLink RX9 254 "BandBoat" "calmPlacesKnown" "Z", Cond.fieldLink RX9 43 "BandBoat" "trial" "LBandBoat$Trial;", Cond.fieldLink RX9 26 "BandBoat" "laid" "LBandBoat$Rig;", Cond.instanceMethod yX8_make, Cond.initialized RX8, Cond.selects RX8 yX8_make yX8_make, Cond.code yX8_make cX8_make 8 none, Cond.fieldLink RX8 21 "BandBoat$Trial" "band" "LBandBoat$Band;", Cond.fieldLink RX8 12 "BandBoat$Trial" "motion" "LBandBoat$Motion;", Cond.fieldLink RX8 40 "BandBoat$Trial" "tenths" "I"]
def wsX9_just_r2 : List Cond := [Cond.fieldLink RX8 43 "BandBoat$Trial" "topPace" "I", Cond.fieldLink RX8 46 "BandBoat$Trial" "emptyAt" "I", Cond.instanceMethod yX0_fit, Cond.initialized RX0, Cond.selects RX0 yX0_fit yX0_fit, Cond.code yX0_fit cX0_fit 2 none, Cond.fieldLink RX0 16 "BandBoat$Band" "force" "I", Cond.fieldLink RX0 24 "BandBoat$Band" "stretch" "I", Cond.fieldLink RX0 36 "BandBoat$Band" "knot" "I", Cond.fieldLink RX0 42 "BandBoat$Band" "warmth" "I", Cond.fieldLink RX0 48 "BandBoat$Band" "returned" "I", Cond.fieldLink RX0 54 "BandBoat$Band" "fresh" "I", Cond.fieldLink RX0 60 "BandBoat$Band" "spinBy" "I", Cond.static yX9_cut, Cond.code yX9_cut cX9_cut 2 (some .int), Cond.instanceMethod yX4_rest, Cond.initialized RX4, Cond.selects RX4 yX4_rest yX4_rest, Cond.code yX4_rest cX4_rest 1 none, Cond.fieldLink RX4 9 "BandBoat$Motion" "parts" "I", Cond.fieldLink RX4 15 "BandBoat$Motion" "pace" "I", Cond.fieldLink RX4 18 "BandBoat$Motion" "place" "I", Cond.fieldLink RX4 21 "BandBoat$Motion" "turn" "I", Cond.fieldLink RX4 24 "BandBoat$Motion" "side" "I"]
def wsX9_just_r3 : List Cond := [Cond.fieldLink RX4 27 "BandBoat$Motion" "tenth" "I", Cond.fieldLink RX4 30 "BandBoat$Motion" "steady" "Z", Cond.instanceMethod yX4_isOver, Cond.selects RX4 yX4_isOver yX4_isOver, Cond.code yX4_isOver cX4_isOver 1 (some .boolean), Cond.instanceMethod yX4_drift, Cond.selects RX4 yX4_drift yX4_drift, Cond.code yX4_drift cX4_drift 3 none, Cond.constant RX4 89 (-9999999), Cond.constant RX4 90 (9999999), Cond.static yX9_limit, Cond.code yX9_limit cX9_limit 3 (some .int), Cond.instanceMethod yX4_step, Cond.selects RX4 yX4_step yX4_step, Cond.code yX4_step cX4_step 8 none, Cond.methodLink RX4 47 Lib.Math.min.name, Cond.static Lib.Math.min.name, Cond.code Lib.Math.min.name Lib.Math.min.code 2 (some .int), Cond.methodLink RX4 57 Lib.Math.max.name, Cond.static Lib.Math.max.name, Cond.code Lib.Math.max.name Lib.Math.max.code 2 (some .int), Cond.instanceMethod yX0_loosed, Cond.selects RX0 yX0_loosed yX0_loosed, Cond.code yX0_loosed cX0_loosed 2 (some .int)]
def wsX9_just_r4 : List Cond := [Cond.methodLink RX0 63 yX0_wound, Cond.instanceMethod yX0_wound, Cond.selects RX0 yX0_wound yX0_wound, Cond.code yX0_wound cX0_wound 3 (some .int), Cond.methodLink RX4 69 yX4_gustOf, Cond.instanceMethod yX4_gustOf, Cond.selects RX4 yX4_gustOf yX4_gustOf, Cond.code yX4_gustOf cX4_gustOf 5 (some .int), Cond.constantLong RX4 91 (7919), Cond.constantLong RX4 93 (6151), Cond.constantLong RX4 95 (65521), Cond.methodLink RX4 79 yX4_drift, Cond.methodLink RX8 70 yX8_note, Cond.instanceMethod yX8_note, Cond.selects RX8 yX8_note yX8_note, Cond.code yX8_note cX8_note 2 none, Cond.methodLink RX8 77 Lib.Math.max.name, Cond.fieldLink RX8 25 "BandBoat$Trial" "path" "[I"]
def wsX9_just : List Cond := .code yX9_just cX9_just 5 (some .int) :: ((wsX9_just_r1 ++ (wsX9_just_r2 ++ (wsX9_just_r3 ++ wsX9_just_r4))) ++ wsX90 ++ wsX80 ++ wsX40 ++ wsX60 ++ wsX00)
def wsX9_searchSpan_r1 : List Cond := [Cond.fieldLink RX9 85 "BandBoat" "spanMemo" "LBandBoat$Memo;", Cond.fieldLink RX9 43 "BandBoat" "trial" "LBandBoat$Trial;", Cond.fieldLink RX9 26 "BandBoat" "laid" "LBandBoat$Rig;", Cond.instanceMethod yX3_learn, Cond.initialized RX3, Cond.selects RX3 yX3_learn yX3_learn, Cond.code yX3_learn cX3_learn 4 none, Cond.fieldLink RX3 13 "BandBoat$Memo" "known" "Z", Cond.fieldLink RX3 17 "BandBoat$Memo" "first" "I", Cond.fieldLink RX3 21 "BandBoat$Memo" "second" "I", Cond.fieldLink RX3 7 "BandBoat$Memo" "answers" "[I", Cond.instanceMethod yX8_make, Cond.initialized RX8, Cond.selects RX8 yX8_make yX8_make, Cond.code yX8_make cX8_make 8 none, Cond.fieldLink RX8 21 "BandBoat$Trial" "band" "LBandBoat$Band;", Cond.fieldLink RX8 12 "BandBoat$Trial" "motion" "LBandBoat$Motion;", Cond.fieldLink RX8 40 "BandBoat$Trial" "tenths" "I", Cond.fieldLink RX8 43 "BandBoat$Trial" "topPace" "I", Cond.fieldLink RX8 46 "BandBoat$Trial" "emptyAt" "I", Cond.instanceMethod yX0_fit, Cond.initialized RX0, Cond.selects RX0 yX0_fit yX0_fit, Cond.code yX0_fit cX0_fit 2 none]
def wsX9_searchSpan_r2 : List Cond := [Cond.fieldLink RX0 16 "BandBoat$Band" "force" "I", Cond.fieldLink RX0 24 "BandBoat$Band" "stretch" "I", Cond.fieldLink RX0 36 "BandBoat$Band" "knot" "I", Cond.fieldLink RX0 42 "BandBoat$Band" "warmth" "I", Cond.fieldLink RX0 48 "BandBoat$Band" "returned" "I", Cond.fieldLink RX0 54 "BandBoat$Band" "fresh" "I", Cond.fieldLink RX0 60 "BandBoat$Band" "spinBy" "I", Cond.static yX9_cut, Cond.initialized RX9, Cond.code yX9_cut cX9_cut 2 (some .int), Cond.instanceMethod yX4_rest, Cond.initialized RX4, Cond.selects RX4 yX4_rest yX4_rest, Cond.code yX4_rest cX4_rest 1 none, Cond.fieldLink RX4 9 "BandBoat$Motion" "parts" "I", Cond.fieldLink RX4 15 "BandBoat$Motion" "pace" "I", Cond.fieldLink RX4 18 "BandBoat$Motion" "place" "I", Cond.fieldLink RX4 21 "BandBoat$Motion" "turn" "I", Cond.fieldLink RX4 24 "BandBoat$Motion" "side" "I", Cond.fieldLink RX4 27 "BandBoat$Motion" "tenth" "I", Cond.fieldLink RX4 30 "BandBoat$Motion" "steady" "Z", Cond.instanceMethod yX4_isOver, Cond.selects RX4 yX4_isOver yX4_isOver, Cond.code yX4_isOver cX4_isOver 1 (some .boolean)]
def wsX9_searchSpan_r3 : List Cond := [Cond.instanceMethod yX4_drift, Cond.selects RX4 yX4_drift yX4_drift, Cond.code yX4_drift cX4_drift 3 none, Cond.constant RX4 89 (-9999999), Cond.constant RX4 90 (9999999), Cond.static yX9_limit, Cond.code yX9_limit cX9_limit 3 (some .int), Cond.instanceMethod yX4_step, Cond.selects RX4 yX4_step yX4_step, Cond.code yX4_step cX4_step 8 none, Cond.methodLink RX4 47 Lib.Math.min.name, Cond.static Lib.Math.min.name, Cond.initialized "java/lang/Math", Cond.code Lib.Math.min.name Lib.Math.min.code 2 (some .int), Cond.methodLink RX4 57 Lib.Math.max.name, Cond.static Lib.Math.max.name, Cond.code Lib.Math.max.name Lib.Math.max.code 2 (some .int), Cond.instanceMethod yX0_loosed, Cond.selects RX0 yX0_loosed yX0_loosed, Cond.code yX0_loosed cX0_loosed 2 (some .int), Cond.methodLink RX0 63 yX0_wound, Cond.instanceMethod yX0_wound, Cond.selects RX0 yX0_wound yX0_wound, Cond.code yX0_wound cX0_wound 3 (some .int)]
def wsX9_searchSpan_r4 : List Cond := [Cond.methodLink RX4 69 yX4_gustOf, Cond.instanceMethod yX4_gustOf, Cond.selects RX4 yX4_gustOf yX4_gustOf, Cond.code yX4_gustOf cX4_gustOf 5 (some .int), Cond.constantLong RX4 91 (7919), Cond.constantLong RX4 93 (6151), Cond.constantLong RX4 95 (65521), Cond.methodLink RX4 79 yX4_drift, Cond.methodLink RX8 70 yX8_note, Cond.instanceMethod yX8_note, Cond.selects RX8 yX8_note yX8_note, Cond.code yX8_note cX8_note 2 none, Cond.methodLink RX8 77 Lib.Math.max.name, Cond.fieldLink RX8 25 "BandBoat$Trial" "path" "[I", Cond.instanceMethod yX3_answer, Cond.selects RX3 yX3_answer yX3_answer, Cond.code yX3_answer cX3_answer 2 (some .int), Cond.instanceMethod yX3_put, Cond.selects RX3 yX3_put yX3_put, Cond.code yX3_put cX3_put 3 none]
def wsX9_searchSpan : List Cond := .code yX9_searchSpan cX9_searchSpan 5 none :: ((wsX9_searchSpan_r1 ++ (wsX9_searchSpan_r2 ++ (wsX9_searchSpan_r3 ++ wsX9_searchSpan_r4))) ++ wsX90 ++ wsX80 ++ wsX40 ++ wsX30 ++ wsX60 ++ wsX00)
def wsX9_span_r1 : List Cond := [Cond.fieldLink RX9 85 "BandBoat" "spanMemo" "LBandBoat$Memo;", Cond.methodLink RX9 156 yX9_isTurns, Cond.static yX9_isTurns, Cond.initialized RX9, Cond.code yX9_isTurns cX9_isTurns 1 (some .boolean), Cond.methodLink RX9 104 yX9_within, Cond.static yX9_within, Cond.code yX9_within cX9_within 3 (some .boolean), Cond.instanceMethod yX3_holds, Cond.initialized RX3, Cond.selects RX3 yX3_holds yX3_holds, Cond.code yX3_holds cX3_holds 3 (some .boolean), Cond.fieldLink RX3 13 "BandBoat$Memo" "known" "Z", Cond.fieldLink RX3 17 "BandBoat$Memo" "first" "I", Cond.fieldLink RX3 21 "BandBoat$Memo" "second" "I", Cond.methodLink RX9 211 yX9_searchSpan, Cond.instanceMethod yX9_searchSpan, Cond.selects RX9 yX9_searchSpan yX9_searchSpan, Cond.code yX9_searchSpan cX9_searchSpan 5 none, Cond.fieldLink RX9 43 "BandBoat" "trial" "LBandBoat$Trial;", Cond.fieldLink RX9 26 "BandBoat" "laid" "LBandBoat$Rig;", Cond.instanceMethod yX3_learn, Cond.selects RX3 yX3_learn yX3_learn, Cond.code yX3_learn cX3_learn 4 none]
def wsX9_span_r2 : List Cond := [Cond.fieldLink RX3 7 "BandBoat$Memo" "answers" "[I", Cond.instanceMethod yX8_make, Cond.initialized RX8, Cond.selects RX8 yX8_make yX8_make, Cond.code yX8_make cX8_make 8 none, Cond.fieldLink RX8 21 "BandBoat$Trial" "band" "LBandBoat$Band;", Cond.fieldLink RX8 12 "BandBoat$Trial" "motion" "LBandBoat$Motion;", Cond.fieldLink RX8 40 "BandBoat$Trial" "tenths" "I", Cond.fieldLink RX8 43 "BandBoat$Trial" "topPace" "I", Cond.fieldLink RX8 46 "BandBoat$Trial" "emptyAt" "I", Cond.instanceMethod yX0_fit, Cond.initialized RX0, Cond.selects RX0 yX0_fit yX0_fit, Cond.code yX0_fit cX0_fit 2 none, Cond.fieldLink RX0 16 "BandBoat$Band" "force" "I", Cond.fieldLink RX0 24 "BandBoat$Band" "stretch" "I", Cond.fieldLink RX0 36 "BandBoat$Band" "knot" "I", Cond.fieldLink RX0 42 "BandBoat$Band" "warmth" "I", Cond.fieldLink RX0 48 "BandBoat$Band" "returned" "I", Cond.fieldLink RX0 54 "BandBoat$Band" "fresh" "I", Cond.fieldLink RX0 60 "BandBoat$Band" "spinBy" "I", Cond.static yX9_cut, Cond.code yX9_cut cX9_cut 2 (some .int), Cond.instanceMethod yX4_rest]
def wsX9_span_r3 : List Cond := [Cond.initialized RX4, Cond.selects RX4 yX4_rest yX4_rest, Cond.code yX4_rest cX4_rest 1 none, Cond.fieldLink RX4 9 "BandBoat$Motion" "parts" "I", Cond.fieldLink RX4 15 "BandBoat$Motion" "pace" "I", Cond.fieldLink RX4 18 "BandBoat$Motion" "place" "I", Cond.fieldLink RX4 21 "BandBoat$Motion" "turn" "I", Cond.fieldLink RX4 24 "BandBoat$Motion" "side" "I", Cond.fieldLink RX4 27 "BandBoat$Motion" "tenth" "I", Cond.fieldLink RX4 30 "BandBoat$Motion" "steady" "Z", Cond.instanceMethod yX4_isOver, Cond.selects RX4 yX4_isOver yX4_isOver, Cond.code yX4_isOver cX4_isOver 1 (some .boolean), Cond.instanceMethod yX4_drift, Cond.selects RX4 yX4_drift yX4_drift, Cond.code yX4_drift cX4_drift 3 none, Cond.constant RX4 89 (-9999999), Cond.constant RX4 90 (9999999), Cond.static yX9_limit, Cond.code yX9_limit cX9_limit 3 (some .int), Cond.instanceMethod yX4_step, Cond.selects RX4 yX4_step yX4_step, Cond.code yX4_step cX4_step 8 none, Cond.methodLink RX4 47 Lib.Math.min.name]
def wsX9_span_r4 : List Cond := [Cond.static Lib.Math.min.name, Cond.initialized "java/lang/Math", Cond.code Lib.Math.min.name Lib.Math.min.code 2 (some .int), Cond.methodLink RX4 57 Lib.Math.max.name, Cond.static Lib.Math.max.name, Cond.code Lib.Math.max.name Lib.Math.max.code 2 (some .int), Cond.instanceMethod yX0_loosed, Cond.selects RX0 yX0_loosed yX0_loosed, Cond.code yX0_loosed cX0_loosed 2 (some .int), Cond.methodLink RX0 63 yX0_wound, Cond.instanceMethod yX0_wound, Cond.selects RX0 yX0_wound yX0_wound, Cond.code yX0_wound cX0_wound 3 (some .int), Cond.methodLink RX4 69 yX4_gustOf, Cond.instanceMethod yX4_gustOf, Cond.selects RX4 yX4_gustOf yX4_gustOf, Cond.code yX4_gustOf cX4_gustOf 5 (some .int), Cond.constantLong RX4 91 (7919), Cond.constantLong RX4 93 (6151), Cond.constantLong RX4 95 (65521), Cond.methodLink RX4 79 yX4_drift, Cond.methodLink RX8 70 yX8_note, Cond.instanceMethod yX8_note, Cond.selects RX8 yX8_note yX8_note]
def wsX9_span_r5 : List Cond := [Cond.code yX8_note cX8_note 2 none, Cond.methodLink RX8 77 Lib.Math.max.name, Cond.fieldLink RX8 25 "BandBoat$Trial" "path" "[I", Cond.instanceMethod yX3_answer, Cond.selects RX3 yX3_answer yX3_answer, Cond.code yX3_answer cX3_answer 2 (some .int), Cond.instanceMethod yX3_put, Cond.selects RX3 yX3_put yX3_put, Cond.code yX3_put cX3_put 3 none]
def wsX9_span : List Cond := .code yX9_span cX9_span 4 (some .int) :: ((wsX9_span_r1 ++ (wsX9_span_r2 ++ (wsX9_span_r3 ++ (wsX9_span_r4 ++ wsX9_span_r5)))) ++ wsX90 ++ wsX30 ++ wsX80 ++ wsX40 ++ wsX60 ++ wsX00)
def wsX9_searchStraight_r1 : List Cond := [Cond.fieldLink RX9 30 "BandBoat" "tried" "LBandBoat$Rig;", Cond.fieldLink RX9 26 "BandBoat" "laid" "LBandBoat$Rig;", Cond.fieldLink RX9 88 "BandBoat" "straightMemo" "LBandBoat$Memo;", Cond.constant RX9 179 (10000000), Cond.fieldLink RX9 43 "BandBoat" "trial" "LBandBoat$Trial;", Cond.methodLink RX9 206 Lib.Math.abs.name, Cond.static Lib.Math.abs.name, Cond.initialized "java/lang/Math", Cond.code Lib.Math.abs.name Lib.Math.abs.code 1 (some .int), Cond.instanceMethod yX6_copy, Cond.initialized RX6, Cond.selects RX6 yX6_copy yX6_copy, Cond.code yX6_copy cX6_copy 2 none, Cond.fieldLink RX6 7 "BandBoat$Rig" "stuffs" "I", Cond.fieldLink RX6 13 "BandBoat$Rig" "banded" "Z", Cond.fieldLink RX6 17 "BandBoat$Rig" "pulls" "I", Cond.fieldLink RX6 20 "BandBoat$Rig" "loses" "I", Cond.fieldLink RX6 23 "BandBoat$Rig" "knots" "I", Cond.fieldLink RX6 26 "BandBoat$Rig" "snaps" "I", Cond.fieldLink RX6 29 "BandBoat$Rig" "strands" "I", Cond.fieldLink RX6 32 "BandBoat$Rig" "length" "I", Cond.fieldLink RX6 35 "BandBoat$Rig" "pitch" "I", Cond.fieldLink RX6 38 "BandBoat$Rig" "width" "I", Cond.fieldLink RX6 41 "BandBoat$Rig" "weight" "I"]
def wsX9_searchStraight_r2 : List Cond := [Cond.fieldLink RX6 44 "BandBoat$Rig" "drag" "I", Cond.fieldLink RX6 47 "BandBoat$Rig" "veer" "I", Cond.fieldLink RX6 50 "BandBoat$Rig" "rudder" "I", Cond.fieldLink RX6 53 "BandBoat$Rig" "cold" "I", Cond.fieldLink RX6 56 "BandBoat$Rig" "days" "I", Cond.fieldLink RX6 59 "BandBoat$Rig" "gust" "I", Cond.instanceMethod yX3_learn, Cond.initialized RX3, Cond.selects RX3 yX3_learn yX3_learn, Cond.code yX3_learn cX3_learn 4 none, Cond.fieldLink RX3 13 "BandBoat$Memo" "known" "Z", Cond.fieldLink RX3 17 "BandBoat$Memo" "first" "I", Cond.fieldLink RX3 21 "BandBoat$Memo" "second" "I", Cond.fieldLink RX3 7 "BandBoat$Memo" "answers" "[I", Cond.instanceMethod yX8_make, Cond.initialized RX8, Cond.selects RX8 yX8_make yX8_make, Cond.code yX8_make cX8_make 8 none, Cond.fieldLink RX8 21 "BandBoat$Trial" "band" "LBandBoat$Band;", Cond.fieldLink RX8 12 "BandBoat$Trial" "motion" "LBandBoat$Motion;", Cond.fieldLink RX8 40 "BandBoat$Trial" "tenths" "I", Cond.fieldLink RX8 43 "BandBoat$Trial" "topPace" "I", Cond.fieldLink RX8 46 "BandBoat$Trial" "emptyAt" "I", Cond.instanceMethod yX0_fit]
def wsX9_searchStraight_r3 : List Cond := [Cond.initialized RX0, Cond.selects RX0 yX0_fit yX0_fit, Cond.code yX0_fit cX0_fit 2 none, Cond.fieldLink RX0 16 "BandBoat$Band" "force" "I", Cond.fieldLink RX0 24 "BandBoat$Band" "stretch" "I", Cond.fieldLink RX0 36 "BandBoat$Band" "knot" "I", Cond.fieldLink RX0 42 "BandBoat$Band" "warmth" "I", Cond.fieldLink RX0 48 "BandBoat$Band" "returned" "I", Cond.fieldLink RX0 54 "BandBoat$Band" "fresh" "I", Cond.fieldLink RX0 60 "BandBoat$Band" "spinBy" "I", Cond.static yX9_cut, Cond.initialized RX9, Cond.code yX9_cut cX9_cut 2 (some .int), Cond.instanceMethod yX4_rest, Cond.initialized RX4, Cond.selects RX4 yX4_rest yX4_rest, Cond.code yX4_rest cX4_rest 1 none, Cond.fieldLink RX4 9 "BandBoat$Motion" "parts" "I", Cond.fieldLink RX4 15 "BandBoat$Motion" "pace" "I", Cond.fieldLink RX4 18 "BandBoat$Motion" "place" "I", Cond.fieldLink RX4 21 "BandBoat$Motion" "turn" "I", Cond.fieldLink RX4 24 "BandBoat$Motion" "side" "I", Cond.fieldLink RX4 27 "BandBoat$Motion" "tenth" "I", Cond.fieldLink RX4 30 "BandBoat$Motion" "steady" "Z"]
def wsX9_searchStraight_r4 : List Cond := [Cond.instanceMethod yX4_isOver, Cond.selects RX4 yX4_isOver yX4_isOver, Cond.code yX4_isOver cX4_isOver 1 (some .boolean), Cond.instanceMethod yX4_drift, Cond.selects RX4 yX4_drift yX4_drift, Cond.code yX4_drift cX4_drift 3 none, Cond.constant RX4 89 (-9999999), Cond.constant RX4 90 (9999999), Cond.static yX9_limit, Cond.code yX9_limit cX9_limit 3 (some .int), Cond.instanceMethod yX4_step, Cond.selects RX4 yX4_step yX4_step, Cond.code yX4_step cX4_step 8 none, Cond.methodLink RX4 47 Lib.Math.min.name, Cond.static Lib.Math.min.name, Cond.code Lib.Math.min.name Lib.Math.min.code 2 (some .int), Cond.methodLink RX4 57 Lib.Math.max.name, Cond.static Lib.Math.max.name, Cond.code Lib.Math.max.name Lib.Math.max.code 2 (some .int), Cond.instanceMethod yX0_loosed, Cond.selects RX0 yX0_loosed yX0_loosed, Cond.code yX0_loosed cX0_loosed 2 (some .int), Cond.methodLink RX0 63 yX0_wound, Cond.instanceMethod yX0_wound]
def wsX9_searchStraight_r5 : List Cond := [Cond.selects RX0 yX0_wound yX0_wound, Cond.code yX0_wound cX0_wound 3 (some .int), Cond.methodLink RX4 69 yX4_gustOf, Cond.instanceMethod yX4_gustOf, Cond.selects RX4 yX4_gustOf yX4_gustOf, Cond.code yX4_gustOf cX4_gustOf 5 (some .int), Cond.constantLong RX4 91 (7919), Cond.constantLong RX4 93 (6151), Cond.constantLong RX4 95 (65521), Cond.methodLink RX4 79 yX4_drift, Cond.methodLink RX8 70 yX8_note, Cond.instanceMethod yX8_note, Cond.selects RX8 yX8_note yX8_note, Cond.code yX8_note cX8_note 2 none, Cond.methodLink RX8 77 Lib.Math.max.name, Cond.fieldLink RX8 25 "BandBoat$Trial" "path" "[I", Cond.instanceMethod yX3_put, Cond.selects RX3 yX3_put yX3_put, Cond.code yX3_put cX3_put 3 none]
def wsX9_searchStraight : List Cond := .code yX9_searchStraight cX9_searchStraight 5 none :: ((wsX9_searchStraight_r1 ++ (wsX9_searchStraight_r2 ++ (wsX9_searchStraight_r3 ++ (wsX9_searchStraight_r4 ++ wsX9_searchStraight_r5)))) ++ wsX90 ++ wsX60 ++ wsX80 ++ wsX40 ++ wsX30 ++ wsX00)
def wsX9_straight_r1 : List Cond := [Cond.fieldLink RX9 88 "BandBoat" "straightMemo" "LBandBoat$Memo;", Cond.methodLink RX9 156 yX9_isTurns, Cond.static yX9_isTurns, Cond.initialized RX9, Cond.code yX9_isTurns cX9_isTurns 1 (some .boolean), Cond.methodLink RX9 104 yX9_within, Cond.static yX9_within, Cond.code yX9_within cX9_within 3 (some .boolean), Cond.instanceMethod yX3_holds, Cond.initialized RX3, Cond.selects RX3 yX3_holds yX3_holds, Cond.code yX3_holds cX3_holds 3 (some .boolean), Cond.fieldLink RX3 13 "BandBoat$Memo" "known" "Z", Cond.fieldLink RX3 17 "BandBoat$Memo" "first" "I", Cond.fieldLink RX3 21 "BandBoat$Memo" "second" "I", Cond.methodLink RX9 214 yX9_searchStraight, Cond.instanceMethod yX9_searchStraight, Cond.selects RX9 yX9_searchStraight yX9_searchStraight, Cond.code yX9_searchStraight cX9_searchStraight 5 none, Cond.fieldLink RX9 30 "BandBoat" "tried" "LBandBoat$Rig;", Cond.fieldLink RX9 26 "BandBoat" "laid" "LBandBoat$Rig;", Cond.constant RX9 179 (10000000), Cond.fieldLink RX9 43 "BandBoat" "trial" "LBandBoat$Trial;", Cond.methodLink RX9 206 Lib.Math.abs.name]
def wsX9_straight_r2 : List Cond := [Cond.static Lib.Math.abs.name, Cond.initialized "java/lang/Math", Cond.code Lib.Math.abs.name Lib.Math.abs.code 1 (some .int), Cond.instanceMethod yX6_copy, Cond.initialized RX6, Cond.selects RX6 yX6_copy yX6_copy, Cond.code yX6_copy cX6_copy 2 none, Cond.fieldLink RX6 7 "BandBoat$Rig" "stuffs" "I", Cond.fieldLink RX6 13 "BandBoat$Rig" "banded" "Z", Cond.fieldLink RX6 17 "BandBoat$Rig" "pulls" "I", Cond.fieldLink RX6 20 "BandBoat$Rig" "loses" "I", Cond.fieldLink RX6 23 "BandBoat$Rig" "knots" "I", Cond.fieldLink RX6 26 "BandBoat$Rig" "snaps" "I", Cond.fieldLink RX6 29 "BandBoat$Rig" "strands" "I", Cond.fieldLink RX6 32 "BandBoat$Rig" "length" "I", Cond.fieldLink RX6 35 "BandBoat$Rig" "pitch" "I", Cond.fieldLink RX6 38 "BandBoat$Rig" "width" "I", Cond.fieldLink RX6 41 "BandBoat$Rig" "weight" "I", Cond.fieldLink RX6 44 "BandBoat$Rig" "drag" "I", Cond.fieldLink RX6 47 "BandBoat$Rig" "veer" "I", Cond.fieldLink RX6 50 "BandBoat$Rig" "rudder" "I", Cond.fieldLink RX6 53 "BandBoat$Rig" "cold" "I", Cond.fieldLink RX6 56 "BandBoat$Rig" "days" "I", Cond.fieldLink RX6 59 "BandBoat$Rig" "gust" "I"]
def wsX9_straight_r3 : List Cond := [Cond.instanceMethod yX3_learn, Cond.selects RX3 yX3_learn yX3_learn, Cond.code yX3_learn cX3_learn 4 none, Cond.fieldLink RX3 7 "BandBoat$Memo" "answers" "[I", Cond.instanceMethod yX8_make, Cond.initialized RX8, Cond.selects RX8 yX8_make yX8_make, Cond.code yX8_make cX8_make 8 none, Cond.fieldLink RX8 21 "BandBoat$Trial" "band" "LBandBoat$Band;", Cond.fieldLink RX8 12 "BandBoat$Trial" "motion" "LBandBoat$Motion;", Cond.fieldLink RX8 40 "BandBoat$Trial" "tenths" "I", Cond.fieldLink RX8 43 "BandBoat$Trial" "topPace" "I", Cond.fieldLink RX8 46 "BandBoat$Trial" "emptyAt" "I", Cond.instanceMethod yX0_fit, Cond.initialized RX0, Cond.selects RX0 yX0_fit yX0_fit, Cond.code yX0_fit cX0_fit 2 none, Cond.fieldLink RX0 16 "BandBoat$Band" "force" "I", Cond.fieldLink RX0 24 "BandBoat$Band" "stretch" "I", Cond.fieldLink RX0 36 "BandBoat$Band" "knot" "I", Cond.fieldLink RX0 42 "BandBoat$Band" "warmth" "I", Cond.fieldLink RX0 48 "BandBoat$Band" "returned" "I", Cond.fieldLink RX0 54 "BandBoat$Band" "fresh" "I", Cond.fieldLink RX0 60 "BandBoat$Band" "spinBy" "I"]
def wsX9_straight_r4 : List Cond := [Cond.static yX9_cut, Cond.code yX9_cut cX9_cut 2 (some .int), Cond.instanceMethod yX4_rest, Cond.initialized RX4, Cond.selects RX4 yX4_rest yX4_rest, Cond.code yX4_rest cX4_rest 1 none, Cond.fieldLink RX4 9 "BandBoat$Motion" "parts" "I", Cond.fieldLink RX4 15 "BandBoat$Motion" "pace" "I", Cond.fieldLink RX4 18 "BandBoat$Motion" "place" "I", Cond.fieldLink RX4 21 "BandBoat$Motion" "turn" "I", Cond.fieldLink RX4 24 "BandBoat$Motion" "side" "I", Cond.fieldLink RX4 27 "BandBoat$Motion" "tenth" "I", Cond.fieldLink RX4 30 "BandBoat$Motion" "steady" "Z", Cond.instanceMethod yX4_isOver, Cond.selects RX4 yX4_isOver yX4_isOver, Cond.code yX4_isOver cX4_isOver 1 (some .boolean), Cond.instanceMethod yX4_drift, Cond.selects RX4 yX4_drift yX4_drift, Cond.code yX4_drift cX4_drift 3 none, Cond.constant RX4 89 (-9999999), Cond.constant RX4 90 (9999999), Cond.static yX9_limit, Cond.code yX9_limit cX9_limit 3 (some .int), Cond.instanceMethod yX4_step]
def wsX9_straight_r5 : List Cond := [Cond.selects RX4 yX4_step yX4_step, Cond.code yX4_step cX4_step 8 none, Cond.methodLink RX4 47 Lib.Math.min.name, Cond.static Lib.Math.min.name, Cond.code Lib.Math.min.name Lib.Math.min.code 2 (some .int), Cond.methodLink RX4 57 Lib.Math.max.name, Cond.static Lib.Math.max.name, Cond.code Lib.Math.max.name Lib.Math.max.code 2 (some .int), Cond.instanceMethod yX0_loosed, Cond.selects RX0 yX0_loosed yX0_loosed, Cond.code yX0_loosed cX0_loosed 2 (some .int), Cond.methodLink RX0 63 yX0_wound, Cond.instanceMethod yX0_wound, Cond.selects RX0 yX0_wound yX0_wound, Cond.code yX0_wound cX0_wound 3 (some .int), Cond.methodLink RX4 69 yX4_gustOf, Cond.instanceMethod yX4_gustOf, Cond.selects RX4 yX4_gustOf yX4_gustOf, Cond.code yX4_gustOf cX4_gustOf 5 (some .int), Cond.constantLong RX4 91 (7919), Cond.constantLong RX4 93 (6151), Cond.constantLong RX4 95 (65521), Cond.methodLink RX4 79 yX4_drift, Cond.methodLink RX8 70 yX8_note]
def wsX9_straight_r6 : List Cond := [Cond.instanceMethod yX8_note, Cond.selects RX8 yX8_note yX8_note, Cond.code yX8_note cX8_note 2 none, Cond.methodLink RX8 77 Lib.Math.max.name, Cond.fieldLink RX8 25 "BandBoat$Trial" "path" "[I", Cond.instanceMethod yX3_put, Cond.selects RX3 yX3_put yX3_put, Cond.code yX3_put cX3_put 3 none, Cond.instanceMethod yX3_answer, Cond.selects RX3 yX3_answer yX3_answer, Cond.code yX3_answer cX3_answer 2 (some .int)]
def wsX9_straight : List Cond := .code yX9_straight cX9_straight 3 (some .int) :: ((wsX9_straight_r1 ++ (wsX9_straight_r2 ++ (wsX9_straight_r3 ++ (wsX9_straight_r4 ++ (wsX9_straight_r5 ++ wsX9_straight_r6))))) ++ wsX90 ++ wsX30 ++ wsX60 ++ wsX80 ++ wsX40 ++ wsX00)
def wsX9_two_r1 : List Cond := [Cond.fieldLink RX9 43 "BandBoat" "trial" "LBandBoat$Trial;", Cond.fieldLink RX9 26 "BandBoat" "laid" "LBandBoat$Rig;", Cond.methodLink RX9 104 yX9_within, Cond.static yX9_within, Cond.initialized RX9, Cond.code yX9_within cX9_within 3 (some .boolean), Cond.instanceMethod yX8_make, Cond.initialized RX8, Cond.selects RX8 yX8_make yX8_make, Cond.code yX8_make cX8_make 8 none, Cond.fieldLink RX8 21 "BandBoat$Trial" "band" "LBandBoat$Band;", Cond.fieldLink RX8 12 "BandBoat$Trial" "motion" "LBandBoat$Motion;", Cond.fieldLink RX8 40 "BandBoat$Trial" "tenths" "I", Cond.fieldLink RX8 43 "BandBoat$Trial" "topPace" "I", Cond.fieldLink RX8 46 "BandBoat$Trial" "emptyAt" "I", Cond.instanceMethod yX0_fit, Cond.initialized RX0, Cond.selects RX0 yX0_fit yX0_fit, Cond.code yX0_fit cX0_fit 2 none, Cond.fieldLink RX0 16 "BandBoat$Band" "force" "I", Cond.fieldLink RX0 24 "BandBoat$Band" "stretch" "I", Cond.fieldLink RX0 36 "BandBoat$Band" "knot" "I", Cond.fieldLink RX0 42 "BandBoat$Band" "warmth" "I", Cond.fieldLink RX0 48 "BandBoat$Band" "returned" "I"]
def wsX9_two_r2 : List Cond := [Cond.fieldLink RX0 54 "BandBoat$Band" "fresh" "I", Cond.fieldLink RX0 60 "BandBoat$Band" "spinBy" "I", Cond.static yX9_cut, Cond.code yX9_cut cX9_cut 2 (some .int), Cond.instanceMethod yX4_rest, Cond.initialized RX4, Cond.selects RX4 yX4_rest yX4_rest, Cond.code yX4_rest cX4_rest 1 none, Cond.fieldLink RX4 9 "BandBoat$Motion" "parts" "I", Cond.fieldLink RX4 15 "BandBoat$Motion" "pace" "I", Cond.fieldLink RX4 18 "BandBoat$Motion" "place" "I", Cond.fieldLink RX4 21 "BandBoat$Motion" "turn" "I", Cond.fieldLink RX4 24 "BandBoat$Motion" "side" "I", Cond.fieldLink RX4 27 "BandBoat$Motion" "tenth" "I", Cond.fieldLink RX4 30 "BandBoat$Motion" "steady" "Z", Cond.instanceMethod yX4_isOver, Cond.selects RX4 yX4_isOver yX4_isOver, Cond.code yX4_isOver cX4_isOver 1 (some .boolean), Cond.instanceMethod yX4_drift, Cond.selects RX4 yX4_drift yX4_drift, Cond.code yX4_drift cX4_drift 3 none, Cond.constant RX4 89 (-9999999), Cond.constant RX4 90 (9999999), Cond.static yX9_limit]
def wsX9_two_r3 : List Cond := [Cond.code yX9_limit cX9_limit 3 (some .int), Cond.instanceMethod yX4_step, Cond.selects RX4 yX4_step yX4_step, Cond.code yX4_step cX4_step 8 none, Cond.methodLink RX4 47 Lib.Math.min.name, Cond.static Lib.Math.min.name, Cond.initialized "java/lang/Math", Cond.code Lib.Math.min.name Lib.Math.min.code 2 (some .int), Cond.methodLink RX4 57 Lib.Math.max.name, Cond.static Lib.Math.max.name, Cond.code Lib.Math.max.name Lib.Math.max.code 2 (some .int), Cond.instanceMethod yX0_loosed, Cond.selects RX0 yX0_loosed yX0_loosed, Cond.code yX0_loosed cX0_loosed 2 (some .int), Cond.methodLink RX0 63 yX0_wound, Cond.instanceMethod yX0_wound, Cond.selects RX0 yX0_wound yX0_wound, Cond.code yX0_wound cX0_wound 3 (some .int), Cond.methodLink RX4 69 yX4_gustOf, Cond.instanceMethod yX4_gustOf, Cond.selects RX4 yX4_gustOf yX4_gustOf, Cond.code yX4_gustOf cX4_gustOf 5 (some .int), Cond.constantLong RX4 91 (7919), Cond.constantLong RX4 93 (6151)]
def wsX9_two_r4 : List Cond := [Cond.constantLong RX4 95 (65521), Cond.methodLink RX4 79 yX4_drift, Cond.methodLink RX8 70 yX8_note, Cond.instanceMethod yX8_note, Cond.selects RX8 yX8_note yX8_note, Cond.code yX8_note cX8_note 2 none, Cond.methodLink RX8 77 Lib.Math.max.name, Cond.fieldLink RX8 25 "BandBoat$Trial" "path" "[I"]
def wsX9_two : List Cond := .code yX9_two cX9_two 2 (some .int) :: ((wsX9_two_r1 ++ (wsX9_two_r2 ++ (wsX9_two_r3 ++ wsX9_two_r4))) ++ wsX90 ++ wsX80 ++ wsX40 ++ wsX60 ++ wsX00)
def wsX9_reading : List Cond := .code yX9_reading cX9_reading 4 (some .int) :: ([.fieldLink RX9 50 "BandBoat" "gauge" "LBandBoat$Gauge;", .fieldLink RX9 91 "BandBoat" "fitsMemo" "LBandBoat$Memo;", .methodLink RX9 156 yX9_isTurns, .static yX9_isTurns, .initialized RX9, .code yX9_isTurns cX9_isTurns 1 (some .boolean), .methodLink RX9 104 yX9_within, .static yX9_within, .code yX9_within cX9_within 3 (some .boolean), .instanceMethod yX1_add, .initialized RX1, .selects RX1 yX1_add yX1_add, .code yX1_add cX1_add 4 (some .boolean), .fieldLink RX1 21 "BandBoat$Gauge" "readings" "I", .fieldLink RX1 9 "BandBoat$Gauge" "turns" "[I", .fieldLink RX1 15 "BandBoat$Gauge" "ups" "[I", .fieldLink RX1 18 "BandBoat$Gauge" "downs" "[I", .instanceMethod yX3_drop, .initialized RX3, .selects RX3 yX3_drop yX3_drop, .code yX3_drop cX3_drop 1 none, .fieldLink RX3 13 "BandBoat$Memo" "known" "Z"] ++ wsX90 ++ wsX10 ++ wsX30)
def wsX9_searchLoses_r1 : List Cond := [Cond.fieldLink RX9 30 "BandBoat" "tried" "LBandBoat$Rig;", Cond.fieldLink RX9 43 "BandBoat" "trial" "LBandBoat$Trial;", Cond.fieldLink RX9 50 "BandBoat" "gauge" "LBandBoat$Gauge;", Cond.fieldLink RX9 91 "BandBoat" "fitsMemo" "LBandBoat$Memo;", Cond.instanceMethod yX0_fit, Cond.initialized RX0, Cond.selects RX0 yX0_fit yX0_fit, Cond.code yX0_fit cX0_fit 2 none, Cond.fieldLink RX0 16 "BandBoat$Band" "force" "I", Cond.fieldLink RX0 24 "BandBoat$Band" "stretch" "I", Cond.fieldLink RX0 36 "BandBoat$Band" "knot" "I", Cond.fieldLink RX0 42 "BandBoat$Band" "warmth" "I", Cond.fieldLink RX0 48 "BandBoat$Band" "returned" "I", Cond.fieldLink RX0 54 "BandBoat$Band" "fresh" "I", Cond.fieldLink RX0 60 "BandBoat$Band" "spinBy" "I", Cond.static yX9_cut, Cond.initialized RX9, Cond.code yX9_cut cX9_cut 2 (some .int), Cond.instanceMethod yX1_agrees, Cond.initialized RX1, Cond.selects RX1 yX1_agrees yX1_agrees, Cond.code yX1_agrees cX1_agrees 7 (some .boolean), Cond.fieldLink RX1 21 "BandBoat$Gauge" "readings" "I", Cond.fieldLink RX1 9 "BandBoat$Gauge" "turns" "[I"]
def wsX9_searchLoses_r2 : List Cond := [Cond.fieldLink RX1 18 "BandBoat$Gauge" "downs" "[I", Cond.fieldLink RX1 15 "BandBoat$Gauge" "ups" "[I", Cond.methodLink RX1 38 Lib.Math.abs.name, Cond.static Lib.Math.abs.name, Cond.initialized "java/lang/Math", Cond.code Lib.Math.abs.name Lib.Math.abs.code 1 (some .int), Cond.instanceMethod yX0_loosed, Cond.selects RX0 yX0_loosed yX0_loosed, Cond.code yX0_loosed cX0_loosed 2 (some .int), Cond.methodLink RX0 63 yX0_wound, Cond.instanceMethod yX0_wound, Cond.selects RX0 yX0_wound yX0_wound, Cond.code yX0_wound cX0_wound 3 (some .int), Cond.instanceMethod yX3_answer, Cond.initialized RX3, Cond.selects RX3 yX3_answer yX3_answer, Cond.code yX3_answer cX3_answer 2 (some .int), Cond.fieldLink RX3 7 "BandBoat$Memo" "answers" "[I", Cond.instanceMethod yX3_put, Cond.selects RX3 yX3_put yX3_put, Cond.code yX3_put cX3_put 3 none, Cond.instanceMethod yX3_widen, Cond.selects RX3 yX3_widen yX3_widen, Cond.code yX3_widen cX3_widen 4 none]
def wsX9_searchLoses_r3 : List Cond := [Cond.methodLink RX3 24 yX3_answer, Cond.methodLink RX3 28 yX3_put]
def wsX9_searchLoses : List Cond := .code yX9_searchLoses cX9_searchLoses 4 none :: ((wsX9_searchLoses_r1 ++ (wsX9_searchLoses_r2 ++ wsX9_searchLoses_r3)) ++ wsX90 ++ wsX60 ++ wsX80 ++ wsX00 ++ wsX10 ++ wsX30)
def wsX9_searchFits_r1 : List Cond := [Cond.fieldLink RX9 30 "BandBoat" "tried" "LBandBoat$Rig;", Cond.fieldLink RX9 26 "BandBoat" "laid" "LBandBoat$Rig;", Cond.fieldLink RX9 91 "BandBoat" "fitsMemo" "LBandBoat$Memo;", Cond.fieldLink RX9 43 "BandBoat" "trial" "LBandBoat$Trial;", Cond.fieldLink RX9 50 "BandBoat" "gauge" "LBandBoat$Gauge;", Cond.instanceMethod yX6_copy, Cond.initialized RX6, Cond.selects RX6 yX6_copy yX6_copy, Cond.code yX6_copy cX6_copy 2 none, Cond.fieldLink RX6 7 "BandBoat$Rig" "stuffs" "I", Cond.fieldLink RX6 13 "BandBoat$Rig" "banded" "Z", Cond.fieldLink RX6 17 "BandBoat$Rig" "pulls" "I", Cond.fieldLink RX6 20 "BandBoat$Rig" "loses" "I", Cond.fieldLink RX6 23 "BandBoat$Rig" "knots" "I", Cond.fieldLink RX6 26 "BandBoat$Rig" "snaps" "I", Cond.fieldLink RX6 29 "BandBoat$Rig" "strands" "I", Cond.fieldLink RX6 32 "BandBoat$Rig" "length" "I", Cond.fieldLink RX6 35 "BandBoat$Rig" "pitch" "I", Cond.fieldLink RX6 38 "BandBoat$Rig" "width" "I", Cond.fieldLink RX6 41 "BandBoat$Rig" "weight" "I", Cond.fieldLink RX6 44 "BandBoat$Rig" "drag" "I", Cond.fieldLink RX6 47 "BandBoat$Rig" "veer" "I", Cond.fieldLink RX6 50 "BandBoat$Rig" "rudder" "I", Cond.fieldLink RX6 53 "BandBoat$Rig" "cold" "I"]
def wsX9_searchFits_r2 : List Cond := [Cond.fieldLink RX6 56 "BandBoat$Rig" "days" "I", Cond.fieldLink RX6 59 "BandBoat$Rig" "gust" "I", Cond.instanceMethod yX3_learn, Cond.initialized RX3, Cond.selects RX3 yX3_learn yX3_learn, Cond.code yX3_learn cX3_learn 4 none, Cond.fieldLink RX3 13 "BandBoat$Memo" "known" "Z", Cond.fieldLink RX3 17 "BandBoat$Memo" "first" "I", Cond.fieldLink RX3 21 "BandBoat$Memo" "second" "I", Cond.fieldLink RX3 7 "BandBoat$Memo" "answers" "[I", Cond.instanceMethod yX0_fit, Cond.initialized RX0, Cond.selects RX0 yX0_fit yX0_fit, Cond.code yX0_fit cX0_fit 2 none, Cond.fieldLink RX0 16 "BandBoat$Band" "force" "I", Cond.fieldLink RX0 24 "BandBoat$Band" "stretch" "I", Cond.fieldLink RX0 36 "BandBoat$Band" "knot" "I", Cond.fieldLink RX0 42 "BandBoat$Band" "warmth" "I", Cond.fieldLink RX0 48 "BandBoat$Band" "returned" "I", Cond.fieldLink RX0 54 "BandBoat$Band" "fresh" "I", Cond.fieldLink RX0 60 "BandBoat$Band" "spinBy" "I", Cond.static yX9_cut, Cond.initialized RX9, Cond.code yX9_cut cX9_cut 2 (some .int)]
def wsX9_searchFits_r3 : List Cond := [Cond.instanceMethod yX1_agrees, Cond.initialized RX1, Cond.selects RX1 yX1_agrees yX1_agrees, Cond.code yX1_agrees cX1_agrees 7 (some .boolean), Cond.fieldLink RX1 21 "BandBoat$Gauge" "readings" "I", Cond.fieldLink RX1 9 "BandBoat$Gauge" "turns" "[I", Cond.fieldLink RX1 18 "BandBoat$Gauge" "downs" "[I", Cond.fieldLink RX1 15 "BandBoat$Gauge" "ups" "[I", Cond.methodLink RX1 38 Lib.Math.abs.name, Cond.static Lib.Math.abs.name, Cond.initialized "java/lang/Math", Cond.code Lib.Math.abs.name Lib.Math.abs.code 1 (some .int), Cond.instanceMethod yX0_loosed, Cond.selects RX0 yX0_loosed yX0_loosed, Cond.code yX0_loosed cX0_loosed 2 (some .int), Cond.methodLink RX0 63 yX0_wound, Cond.instanceMethod yX0_wound, Cond.selects RX0 yX0_wound yX0_wound, Cond.code yX0_wound cX0_wound 3 (some .int), Cond.methodLink RX9 297 yX9_searchLoses, Cond.instanceMethod yX9_searchLoses, Cond.selects RX9 yX9_searchLoses yX9_searchLoses, Cond.code yX9_searchLoses cX9_searchLoses 4 none, Cond.instanceMethod yX3_answer]
def wsX9_searchFits_r4 : List Cond := [Cond.selects RX3 yX3_answer yX3_answer, Cond.code yX3_answer cX3_answer 2 (some .int), Cond.instanceMethod yX3_put, Cond.selects RX3 yX3_put yX3_put, Cond.code yX3_put cX3_put 3 none, Cond.instanceMethod yX3_widen, Cond.selects RX3 yX3_widen yX3_widen, Cond.code yX3_widen cX3_widen 4 none, Cond.methodLink RX3 24 yX3_answer, Cond.methodLink RX3 28 yX3_put]
def wsX9_searchFits : List Cond := .code yX9_searchFits cX9_searchFits 3 none :: ((wsX9_searchFits_r1 ++ (wsX9_searchFits_r2 ++ (wsX9_searchFits_r3 ++ wsX9_searchFits_r4))) ++ wsX90 ++ wsX60 ++ wsX80 ++ wsX30 ++ wsX00 ++ wsX10)
def wsX9_fits_r1 : List Cond := [Cond.fieldLink RX9 91 "BandBoat" "fitsMemo" "LBandBoat$Memo;", Cond.methodLink RX9 104 yX9_within, Cond.static yX9_within, Cond.initialized RX9, Cond.code yX9_within cX9_within 3 (some .boolean), Cond.instanceMethod yX3_holds, Cond.initialized RX3, Cond.selects RX3 yX3_holds yX3_holds, Cond.code yX3_holds cX3_holds 3 (some .boolean), Cond.fieldLink RX3 13 "BandBoat$Memo" "known" "Z", Cond.fieldLink RX3 17 "BandBoat$Memo" "first" "I", Cond.fieldLink RX3 21 "BandBoat$Memo" "second" "I", Cond.methodLink RX9 223 yX9_searchFits, Cond.instanceMethod yX9_searchFits, Cond.selects RX9 yX9_searchFits yX9_searchFits, Cond.code yX9_searchFits cX9_searchFits 3 none, Cond.fieldLink RX9 30 "BandBoat" "tried" "LBandBoat$Rig;", Cond.fieldLink RX9 26 "BandBoat" "laid" "LBandBoat$Rig;", Cond.fieldLink RX9 43 "BandBoat" "trial" "LBandBoat$Trial;", Cond.fieldLink RX9 50 "BandBoat" "gauge" "LBandBoat$Gauge;", Cond.instanceMethod yX6_copy, Cond.initialized RX6, Cond.selects RX6 yX6_copy yX6_copy, Cond.code yX6_copy cX6_copy 2 none]
def wsX9_fits_r2 : List Cond := [Cond.fieldLink RX6 7 "BandBoat$Rig" "stuffs" "I", Cond.fieldLink RX6 13 "BandBoat$Rig" "banded" "Z", Cond.fieldLink RX6 17 "BandBoat$Rig" "pulls" "I", Cond.fieldLink RX6 20 "BandBoat$Rig" "loses" "I", Cond.fieldLink RX6 23 "BandBoat$Rig" "knots" "I", Cond.fieldLink RX6 26 "BandBoat$Rig" "snaps" "I", Cond.fieldLink RX6 29 "BandBoat$Rig" "strands" "I", Cond.fieldLink RX6 32 "BandBoat$Rig" "length" "I", Cond.fieldLink RX6 35 "BandBoat$Rig" "pitch" "I", Cond.fieldLink RX6 38 "BandBoat$Rig" "width" "I", Cond.fieldLink RX6 41 "BandBoat$Rig" "weight" "I", Cond.fieldLink RX6 44 "BandBoat$Rig" "drag" "I", Cond.fieldLink RX6 47 "BandBoat$Rig" "veer" "I", Cond.fieldLink RX6 50 "BandBoat$Rig" "rudder" "I", Cond.fieldLink RX6 53 "BandBoat$Rig" "cold" "I", Cond.fieldLink RX6 56 "BandBoat$Rig" "days" "I", Cond.fieldLink RX6 59 "BandBoat$Rig" "gust" "I", Cond.instanceMethod yX3_learn, Cond.selects RX3 yX3_learn yX3_learn, Cond.code yX3_learn cX3_learn 4 none, Cond.fieldLink RX3 7 "BandBoat$Memo" "answers" "[I", Cond.instanceMethod yX0_fit, Cond.initialized RX0, Cond.selects RX0 yX0_fit yX0_fit]
def wsX9_fits_r3 : List Cond := [Cond.code yX0_fit cX0_fit 2 none, Cond.fieldLink RX0 16 "BandBoat$Band" "force" "I", Cond.fieldLink RX0 24 "BandBoat$Band" "stretch" "I", Cond.fieldLink RX0 36 "BandBoat$Band" "knot" "I", Cond.fieldLink RX0 42 "BandBoat$Band" "warmth" "I", Cond.fieldLink RX0 48 "BandBoat$Band" "returned" "I", Cond.fieldLink RX0 54 "BandBoat$Band" "fresh" "I", Cond.fieldLink RX0 60 "BandBoat$Band" "spinBy" "I", Cond.static yX9_cut, Cond.code yX9_cut cX9_cut 2 (some .int), Cond.instanceMethod yX1_agrees, Cond.initialized RX1, Cond.selects RX1 yX1_agrees yX1_agrees, Cond.code yX1_agrees cX1_agrees 7 (some .boolean), Cond.fieldLink RX1 21 "BandBoat$Gauge" "readings" "I", Cond.fieldLink RX1 9 "BandBoat$Gauge" "turns" "[I", Cond.fieldLink RX1 18 "BandBoat$Gauge" "downs" "[I", Cond.fieldLink RX1 15 "BandBoat$Gauge" "ups" "[I", Cond.methodLink RX1 38 Lib.Math.abs.name, Cond.static Lib.Math.abs.name, Cond.initialized "java/lang/Math", Cond.code Lib.Math.abs.name Lib.Math.abs.code 1 (some .int), Cond.instanceMethod yX0_loosed, Cond.selects RX0 yX0_loosed yX0_loosed]
def wsX9_fits_r4 : List Cond := [Cond.code yX0_loosed cX0_loosed 2 (some .int), Cond.methodLink RX0 63 yX0_wound, Cond.instanceMethod yX0_wound, Cond.selects RX0 yX0_wound yX0_wound, Cond.code yX0_wound cX0_wound 3 (some .int), Cond.methodLink RX9 297 yX9_searchLoses, Cond.instanceMethod yX9_searchLoses, Cond.selects RX9 yX9_searchLoses yX9_searchLoses, Cond.code yX9_searchLoses cX9_searchLoses 4 none, Cond.instanceMethod yX3_answer, Cond.selects RX3 yX3_answer yX3_answer, Cond.code yX3_answer cX3_answer 2 (some .int), Cond.instanceMethod yX3_put, Cond.selects RX3 yX3_put yX3_put, Cond.code yX3_put cX3_put 3 none, Cond.instanceMethod yX3_widen, Cond.selects RX3 yX3_widen yX3_widen, Cond.code yX3_widen cX3_widen 4 none, Cond.methodLink RX3 24 yX3_answer, Cond.methodLink RX3 28 yX3_put]
def wsX9_fits : List Cond := .code yX9_fits cX9_fits 3 (some .int) :: ((wsX9_fits_r1 ++ (wsX9_fits_r2 ++ (wsX9_fits_r3 ++ wsX9_fits_r4))) ++ wsX90 ++ wsX30 ++ wsX60 ++ wsX80 ++ wsX00 ++ wsX10)
def wsX9_mark : List Cond := .code yX9_mark cX9_mark 3 (some .int) :: ([.constant RX9 183 (99999), .fieldLink RX9 57 "BandBoat" "marks" "LBandBoat$Marks;", .fieldLink RX9 94 "BandBoat" "toldMemo" "LBandBoat$Memo;", .methodLink RX9 104 yX9_within, .static yX9_within, .initialized RX9, .code yX9_within cX9_within 3 (some .boolean), .instanceMethod yX2_add, .initialized RX2, .selects RX2 yX2_add yX2_add, .code yX2_add cX2_add 3 (some .boolean), .fieldLink RX2 18 "BandBoat$Marks" "marked" "I", .fieldLink RX2 9 "BandBoat$Marks" "places" "[I", .fieldLink RX2 15 "BandBoat$Marks" "times" "[I", .instanceMethod yX3_drop, .initialized RX3, .selects RX3 yX3_drop yX3_drop, .code yX3_drop cX3_drop 1 none, .fieldLink RX3 13 "BandBoat$Memo" "known" "Z"] ++ wsX90 ++ wsX20 ++ wsX30)
def wsX9_noteTold : List Cond := .code yX9_noteTold cX9_noteTold 3 none :: ([.fieldLink RX9 94 "BandBoat" "toldMemo" "LBandBoat$Memo;", .fieldLink RX9 30 "BandBoat" "tried" "LBandBoat$Rig;", .instanceMethod yX3_answer, .initialized RX3, .selects RX3 yX3_answer yX3_answer, .code yX3_answer cX3_answer 2 (some .int), .fieldLink RX3 7 "BandBoat$Memo" "answers" "[I", .instanceMethod yX3_put, .selects RX3 yX3_put yX3_put, .code yX3_put cX3_put 3 none, .instanceMethod yX3_widen, .selects RX3 yX3_widen yX3_widen, .code yX3_widen cX3_widen 4 none, .methodLink RX3 24 yX3_answer, .methodLink RX3 28 yX3_put] ++ wsX90 ++ wsX60 ++ wsX30)
def wsX9_searchTold_r1 : List Cond := [Cond.fieldLink RX9 30 "BandBoat" "tried" "LBandBoat$Rig;", Cond.fieldLink RX9 26 "BandBoat" "laid" "LBandBoat$Rig;", Cond.fieldLink RX9 94 "BandBoat" "toldMemo" "LBandBoat$Memo;", Cond.fieldLink RX9 57 "BandBoat" "marks" "LBandBoat$Marks;", Cond.fieldLink RX9 43 "BandBoat" "trial" "LBandBoat$Trial;", Cond.instanceMethod yX6_copy, Cond.initialized RX6, Cond.selects RX6 yX6_copy yX6_copy, Cond.code yX6_copy cX6_copy 2 none, Cond.fieldLink RX6 7 "BandBoat$Rig" "stuffs" "I", Cond.fieldLink RX6 13 "BandBoat$Rig" "banded" "Z", Cond.fieldLink RX6 17 "BandBoat$Rig" "pulls" "I", Cond.fieldLink RX6 20 "BandBoat$Rig" "loses" "I", Cond.fieldLink RX6 23 "BandBoat$Rig" "knots" "I", Cond.fieldLink RX6 26 "BandBoat$Rig" "snaps" "I", Cond.fieldLink RX6 29 "BandBoat$Rig" "strands" "I", Cond.fieldLink RX6 32 "BandBoat$Rig" "length" "I", Cond.fieldLink RX6 35 "BandBoat$Rig" "pitch" "I", Cond.fieldLink RX6 38 "BandBoat$Rig" "width" "I", Cond.fieldLink RX6 41 "BandBoat$Rig" "weight" "I", Cond.fieldLink RX6 44 "BandBoat$Rig" "drag" "I", Cond.fieldLink RX6 47 "BandBoat$Rig" "veer" "I", Cond.fieldLink RX6 50 "BandBoat$Rig" "rudder" "I", Cond.fieldLink RX6 53 "BandBoat$Rig" "cold" "I"]
def wsX9_searchTold_r2 : List Cond := [Cond.fieldLink RX6 56 "BandBoat$Rig" "days" "I", Cond.fieldLink RX6 59 "BandBoat$Rig" "gust" "I", Cond.instanceMethod yX3_learn, Cond.initialized RX3, Cond.selects RX3 yX3_learn yX3_learn, Cond.code yX3_learn cX3_learn 4 none, Cond.fieldLink RX3 13 "BandBoat$Memo" "known" "Z", Cond.fieldLink RX3 17 "BandBoat$Memo" "first" "I", Cond.fieldLink RX3 21 "BandBoat$Memo" "second" "I", Cond.fieldLink RX3 7 "BandBoat$Memo" "answers" "[I", Cond.instanceMethod yX2_latest, Cond.initialized RX2, Cond.selects RX2 yX2_latest yX2_latest, Cond.code yX2_latest cX2_latest 3 (some .int), Cond.fieldLink RX2 18 "BandBoat$Marks" "marked" "I", Cond.fieldLink RX2 15 "BandBoat$Marks" "times" "[I", Cond.methodLink RX2 26 Lib.Math.max.name, Cond.static Lib.Math.max.name, Cond.initialized "java/lang/Math", Cond.code Lib.Math.max.name Lib.Math.max.code 2 (some .int), Cond.instanceMethod yX8_make, Cond.initialized RX8, Cond.selects RX8 yX8_make yX8_make, Cond.code yX8_make cX8_make 8 none]
def wsX9_searchTold_r3 : List Cond := [Cond.fieldLink RX8 21 "BandBoat$Trial" "band" "LBandBoat$Band;", Cond.fieldLink RX8 12 "BandBoat$Trial" "motion" "LBandBoat$Motion;", Cond.fieldLink RX8 40 "BandBoat$Trial" "tenths" "I", Cond.fieldLink RX8 43 "BandBoat$Trial" "topPace" "I", Cond.fieldLink RX8 46 "BandBoat$Trial" "emptyAt" "I", Cond.instanceMethod yX0_fit, Cond.initialized RX0, Cond.selects RX0 yX0_fit yX0_fit, Cond.code yX0_fit cX0_fit 2 none, Cond.fieldLink RX0 16 "BandBoat$Band" "force" "I", Cond.fieldLink RX0 24 "BandBoat$Band" "stretch" "I", Cond.fieldLink RX0 36 "BandBoat$Band" "knot" "I", Cond.fieldLink RX0 42 "BandBoat$Band" "warmth" "I", Cond.fieldLink RX0 48 "BandBoat$Band" "returned" "I", Cond.fieldLink RX0 54 "BandBoat$Band" "fresh" "I", Cond.fieldLink RX0 60 "BandBoat$Band" "spinBy" "I", Cond.static yX9_cut, Cond.initialized RX9, Cond.code yX9_cut cX9_cut 2 (some .int), Cond.instanceMethod yX4_rest, Cond.initialized RX4, Cond.selects RX4 yX4_rest yX4_rest, Cond.code yX4_rest cX4_rest 1 none, Cond.fieldLink RX4 9 "BandBoat$Motion" "parts" "I"]
def wsX9_searchTold_r4 : List Cond := [Cond.fieldLink RX4 15 "BandBoat$Motion" "pace" "I", Cond.fieldLink RX4 18 "BandBoat$Motion" "place" "I", Cond.fieldLink RX4 21 "BandBoat$Motion" "turn" "I", Cond.fieldLink RX4 24 "BandBoat$Motion" "side" "I", Cond.fieldLink RX4 27 "BandBoat$Motion" "tenth" "I", Cond.fieldLink RX4 30 "BandBoat$Motion" "steady" "Z", Cond.instanceMethod yX4_isOver, Cond.selects RX4 yX4_isOver yX4_isOver, Cond.code yX4_isOver cX4_isOver 1 (some .boolean), Cond.instanceMethod yX4_drift, Cond.selects RX4 yX4_drift yX4_drift, Cond.code yX4_drift cX4_drift 3 none, Cond.constant RX4 89 (-9999999), Cond.constant RX4 90 (9999999), Cond.static yX9_limit, Cond.code yX9_limit cX9_limit 3 (some .int), Cond.instanceMethod yX4_step, Cond.selects RX4 yX4_step yX4_step, Cond.code yX4_step cX4_step 8 none, Cond.methodLink RX4 47 Lib.Math.min.name, Cond.static Lib.Math.min.name, Cond.code Lib.Math.min.name Lib.Math.min.code 2 (some .int), Cond.methodLink RX4 57 Lib.Math.max.name, Cond.instanceMethod yX0_loosed]
def wsX9_searchTold_r5 : List Cond := [Cond.selects RX0 yX0_loosed yX0_loosed, Cond.code yX0_loosed cX0_loosed 2 (some .int), Cond.methodLink RX0 63 yX0_wound, Cond.instanceMethod yX0_wound, Cond.selects RX0 yX0_wound yX0_wound, Cond.code yX0_wound cX0_wound 3 (some .int), Cond.methodLink RX4 69 yX4_gustOf, Cond.instanceMethod yX4_gustOf, Cond.selects RX4 yX4_gustOf yX4_gustOf, Cond.code yX4_gustOf cX4_gustOf 5 (some .int), Cond.constantLong RX4 91 (7919), Cond.constantLong RX4 93 (6151), Cond.constantLong RX4 95 (65521), Cond.methodLink RX4 79 yX4_drift, Cond.methodLink RX8 70 yX8_note, Cond.instanceMethod yX8_note, Cond.selects RX8 yX8_note yX8_note, Cond.code yX8_note cX8_note 2 none, Cond.methodLink RX8 77 Lib.Math.max.name, Cond.fieldLink RX8 25 "BandBoat$Trial" "path" "[I", Cond.instanceMethod yX2_agree, Cond.selects RX2 yX2_agree yX2_agree, Cond.code yX2_agree cX2_agree 4 (some .boolean), Cond.fieldLink RX2 9 "BandBoat$Marks" "places" "[I"]
def wsX9_searchTold_r6 : List Cond := [Cond.instanceMethod yX8_reachedBy, Cond.selects RX8 yX8_reachedBy yX8_reachedBy, Cond.code yX8_reachedBy cX8_reachedBy 4 (some .boolean), Cond.methodLink RX8 86 Lib.Math.min.name, Cond.methodLink RX9 315 yX9_noteTold, Cond.instanceMethod yX9_noteTold, Cond.selects RX9 yX9_noteTold yX9_noteTold, Cond.code yX9_noteTold cX9_noteTold 3 none, Cond.instanceMethod yX3_answer, Cond.selects RX3 yX3_answer yX3_answer, Cond.code yX3_answer cX3_answer 2 (some .int), Cond.instanceMethod yX3_put, Cond.selects RX3 yX3_put yX3_put, Cond.code yX3_put cX3_put 3 none, Cond.instanceMethod yX3_widen, Cond.selects RX3 yX3_widen yX3_widen, Cond.code yX3_widen cX3_widen 4 none, Cond.methodLink RX3 24 yX3_answer, Cond.methodLink RX3 28 yX3_put]
def wsX9_searchTold : List Cond := .code yX9_searchTold cX9_searchTold 6 none :: ((wsX9_searchTold_r1 ++ (wsX9_searchTold_r2 ++ (wsX9_searchTold_r3 ++ (wsX9_searchTold_r4 ++ (wsX9_searchTold_r5 ++ wsX9_searchTold_r6))))) ++ wsX90 ++ wsX60 ++ wsX30 ++ wsX20 ++ wsX80 ++ wsX40 ++ wsX00)
def wsX9_told_r1 : List Cond := [Cond.fieldLink RX9 94 "BandBoat" "toldMemo" "LBandBoat$Memo;", Cond.methodLink RX9 104 yX9_within, Cond.static yX9_within, Cond.initialized RX9, Cond.code yX9_within cX9_within 3 (some .boolean), Cond.instanceMethod yX3_holds, Cond.initialized RX3, Cond.selects RX3 yX3_holds yX3_holds, Cond.code yX3_holds cX3_holds 3 (some .boolean), Cond.fieldLink RX3 13 "BandBoat$Memo" "known" "Z", Cond.fieldLink RX3 17 "BandBoat$Memo" "first" "I", Cond.fieldLink RX3 21 "BandBoat$Memo" "second" "I", Cond.methodLink RX9 228 yX9_searchTold, Cond.instanceMethod yX9_searchTold, Cond.selects RX9 yX9_searchTold yX9_searchTold, Cond.code yX9_searchTold cX9_searchTold 6 none, Cond.fieldLink RX9 30 "BandBoat" "tried" "LBandBoat$Rig;", Cond.fieldLink RX9 26 "BandBoat" "laid" "LBandBoat$Rig;", Cond.fieldLink RX9 57 "BandBoat" "marks" "LBandBoat$Marks;", Cond.fieldLink RX9 43 "BandBoat" "trial" "LBandBoat$Trial;", Cond.instanceMethod yX6_copy, Cond.initialized RX6, Cond.selects RX6 yX6_copy yX6_copy, Cond.code yX6_copy cX6_copy 2 none]
def wsX9_told_r2 : List Cond := [Cond.fieldLink RX6 7 "BandBoat$Rig" "stuffs" "I", Cond.fieldLink RX6 13 "BandBoat$Rig" "banded" "Z", Cond.fieldLink RX6 17 "BandBoat$Rig" "pulls" "I", Cond.fieldLink RX6 20 "BandBoat$Rig" "loses" "I", Cond.fieldLink RX6 23 "BandBoat$Rig" "knots" "I", Cond.fieldLink RX6 26 "BandBoat$Rig" "snaps" "I", Cond.fieldLink RX6 29 "BandBoat$Rig" "strands" "I", Cond.fieldLink RX6 32 "BandBoat$Rig" "length" "I", Cond.fieldLink RX6 35 "BandBoat$Rig" "pitch" "I", Cond.fieldLink RX6 38 "BandBoat$Rig" "width" "I", Cond.fieldLink RX6 41 "BandBoat$Rig" "weight" "I", Cond.fieldLink RX6 44 "BandBoat$Rig" "drag" "I", Cond.fieldLink RX6 47 "BandBoat$Rig" "veer" "I", Cond.fieldLink RX6 50 "BandBoat$Rig" "rudder" "I", Cond.fieldLink RX6 53 "BandBoat$Rig" "cold" "I", Cond.fieldLink RX6 56 "BandBoat$Rig" "days" "I", Cond.fieldLink RX6 59 "BandBoat$Rig" "gust" "I", Cond.instanceMethod yX3_learn, Cond.selects RX3 yX3_learn yX3_learn, Cond.code yX3_learn cX3_learn 4 none, Cond.fieldLink RX3 7 "BandBoat$Memo" "answers" "[I", Cond.instanceMethod yX2_latest, Cond.initialized RX2, Cond.selects RX2 yX2_latest yX2_latest]
def wsX9_told_r3 : List Cond := [Cond.code yX2_latest cX2_latest 3 (some .int), Cond.fieldLink RX2 18 "BandBoat$Marks" "marked" "I", Cond.fieldLink RX2 15 "BandBoat$Marks" "times" "[I", Cond.methodLink RX2 26 Lib.Math.max.name, Cond.static Lib.Math.max.name, Cond.initialized "java/lang/Math", Cond.code Lib.Math.max.name Lib.Math.max.code 2 (some .int), Cond.instanceMethod yX8_make, Cond.initialized RX8, Cond.selects RX8 yX8_make yX8_make, Cond.code yX8_make cX8_make 8 none, Cond.fieldLink RX8 21 "BandBoat$Trial" "band" "LBandBoat$Band;", Cond.fieldLink RX8 12 "BandBoat$Trial" "motion" "LBandBoat$Motion;", Cond.fieldLink RX8 40 "BandBoat$Trial" "tenths" "I", Cond.fieldLink RX8 43 "BandBoat$Trial" "topPace" "I", Cond.fieldLink RX8 46 "BandBoat$Trial" "emptyAt" "I", Cond.instanceMethod yX0_fit, Cond.initialized RX0, Cond.selects RX0 yX0_fit yX0_fit, Cond.code yX0_fit cX0_fit 2 none, Cond.fieldLink RX0 16 "BandBoat$Band" "force" "I", Cond.fieldLink RX0 24 "BandBoat$Band" "stretch" "I", Cond.fieldLink RX0 36 "BandBoat$Band" "knot" "I", Cond.fieldLink RX0 42 "BandBoat$Band" "warmth" "I"]
def wsX9_told_r4 : List Cond := [Cond.fieldLink RX0 48 "BandBoat$Band" "returned" "I", Cond.fieldLink RX0 54 "BandBoat$Band" "fresh" "I", Cond.fieldLink RX0 60 "BandBoat$Band" "spinBy" "I", Cond.static yX9_cut, Cond.code yX9_cut cX9_cut 2 (some .int), Cond.instanceMethod yX4_rest, Cond.initialized RX4, Cond.selects RX4 yX4_rest yX4_rest, Cond.code yX4_rest cX4_rest 1 none, Cond.fieldLink RX4 9 "BandBoat$Motion" "parts" "I", Cond.fieldLink RX4 15 "BandBoat$Motion" "pace" "I", Cond.fieldLink RX4 18 "BandBoat$Motion" "place" "I", Cond.fieldLink RX4 21 "BandBoat$Motion" "turn" "I", Cond.fieldLink RX4 24 "BandBoat$Motion" "side" "I", Cond.fieldLink RX4 27 "BandBoat$Motion" "tenth" "I", Cond.fieldLink RX4 30 "BandBoat$Motion" "steady" "Z", Cond.instanceMethod yX4_isOver, Cond.selects RX4 yX4_isOver yX4_isOver, Cond.code yX4_isOver cX4_isOver 1 (some .boolean), Cond.instanceMethod yX4_drift, Cond.selects RX4 yX4_drift yX4_drift, Cond.code yX4_drift cX4_drift 3 none, Cond.constant RX4 89 (-9999999), Cond.constant RX4 90 (9999999)]
def wsX9_told_r5 : List Cond := [Cond.static yX9_limit, Cond.code yX9_limit cX9_limit 3 (some .int), Cond.instanceMethod yX4_step, Cond.selects RX4 yX4_step yX4_step, Cond.code yX4_step cX4_step 8 none, Cond.methodLink RX4 47 Lib.Math.min.name, Cond.static Lib.Math.min.name, Cond.code Lib.Math.min.name Lib.Math.min.code 2 (some .int), Cond.methodLink RX4 57 Lib.Math.max.name, Cond.instanceMethod yX0_loosed, Cond.selects RX0 yX0_loosed yX0_loosed, Cond.code yX0_loosed cX0_loosed 2 (some .int), Cond.methodLink RX0 63 yX0_wound, Cond.instanceMethod yX0_wound, Cond.selects RX0 yX0_wound yX0_wound, Cond.code yX0_wound cX0_wound 3 (some .int), Cond.methodLink RX4 69 yX4_gustOf, Cond.instanceMethod yX4_gustOf, Cond.selects RX4 yX4_gustOf yX4_gustOf, Cond.code yX4_gustOf cX4_gustOf 5 (some .int), Cond.constantLong RX4 91 (7919), Cond.constantLong RX4 93 (6151), Cond.constantLong RX4 95 (65521), Cond.methodLink RX4 79 yX4_drift]
def wsX9_told_r6 : List Cond := [Cond.methodLink RX8 70 yX8_note, Cond.instanceMethod yX8_note, Cond.selects RX8 yX8_note yX8_note, Cond.code yX8_note cX8_note 2 none, Cond.methodLink RX8 77 Lib.Math.max.name, Cond.fieldLink RX8 25 "BandBoat$Trial" "path" "[I", Cond.instanceMethod yX2_agree, Cond.selects RX2 yX2_agree yX2_agree, Cond.code yX2_agree cX2_agree 4 (some .boolean), Cond.fieldLink RX2 9 "BandBoat$Marks" "places" "[I", Cond.instanceMethod yX8_reachedBy, Cond.selects RX8 yX8_reachedBy yX8_reachedBy, Cond.code yX8_reachedBy cX8_reachedBy 4 (some .boolean), Cond.methodLink RX8 86 Lib.Math.min.name, Cond.methodLink RX9 315 yX9_noteTold, Cond.instanceMethod yX9_noteTold, Cond.selects RX9 yX9_noteTold yX9_noteTold, Cond.code yX9_noteTold cX9_noteTold 3 none, Cond.instanceMethod yX3_answer, Cond.selects RX3 yX3_answer yX3_answer, Cond.code yX3_answer cX3_answer 2 (some .int), Cond.instanceMethod yX3_put, Cond.selects RX3 yX3_put yX3_put, Cond.code yX3_put cX3_put 3 none]
def wsX9_told_r7 : List Cond := [Cond.instanceMethod yX3_widen, Cond.selects RX3 yX3_widen yX3_widen, Cond.code yX3_widen cX3_widen 4 none, Cond.methodLink RX3 24 yX3_answer, Cond.methodLink RX3 28 yX3_put]
def wsX9_told : List Cond := .code yX9_told cX9_told 3 (some .int) :: ((wsX9_told_r1 ++ (wsX9_told_r2 ++ (wsX9_told_r3 ++ (wsX9_told_r4 ++ (wsX9_told_r5 ++ (wsX9_told_r6 ++ wsX9_told_r7)))))) ++ wsX90 ++ wsX30 ++ wsX60 ++ wsX20 ++ wsX80 ++ wsX40 ++ wsX00)
def wsX9_forget : List Cond := .code yX9_forget cX9_forget 2 (some .int) :: ([.fieldLink RX9 50 "BandBoat" "gauge" "LBandBoat$Gauge;", .fieldLink RX9 57 "BandBoat" "marks" "LBandBoat$Marks;", .fieldLink RX9 91 "BandBoat" "fitsMemo" "LBandBoat$Memo;", .fieldLink RX9 94 "BandBoat" "toldMemo" "LBandBoat$Memo;", .instanceMethod yX3_drop, .initialized RX3, .selects RX3 yX3_drop yX3_drop, .code yX3_drop cX3_drop 1 none, .fieldLink RX3 13 "BandBoat$Memo" "known" "Z"] ++ wsX90 ++ wsX10 ++ wsX20 ++ wsX30)
def wsX9_wind : List Cond := .code yX9_wind cX9_wind 2 (some .int) :: ([.fieldLink RX9 64 "BandBoat" "boat" "LBandBoat$Motion;", .constant RX9 148 (40000), .methodLink RX9 104 yX9_within, .static yX9_within, .initialized RX9, .code yX9_within cX9_within 3 (some .boolean)] ++ wsX90 ++ wsX40)
def wsX9_go_r1 : List Cond := [Cond.fieldLink RX9 64 "BandBoat" "boat" "LBandBoat$Motion;", Cond.fieldLink RX9 26 "BandBoat" "laid" "LBandBoat$Rig;", Cond.fieldLink RX9 36 "BandBoat" "band" "LBandBoat$Band;", Cond.methodLink RX9 104 yX9_within, Cond.static yX9_within, Cond.initialized RX9, Cond.code yX9_within cX9_within 3 (some .boolean), Cond.instanceMethod yX4_step, Cond.initialized RX4, Cond.selects RX4 yX4_step yX4_step, Cond.code yX4_step cX4_step 8 none, Cond.fieldLink RX4 9 "BandBoat$Motion" "parts" "I", Cond.methodLink RX4 47 Lib.Math.min.name, Cond.static Lib.Math.min.name, Cond.initialized "java/lang/Math", Cond.code Lib.Math.min.name Lib.Math.min.code 2 (some .int), Cond.fieldLink RX4 15 "BandBoat$Motion" "pace" "I", Cond.methodLink RX4 57 Lib.Math.max.name, Cond.static Lib.Math.max.name, Cond.code Lib.Math.max.name Lib.Math.max.code 2 (some .int), Cond.fieldLink RX4 30 "BandBoat$Motion" "steady" "Z", Cond.instanceMethod yX0_loosed, Cond.initialized RX0, Cond.selects RX0 yX0_loosed yX0_loosed]
def wsX9_go_r2 : List Cond := [Cond.code yX0_loosed cX0_loosed 2 (some .int), Cond.fieldLink RX0 48 "BandBoat$Band" "returned" "I", Cond.fieldLink RX0 54 "BandBoat$Band" "fresh" "I", Cond.methodLink RX0 63 yX0_wound, Cond.instanceMethod yX0_wound, Cond.selects RX0 yX0_wound yX0_wound, Cond.code yX0_wound cX0_wound 3 (some .int), Cond.fieldLink RX0 24 "BandBoat$Band" "stretch" "I", Cond.fieldLink RX0 16 "BandBoat$Band" "force" "I", Cond.fieldLink RX0 36 "BandBoat$Band" "knot" "I", Cond.fieldLink RX0 42 "BandBoat$Band" "warmth" "I", Cond.static yX9_cut, Cond.code yX9_cut cX9_cut 2 (some .int), Cond.methodLink RX4 69 yX4_gustOf, Cond.instanceMethod yX4_gustOf, Cond.selects RX4 yX4_gustOf yX4_gustOf, Cond.code yX4_gustOf cX4_gustOf 5 (some .int), Cond.constantLong RX4 91 (7919), Cond.constantLong RX4 93 (6151), Cond.fieldLink RX4 27 "BandBoat$Motion" "tenth" "I", Cond.constantLong RX4 95 (65521), Cond.static yX9_limit, Cond.code yX9_limit cX9_limit 3 (some .int), Cond.methodLink RX4 79 yX4_drift]
def wsX9_go_r3 : List Cond := [Cond.instanceMethod yX4_drift, Cond.selects RX4 yX4_drift yX4_drift, Cond.code yX4_drift cX4_drift 3 none, Cond.fieldLink RX4 18 "BandBoat$Motion" "place" "I", Cond.fieldLink RX4 21 "BandBoat$Motion" "turn" "I", Cond.fieldLink RX4 24 "BandBoat$Motion" "side" "I", Cond.constant RX4 89 (-9999999), Cond.constant RX4 90 (9999999)]
def wsX9_go : List Cond := .code yX9_go cX9_go 4 (some .int) :: ((wsX9_go_r1 ++ (wsX9_go_r2 ++ wsX9_go_r3)) ++ wsX90 ++ wsX40 ++ wsX00 ++ wsX60)
def wsX9_weed : List Cond := .code yX9_weed cX9_weed 2 (some .int) :: ([.fieldLink RX9 64 "BandBoat" "boat" "LBandBoat$Motion;"] ++ wsX90 ++ wsX40)
def wsX9_now : List Cond := .code yX9_now cX9_now 2 (some .int) :: ([.fieldLink RX9 64 "BandBoat" "boat" "LBandBoat$Motion;", .constant RX9 179 (10000000)] ++ wsX90 ++ wsX40)
def wsX9_keptAt : List Cond := .code yX9_keptAt cX9_keptAt 2 (some (.object "BandBoat$Motion")) :: ([.fieldLink RX9 68 "BandBoat" "kept" "[LBandBoat$Motion;"] ++ wsX90)
def wsX9_keep : List Cond := .code yX9_keep cX9_keep 2 (some .int) :: ([.fieldLink RX9 139 "BandBoat" "keptCount" "I", .fieldLink RX9 64 "BandBoat" "boat" "LBandBoat$Motion;", .methodLink RX9 247 yX9_keptAt, .instanceMethod yX9_keptAt, .selects RX9 yX9_keptAt yX9_keptAt, .initialized RX9, .code yX9_keptAt cX9_keptAt 2 (some (.object "BandBoat$Motion")), .fieldLink RX9 68 "BandBoat" "kept" "[LBandBoat$Motion;", .instanceMethod yX4_copy, .initialized RX4, .selects RX4 yX4_copy yX4_copy, .code yX4_copy cX4_copy 2 none, .fieldLink RX4 9 "BandBoat$Motion" "parts" "I", .fieldLink RX4 15 "BandBoat$Motion" "pace" "I", .fieldLink RX4 18 "BandBoat$Motion" "place" "I", .fieldLink RX4 21 "BandBoat$Motion" "turn" "I", .fieldLink RX4 24 "BandBoat$Motion" "side" "I", .fieldLink RX4 27 "BandBoat$Motion" "tenth" "I", .fieldLink RX4 30 "BandBoat$Motion" "steady" "Z"] ++ wsX90 ++ wsX40)
def wsX9_back : List Cond := .code yX9_back cX9_back 2 (some .int) :: ([.fieldLink RX9 139 "BandBoat" "keptCount" "I", .fieldLink RX9 64 "BandBoat" "boat" "LBandBoat$Motion;", .methodLink RX9 247 yX9_keptAt, .instanceMethod yX9_keptAt, .selects RX9 yX9_keptAt yX9_keptAt, .initialized RX9, .code yX9_keptAt cX9_keptAt 2 (some (.object "BandBoat$Motion")), .fieldLink RX9 68 "BandBoat" "kept" "[LBandBoat$Motion;", .instanceMethod yX4_copy, .initialized RX4, .selects RX4 yX4_copy yX4_copy, .code yX4_copy cX4_copy 2 none, .fieldLink RX4 9 "BandBoat$Motion" "parts" "I", .fieldLink RX4 15 "BandBoat$Motion" "pace" "I", .fieldLink RX4 18 "BandBoat$Motion" "place" "I", .fieldLink RX4 21 "BandBoat$Motion" "turn" "I", .fieldLink RX4 24 "BandBoat$Motion" "side" "I", .fieldLink RX4 27 "BandBoat$Motion" "tenth" "I", .fieldLink RX4 30 "BandBoat$Motion" "steady" "Z"] ++ wsX90 ++ wsX40)
def wsX9_count : List Cond := .code yX9_count cX9_count 2 (some .int) :: ([.fieldLink RX9 26 "BandBoat" "laid" "LBandBoat$Rig;", .fieldLink RX9 10 "BandBoat" "script" "LBandBoat$Script;", .fieldLink RX9 50 "BandBoat" "gauge" "LBandBoat$Gauge;", .fieldLink RX9 57 "BandBoat" "marks" "LBandBoat$Marks;", .fieldLink RX9 139 "BandBoat" "keptCount" "I"] ++ wsX90 ++ wsX60 ++ wsX70 ++ wsX10 ++ wsX20)
def wsX10_begins : List Cond := .code yX10_begins cX10_begins 3 none :: ([.fieldLink RX10 13 "BandBoatModel" "boat" "[I"] ++ wsX100)
def wsX10_init : List Cond := .code yX10_init cX10_init 1 none :: ([.methodLink RX10 1 objectInit, .instanceMethod objectInit, .code objectInit ⟨#[0xb1]⟩ 1 none, .arrayClass .int, .fieldLink RX10 7 "BandBoatModel" "text" "[I", .fieldLink RX10 13 "BandBoatModel" "boat" "[I", .fieldLink RX10 16 "BandBoatModel" "now" "[I", .fieldLink RX10 19 "BandBoatModel" "run" "[I", .fieldLink RX10 22 "BandBoatModel" "kept" "[I", .fieldLink RX10 25 "BandBoatModel" "reading" "[I", .fieldLink RX10 28 "BandBoatModel" "mark" "[I", .fieldLink RX10 31 "BandBoatModel" "whens" "[I", .fieldLink RX10 34 "BandBoatModel" "answer" "[I", .methodLink RX10 37 yX10_begins, .instanceMethod yX10_begins, .selects RX10 yX10_begins yX10_begins, .initialized RX10, .code yX10_begins cX10_begins 3 none] ++ wsX100)
def wsX10_in : List Cond := .code yX10_in cX10_in 3 (some .boolean) :: ([])
def wsX10_write : List Cond := .code yX10_write cX10_write 5 (some .int) :: ([.fieldLink RX10 41 "BandBoatModel" "thrown" "I", .fieldLink RX10 49 "BandBoatModel" "typed" "I", .fieldLink RX10 7 "BandBoatModel" "text" "[I", .constantLong RX10 52 (255), .methodLink RX10 45 yX10_in, .static yX10_in, .initialized RX10, .code yX10_in cX10_in 3 (some .boolean)] ++ wsX100)
def wsX10_wipe : List Cond := .code yX10_wipe cX10_wipe 2 (some .int) :: ([.fieldLink RX10 41 "BandBoatModel" "thrown" "I", .fieldLink RX10 49 "BandBoatModel" "typed" "I"] ++ wsX100)
def wsX10_byteAt : List Cond := .code yX10_byteAt cX10_byteAt 2 (some .int) :: ([.fieldLink RX10 49 "BandBoatModel" "typed" "I", .fieldLink RX10 7 "BandBoatModel" "text" "[I"] ++ wsX100)
def wsX10_number : List Cond := .code yX10_number cX10_number 6 (some .int) :: ([.fieldLink RX10 54 "BandBoatModel" "at" "I", .fieldLink RX10 61 "BandBoatModel" "isWell" "Z", .methodLink RX10 57 yX10_byteAt, .instanceMethod yX10_byteAt, .selects RX10 yX10_byteAt yX10_byteAt, .initialized RX10, .code yX10_byteAt cX10_byteAt 2 (some .int), .fieldLink RX10 49 "BandBoatModel" "typed" "I", .fieldLink RX10 7 "BandBoatModel" "text" "[I", .methodLink RX10 45 yX10_in, .static yX10_in, .code yX10_in cX10_in 3 (some .boolean)] ++ wsX100)
def wsX10_puts : List Cond := .code yX10_puts cX10_puts 3 none :: ([.fieldLink RX10 61 "BandBoatModel" "isWell" "Z", .fieldLink RX10 13 "BandBoatModel" "boat" "[I"] ++ wsX100)
def wsX10_readsItem : List Cond := .code yX10_readsItem cX10_readsItem 7 none :: ([.fieldLink RX10 13 "BandBoatModel" "boat" "[I", .fieldLink RX10 61 "BandBoatModel" "isWell" "Z", .methodLink RX10 65 yX10_number, .instanceMethod yX10_number, .selects RX10 yX10_number yX10_number, .initialized RX10, .code yX10_number cX10_number 6 (some .int), .fieldLink RX10 54 "BandBoatModel" "at" "I", .methodLink RX10 57 yX10_byteAt, .instanceMethod yX10_byteAt, .selects RX10 yX10_byteAt yX10_byteAt, .code yX10_byteAt cX10_byteAt 2 (some .int), .fieldLink RX10 49 "BandBoatModel" "typed" "I", .fieldLink RX10 7 "BandBoatModel" "text" "[I", .methodLink RX10 45 yX10_in, .static yX10_in, .code yX10_in cX10_in 3 (some .boolean), .methodLink RX10 69 yX10_puts, .instanceMethod yX10_puts, .selects RX10 yX10_puts yX10_puts, .code yX10_puts cX10_puts 3 none] ++ wsX100)
def wsX10_reads_r1 : List Cond := [Cond.fieldLink RX10 54 "BandBoatModel" "at" "I", Cond.fieldLink RX10 61 "BandBoatModel" "isWell" "Z", Cond.fieldLink RX10 49 "BandBoatModel" "typed" "I", Cond.methodLink RX10 37 yX10_begins, Cond.instanceMethod yX10_begins, Cond.selects RX10 yX10_begins yX10_begins, Cond.initialized RX10, Cond.code yX10_begins cX10_begins 3 none, Cond.fieldLink RX10 13 "BandBoatModel" "boat" "[I", Cond.methodLink RX10 57 yX10_byteAt, Cond.instanceMethod yX10_byteAt, Cond.selects RX10 yX10_byteAt yX10_byteAt, Cond.code yX10_byteAt cX10_byteAt 2 (some .int), Cond.fieldLink RX10 7 "BandBoatModel" "text" "[I", Cond.methodLink RX10 73 yX10_readsItem, Cond.instanceMethod yX10_readsItem, Cond.selects RX10 yX10_readsItem yX10_readsItem, Cond.code yX10_readsItem cX10_readsItem 7 none, Cond.methodLink RX10 65 yX10_number, Cond.instanceMethod yX10_number, Cond.selects RX10 yX10_number yX10_number, Cond.code yX10_number cX10_number 6 (some .int), Cond.methodLink RX10 45 yX10_in, Cond.static yX10_in]
def wsX10_reads_r2 : List Cond := [Cond.code yX10_in cX10_in 3 (some .boolean), Cond.methodLink RX10 69 yX10_puts, Cond.instanceMethod yX10_puts, Cond.selects RX10 yX10_puts yX10_puts, Cond.code yX10_puts cX10_puts 3 none]
def wsX10_reads : List Cond := .code yX10_reads cX10_reads 3 (some .int) :: ((wsX10_reads_r1 ++ wsX10_reads_r2) ++ wsX100)
def wsX10_fault_r1 : List Cond := [Cond.fieldLink RX10 41 "BandBoatModel" "thrown" "I", Cond.methodLink RX10 76 yX10_reads, Cond.instanceMethod yX10_reads, Cond.selects RX10 yX10_reads yX10_reads, Cond.initialized RX10, Cond.code yX10_reads cX10_reads 3 (some .int), Cond.fieldLink RX10 54 "BandBoatModel" "at" "I", Cond.fieldLink RX10 61 "BandBoatModel" "isWell" "Z", Cond.fieldLink RX10 49 "BandBoatModel" "typed" "I", Cond.methodLink RX10 37 yX10_begins, Cond.instanceMethod yX10_begins, Cond.selects RX10 yX10_begins yX10_begins, Cond.code yX10_begins cX10_begins 3 none, Cond.fieldLink RX10 13 "BandBoatModel" "boat" "[I", Cond.methodLink RX10 57 yX10_byteAt, Cond.instanceMethod yX10_byteAt, Cond.selects RX10 yX10_byteAt yX10_byteAt, Cond.code yX10_byteAt cX10_byteAt 2 (some .int), Cond.fieldLink RX10 7 "BandBoatModel" "text" "[I", Cond.methodLink RX10 73 yX10_readsItem, Cond.instanceMethod yX10_readsItem, Cond.selects RX10 yX10_readsItem yX10_readsItem, Cond.code yX10_readsItem cX10_readsItem 7 none, Cond.methodLink RX10 65 yX10_number]
def wsX10_fault_r2 : List Cond := [Cond.instanceMethod yX10_number, Cond.selects RX10 yX10_number yX10_number, Cond.code yX10_number cX10_number 6 (some .int), Cond.methodLink RX10 45 yX10_in, Cond.static yX10_in, Cond.code yX10_in cX10_in 3 (some .boolean), Cond.methodLink RX10 69 yX10_puts, Cond.instanceMethod yX10_puts, Cond.selects RX10 yX10_puts yX10_puts, Cond.code yX10_puts cX10_puts 3 none]
def wsX10_fault : List Cond := .code yX10_fault cX10_fault 1 (some .int) :: ((wsX10_fault_r1 ++ wsX10_fault_r2) ++ wsX100)
def wsX10_lay_r1 : List Cond := [Cond.fieldLink RX10 41 "BandBoatModel" "thrown" "I", Cond.fieldLink RX10 13 "BandBoatModel" "boat" "[I", Cond.fieldLink RX10 16 "BandBoatModel" "now" "[I", Cond.fieldLink RX10 80 "BandBoatModel" "readings" "I", Cond.fieldLink RX10 83 "BandBoatModel" "marks" "I", Cond.fieldLink RX10 86 "BandBoatModel" "keptMany" "I", Cond.methodLink RX10 76 yX10_reads, Cond.instanceMethod yX10_reads, Cond.selects RX10 yX10_reads yX10_reads, Cond.initialized RX10, Cond.code yX10_reads cX10_reads 3 (some .int), Cond.fieldLink RX10 54 "BandBoatModel" "at" "I", Cond.fieldLink RX10 61 "BandBoatModel" "isWell" "Z", Cond.fieldLink RX10 49 "BandBoatModel" "typed" "I", Cond.methodLink RX10 37 yX10_begins, Cond.instanceMethod yX10_begins, Cond.selects RX10 yX10_begins yX10_begins, Cond.code yX10_begins cX10_begins 3 none, Cond.methodLink RX10 57 yX10_byteAt, Cond.instanceMethod yX10_byteAt, Cond.selects RX10 yX10_byteAt yX10_byteAt, Cond.code yX10_byteAt cX10_byteAt 2 (some .int), Cond.fieldLink RX10 7 "BandBoatModel" "text" "[I", Cond.methodLink RX10 73 yX10_readsItem]
def wsX10_lay_r2 : List Cond := [Cond.instanceMethod yX10_readsItem, Cond.selects RX10 yX10_readsItem yX10_readsItem, Cond.code yX10_readsItem cX10_readsItem 7 none, Cond.methodLink RX10 65 yX10_number, Cond.instanceMethod yX10_number, Cond.selects RX10 yX10_number yX10_number, Cond.code yX10_number cX10_number 6 (some .int), Cond.methodLink RX10 45 yX10_in, Cond.static yX10_in, Cond.code yX10_in cX10_in 3 (some .boolean), Cond.methodLink RX10 69 yX10_puts, Cond.instanceMethod yX10_puts, Cond.selects RX10 yX10_puts yX10_puts, Cond.code yX10_puts cX10_puts 3 none]
def wsX10_lay : List Cond := .code yX10_lay cX10_lay 2 (some .int) :: ((wsX10_lay_r1 ++ wsX10_lay_r2) ++ wsX100)
def wsX10_asItIs : List Cond := .code yX10_asItIs cX10_asItIs 2 none :: ([.fieldLink RX10 13 "BandBoatModel" "boat" "[I", .fieldLink RX10 89 "BandBoatModel" "pulls" "I", .fieldLink RX10 92 "BandBoatModel" "loses" "I", .fieldLink RX10 95 "BandBoatModel" "knots" "I", .fieldLink RX10 98 "BandBoatModel" "strands" "I", .fieldLink RX10 101 "BandBoatModel" "length" "I", .fieldLink RX10 104 "BandBoatModel" "pitch" "I", .fieldLink RX10 107 "BandBoatModel" "rudder" "I"] ++ wsX100)
def wsX10_woundPull : List Cond := .code yX10_woundPull cX10_woundPull 4 (some .int) :: ([.fieldLink RX10 89 "BandBoatModel" "pulls" "I", .fieldLink RX10 98 "BandBoatModel" "strands" "I", .fieldLink RX10 101 "BandBoatModel" "length" "I", .fieldLink RX10 95 "BandBoatModel" "knots" "I", .fieldLink RX10 13 "BandBoatModel" "boat" "[I"] ++ wsX100)
def wsX10_freePull : List Cond := .code yX10_freePull cX10_freePull 2 (some .int) :: ([.fieldLink RX10 92 "BandBoatModel" "loses" "I", .fieldLink RX10 13 "BandBoatModel" "boat" "[I", .methodLink RX10 110 yX10_woundPull, .instanceMethod yX10_woundPull, .selects RX10 yX10_woundPull yX10_woundPull, .initialized RX10, .code yX10_woundPull cX10_woundPull 4 (some .int), .fieldLink RX10 89 "BandBoatModel" "pulls" "I", .fieldLink RX10 98 "BandBoatModel" "strands" "I", .fieldLink RX10 101 "BandBoatModel" "length" "I", .fieldLink RX10 95 "BandBoatModel" "knots" "I"] ++ wsX100)
def wsX10_pull_r1 : List Cond := [Cond.fieldLink RX10 41 "BandBoatModel" "thrown" "I", Cond.constant RX10 113 (40000), Cond.methodLink RX10 45 yX10_in, Cond.static yX10_in, Cond.initialized RX10, Cond.code yX10_in cX10_in 3 (some .boolean), Cond.methodLink RX10 114 yX10_asItIs, Cond.instanceMethod yX10_asItIs, Cond.selects RX10 yX10_asItIs yX10_asItIs, Cond.code yX10_asItIs cX10_asItIs 2 none, Cond.fieldLink RX10 13 "BandBoatModel" "boat" "[I", Cond.fieldLink RX10 89 "BandBoatModel" "pulls" "I", Cond.fieldLink RX10 92 "BandBoatModel" "loses" "I", Cond.fieldLink RX10 95 "BandBoatModel" "knots" "I", Cond.fieldLink RX10 98 "BandBoatModel" "strands" "I", Cond.fieldLink RX10 101 "BandBoatModel" "length" "I", Cond.fieldLink RX10 104 "BandBoatModel" "pitch" "I", Cond.fieldLink RX10 107 "BandBoatModel" "rudder" "I", Cond.methodLink RX10 117 yX10_freePull, Cond.instanceMethod yX10_freePull, Cond.selects RX10 yX10_freePull yX10_freePull, Cond.code yX10_freePull cX10_freePull 2 (some .int), Cond.methodLink RX10 110 yX10_woundPull, Cond.instanceMethod yX10_woundPull]
def wsX10_pull_r2 : List Cond := [Cond.selects RX10 yX10_woundPull yX10_woundPull, Cond.code yX10_woundPull cX10_woundPull 4 (some .int)]
def wsX10_pull : List Cond := .code yX10_pull cX10_pull 3 (some .int) :: ((wsX10_pull_r1 ++ wsX10_pull_r2) ++ wsX100)
def wsX10_windAt : List Cond := .code yX10_windAt cX10_windAt 5 (some .int) :: ([.constantLong RX10 120 (7919), .constantLong RX10 122 (6151), .constantLong RX10 124 (65521), .fieldLink RX10 13 "BandBoatModel" "boat" "[I"] ++ wsX100)
def wsX10_within : List Cond := .code yX10_within cX10_within 3 (some .int) :: ([])
def wsX10_tenth_r1 : List Cond := [Cond.fieldLink RX10 104 "BandBoatModel" "pitch" "I", Cond.fieldLink RX10 13 "BandBoatModel" "boat" "[I", Cond.fieldLink RX10 107 "BandBoatModel" "rudder" "I", Cond.constant RX10 133 (-9999999), Cond.constant RX10 134 (9999999), Cond.methodLink RX10 117 yX10_freePull, Cond.instanceMethod yX10_freePull, Cond.selects RX10 yX10_freePull yX10_freePull, Cond.initialized RX10, Cond.code yX10_freePull cX10_freePull 2 (some .int), Cond.fieldLink RX10 92 "BandBoatModel" "loses" "I", Cond.methodLink RX10 110 yX10_woundPull, Cond.instanceMethod yX10_woundPull, Cond.selects RX10 yX10_woundPull yX10_woundPull, Cond.code yX10_woundPull cX10_woundPull 4 (some .int), Cond.fieldLink RX10 89 "BandBoatModel" "pulls" "I", Cond.fieldLink RX10 98 "BandBoatModel" "strands" "I", Cond.fieldLink RX10 101 "BandBoatModel" "length" "I", Cond.fieldLink RX10 95 "BandBoatModel" "knots" "I", Cond.methodLink RX10 126 yX10_windAt, Cond.instanceMethod yX10_windAt, Cond.selects RX10 yX10_windAt yX10_windAt, Cond.code yX10_windAt cX10_windAt 5 (some .int), Cond.constantLong RX10 120 (7919)]
def wsX10_tenth_r2 : List Cond := [Cond.constantLong RX10 122 (6151), Cond.constantLong RX10 124 (65521), Cond.methodLink RX10 130 yX10_within, Cond.static yX10_within, Cond.code yX10_within cX10_within 3 (some .int)]
def wsX10_tenth : List Cond := .code yX10_tenth cX10_tenth 6 none :: ((wsX10_tenth_r1 ++ wsX10_tenth_r2) ++ wsX100)
def wsX10_runs_r1 : List Cond := [Cond.fieldLink RX10 19 "BandBoatModel" "run" "[I", Cond.fieldLink RX10 135 "BandBoatModel" "fastest" "I", Cond.fieldLink RX10 138 "BandBoatModel" "unwound" "I", Cond.fieldLink RX10 141 "BandBoatModel" "reached" "I", Cond.fieldLink RX10 148 "BandBoatModel" "runTenths" "I", Cond.methodLink RX10 144 yX10_tenth, Cond.instanceMethod yX10_tenth, Cond.selects RX10 yX10_tenth yX10_tenth, Cond.initialized RX10, Cond.code yX10_tenth cX10_tenth 6 none, Cond.fieldLink RX10 104 "BandBoatModel" "pitch" "I", Cond.fieldLink RX10 13 "BandBoatModel" "boat" "[I", Cond.fieldLink RX10 107 "BandBoatModel" "rudder" "I", Cond.constant RX10 133 (-9999999), Cond.constant RX10 134 (9999999), Cond.methodLink RX10 117 yX10_freePull, Cond.instanceMethod yX10_freePull, Cond.selects RX10 yX10_freePull yX10_freePull, Cond.code yX10_freePull cX10_freePull 2 (some .int), Cond.fieldLink RX10 92 "BandBoatModel" "loses" "I", Cond.methodLink RX10 110 yX10_woundPull, Cond.instanceMethod yX10_woundPull, Cond.selects RX10 yX10_woundPull yX10_woundPull, Cond.code yX10_woundPull cX10_woundPull 4 (some .int)]
def wsX10_runs_r2 : List Cond := [Cond.fieldLink RX10 89 "BandBoatModel" "pulls" "I", Cond.fieldLink RX10 98 "BandBoatModel" "strands" "I", Cond.fieldLink RX10 101 "BandBoatModel" "length" "I", Cond.fieldLink RX10 95 "BandBoatModel" "knots" "I", Cond.methodLink RX10 126 yX10_windAt, Cond.instanceMethod yX10_windAt, Cond.selects RX10 yX10_windAt yX10_windAt, Cond.code yX10_windAt cX10_windAt 5 (some .int), Cond.constantLong RX10 120 (7919), Cond.constantLong RX10 122 (6151), Cond.constantLong RX10 124 (65521), Cond.methodLink RX10 130 yX10_within, Cond.static yX10_within, Cond.code yX10_within cX10_within 3 (some .int)]
def wsX10_runs : List Cond := .code yX10_runs cX10_runs 7 none :: ((wsX10_runs_r1 ++ wsX10_runs_r2) ++ wsX100)
def wsX10_placeOf_r1 : List Cond := [Cond.fieldLink RX10 19 "BandBoatModel" "run" "[I", Cond.methodLink RX10 151 yX10_runs, Cond.instanceMethod yX10_runs, Cond.selects RX10 yX10_runs yX10_runs, Cond.initialized RX10, Cond.code yX10_runs cX10_runs 7 none, Cond.fieldLink RX10 135 "BandBoatModel" "fastest" "I", Cond.fieldLink RX10 138 "BandBoatModel" "unwound" "I", Cond.fieldLink RX10 141 "BandBoatModel" "reached" "I", Cond.fieldLink RX10 148 "BandBoatModel" "runTenths" "I", Cond.methodLink RX10 144 yX10_tenth, Cond.instanceMethod yX10_tenth, Cond.selects RX10 yX10_tenth yX10_tenth, Cond.code yX10_tenth cX10_tenth 6 none, Cond.fieldLink RX10 104 "BandBoatModel" "pitch" "I", Cond.fieldLink RX10 13 "BandBoatModel" "boat" "[I", Cond.fieldLink RX10 107 "BandBoatModel" "rudder" "I", Cond.constant RX10 133 (-9999999), Cond.constant RX10 134 (9999999), Cond.methodLink RX10 117 yX10_freePull, Cond.instanceMethod yX10_freePull, Cond.selects RX10 yX10_freePull yX10_freePull, Cond.code yX10_freePull cX10_freePull 2 (some .int), Cond.fieldLink RX10 92 "BandBoatModel" "loses" "I"]
def wsX10_placeOf_r2 : List Cond := [Cond.methodLink RX10 110 yX10_woundPull, Cond.instanceMethod yX10_woundPull, Cond.selects RX10 yX10_woundPull yX10_woundPull, Cond.code yX10_woundPull cX10_woundPull 4 (some .int), Cond.fieldLink RX10 89 "BandBoatModel" "pulls" "I", Cond.fieldLink RX10 98 "BandBoatModel" "strands" "I", Cond.fieldLink RX10 101 "BandBoatModel" "length" "I", Cond.fieldLink RX10 95 "BandBoatModel" "knots" "I", Cond.methodLink RX10 126 yX10_windAt, Cond.instanceMethod yX10_windAt, Cond.selects RX10 yX10_windAt yX10_windAt, Cond.code yX10_windAt cX10_windAt 5 (some .int), Cond.constantLong RX10 120 (7919), Cond.constantLong RX10 122 (6151), Cond.constantLong RX10 124 (65521), Cond.methodLink RX10 130 yX10_within, Cond.static yX10_within, Cond.code yX10_within cX10_within 3 (some .int)]
def wsX10_placeOf : List Cond := .code yX10_placeOf cX10_placeOf 3 (some .int) :: ((wsX10_placeOf_r1 ++ wsX10_placeOf_r2) ++ wsX100)
def wsX10_areTurns : List Cond := .code yX10_areTurns cX10_areTurns 1 (some .boolean) :: ([.methodLink RX10 45 yX10_in, .static yX10_in, .initialized RX10, .code yX10_in cX10_in 3 (some .boolean)])
def wsX10_isWind : List Cond := .code yX10_isWind cX10_isWind 1 (some .boolean) :: ([.methodLink RX10 45 yX10_in, .static yX10_in, .initialized RX10, .code yX10_in cX10_in 3 (some .boolean)])
def wsX10_run_r1 : List Cond := [Cond.fieldLink RX10 41 "BandBoatModel" "thrown" "I", Cond.fieldLink RX10 148 "BandBoatModel" "runTenths" "I", Cond.fieldLink RX10 19 "BandBoatModel" "run" "[I", Cond.fieldLink RX10 135 "BandBoatModel" "fastest" "I", Cond.constant RX10 162 (10000000), Cond.fieldLink RX10 138 "BandBoatModel" "unwound" "I", Cond.methodLink RX10 155 yX10_areTurns, Cond.static yX10_areTurns, Cond.initialized RX10, Cond.code yX10_areTurns cX10_areTurns 1 (some .boolean), Cond.methodLink RX10 45 yX10_in, Cond.static yX10_in, Cond.code yX10_in cX10_in 3 (some .boolean), Cond.methodLink RX10 159 yX10_isWind, Cond.static yX10_isWind, Cond.code yX10_isWind cX10_isWind 1 (some .boolean), Cond.methodLink RX10 114 yX10_asItIs, Cond.instanceMethod yX10_asItIs, Cond.selects RX10 yX10_asItIs yX10_asItIs, Cond.code yX10_asItIs cX10_asItIs 2 none, Cond.fieldLink RX10 13 "BandBoatModel" "boat" "[I", Cond.fieldLink RX10 89 "BandBoatModel" "pulls" "I", Cond.fieldLink RX10 92 "BandBoatModel" "loses" "I", Cond.fieldLink RX10 95 "BandBoatModel" "knots" "I"]
def wsX10_run_r2 : List Cond := [Cond.fieldLink RX10 98 "BandBoatModel" "strands" "I", Cond.fieldLink RX10 101 "BandBoatModel" "length" "I", Cond.fieldLink RX10 104 "BandBoatModel" "pitch" "I", Cond.fieldLink RX10 107 "BandBoatModel" "rudder" "I", Cond.methodLink RX10 151 yX10_runs, Cond.instanceMethod yX10_runs, Cond.selects RX10 yX10_runs yX10_runs, Cond.code yX10_runs cX10_runs 7 none, Cond.fieldLink RX10 141 "BandBoatModel" "reached" "I", Cond.methodLink RX10 144 yX10_tenth, Cond.instanceMethod yX10_tenth, Cond.selects RX10 yX10_tenth yX10_tenth, Cond.code yX10_tenth cX10_tenth 6 none, Cond.constant RX10 133 (-9999999), Cond.constant RX10 134 (9999999), Cond.methodLink RX10 117 yX10_freePull, Cond.instanceMethod yX10_freePull, Cond.selects RX10 yX10_freePull yX10_freePull, Cond.code yX10_freePull cX10_freePull 2 (some .int), Cond.methodLink RX10 110 yX10_woundPull, Cond.instanceMethod yX10_woundPull, Cond.selects RX10 yX10_woundPull yX10_woundPull, Cond.code yX10_woundPull cX10_woundPull 4 (some .int), Cond.methodLink RX10 126 yX10_windAt]
def wsX10_run_r3 : List Cond := [Cond.instanceMethod yX10_windAt, Cond.selects RX10 yX10_windAt yX10_windAt, Cond.code yX10_windAt cX10_windAt 5 (some .int), Cond.constantLong RX10 120 (7919), Cond.constantLong RX10 122 (6151), Cond.constantLong RX10 124 (65521), Cond.methodLink RX10 130 yX10_within, Cond.static yX10_within, Cond.code yX10_within cX10_within 3 (some .int)]
def wsX10_run : List Cond := .code yX10_run cX10_run 4 (some .int) :: ((wsX10_run_r1 ++ (wsX10_run_r2 ++ wsX10_run_r3)) ++ wsX100)
def wsX10_when_r1 : List Cond := [Cond.fieldLink RX10 41 "BandBoatModel" "thrown" "I", Cond.constant RX10 163 (99999), Cond.fieldLink RX10 141 "BandBoatModel" "reached" "I", Cond.methodLink RX10 155 yX10_areTurns, Cond.static yX10_areTurns, Cond.initialized RX10, Cond.code yX10_areTurns cX10_areTurns 1 (some .boolean), Cond.methodLink RX10 45 yX10_in, Cond.static yX10_in, Cond.code yX10_in cX10_in 3 (some .boolean), Cond.methodLink RX10 159 yX10_isWind, Cond.static yX10_isWind, Cond.code yX10_isWind cX10_isWind 1 (some .boolean), Cond.methodLink RX10 114 yX10_asItIs, Cond.instanceMethod yX10_asItIs, Cond.selects RX10 yX10_asItIs yX10_asItIs, Cond.code yX10_asItIs cX10_asItIs 2 none, Cond.fieldLink RX10 13 "BandBoatModel" "boat" "[I", Cond.fieldLink RX10 89 "BandBoatModel" "pulls" "I", Cond.fieldLink RX10 92 "BandBoatModel" "loses" "I", Cond.fieldLink RX10 95 "BandBoatModel" "knots" "I", Cond.fieldLink RX10 98 "BandBoatModel" "strands" "I", Cond.fieldLink RX10 101 "BandBoatModel" "length" "I", Cond.fieldLink RX10 104 "BandBoatModel" "pitch" "I"]
def wsX10_when_r2 : List Cond := [Cond.fieldLink RX10 107 "BandBoatModel" "rudder" "I", Cond.methodLink RX10 151 yX10_runs, Cond.instanceMethod yX10_runs, Cond.selects RX10 yX10_runs yX10_runs, Cond.code yX10_runs cX10_runs 7 none, Cond.fieldLink RX10 19 "BandBoatModel" "run" "[I", Cond.fieldLink RX10 135 "BandBoatModel" "fastest" "I", Cond.fieldLink RX10 138 "BandBoatModel" "unwound" "I", Cond.fieldLink RX10 148 "BandBoatModel" "runTenths" "I", Cond.methodLink RX10 144 yX10_tenth, Cond.instanceMethod yX10_tenth, Cond.selects RX10 yX10_tenth yX10_tenth, Cond.code yX10_tenth cX10_tenth 6 none, Cond.constant RX10 133 (-9999999), Cond.constant RX10 134 (9999999), Cond.methodLink RX10 117 yX10_freePull, Cond.instanceMethod yX10_freePull, Cond.selects RX10 yX10_freePull yX10_freePull, Cond.code yX10_freePull cX10_freePull 2 (some .int), Cond.methodLink RX10 110 yX10_woundPull, Cond.instanceMethod yX10_woundPull, Cond.selects RX10 yX10_woundPull yX10_woundPull, Cond.code yX10_woundPull cX10_woundPull 4 (some .int), Cond.methodLink RX10 126 yX10_windAt]
def wsX10_when_r3 : List Cond := [Cond.instanceMethod yX10_windAt, Cond.selects RX10 yX10_windAt yX10_windAt, Cond.code yX10_windAt cX10_windAt 5 (some .int), Cond.constantLong RX10 120 (7919), Cond.constantLong RX10 122 (6151), Cond.constantLong RX10 124 (65521), Cond.methodLink RX10 130 yX10_within, Cond.static yX10_within, Cond.code yX10_within cX10_within 3 (some .int)]
def wsX10_when : List Cond := .code yX10_when cX10_when 4 (some .int) :: ((wsX10_when_r1 ++ (wsX10_when_r2 ++ wsX10_when_r3)) ++ wsX100)
def wsX10_lost_r1 : List Cond := [Cond.fieldLink RX10 41 "BandBoatModel" "thrown" "I", Cond.constantLong RX10 164 (-1), Cond.methodLink RX10 155 yX10_areTurns, Cond.static yX10_areTurns, Cond.initialized RX10, Cond.code yX10_areTurns cX10_areTurns 1 (some .boolean), Cond.methodLink RX10 45 yX10_in, Cond.static yX10_in, Cond.code yX10_in cX10_in 3 (some .boolean), Cond.methodLink RX10 114 yX10_asItIs, Cond.instanceMethod yX10_asItIs, Cond.selects RX10 yX10_asItIs yX10_asItIs, Cond.code yX10_asItIs cX10_asItIs 2 none, Cond.fieldLink RX10 13 "BandBoatModel" "boat" "[I", Cond.fieldLink RX10 89 "BandBoatModel" "pulls" "I", Cond.fieldLink RX10 92 "BandBoatModel" "loses" "I", Cond.fieldLink RX10 95 "BandBoatModel" "knots" "I", Cond.fieldLink RX10 98 "BandBoatModel" "strands" "I", Cond.fieldLink RX10 101 "BandBoatModel" "length" "I", Cond.fieldLink RX10 104 "BandBoatModel" "pitch" "I", Cond.fieldLink RX10 107 "BandBoatModel" "rudder" "I", Cond.methodLink RX10 110 yX10_woundPull, Cond.instanceMethod yX10_woundPull, Cond.selects RX10 yX10_woundPull yX10_woundPull]
def wsX10_lost_r2 : List Cond := [Cond.code yX10_woundPull cX10_woundPull 4 (some .int), Cond.methodLink RX10 117 yX10_freePull, Cond.instanceMethod yX10_freePull, Cond.selects RX10 yX10_freePull yX10_freePull, Cond.code yX10_freePull cX10_freePull 2 (some .int)]
def wsX10_lost : List Cond := .code yX10_lost cX10_lost 9 (some .long) :: ((wsX10_lost_r1 ++ wsX10_lost_r2) ++ wsX100)
def wsX10_snapOf : List Cond := .code yX10_snapOf cX10_snapOf 4 (some .int) :: ([.fieldLink RX10 13 "BandBoatModel" "boat" "[I"] ++ wsX100)
def wsX10_snap : List Cond := .code yX10_snap cX10_snap 2 (some .int) :: ([.fieldLink RX10 41 "BandBoatModel" "thrown" "I", .methodLink RX10 155 yX10_areTurns, .static yX10_areTurns, .initialized RX10, .code yX10_areTurns cX10_areTurns 1 (some .boolean), .methodLink RX10 45 yX10_in, .static yX10_in, .code yX10_in cX10_in 3 (some .boolean), .methodLink RX10 166 yX10_snapOf, .instanceMethod yX10_snapOf, .selects RX10 yX10_snapOf yX10_snapOf, .code yX10_snapOf cX10_snapOf 4 (some .int), .fieldLink RX10 13 "BandBoatModel" "boat" "[I"] ++ wsX100)
def wsX10_wise_r1 : List Cond := [Cond.fieldLink RX10 41 "BandBoatModel" "thrown" "I", Cond.constantLong RX10 164 (-1), Cond.methodLink RX10 114 yX10_asItIs, Cond.instanceMethod yX10_asItIs, Cond.selects RX10 yX10_asItIs yX10_asItIs, Cond.initialized RX10, Cond.code yX10_asItIs cX10_asItIs 2 none, Cond.fieldLink RX10 13 "BandBoatModel" "boat" "[I", Cond.fieldLink RX10 89 "BandBoatModel" "pulls" "I", Cond.fieldLink RX10 92 "BandBoatModel" "loses" "I", Cond.fieldLink RX10 95 "BandBoatModel" "knots" "I", Cond.fieldLink RX10 98 "BandBoatModel" "strands" "I", Cond.fieldLink RX10 101 "BandBoatModel" "length" "I", Cond.fieldLink RX10 104 "BandBoatModel" "pitch" "I", Cond.fieldLink RX10 107 "BandBoatModel" "rudder" "I", Cond.methodLink RX10 169 yX10_placeOf, Cond.instanceMethod yX10_placeOf, Cond.selects RX10 yX10_placeOf yX10_placeOf, Cond.code yX10_placeOf cX10_placeOf 3 (some .int), Cond.fieldLink RX10 19 "BandBoatModel" "run" "[I", Cond.methodLink RX10 151 yX10_runs, Cond.instanceMethod yX10_runs, Cond.selects RX10 yX10_runs yX10_runs, Cond.code yX10_runs cX10_runs 7 none]
def wsX10_wise_r2 : List Cond := [Cond.fieldLink RX10 135 "BandBoatModel" "fastest" "I", Cond.fieldLink RX10 138 "BandBoatModel" "unwound" "I", Cond.fieldLink RX10 141 "BandBoatModel" "reached" "I", Cond.fieldLink RX10 148 "BandBoatModel" "runTenths" "I", Cond.methodLink RX10 144 yX10_tenth, Cond.instanceMethod yX10_tenth, Cond.selects RX10 yX10_tenth yX10_tenth, Cond.code yX10_tenth cX10_tenth 6 none, Cond.constant RX10 133 (-9999999), Cond.constant RX10 134 (9999999), Cond.methodLink RX10 117 yX10_freePull, Cond.instanceMethod yX10_freePull, Cond.selects RX10 yX10_freePull yX10_freePull, Cond.code yX10_freePull cX10_freePull 2 (some .int), Cond.methodLink RX10 110 yX10_woundPull, Cond.instanceMethod yX10_woundPull, Cond.selects RX10 yX10_woundPull yX10_woundPull, Cond.code yX10_woundPull cX10_woundPull 4 (some .int), Cond.methodLink RX10 126 yX10_windAt, Cond.instanceMethod yX10_windAt, Cond.selects RX10 yX10_windAt yX10_windAt, Cond.code yX10_windAt cX10_windAt 5 (some .int), Cond.constantLong RX10 120 (7919), Cond.constantLong RX10 122 (6151)]
def wsX10_wise_r3 : List Cond := [Cond.constantLong RX10 124 (65521), Cond.methodLink RX10 130 yX10_within, Cond.static yX10_within, Cond.code yX10_within cX10_within 3 (some .int), Cond.methodLink RX10 166 yX10_snapOf, Cond.instanceMethod yX10_snapOf, Cond.selects RX10 yX10_snapOf yX10_snapOf, Cond.code yX10_snapOf cX10_snapOf 4 (some .int)]
def wsX10_wise : List Cond := .code yX10_wise cX10_wise 7 (some .int) :: ((wsX10_wise_r1 ++ (wsX10_wise_r2 ++ wsX10_wise_r3)) ++ wsX100)
def wsX10_best_r1 : List Cond := [Cond.fieldLink RX10 41 "BandBoatModel" "thrown" "I", Cond.fieldLink RX10 34 "BandBoatModel" "answer" "[I", Cond.fieldLink RX10 98 "BandBoatModel" "strands" "I", Cond.fieldLink RX10 101 "BandBoatModel" "length" "I", Cond.fieldLink RX10 104 "BandBoatModel" "pitch" "I", Cond.methodLink RX10 45 yX10_in, Cond.static yX10_in, Cond.initialized RX10, Cond.code yX10_in cX10_in 3 (some .boolean), Cond.methodLink RX10 155 yX10_areTurns, Cond.static yX10_areTurns, Cond.code yX10_areTurns cX10_areTurns 1 (some .boolean), Cond.methodLink RX10 114 yX10_asItIs, Cond.instanceMethod yX10_asItIs, Cond.selects RX10 yX10_asItIs yX10_asItIs, Cond.code yX10_asItIs cX10_asItIs 2 none, Cond.fieldLink RX10 13 "BandBoatModel" "boat" "[I", Cond.fieldLink RX10 89 "BandBoatModel" "pulls" "I", Cond.fieldLink RX10 92 "BandBoatModel" "loses" "I", Cond.fieldLink RX10 95 "BandBoatModel" "knots" "I", Cond.fieldLink RX10 107 "BandBoatModel" "rudder" "I", Cond.methodLink RX10 169 yX10_placeOf, Cond.instanceMethod yX10_placeOf, Cond.selects RX10 yX10_placeOf yX10_placeOf]
def wsX10_best_r2 : List Cond := [Cond.code yX10_placeOf cX10_placeOf 3 (some .int), Cond.fieldLink RX10 19 "BandBoatModel" "run" "[I", Cond.methodLink RX10 151 yX10_runs, Cond.instanceMethod yX10_runs, Cond.selects RX10 yX10_runs yX10_runs, Cond.code yX10_runs cX10_runs 7 none, Cond.fieldLink RX10 135 "BandBoatModel" "fastest" "I", Cond.fieldLink RX10 138 "BandBoatModel" "unwound" "I", Cond.fieldLink RX10 141 "BandBoatModel" "reached" "I", Cond.fieldLink RX10 148 "BandBoatModel" "runTenths" "I", Cond.methodLink RX10 144 yX10_tenth, Cond.instanceMethod yX10_tenth, Cond.selects RX10 yX10_tenth yX10_tenth, Cond.code yX10_tenth cX10_tenth 6 none, Cond.constant RX10 133 (-9999999), Cond.constant RX10 134 (9999999), Cond.methodLink RX10 117 yX10_freePull, Cond.instanceMethod yX10_freePull, Cond.selects RX10 yX10_freePull yX10_freePull, Cond.code yX10_freePull cX10_freePull 2 (some .int), Cond.methodLink RX10 110 yX10_woundPull, Cond.instanceMethod yX10_woundPull, Cond.selects RX10 yX10_woundPull yX10_woundPull, Cond.code yX10_woundPull cX10_woundPull 4 (some .int)]
def wsX10_best_r3 : List Cond := [Cond.methodLink RX10 126 yX10_windAt, Cond.instanceMethod yX10_windAt, Cond.selects RX10 yX10_windAt yX10_windAt, Cond.code yX10_windAt cX10_windAt 5 (some .int), Cond.constantLong RX10 120 (7919), Cond.constantLong RX10 122 (6151), Cond.constantLong RX10 124 (65521), Cond.methodLink RX10 130 yX10_within, Cond.static yX10_within, Cond.code yX10_within cX10_within 3 (some .int)]
def wsX10_best : List Cond := .code yX10_best cX10_best 5 (some .int) :: ((wsX10_best_r1 ++ (wsX10_best_r2 ++ wsX10_best_r3)) ++ wsX100)
def wsX10_just_r1 : List Cond := [Cond.fieldLink RX10 41 "BandBoatModel" "thrown" "I", Cond.constant RX10 163 (99999), Cond.methodLink RX10 45 yX10_in, Cond.static yX10_in, Cond.initialized RX10, Cond.code yX10_in cX10_in 3 (some .boolean), Cond.methodLink RX10 114 yX10_asItIs, Cond.instanceMethod yX10_asItIs, Cond.selects RX10 yX10_asItIs yX10_asItIs, Cond.code yX10_asItIs cX10_asItIs 2 none, Cond.fieldLink RX10 13 "BandBoatModel" "boat" "[I", Cond.fieldLink RX10 89 "BandBoatModel" "pulls" "I", Cond.fieldLink RX10 92 "BandBoatModel" "loses" "I", Cond.fieldLink RX10 95 "BandBoatModel" "knots" "I", Cond.fieldLink RX10 98 "BandBoatModel" "strands" "I", Cond.fieldLink RX10 101 "BandBoatModel" "length" "I", Cond.fieldLink RX10 104 "BandBoatModel" "pitch" "I", Cond.fieldLink RX10 107 "BandBoatModel" "rudder" "I", Cond.methodLink RX10 169 yX10_placeOf, Cond.instanceMethod yX10_placeOf, Cond.selects RX10 yX10_placeOf yX10_placeOf, Cond.code yX10_placeOf cX10_placeOf 3 (some .int), Cond.fieldLink RX10 19 "BandBoatModel" "run" "[I", Cond.methodLink RX10 151 yX10_runs]
def wsX10_just_r2 : List Cond := [Cond.instanceMethod yX10_runs, Cond.selects RX10 yX10_runs yX10_runs, Cond.code yX10_runs cX10_runs 7 none, Cond.fieldLink RX10 135 "BandBoatModel" "fastest" "I", Cond.fieldLink RX10 138 "BandBoatModel" "unwound" "I", Cond.fieldLink RX10 141 "BandBoatModel" "reached" "I", Cond.fieldLink RX10 148 "BandBoatModel" "runTenths" "I", Cond.methodLink RX10 144 yX10_tenth, Cond.instanceMethod yX10_tenth, Cond.selects RX10 yX10_tenth yX10_tenth, Cond.code yX10_tenth cX10_tenth 6 none, Cond.constant RX10 133 (-9999999), Cond.constant RX10 134 (9999999), Cond.methodLink RX10 117 yX10_freePull, Cond.instanceMethod yX10_freePull, Cond.selects RX10 yX10_freePull yX10_freePull, Cond.code yX10_freePull cX10_freePull 2 (some .int), Cond.methodLink RX10 110 yX10_woundPull, Cond.instanceMethod yX10_woundPull, Cond.selects RX10 yX10_woundPull yX10_woundPull, Cond.code yX10_woundPull cX10_woundPull 4 (some .int), Cond.methodLink RX10 126 yX10_windAt, Cond.instanceMethod yX10_windAt, Cond.selects RX10 yX10_windAt yX10_windAt]
def wsX10_just_r3 : List Cond := [Cond.code yX10_windAt cX10_windAt 5 (some .int), Cond.constantLong RX10 120 (7919), Cond.constantLong RX10 122 (6151), Cond.constantLong RX10 124 (65521), Cond.methodLink RX10 130 yX10_within, Cond.static yX10_within, Cond.code yX10_within cX10_within 3 (some .int)]
def wsX10_just : List Cond := .code yX10_just cX10_just 9 (some .int) :: ((wsX10_just_r1 ++ (wsX10_just_r2 ++ wsX10_just_r3)) ++ wsX100)
def wsX10_span_r1 : List Cond := [Cond.fieldLink RX10 41 "BandBoatModel" "thrown" "I", Cond.methodLink RX10 155 yX10_areTurns, Cond.static yX10_areTurns, Cond.initialized RX10, Cond.code yX10_areTurns cX10_areTurns 1 (some .boolean), Cond.methodLink RX10 45 yX10_in, Cond.static yX10_in, Cond.code yX10_in cX10_in 3 (some .boolean), Cond.methodLink RX10 114 yX10_asItIs, Cond.instanceMethod yX10_asItIs, Cond.selects RX10 yX10_asItIs yX10_asItIs, Cond.code yX10_asItIs cX10_asItIs 2 none, Cond.fieldLink RX10 13 "BandBoatModel" "boat" "[I", Cond.fieldLink RX10 89 "BandBoatModel" "pulls" "I", Cond.fieldLink RX10 92 "BandBoatModel" "loses" "I", Cond.fieldLink RX10 95 "BandBoatModel" "knots" "I", Cond.fieldLink RX10 98 "BandBoatModel" "strands" "I", Cond.fieldLink RX10 101 "BandBoatModel" "length" "I", Cond.fieldLink RX10 104 "BandBoatModel" "pitch" "I", Cond.fieldLink RX10 107 "BandBoatModel" "rudder" "I", Cond.methodLink RX10 169 yX10_placeOf, Cond.instanceMethod yX10_placeOf, Cond.selects RX10 yX10_placeOf yX10_placeOf, Cond.code yX10_placeOf cX10_placeOf 3 (some .int)]
def wsX10_span_r2 : List Cond := [Cond.fieldLink RX10 19 "BandBoatModel" "run" "[I", Cond.methodLink RX10 151 yX10_runs, Cond.instanceMethod yX10_runs, Cond.selects RX10 yX10_runs yX10_runs, Cond.code yX10_runs cX10_runs 7 none, Cond.fieldLink RX10 135 "BandBoatModel" "fastest" "I", Cond.fieldLink RX10 138 "BandBoatModel" "unwound" "I", Cond.fieldLink RX10 141 "BandBoatModel" "reached" "I", Cond.fieldLink RX10 148 "BandBoatModel" "runTenths" "I", Cond.methodLink RX10 144 yX10_tenth, Cond.instanceMethod yX10_tenth, Cond.selects RX10 yX10_tenth yX10_tenth, Cond.code yX10_tenth cX10_tenth 6 none, Cond.constant RX10 133 (-9999999), Cond.constant RX10 134 (9999999), Cond.methodLink RX10 117 yX10_freePull, Cond.instanceMethod yX10_freePull, Cond.selects RX10 yX10_freePull yX10_freePull, Cond.code yX10_freePull cX10_freePull 2 (some .int), Cond.methodLink RX10 110 yX10_woundPull, Cond.instanceMethod yX10_woundPull, Cond.selects RX10 yX10_woundPull yX10_woundPull, Cond.code yX10_woundPull cX10_woundPull 4 (some .int), Cond.methodLink RX10 126 yX10_windAt]
def wsX10_span_r3 : List Cond := [Cond.instanceMethod yX10_windAt, Cond.selects RX10 yX10_windAt yX10_windAt, Cond.code yX10_windAt cX10_windAt 5 (some .int), Cond.constantLong RX10 120 (7919), Cond.constantLong RX10 122 (6151), Cond.constantLong RX10 124 (65521), Cond.methodLink RX10 130 yX10_within, Cond.static yX10_within, Cond.code yX10_within cX10_within 3 (some .int)]
def wsX10_span : List Cond := .code yX10_span cX10_span 8 (some .int) :: ((wsX10_span_r1 ++ (wsX10_span_r2 ++ wsX10_span_r3)) ++ wsX100)
def wsX10_straight_r1 : List Cond := [Cond.fieldLink RX10 41 "BandBoatModel" "thrown" "I", Cond.fieldLink RX10 107 "BandBoatModel" "rudder" "I", Cond.fieldLink RX10 19 "BandBoatModel" "run" "[I", Cond.constant RX10 162 (10000000), Cond.methodLink RX10 155 yX10_areTurns, Cond.static yX10_areTurns, Cond.initialized RX10, Cond.code yX10_areTurns cX10_areTurns 1 (some .boolean), Cond.methodLink RX10 45 yX10_in, Cond.static yX10_in, Cond.code yX10_in cX10_in 3 (some .boolean), Cond.methodLink RX10 114 yX10_asItIs, Cond.instanceMethod yX10_asItIs, Cond.selects RX10 yX10_asItIs yX10_asItIs, Cond.code yX10_asItIs cX10_asItIs 2 none, Cond.fieldLink RX10 13 "BandBoatModel" "boat" "[I", Cond.fieldLink RX10 89 "BandBoatModel" "pulls" "I", Cond.fieldLink RX10 92 "BandBoatModel" "loses" "I", Cond.fieldLink RX10 95 "BandBoatModel" "knots" "I", Cond.fieldLink RX10 98 "BandBoatModel" "strands" "I", Cond.fieldLink RX10 101 "BandBoatModel" "length" "I", Cond.fieldLink RX10 104 "BandBoatModel" "pitch" "I", Cond.methodLink RX10 169 yX10_placeOf, Cond.instanceMethod yX10_placeOf]
def wsX10_straight_r2 : List Cond := [Cond.selects RX10 yX10_placeOf yX10_placeOf, Cond.code yX10_placeOf cX10_placeOf 3 (some .int), Cond.methodLink RX10 151 yX10_runs, Cond.instanceMethod yX10_runs, Cond.selects RX10 yX10_runs yX10_runs, Cond.code yX10_runs cX10_runs 7 none, Cond.fieldLink RX10 135 "BandBoatModel" "fastest" "I", Cond.fieldLink RX10 138 "BandBoatModel" "unwound" "I", Cond.fieldLink RX10 141 "BandBoatModel" "reached" "I", Cond.fieldLink RX10 148 "BandBoatModel" "runTenths" "I", Cond.methodLink RX10 144 yX10_tenth, Cond.instanceMethod yX10_tenth, Cond.selects RX10 yX10_tenth yX10_tenth, Cond.code yX10_tenth cX10_tenth 6 none, Cond.constant RX10 133 (-9999999), Cond.constant RX10 134 (9999999), Cond.methodLink RX10 117 yX10_freePull, Cond.instanceMethod yX10_freePull, Cond.selects RX10 yX10_freePull yX10_freePull, Cond.code yX10_freePull cX10_freePull 2 (some .int), Cond.methodLink RX10 110 yX10_woundPull, Cond.instanceMethod yX10_woundPull, Cond.selects RX10 yX10_woundPull yX10_woundPull, Cond.code yX10_woundPull cX10_woundPull 4 (some .int)]
def wsX10_straight_r3 : List Cond := [Cond.methodLink RX10 126 yX10_windAt, Cond.instanceMethod yX10_windAt, Cond.selects RX10 yX10_windAt yX10_windAt, Cond.code yX10_windAt cX10_windAt 5 (some .int), Cond.constantLong RX10 120 (7919), Cond.constantLong RX10 122 (6151), Cond.constantLong RX10 124 (65521), Cond.methodLink RX10 130 yX10_within, Cond.static yX10_within, Cond.code yX10_within cX10_within 3 (some .int)]
def wsX10_straight : List Cond := .code yX10_straight cX10_straight 7 (some .int) :: ((wsX10_straight_r1 ++ (wsX10_straight_r2 ++ wsX10_straight_r3)) ++ wsX100)
def wsX10_two_r1 : List Cond := [Cond.fieldLink RX10 41 "BandBoatModel" "thrown" "I", Cond.fieldLink RX10 19 "BandBoatModel" "run" "[I", Cond.methodLink RX10 45 yX10_in, Cond.static yX10_in, Cond.initialized RX10, Cond.code yX10_in cX10_in 3 (some .boolean), Cond.methodLink RX10 114 yX10_asItIs, Cond.instanceMethod yX10_asItIs, Cond.selects RX10 yX10_asItIs yX10_asItIs, Cond.code yX10_asItIs cX10_asItIs 2 none, Cond.fieldLink RX10 13 "BandBoatModel" "boat" "[I", Cond.fieldLink RX10 89 "BandBoatModel" "pulls" "I", Cond.fieldLink RX10 92 "BandBoatModel" "loses" "I", Cond.fieldLink RX10 95 "BandBoatModel" "knots" "I", Cond.fieldLink RX10 98 "BandBoatModel" "strands" "I", Cond.fieldLink RX10 101 "BandBoatModel" "length" "I", Cond.fieldLink RX10 104 "BandBoatModel" "pitch" "I", Cond.fieldLink RX10 107 "BandBoatModel" "rudder" "I", Cond.methodLink RX10 151 yX10_runs, Cond.instanceMethod yX10_runs, Cond.selects RX10 yX10_runs yX10_runs, Cond.code yX10_runs cX10_runs 7 none, Cond.fieldLink RX10 135 "BandBoatModel" "fastest" "I", Cond.fieldLink RX10 138 "BandBoatModel" "unwound" "I"]
def wsX10_two_r2 : List Cond := [Cond.fieldLink RX10 141 "BandBoatModel" "reached" "I", Cond.fieldLink RX10 148 "BandBoatModel" "runTenths" "I", Cond.methodLink RX10 144 yX10_tenth, Cond.instanceMethod yX10_tenth, Cond.selects RX10 yX10_tenth yX10_tenth, Cond.code yX10_tenth cX10_tenth 6 none, Cond.constant RX10 133 (-9999999), Cond.constant RX10 134 (9999999), Cond.methodLink RX10 117 yX10_freePull, Cond.instanceMethod yX10_freePull, Cond.selects RX10 yX10_freePull yX10_freePull, Cond.code yX10_freePull cX10_freePull 2 (some .int), Cond.methodLink RX10 110 yX10_woundPull, Cond.instanceMethod yX10_woundPull, Cond.selects RX10 yX10_woundPull yX10_woundPull, Cond.code yX10_woundPull cX10_woundPull 4 (some .int), Cond.methodLink RX10 126 yX10_windAt, Cond.instanceMethod yX10_windAt, Cond.selects RX10 yX10_windAt yX10_windAt, Cond.code yX10_windAt cX10_windAt 5 (some .int), Cond.constantLong RX10 120 (7919), Cond.constantLong RX10 122 (6151), Cond.constantLong RX10 124 (65521), Cond.methodLink RX10 130 yX10_within]
def wsX10_two_r3 : List Cond := [Cond.static yX10_within, Cond.code yX10_within cX10_within 3 (some .int)]
def wsX10_two : List Cond := .code yX10_two cX10_two 2 (some .int) :: ((wsX10_two_r1 ++ (wsX10_two_r2 ++ wsX10_two_r3)) ++ wsX100)
def wsX10_reading : List Cond := .code yX10_reading cX10_reading 4 (some .int) :: ([.fieldLink RX10 41 "BandBoatModel" "thrown" "I", .fieldLink RX10 80 "BandBoatModel" "readings" "I", .fieldLink RX10 25 "BandBoatModel" "reading" "[I", .methodLink RX10 155 yX10_areTurns, .static yX10_areTurns, .initialized RX10, .code yX10_areTurns cX10_areTurns 1 (some .boolean), .methodLink RX10 45 yX10_in, .static yX10_in, .code yX10_in cX10_in 3 (some .boolean)] ++ wsX100)
def wsX10_isNear : List Cond := .code yX10_isNear cX10_isNear 3 (some .boolean) :: ([])
def wsX10_fitsAll : List Cond := .code yX10_fitsAll cX10_fitsAll 4 (some .boolean) :: ([.fieldLink RX10 80 "BandBoatModel" "readings" "I", .fieldLink RX10 25 "BandBoatModel" "reading" "[I", .methodLink RX10 110 yX10_woundPull, .instanceMethod yX10_woundPull, .selects RX10 yX10_woundPull yX10_woundPull, .initialized RX10, .code yX10_woundPull cX10_woundPull 4 (some .int), .fieldLink RX10 89 "BandBoatModel" "pulls" "I", .fieldLink RX10 98 "BandBoatModel" "strands" "I", .fieldLink RX10 101 "BandBoatModel" "length" "I", .fieldLink RX10 95 "BandBoatModel" "knots" "I", .fieldLink RX10 13 "BandBoatModel" "boat" "[I", .methodLink RX10 172 yX10_isNear, .static yX10_isNear, .code yX10_isNear cX10_isNear 3 (some .boolean), .methodLink RX10 117 yX10_freePull, .instanceMethod yX10_freePull, .selects RX10 yX10_freePull yX10_freePull, .code yX10_freePull cX10_freePull 2 (some .int), .fieldLink RX10 92 "BandBoatModel" "loses" "I"] ++ wsX100)
def wsX10_widens : List Cond := .code yX10_widens cX10_widens 3 none :: ([.fieldLink RX10 34 "BandBoatModel" "answer" "[I"] ++ wsX100)
def wsX10_fits_r1 : List Cond := [Cond.fieldLink RX10 41 "BandBoatModel" "thrown" "I", Cond.fieldLink RX10 34 "BandBoatModel" "answer" "[I", Cond.fieldLink RX10 89 "BandBoatModel" "pulls" "I", Cond.fieldLink RX10 92 "BandBoatModel" "loses" "I", Cond.methodLink RX10 45 yX10_in, Cond.static yX10_in, Cond.initialized RX10, Cond.code yX10_in cX10_in 3 (some .boolean), Cond.methodLink RX10 114 yX10_asItIs, Cond.instanceMethod yX10_asItIs, Cond.selects RX10 yX10_asItIs yX10_asItIs, Cond.code yX10_asItIs cX10_asItIs 2 none, Cond.fieldLink RX10 13 "BandBoatModel" "boat" "[I", Cond.fieldLink RX10 95 "BandBoatModel" "knots" "I", Cond.fieldLink RX10 98 "BandBoatModel" "strands" "I", Cond.fieldLink RX10 101 "BandBoatModel" "length" "I", Cond.fieldLink RX10 104 "BandBoatModel" "pitch" "I", Cond.fieldLink RX10 107 "BandBoatModel" "rudder" "I", Cond.methodLink RX10 175 yX10_fitsAll, Cond.instanceMethod yX10_fitsAll, Cond.selects RX10 yX10_fitsAll yX10_fitsAll, Cond.code yX10_fitsAll cX10_fitsAll 4 (some .boolean), Cond.fieldLink RX10 80 "BandBoatModel" "readings" "I", Cond.fieldLink RX10 25 "BandBoatModel" "reading" "[I"]
def wsX10_fits_r2 : List Cond := [Cond.methodLink RX10 110 yX10_woundPull, Cond.instanceMethod yX10_woundPull, Cond.selects RX10 yX10_woundPull yX10_woundPull, Cond.code yX10_woundPull cX10_woundPull 4 (some .int), Cond.methodLink RX10 172 yX10_isNear, Cond.static yX10_isNear, Cond.code yX10_isNear cX10_isNear 3 (some .boolean), Cond.methodLink RX10 117 yX10_freePull, Cond.instanceMethod yX10_freePull, Cond.selects RX10 yX10_freePull yX10_freePull, Cond.code yX10_freePull cX10_freePull 2 (some .int), Cond.methodLink RX10 178 yX10_widens, Cond.instanceMethod yX10_widens, Cond.selects RX10 yX10_widens yX10_widens, Cond.code yX10_widens cX10_widens 3 none]
def wsX10_fits : List Cond := .code yX10_fits cX10_fits 3 (some .int) :: ((wsX10_fits_r1 ++ wsX10_fits_r2) ++ wsX100)
def wsX10_mark : List Cond := .code yX10_mark cX10_mark 3 (some .int) :: ([.fieldLink RX10 41 "BandBoatModel" "thrown" "I", .constant RX10 163 (99999), .fieldLink RX10 83 "BandBoatModel" "marks" "I", .fieldLink RX10 28 "BandBoatModel" "mark" "[I", .methodLink RX10 45 yX10_in, .static yX10_in, .initialized RX10, .code yX10_in cX10_in 3 (some .boolean)] ++ wsX100)
def wsX10_runsByMarks_r1 : List Cond := [Cond.fieldLink RX10 31 "BandBoatModel" "whens" "[I", Cond.fieldLink RX10 19 "BandBoatModel" "run" "[I", Cond.fieldLink RX10 83 "BandBoatModel" "marks" "I", Cond.fieldLink RX10 28 "BandBoatModel" "mark" "[I", Cond.methodLink RX10 144 yX10_tenth, Cond.instanceMethod yX10_tenth, Cond.selects RX10 yX10_tenth yX10_tenth, Cond.initialized RX10, Cond.code yX10_tenth cX10_tenth 6 none, Cond.fieldLink RX10 104 "BandBoatModel" "pitch" "I", Cond.fieldLink RX10 13 "BandBoatModel" "boat" "[I", Cond.fieldLink RX10 107 "BandBoatModel" "rudder" "I", Cond.constant RX10 133 (-9999999), Cond.constant RX10 134 (9999999), Cond.methodLink RX10 117 yX10_freePull, Cond.instanceMethod yX10_freePull, Cond.selects RX10 yX10_freePull yX10_freePull, Cond.code yX10_freePull cX10_freePull 2 (some .int), Cond.fieldLink RX10 92 "BandBoatModel" "loses" "I", Cond.methodLink RX10 110 yX10_woundPull, Cond.instanceMethod yX10_woundPull, Cond.selects RX10 yX10_woundPull yX10_woundPull, Cond.code yX10_woundPull cX10_woundPull 4 (some .int), Cond.fieldLink RX10 89 "BandBoatModel" "pulls" "I"]
def wsX10_runsByMarks_r2 : List Cond := [Cond.fieldLink RX10 98 "BandBoatModel" "strands" "I", Cond.fieldLink RX10 101 "BandBoatModel" "length" "I", Cond.fieldLink RX10 95 "BandBoatModel" "knots" "I", Cond.methodLink RX10 126 yX10_windAt, Cond.instanceMethod yX10_windAt, Cond.selects RX10 yX10_windAt yX10_windAt, Cond.code yX10_windAt cX10_windAt 5 (some .int), Cond.constantLong RX10 120 (7919), Cond.constantLong RX10 122 (6151), Cond.constantLong RX10 124 (65521), Cond.methodLink RX10 130 yX10_within, Cond.static yX10_within, Cond.code yX10_within cX10_within 3 (some .int)]
def wsX10_runsByMarks : List Cond := .code yX10_runsByMarks cX10_runsByMarks 3 none :: ((wsX10_runsByMarks_r1 ++ wsX10_runsByMarks_r2) ++ wsX100)
def wsX10_isByMarks : List Cond := .code yX10_isByMarks cX10_isByMarks 4 (some .boolean) :: ([.fieldLink RX10 83 "BandBoatModel" "marks" "I", .fieldLink RX10 31 "BandBoatModel" "whens" "[I", .fieldLink RX10 28 "BandBoatModel" "mark" "[I"] ++ wsX100)
def wsX10_told_r1 : List Cond := [Cond.fieldLink RX10 41 "BandBoatModel" "thrown" "I", Cond.fieldLink RX10 34 "BandBoatModel" "answer" "[I", Cond.fieldLink RX10 98 "BandBoatModel" "strands" "I", Cond.fieldLink RX10 104 "BandBoatModel" "pitch" "I", Cond.methodLink RX10 45 yX10_in, Cond.static yX10_in, Cond.initialized RX10, Cond.code yX10_in cX10_in 3 (some .boolean), Cond.methodLink RX10 114 yX10_asItIs, Cond.instanceMethod yX10_asItIs, Cond.selects RX10 yX10_asItIs yX10_asItIs, Cond.code yX10_asItIs cX10_asItIs 2 none, Cond.fieldLink RX10 13 "BandBoatModel" "boat" "[I", Cond.fieldLink RX10 89 "BandBoatModel" "pulls" "I", Cond.fieldLink RX10 92 "BandBoatModel" "loses" "I", Cond.fieldLink RX10 95 "BandBoatModel" "knots" "I", Cond.fieldLink RX10 101 "BandBoatModel" "length" "I", Cond.fieldLink RX10 107 "BandBoatModel" "rudder" "I", Cond.methodLink RX10 181 yX10_runsByMarks, Cond.instanceMethod yX10_runsByMarks, Cond.selects RX10 yX10_runsByMarks yX10_runsByMarks, Cond.code yX10_runsByMarks cX10_runsByMarks 3 none, Cond.fieldLink RX10 31 "BandBoatModel" "whens" "[I", Cond.fieldLink RX10 19 "BandBoatModel" "run" "[I"]
def wsX10_told_r2 : List Cond := [Cond.fieldLink RX10 83 "BandBoatModel" "marks" "I", Cond.fieldLink RX10 28 "BandBoatModel" "mark" "[I", Cond.methodLink RX10 144 yX10_tenth, Cond.instanceMethod yX10_tenth, Cond.selects RX10 yX10_tenth yX10_tenth, Cond.code yX10_tenth cX10_tenth 6 none, Cond.constant RX10 133 (-9999999), Cond.constant RX10 134 (9999999), Cond.methodLink RX10 117 yX10_freePull, Cond.instanceMethod yX10_freePull, Cond.selects RX10 yX10_freePull yX10_freePull, Cond.code yX10_freePull cX10_freePull 2 (some .int), Cond.methodLink RX10 110 yX10_woundPull, Cond.instanceMethod yX10_woundPull, Cond.selects RX10 yX10_woundPull yX10_woundPull, Cond.code yX10_woundPull cX10_woundPull 4 (some .int), Cond.methodLink RX10 126 yX10_windAt, Cond.instanceMethod yX10_windAt, Cond.selects RX10 yX10_windAt yX10_windAt, Cond.code yX10_windAt cX10_windAt 5 (some .int), Cond.constantLong RX10 120 (7919), Cond.constantLong RX10 122 (6151), Cond.constantLong RX10 124 (65521), Cond.methodLink RX10 130 yX10_within]
def wsX10_told_r3 : List Cond := [Cond.static yX10_within, Cond.code yX10_within cX10_within 3 (some .int), Cond.methodLink RX10 184 yX10_isByMarks, Cond.instanceMethod yX10_isByMarks, Cond.selects RX10 yX10_isByMarks yX10_isByMarks, Cond.code yX10_isByMarks cX10_isByMarks 4 (some .boolean), Cond.methodLink RX10 178 yX10_widens, Cond.instanceMethod yX10_widens, Cond.selects RX10 yX10_widens yX10_widens, Cond.code yX10_widens cX10_widens 3 none]
def wsX10_told : List Cond := .code yX10_told cX10_told 4 (some .int) :: ((wsX10_told_r1 ++ (wsX10_told_r2 ++ wsX10_told_r3)) ++ wsX100)
def wsX10_forget : List Cond := .code yX10_forget cX10_forget 2 (some .int) :: ([.fieldLink RX10 41 "BandBoatModel" "thrown" "I", .fieldLink RX10 80 "BandBoatModel" "readings" "I", .fieldLink RX10 83 "BandBoatModel" "marks" "I"] ++ wsX100)
def wsX10_wind : List Cond := .code yX10_wind cX10_wind 2 (some .int) :: ([.fieldLink RX10 41 "BandBoatModel" "thrown" "I", .fieldLink RX10 16 "BandBoatModel" "now" "[I", .constant RX10 113 (40000), .methodLink RX10 45 yX10_in, .static yX10_in, .initialized RX10, .code yX10_in cX10_in 3 (some .boolean)] ++ wsX100)
def wsX10_go_r1 : List Cond := [Cond.fieldLink RX10 41 "BandBoatModel" "thrown" "I", Cond.fieldLink RX10 16 "BandBoatModel" "now" "[I", Cond.methodLink RX10 45 yX10_in, Cond.static yX10_in, Cond.initialized RX10, Cond.code yX10_in cX10_in 3 (some .boolean), Cond.methodLink RX10 159 yX10_isWind, Cond.static yX10_isWind, Cond.code yX10_isWind cX10_isWind 1 (some .boolean), Cond.methodLink RX10 114 yX10_asItIs, Cond.instanceMethod yX10_asItIs, Cond.selects RX10 yX10_asItIs yX10_asItIs, Cond.code yX10_asItIs cX10_asItIs 2 none, Cond.fieldLink RX10 13 "BandBoatModel" "boat" "[I", Cond.fieldLink RX10 89 "BandBoatModel" "pulls" "I", Cond.fieldLink RX10 92 "BandBoatModel" "loses" "I", Cond.fieldLink RX10 95 "BandBoatModel" "knots" "I", Cond.fieldLink RX10 98 "BandBoatModel" "strands" "I", Cond.fieldLink RX10 101 "BandBoatModel" "length" "I", Cond.fieldLink RX10 104 "BandBoatModel" "pitch" "I", Cond.fieldLink RX10 107 "BandBoatModel" "rudder" "I", Cond.methodLink RX10 144 yX10_tenth, Cond.instanceMethod yX10_tenth, Cond.selects RX10 yX10_tenth yX10_tenth]
def wsX10_go_r2 : List Cond := [Cond.code yX10_tenth cX10_tenth 6 none, Cond.constant RX10 133 (-9999999), Cond.constant RX10 134 (9999999), Cond.methodLink RX10 117 yX10_freePull, Cond.instanceMethod yX10_freePull, Cond.selects RX10 yX10_freePull yX10_freePull, Cond.code yX10_freePull cX10_freePull 2 (some .int), Cond.methodLink RX10 110 yX10_woundPull, Cond.instanceMethod yX10_woundPull, Cond.selects RX10 yX10_woundPull yX10_woundPull, Cond.code yX10_woundPull cX10_woundPull 4 (some .int), Cond.methodLink RX10 126 yX10_windAt, Cond.instanceMethod yX10_windAt, Cond.selects RX10 yX10_windAt yX10_windAt, Cond.code yX10_windAt cX10_windAt 5 (some .int), Cond.constantLong RX10 120 (7919), Cond.constantLong RX10 122 (6151), Cond.constantLong RX10 124 (65521), Cond.methodLink RX10 130 yX10_within, Cond.static yX10_within, Cond.code yX10_within cX10_within 3 (some .int)]
def wsX10_go : List Cond := .code yX10_go cX10_go 4 (some .int) :: ((wsX10_go_r1 ++ wsX10_go_r2) ++ wsX100)
def wsX10_weed : List Cond := .code yX10_weed cX10_weed 2 (some .int) :: ([.fieldLink RX10 41 "BandBoatModel" "thrown" "I", .fieldLink RX10 16 "BandBoatModel" "now" "[I"] ++ wsX100)
def wsX10_now : List Cond := .code yX10_now cX10_now 2 (some .int) :: ([.fieldLink RX10 41 "BandBoatModel" "thrown" "I", .fieldLink RX10 16 "BandBoatModel" "now" "[I", .constant RX10 162 (10000000), .methodLink RX10 45 yX10_in, .static yX10_in, .initialized RX10, .code yX10_in cX10_in 3 (some .boolean)] ++ wsX100)
def wsX10_keep : List Cond := .code yX10_keep cX10_keep 2 (some .int) :: ([.fieldLink RX10 41 "BandBoatModel" "thrown" "I", .fieldLink RX10 86 "BandBoatModel" "keptMany" "I", .fieldLink RX10 22 "BandBoatModel" "kept" "[I", .fieldLink RX10 16 "BandBoatModel" "now" "[I"] ++ wsX100)
def wsX10_back : List Cond := .code yX10_back cX10_back 2 (some .int) :: ([.fieldLink RX10 41 "BandBoatModel" "thrown" "I", .fieldLink RX10 86 "BandBoatModel" "keptMany" "I", .fieldLink RX10 16 "BandBoatModel" "now" "[I", .fieldLink RX10 22 "BandBoatModel" "kept" "[I"] ++ wsX100)
def wsX10_count : List Cond := .code yX10_count cX10_count 2 (some .int) :: ([.fieldLink RX10 41 "BandBoatModel" "thrown" "I", .fieldLink RX10 13 "BandBoatModel" "boat" "[I", .fieldLink RX10 49 "BandBoatModel" "typed" "I", .fieldLink RX10 80 "BandBoatModel" "readings" "I", .fieldLink RX10 83 "BandBoatModel" "marks" "I", .fieldLink RX10 86 "BandBoatModel" "keptMany" "I"] ++ wsX100)
def wsJ9_abs_0f7a4 : List Cond := .code yJ9_abs_0f7a4 cJ9_abs_0f7a4 1 (some .int) :: ([])
def wsJ9_max_7cf53 : List Cond := .code yJ9_max_7cf53 cJ9_max_7cf53 2 (some .int) :: ([])
def wsJ9_min_7cf53 : List Cond := .code yJ9_min_7cf53 cJ9_min_7cf53 2 (some .int) :: ([])
theorem inJ9 : ∀ w ∈ wsJ90, w ∈ lw_tbl := by decide +kernel
theorem inJ10 : ∀ w ∈ wsJ100, w ∈ lw_tbl := by decide +kernel
theorem dX0_init_0 : decode cX0_init 0 = .ok (.aload_n 0, 1) := by decide +kernel
theorem dX0_init_1 : decode cX0_init 1 = .ok (.invokespecial 1, 3) := by decide +kernel
theorem dX0_init_4 : decode cX0_init 4 = .ok (.return_, 1) := by decide +kernel
set_option maxRecDepth 20000 in
theorem ggX0_fit_X9_cut : GoodIn wsX0_fit wsX9_cut := goodIn_r _ [10] (by decide +kernel) (by decide +kernel)
set_option maxRecDepth 20000 in
theorem gX0_fit_X9_cut_n30 : GoodIn wsX0_fit (wsX9_cut) := ggX0_fit_X9_cut
theorem dX0_fit_0 : decode cX0_fit 0 = .ok (.aload_n 0, 1) := by decide +kernel
theorem dX0_fit_1 : decode cX0_fit 1 = .ok (.aload_n 1, 1) := by decide +kernel
theorem dX0_fit_2 : decode cX0_fit 2 = .ok (.getfield 7, 3) := by decide +kernel
theorem dX0_fit_5 : decode cX0_fit 5 = .ok (.aload_n 1, 1) := by decide +kernel
theorem dX0_fit_6 : decode cX0_fit 6 = .ok (.getfield 13, 3) := by decide +kernel
theorem dX0_fit_9 : decode cX0_fit 9 = .ok (.imul, 1) := by decide +kernel
theorem dX0_fit_10 : decode cX0_fit 10 = .ok (.putfield 16, 3) := by decide +kernel
theorem dX0_fit_13 : decode cX0_fit 13 = .ok (.aload_n 0, 1) := by decide +kernel
theorem dX0_fit_14 : decode cX0_fit 14 = .ok (.bipush 10, 2) := by decide +kernel
theorem dX0_fit_16 : decode cX0_fit 16 = .ok (.aload_n 1, 1) := by decide +kernel
theorem dX0_fit_17 : decode cX0_fit 17 = .ok (.getfield 21, 3) := by decide +kernel
theorem dX0_fit_20 : decode cX0_fit 20 = .ok (.imul, 1) := by decide +kernel
theorem dX0_fit_21 : decode cX0_fit 21 = .ok (.putfield 24, 3) := by decide +kernel
theorem dX0_fit_24 : decode cX0_fit 24 = .ok (.aload_n 0, 1) := by decide +kernel
theorem dX0_fit_25 : decode cX0_fit 25 = .ok (.bipush 10, 2) := by decide +kernel
theorem dX0_fit_27 : decode cX0_fit 27 = .ok (.aload_n 1, 1) := by decide +kernel
theorem dX0_fit_28 : decode cX0_fit 28 = .ok (.getfield 27, 3) := by decide +kernel
theorem dX0_fit_31 : decode cX0_fit 31 = .ok (.imul, 1) := by decide +kernel
theorem dX0_fit_32 : decode cX0_fit 32 = .ok (.aload_n 1, 1) := by decide +kernel
theorem dX0_fit_33 : decode cX0_fit 33 = .ok (.getfield 21, 3) := by decide +kernel
theorem dX0_fit_36 : decode cX0_fit 36 = .ok (.imul, 1) := by decide +kernel
theorem dX0_fit_37 : decode cX0_fit 37 = .ok (.aload_n 1, 1) := by decide +kernel
theorem dX0_fit_38 : decode cX0_fit 38 = .ok (.getfield 13, 3) := by decide +kernel
theorem dX0_fit_41 : decode cX0_fit 41 = .ok (.invokestatic 30, 3) := by decide +kernel
theorem dX0_fit_44 : decode cX0_fit 44 = .ok (.putfield 36, 3) := by decide +kernel
theorem dX0_fit_47 : decode cX0_fit 47 = .ok (.aload_n 0, 1) := by decide +kernel
theorem dX0_fit_48 : decode cX0_fit 48 = .ok (.bipush 100, 2) := by decide +kernel
theorem dX0_fit_50 : decode cX0_fit 50 = .ok (.aload_n 1, 1) := by decide +kernel
theorem dX0_fit_51 : decode cX0_fit 51 = .ok (.getfield 39, 3) := by decide +kernel
theorem dX0_fit_54 : decode cX0_fit 54 = .ok (.isub, 1) := by decide +kernel
theorem dX0_fit_55 : decode cX0_fit 55 = .ok (.putfield 42, 3) := by decide +kernel
theorem dX0_fit_58 : decode cX0_fit 58 = .ok (.aload_n 0, 1) := by decide +kernel
theorem dX0_fit_59 : decode cX0_fit 59 = .ok (.bipush 100, 2) := by decide +kernel
theorem dX0_fit_61 : decode cX0_fit 61 = .ok (.aload_n 1, 1) := by decide +kernel
theorem dX0_fit_62 : decode cX0_fit 62 = .ok (.getfield 45, 3) := by decide +kernel
theorem dX0_fit_65 : decode cX0_fit 65 = .ok (.isub, 1) := by decide +kernel
theorem dX0_fit_66 : decode cX0_fit 66 = .ok (.putfield 48, 3) := by decide +kernel
theorem dX0_fit_69 : decode cX0_fit 69 = .ok (.aload_n 0, 1) := by decide +kernel
theorem dX0_fit_70 : decode cX0_fit 70 = .ok (.bipush 100, 2) := by decide +kernel
theorem dX0_fit_72 : decode cX0_fit 72 = .ok (.aload_n 1, 1) := by decide +kernel
theorem dX0_fit_73 : decode cX0_fit 73 = .ok (.getfield 51, 3) := by decide +kernel
theorem dX0_fit_76 : decode cX0_fit 76 = .ok (.isub, 1) := by decide +kernel
theorem dX0_fit_77 : decode cX0_fit 77 = .ok (.putfield 54, 3) := by decide +kernel
theorem dX0_fit_80 : decode cX0_fit 80 = .ok (.aload_n 0, 1) := by decide +kernel
theorem dX0_fit_81 : decode cX0_fit 81 = .ok (.bipush 10, 2) := by decide +kernel
theorem dX0_fit_83 : decode cX0_fit 83 = .ok (.aload_n 1, 1) := by decide +kernel
theorem dX0_fit_84 : decode cX0_fit 84 = .ok (.getfield 57, 3) := by decide +kernel
theorem dX0_fit_87 : decode cX0_fit 87 = .ok (.aload_n 1, 1) := by decide +kernel
theorem dX0_fit_88 : decode cX0_fit 88 = .ok (.getfield 57, 3) := by decide +kernel
theorem dX0_fit_91 : decode cX0_fit 91 = .ok (.imul, 1) := by decide +kernel
theorem dX0_fit_92 : decode cX0_fit 92 = .ok (.iadd, 1) := by decide +kernel
theorem dX0_fit_93 : decode cX0_fit 93 = .ok (.putfield 60, 3) := by decide +kernel
theorem dX0_fit_96 : decode cX0_fit 96 = .ok (.return_, 1) := by decide +kernel
theorem dX0_wound_0 : decode cX0_wound 0 = .ok (.aload_n 0, 1) := by decide +kernel
theorem dX0_wound_1 : decode cX0_wound 1 = .ok (.getfield 24, 3) := by decide +kernel
theorem dX0_wound_4 : decode cX0_wound 4 = .ok (.ifCond .ne 5, 3) := by decide +kernel
theorem dX0_wound_7 : decode cX0_wound 7 = .ok (.iconst 0, 1) := by decide +kernel
theorem dX0_wound_8 : decode cX0_wound 8 = .ok (.ireturn, 1) := by decide +kernel
theorem dX0_wound_9 : decode cX0_wound 9 = .ok (.aload_n 0, 1) := by decide +kernel
theorem dX0_wound_10 : decode cX0_wound 10 = .ok (.getfield 16, 3) := by decide +kernel
theorem dX0_wound_13 : decode cX0_wound 13 = .ok (.iload_n 1, 1) := by decide +kernel
theorem dX0_wound_14 : decode cX0_wound 14 = .ok (.imul, 1) := by decide +kernel
theorem dX0_wound_15 : decode cX0_wound 15 = .ok (.aload_n 0, 1) := by decide +kernel
theorem dX0_wound_16 : decode cX0_wound 16 = .ok (.getfield 24, 3) := by decide +kernel
theorem dX0_wound_19 : decode cX0_wound 19 = .ok (.idiv, 1) := by decide +kernel
theorem dX0_wound_20 : decode cX0_wound 20 = .ok (.istore_n 2, 1) := by decide +kernel
theorem dX0_wound_21 : decode cX0_wound 21 = .ok (.iload_n 1, 1) := by decide +kernel
theorem dX0_wound_22 : decode cX0_wound 22 = .ok (.aload_n 0, 1) := by decide +kernel
theorem dX0_wound_23 : decode cX0_wound 23 = .ok (.getfield 36, 3) := by decide +kernel
theorem dX0_wound_26 : decode cX0_wound 26 = .ok (.if_icmp .le 24, 3) := by decide +kernel
theorem dX0_wound_29 : decode cX0_wound 29 = .ok (.iload_n 2, 1) := by decide +kernel
theorem dX0_wound_30 : decode cX0_wound 30 = .ok (.iconst 2, 1) := by decide +kernel
theorem dX0_wound_31 : decode cX0_wound 31 = .ok (.aload_n 0, 1) := by decide +kernel
theorem dX0_wound_32 : decode cX0_wound 32 = .ok (.getfield 16, 3) := by decide +kernel
theorem dX0_wound_35 : decode cX0_wound 35 = .ok (.imul, 1) := by decide +kernel
theorem dX0_wound_36 : decode cX0_wound 36 = .ok (.iload_n 1, 1) := by decide +kernel
theorem dX0_wound_37 : decode cX0_wound 37 = .ok (.aload_n 0, 1) := by decide +kernel
theorem dX0_wound_38 : decode cX0_wound 38 = .ok (.getfield 36, 3) := by decide +kernel
theorem dX0_wound_41 : decode cX0_wound 41 = .ok (.isub, 1) := by decide +kernel
theorem dX0_wound_42 : decode cX0_wound 42 = .ok (.imul, 1) := by decide +kernel
theorem dX0_wound_43 : decode cX0_wound 43 = .ok (.aload_n 0, 1) := by decide +kernel
theorem dX0_wound_44 : decode cX0_wound 44 = .ok (.getfield 24, 3) := by decide +kernel
theorem dX0_wound_47 : decode cX0_wound 47 = .ok (.idiv, 1) := by decide +kernel
theorem dX0_wound_48 : decode cX0_wound 48 = .ok (.iadd, 1) := by decide +kernel
theorem dX0_wound_49 : decode cX0_wound 49 = .ok (.istore_n 2, 1) := by decide +kernel
theorem dX0_wound_50 : decode cX0_wound 50 = .ok (.iload_n 2, 1) := by decide +kernel
theorem dX0_wound_51 : decode cX0_wound 51 = .ok (.aload_n 0, 1) := by decide +kernel
theorem dX0_wound_52 : decode cX0_wound 52 = .ok (.getfield 42, 3) := by decide +kernel
theorem dX0_wound_55 : decode cX0_wound 55 = .ok (.imul, 1) := by decide +kernel
theorem dX0_wound_56 : decode cX0_wound 56 = .ok (.bipush 100, 2) := by decide +kernel
theorem dX0_wound_58 : decode cX0_wound 58 = .ok (.idiv, 1) := by decide +kernel
theorem dX0_wound_59 : decode cX0_wound 59 = .ok (.ireturn, 1) := by decide +kernel
set_option maxRecDepth 20000 in
theorem ggX0_loosed_X0_wound : GoodIn wsX0_loosed wsX0_wound := goodIn_r _ [7, 8, 9, 10, 11, 12, 13, 14, 15, 16, 17, 18] (by decide +kernel) (by decide +kernel)
set_option maxRecDepth 20000 in
theorem gX0_loosed_X0_wound : GoodIn wsX0_loosed (wsV RX0 63 RX0 yX0_wound wsX0_wound) := goodIn_app (goodIn_of _ (by decide +kernel)) ggX0_loosed_X0_wound
theorem dX0_loosed_0 : decode cX0_loosed 0 = .ok (.aload_n 0, 1) := by decide +kernel
theorem dX0_loosed_1 : decode cX0_loosed 1 = .ok (.iload_n 1, 1) := by decide +kernel
theorem dX0_loosed_2 : decode cX0_loosed 2 = .ok (.invokevirtual 63, 3) := by decide +kernel
theorem dX0_loosed_5 : decode cX0_loosed 5 = .ok (.aload_n 0, 1) := by decide +kernel
theorem dX0_loosed_6 : decode cX0_loosed 6 = .ok (.getfield 48, 3) := by decide +kernel
theorem dX0_loosed_9 : decode cX0_loosed 9 = .ok (.imul, 1) := by decide +kernel
theorem dX0_loosed_10 : decode cX0_loosed 10 = .ok (.bipush 100, 2) := by decide +kernel
theorem dX0_loosed_12 : decode cX0_loosed 12 = .ok (.idiv, 1) := by decide +kernel
theorem dX0_loosed_13 : decode cX0_loosed 13 = .ok (.aload_n 0, 1) := by decide +kernel
theorem dX0_loosed_14 : decode cX0_loosed 14 = .ok (.getfield 54, 3) := by decide +kernel
theorem dX0_loosed_17 : decode cX0_loosed 17 = .ok (.imul, 1) := by decide +kernel
theorem dX0_loosed_18 : decode cX0_loosed 18 = .ok (.bipush 100, 2) := by decide +kernel
theorem dX0_loosed_20 : decode cX0_loosed 20 = .ok (.idiv, 1) := by decide +kernel
theorem dX0_loosed_21 : decode cX0_loosed 21 = .ok (.ireturn, 1) := by decide +kernel
theorem dX1_init_0 : decode cX1_init 0 = .ok (.aload_n 0, 1) := by decide +kernel
theorem dX1_init_1 : decode cX1_init 1 = .ok (.invokespecial 3, 3) := by decide +kernel
theorem dX1_init_4 : decode cX1_init 4 = .ok (.aload_n 0, 1) := by decide +kernel
theorem dX1_init_5 : decode cX1_init 5 = .ok (.bipush 6, 2) := by decide +kernel
theorem dX1_init_7 : decode cX1_init 7 = .ok (.newarray .int, 2) := by decide +kernel
theorem dX1_init_9 : decode cX1_init 9 = .ok (.putfield 9, 3) := by decide +kernel
theorem dX1_init_12 : decode cX1_init 12 = .ok (.aload_n 0, 1) := by decide +kernel
theorem dX1_init_13 : decode cX1_init 13 = .ok (.bipush 6, 2) := by decide +kernel
theorem dX1_init_15 : decode cX1_init 15 = .ok (.newarray .int, 2) := by decide +kernel
theorem dX1_init_17 : decode cX1_init 17 = .ok (.putfield 15, 3) := by decide +kernel
theorem dX1_init_20 : decode cX1_init 20 = .ok (.aload_n 0, 1) := by decide +kernel
theorem dX1_init_21 : decode cX1_init 21 = .ok (.bipush 6, 2) := by decide +kernel
theorem dX1_init_23 : decode cX1_init 23 = .ok (.newarray .int, 2) := by decide +kernel
theorem dX1_init_25 : decode cX1_init 25 = .ok (.putfield 18, 3) := by decide +kernel
theorem dX1_init_28 : decode cX1_init 28 = .ok (.return_, 1) := by decide +kernel
set_option maxRecDepth 20000 in
theorem ggX1_add_X9_within : GoodIn wsX1_add wsX9_within := goodIn_r _ [7] (by decide +kernel) (by decide +kernel)
set_option maxRecDepth 20000 in
theorem gX1_add_X9_within_n25 : GoodIn wsX1_add (wsX9_within) := ggX1_add_X9_within
theorem dX1_add_0 : decode cX1_add 0 = .ok (.aload_n 0, 1) := by decide +kernel
theorem dX1_add_1 : decode cX1_add 1 = .ok (.getfield 21, 3) := by decide +kernel
theorem dX1_add_4 : decode cX1_add 4 = .ok (.iconst 0, 1) := by decide +kernel
theorem dX1_add_5 : decode cX1_add 5 = .ok (.iconst 5, 1) := by decide +kernel
theorem dX1_add_6 : decode cX1_add 6 = .ok (.invokestatic 25, 3) := by decide +kernel
theorem dX1_add_9 : decode cX1_add 9 = .ok (.ifCond .ne 5, 3) := by decide +kernel
theorem dX1_add_12 : decode cX1_add 12 = .ok (.iconst 0, 1) := by decide +kernel
theorem dX1_add_13 : decode cX1_add 13 = .ok (.ireturn, 1) := by decide +kernel
theorem dX1_add_14 : decode cX1_add 14 = .ok (.aload_n 0, 1) := by decide +kernel
theorem dX1_add_15 : decode cX1_add 15 = .ok (.getfield 9, 3) := by decide +kernel
theorem dX1_add_18 : decode cX1_add 18 = .ok (.aload_n 0, 1) := by decide +kernel
theorem dX1_add_19 : decode cX1_add 19 = .ok (.getfield 21, 3) := by decide +kernel
theorem dX1_add_22 : decode cX1_add 22 = .ok (.iload_n 1, 1) := by decide +kernel
theorem dX1_add_23 : decode cX1_add 23 = .ok (.iastore, 1) := by decide +kernel
theorem dX1_add_24 : decode cX1_add 24 = .ok (.aload_n 0, 1) := by decide +kernel
theorem dX1_add_25 : decode cX1_add 25 = .ok (.getfield 15, 3) := by decide +kernel
theorem dX1_add_28 : decode cX1_add 28 = .ok (.aload_n 0, 1) := by decide +kernel
theorem dX1_add_29 : decode cX1_add 29 = .ok (.getfield 21, 3) := by decide +kernel
theorem dX1_add_32 : decode cX1_add 32 = .ok (.iload_n 2, 1) := by decide +kernel
theorem dX1_add_33 : decode cX1_add 33 = .ok (.iastore, 1) := by decide +kernel
theorem dX1_add_34 : decode cX1_add 34 = .ok (.aload_n 0, 1) := by decide +kernel
theorem dX1_add_35 : decode cX1_add 35 = .ok (.getfield 18, 3) := by decide +kernel
theorem dX1_add_38 : decode cX1_add 38 = .ok (.aload_n 0, 1) := by decide +kernel
theorem dX1_add_39 : decode cX1_add 39 = .ok (.getfield 21, 3) := by decide +kernel
theorem dX1_add_42 : decode cX1_add 42 = .ok (.iload_n 3, 1) := by decide +kernel
theorem dX1_add_43 : decode cX1_add 43 = .ok (.iastore, 1) := by decide +kernel
theorem dX1_add_44 : decode cX1_add 44 = .ok (.aload_n 0, 1) := by decide +kernel
theorem dX1_add_45 : decode cX1_add 45 = .ok (.dup, 1) := by decide +kernel
theorem dX1_add_46 : decode cX1_add 46 = .ok (.getfield 21, 3) := by decide +kernel
theorem dX1_add_49 : decode cX1_add 49 = .ok (.iconst 1, 1) := by decide +kernel
theorem dX1_add_50 : decode cX1_add 50 = .ok (.iadd, 1) := by decide +kernel
theorem dX1_add_51 : decode cX1_add 51 = .ok (.putfield 21, 3) := by decide +kernel
theorem dX1_add_54 : decode cX1_add 54 = .ok (.iconst 1, 1) := by decide +kernel
theorem dX1_add_55 : decode cX1_add 55 = .ok (.ireturn, 1) := by decide +kernel
set_option maxRecDepth 20000 in
theorem ggX1_agrees_X0_loosed : GoodIn wsX1_agrees wsX0_loosed := goodIn_r _ [12, 13, 14, 15, 16, 17, 10, 18, 19, 20, 21, 22, 27, 28, 29, 30, 31, 32, 33] (by decide +kernel) (by decide +kernel)
set_option maxRecDepth 20000 in
theorem gX1_agrees_X0_loosed_n29 : GoodIn wsX1_agrees (wsX0_loosed) := ggX1_agrees_X0_loosed
set_option maxRecDepth 20000 in
theorem ggX1_agrees_X0_wound : GoodIn wsX1_agrees wsX0_wound := goodIn_r _ [18, 19, 20, 21, 22, 27, 28, 29, 30, 31, 32, 33] (by decide +kernel) (by decide +kernel)
set_option maxRecDepth 20000 in
theorem gX1_agrees_X0_wound_n35 : GoodIn wsX1_agrees (wsX0_wound) := ggX1_agrees_X0_wound
theorem dX1_agrees_0 : decode cX1_agrees 0 = .ok (.iconst 0, 1) := by decide +kernel
theorem dX1_agrees_1 : decode cX1_agrees 1 = .ok (.istore 4, 2) := by decide +kernel
theorem dX1_agrees_3 : decode cX1_agrees 3 = .ok (.iload 4, 2) := by decide +kernel
theorem dX1_agrees_5 : decode cX1_agrees 5 = .ok (.aload_n 0, 1) := by decide +kernel
theorem dX1_agrees_6 : decode cX1_agrees 6 = .ok (.getfield 21, 3) := by decide +kernel
theorem dX1_agrees_9 : decode cX1_agrees 9 = .ok (.if_icmp .ge 76, 3) := by decide +kernel
theorem dX1_agrees_12 : decode cX1_agrees 12 = .ok (.iload 4, 2) := by decide +kernel
theorem dX1_agrees_14 : decode cX1_agrees 14 = .ok (.bipush 6, 2) := by decide +kernel
theorem dX1_agrees_16 : decode cX1_agrees 16 = .ok (.if_icmp .ge 69, 3) := by decide +kernel
theorem dX1_agrees_19 : decode cX1_agrees 19 = .ok (.bipush 100, 2) := by decide +kernel
theorem dX1_agrees_21 : decode cX1_agrees 21 = .ok (.aload_n 0, 1) := by decide +kernel
theorem dX1_agrees_22 : decode cX1_agrees 22 = .ok (.getfield 9, 3) := by decide +kernel
theorem dX1_agrees_25 : decode cX1_agrees 25 = .ok (.iload 4, 2) := by decide +kernel
theorem dX1_agrees_27 : decode cX1_agrees 27 = .ok (.iaload, 1) := by decide +kernel
theorem dX1_agrees_28 : decode cX1_agrees 28 = .ok (.imul, 1) := by decide +kernel
theorem dX1_agrees_29 : decode cX1_agrees 29 = .ok (.istore 5, 2) := by decide +kernel
theorem dX1_agrees_31 : decode cX1_agrees 31 = .ok (.iload_n 3, 1) := by decide +kernel
theorem dX1_agrees_32 : decode cX1_agrees 32 = .ok (.ifCond .eq 20, 3) := by decide +kernel
theorem dX1_agrees_35 : decode cX1_agrees 35 = .ok (.aload_n 1, 1) := by decide +kernel
theorem dX1_agrees_36 : decode cX1_agrees 36 = .ok (.iload 5, 2) := by decide +kernel
theorem dX1_agrees_38 : decode cX1_agrees 38 = .ok (.invokevirtual 29, 3) := by decide +kernel
theorem dX1_agrees_41 : decode cX1_agrees 41 = .ok (.aload_n 0, 1) := by decide +kernel
theorem dX1_agrees_42 : decode cX1_agrees 42 = .ok (.getfield 18, 3) := by decide +kernel
theorem dX1_agrees_45 : decode cX1_agrees 45 = .ok (.iload 4, 2) := by decide +kernel
theorem dX1_agrees_47 : decode cX1_agrees 47 = .ok (.iaload, 1) := by decide +kernel
theorem dX1_agrees_48 : decode cX1_agrees 48 = .ok (.isub, 1) := by decide +kernel
theorem dX1_agrees_49 : decode cX1_agrees 49 = .ok (.goto 17, 3) := by decide +kernel
theorem dX1_agrees_52 : decode cX1_agrees 52 = .ok (.aload_n 1, 1) := by decide +kernel
theorem dX1_agrees_53 : decode cX1_agrees 53 = .ok (.iload 5, 2) := by decide +kernel
theorem dX1_agrees_55 : decode cX1_agrees 55 = .ok (.invokevirtual 35, 3) := by decide +kernel
theorem dX1_agrees_58 : decode cX1_agrees 58 = .ok (.aload_n 0, 1) := by decide +kernel
theorem dX1_agrees_59 : decode cX1_agrees 59 = .ok (.getfield 15, 3) := by decide +kernel
theorem dX1_agrees_62 : decode cX1_agrees 62 = .ok (.iload 4, 2) := by decide +kernel
theorem dX1_agrees_64 : decode cX1_agrees 64 = .ok (.iaload, 1) := by decide +kernel
theorem dX1_agrees_65 : decode cX1_agrees 65 = .ok (.isub, 1) := by decide +kernel
theorem dX1_agrees_66 : decode cX1_agrees 66 = .ok (.istore 6, 2) := by decide +kernel
theorem dX1_agrees_68 : decode cX1_agrees 68 = .ok (.iload 6, 2) := by decide +kernel
theorem dX1_agrees_70 : decode cX1_agrees 70 = .ok (.invokestatic 38, 3) := by decide +kernel
theorem dX1_agrees_73 : decode cX1_agrees 73 = .ok (.iload_n 2, 1) := by decide +kernel
theorem dX1_agrees_74 : decode cX1_agrees 74 = .ok (.if_icmp .le 5, 3) := by decide +kernel
theorem dX1_agrees_77 : decode cX1_agrees 77 = .ok (.iconst 0, 1) := by decide +kernel
theorem dX1_agrees_78 : decode cX1_agrees 78 = .ok (.ireturn, 1) := by decide +kernel
theorem dX1_agrees_79 : decode cX1_agrees 79 = .ok (.iinc 4 1, 3) := by decide +kernel
theorem dX1_agrees_82 : decode cX1_agrees 82 = .ok (.goto (-79), 3) := by decide +kernel
theorem dX1_agrees_85 : decode cX1_agrees 85 = .ok (.iconst 1, 1) := by decide +kernel
theorem dX1_agrees_86 : decode cX1_agrees 86 = .ok (.ireturn, 1) := by decide +kernel
theorem dX2_init_0 : decode cX2_init 0 = .ok (.aload_n 0, 1) := by decide +kernel
theorem dX2_init_1 : decode cX2_init 1 = .ok (.invokespecial 3, 3) := by decide +kernel
theorem dX2_init_4 : decode cX2_init 4 = .ok (.aload_n 0, 1) := by decide +kernel
theorem dX2_init_5 : decode cX2_init 5 = .ok (.iconst 4, 1) := by decide +kernel
theorem dX2_init_6 : decode cX2_init 6 = .ok (.newarray .int, 2) := by decide +kernel
theorem dX2_init_8 : decode cX2_init 8 = .ok (.putfield 9, 3) := by decide +kernel
theorem dX2_init_11 : decode cX2_init 11 = .ok (.aload_n 0, 1) := by decide +kernel
theorem dX2_init_12 : decode cX2_init 12 = .ok (.iconst 4, 1) := by decide +kernel
theorem dX2_init_13 : decode cX2_init 13 = .ok (.newarray .int, 2) := by decide +kernel
theorem dX2_init_15 : decode cX2_init 15 = .ok (.putfield 15, 3) := by decide +kernel
theorem dX2_init_18 : decode cX2_init 18 = .ok (.return_, 1) := by decide +kernel
set_option maxRecDepth 20000 in
theorem ggX2_add_X9_within : GoodIn wsX2_add wsX9_within := goodIn_r _ [6] (by decide +kernel) (by decide +kernel)
set_option maxRecDepth 20000 in
theorem gX2_add_X9_within_n22 : GoodIn wsX2_add (wsX9_within) := ggX2_add_X9_within
theorem dX2_add_0 : decode cX2_add 0 = .ok (.aload_n 0, 1) := by decide +kernel
theorem dX2_add_1 : decode cX2_add 1 = .ok (.getfield 18, 3) := by decide +kernel
theorem dX2_add_4 : decode cX2_add 4 = .ok (.iconst 0, 1) := by decide +kernel
theorem dX2_add_5 : decode cX2_add 5 = .ok (.iconst 3, 1) := by decide +kernel
theorem dX2_add_6 : decode cX2_add 6 = .ok (.invokestatic 22, 3) := by decide +kernel
theorem dX2_add_9 : decode cX2_add 9 = .ok (.ifCond .ne 5, 3) := by decide +kernel
theorem dX2_add_12 : decode cX2_add 12 = .ok (.iconst 0, 1) := by decide +kernel
theorem dX2_add_13 : decode cX2_add 13 = .ok (.ireturn, 1) := by decide +kernel
theorem dX2_add_14 : decode cX2_add 14 = .ok (.aload_n 0, 1) := by decide +kernel
theorem dX2_add_15 : decode cX2_add 15 = .ok (.getfield 9, 3) := by decide +kernel
theorem dX2_add_18 : decode cX2_add 18 = .ok (.aload_n 0, 1) := by decide +kernel
theorem dX2_add_19 : decode cX2_add 19 = .ok (.getfield 18, 3) := by decide +kernel
theorem dX2_add_22 : decode cX2_add 22 = .ok (.iload_n 1, 1) := by decide +kernel
theorem dX2_add_23 : decode cX2_add 23 = .ok (.iastore, 1) := by decide +kernel
theorem dX2_add_24 : decode cX2_add 24 = .ok (.aload_n 0, 1) := by decide +kernel
theorem dX2_add_25 : decode cX2_add 25 = .ok (.getfield 15, 3) := by decide +kernel
theorem dX2_add_28 : decode cX2_add 28 = .ok (.aload_n 0, 1) := by decide +kernel
theorem dX2_add_29 : decode cX2_add 29 = .ok (.getfield 18, 3) := by decide +kernel
theorem dX2_add_32 : decode cX2_add 32 = .ok (.iload_n 2, 1) := by decide +kernel
theorem dX2_add_33 : decode cX2_add 33 = .ok (.iastore, 1) := by decide +kernel
theorem dX2_add_34 : decode cX2_add 34 = .ok (.aload_n 0, 1) := by decide +kernel
theorem dX2_add_35 : decode cX2_add 35 = .ok (.dup, 1) := by decide +kernel
theorem dX2_add_36 : decode cX2_add 36 = .ok (.getfield 18, 3) := by decide +kernel
theorem dX2_add_39 : decode cX2_add 39 = .ok (.iconst 1, 1) := by decide +kernel
theorem dX2_add_40 : decode cX2_add 40 = .ok (.iadd, 1) := by decide +kernel
theorem dX2_add_41 : decode cX2_add 41 = .ok (.putfield 18, 3) := by decide +kernel
theorem dX2_add_44 : decode cX2_add 44 = .ok (.iconst 1, 1) := by decide +kernel
theorem dX2_add_45 : decode cX2_add 45 = .ok (.ireturn, 1) := by decide +kernel
theorem dX2_latest_0 : decode cX2_latest 0 = .ok (.iconst 0, 1) := by decide +kernel
theorem dX2_latest_1 : decode cX2_latest 1 = .ok (.istore_n 1, 1) := by decide +kernel
theorem dX2_latest_2 : decode cX2_latest 2 = .ok (.iconst 0, 1) := by decide +kernel
theorem dX2_latest_3 : decode cX2_latest 3 = .ok (.istore_n 2, 1) := by decide +kernel
theorem dX2_latest_4 : decode cX2_latest 4 = .ok (.iload_n 2, 1) := by decide +kernel
theorem dX2_latest_5 : decode cX2_latest 5 = .ok (.aload_n 0, 1) := by decide +kernel
theorem dX2_latest_6 : decode cX2_latest 6 = .ok (.getfield 18, 3) := by decide +kernel
theorem dX2_latest_9 : decode cX2_latest 9 = .ok (.if_icmp .ge 25, 3) := by decide +kernel
theorem dX2_latest_12 : decode cX2_latest 12 = .ok (.iload_n 2, 1) := by decide +kernel
theorem dX2_latest_13 : decode cX2_latest 13 = .ok (.iconst 4, 1) := by decide +kernel
theorem dX2_latest_14 : decode cX2_latest 14 = .ok (.if_icmp .ge 20, 3) := by decide +kernel
theorem dX2_latest_17 : decode cX2_latest 17 = .ok (.iload_n 1, 1) := by decide +kernel
theorem dX2_latest_18 : decode cX2_latest 18 = .ok (.aload_n 0, 1) := by decide +kernel
theorem dX2_latest_19 : decode cX2_latest 19 = .ok (.getfield 15, 3) := by decide +kernel
theorem dX2_latest_22 : decode cX2_latest 22 = .ok (.iload_n 2, 1) := by decide +kernel
theorem dX2_latest_23 : decode cX2_latest 23 = .ok (.iaload, 1) := by decide +kernel
theorem dX2_latest_24 : decode cX2_latest 24 = .ok (.invokestatic 26, 3) := by decide +kernel
theorem dX2_latest_27 : decode cX2_latest 27 = .ok (.istore_n 1, 1) := by decide +kernel
theorem dX2_latest_28 : decode cX2_latest 28 = .ok (.iinc 2 1, 3) := by decide +kernel
theorem dX2_latest_31 : decode cX2_latest 31 = .ok (.goto (-27), 3) := by decide +kernel
theorem dX2_latest_34 : decode cX2_latest 34 = .ok (.iload_n 1, 1) := by decide +kernel
theorem dX2_latest_35 : decode cX2_latest 35 = .ok (.ireturn, 1) := by decide +kernel
set_option maxRecDepth 20000 in
theorem ggX2_agree_X8_reachedBy : GoodIn wsX2_agree wsX8_reachedBy := goodIn_r _ [7, 8, 9, 10, 11, 12, 13, 17, 18, 19, 20, 21, 22] (by decide +kernel) (by decide +kernel)
set_option maxRecDepth 20000 in
theorem gX2_agree_X8_reachedBy_n32 : GoodIn wsX2_agree (wsX8_reachedBy) := ggX2_agree_X8_reachedBy
theorem dX2_agree_0 : decode cX2_agree 0 = .ok (.iconst 0, 1) := by decide +kernel
theorem dX2_agree_1 : decode cX2_agree 1 = .ok (.istore_n 3, 1) := by decide +kernel
theorem dX2_agree_2 : decode cX2_agree 2 = .ok (.iload_n 3, 1) := by decide +kernel
theorem dX2_agree_3 : decode cX2_agree 3 = .ok (.aload_n 0, 1) := by decide +kernel
theorem dX2_agree_4 : decode cX2_agree 4 = .ok (.getfield 18, 3) := by decide +kernel
theorem dX2_agree_7 : decode cX2_agree 7 = .ok (.if_icmp .ge 58, 3) := by decide +kernel
theorem dX2_agree_10 : decode cX2_agree 10 = .ok (.iload_n 3, 1) := by decide +kernel
theorem dX2_agree_11 : decode cX2_agree 11 = .ok (.iconst 4, 1) := by decide +kernel
theorem dX2_agree_12 : decode cX2_agree 12 = .ok (.if_icmp .ge 53, 3) := by decide +kernel
theorem dX2_agree_15 : decode cX2_agree 15 = .ok (.aload_n 1, 1) := by decide +kernel
theorem dX2_agree_16 : decode cX2_agree 16 = .ok (.aload_n 0, 1) := by decide +kernel
theorem dX2_agree_17 : decode cX2_agree 17 = .ok (.getfield 15, 3) := by decide +kernel
theorem dX2_agree_20 : decode cX2_agree 20 = .ok (.iload_n 3, 1) := by decide +kernel
theorem dX2_agree_21 : decode cX2_agree 21 = .ok (.iaload, 1) := by decide +kernel
theorem dX2_agree_22 : decode cX2_agree 22 = .ok (.aload_n 0, 1) := by decide +kernel
theorem dX2_agree_23 : decode cX2_agree 23 = .ok (.getfield 9, 3) := by decide +kernel
theorem dX2_agree_26 : decode cX2_agree 26 = .ok (.iload_n 3, 1) := by decide +kernel
theorem dX2_agree_27 : decode cX2_agree 27 = .ok (.iaload, 1) := by decide +kernel
theorem dX2_agree_28 : decode cX2_agree 28 = .ok (.invokevirtual 32, 3) := by decide +kernel
theorem dX2_agree_31 : decode cX2_agree 31 = .ok (.ifCond .eq 26, 3) := by decide +kernel
theorem dX2_agree_34 : decode cX2_agree 34 = .ok (.aload_n 1, 1) := by decide +kernel
theorem dX2_agree_35 : decode cX2_agree 35 = .ok (.aload_n 0, 1) := by decide +kernel
theorem dX2_agree_36 : decode cX2_agree 36 = .ok (.getfield 15, 3) := by decide +kernel
theorem dX2_agree_39 : decode cX2_agree 39 = .ok (.iload_n 3, 1) := by decide +kernel
theorem dX2_agree_40 : decode cX2_agree 40 = .ok (.iaload, 1) := by decide +kernel
theorem dX2_agree_41 : decode cX2_agree 41 = .ok (.iload_n 2, 1) := by decide +kernel
theorem dX2_agree_42 : decode cX2_agree 42 = .ok (.isub, 1) := by decide +kernel
theorem dX2_agree_43 : decode cX2_agree 43 = .ok (.iconst 1, 1) := by decide +kernel
theorem dX2_agree_44 : decode cX2_agree 44 = .ok (.isub, 1) := by decide +kernel
theorem dX2_agree_45 : decode cX2_agree 45 = .ok (.aload_n 0, 1) := by decide +kernel
theorem dX2_agree_46 : decode cX2_agree 46 = .ok (.getfield 9, 3) := by decide +kernel
theorem dX2_agree_49 : decode cX2_agree 49 = .ok (.iload_n 3, 1) := by decide +kernel
theorem dX2_agree_50 : decode cX2_agree 50 = .ok (.iaload, 1) := by decide +kernel
theorem dX2_agree_51 : decode cX2_agree 51 = .ok (.invokevirtual 32, 3) := by decide +kernel
theorem dX2_agree_54 : decode cX2_agree 54 = .ok (.ifCond .eq 5, 3) := by decide +kernel
theorem dX2_agree_57 : decode cX2_agree 57 = .ok (.iconst 0, 1) := by decide +kernel
theorem dX2_agree_58 : decode cX2_agree 58 = .ok (.ireturn, 1) := by decide +kernel
theorem dX2_agree_59 : decode cX2_agree 59 = .ok (.iinc 3 1, 3) := by decide +kernel
theorem dX2_agree_62 : decode cX2_agree 62 = .ok (.goto (-60), 3) := by decide +kernel
theorem dX2_agree_65 : decode cX2_agree 65 = .ok (.iconst 1, 1) := by decide +kernel
theorem dX2_agree_66 : decode cX2_agree 66 = .ok (.ireturn, 1) := by decide +kernel
theorem dX3_init_0 : decode cX3_init 0 = .ok (.aload_n 0, 1) := by decide +kernel
theorem dX3_init_1 : decode cX3_init 1 = .ok (.invokespecial 1, 3) := by decide +kernel
theorem dX3_init_4 : decode cX3_init 4 = .ok (.aload_n 0, 1) := by decide +kernel
theorem dX3_init_5 : decode cX3_init 5 = .ok (.iload_n 1, 1) := by decide +kernel
theorem dX3_init_6 : decode cX3_init 6 = .ok (.ifCond .ge 7, 3) := by decide +kernel
theorem dX3_init_9 : decode cX3_init 9 = .ok (.iconst 0, 1) := by decide +kernel
theorem dX3_init_10 : decode cX3_init 10 = .ok (.goto 4, 3) := by decide +kernel
theorem dX3_init_13 : decode cX3_init 13 = .ok (.iload_n 1, 1) := by decide +kernel
theorem dX3_init_14 : decode cX3_init 14 = .ok (.newarray .int, 2) := by decide +kernel
theorem dX3_init_16 : decode cX3_init 16 = .ok (.putfield 7, 3) := by decide +kernel
theorem dX3_init_19 : decode cX3_init 19 = .ok (.return_, 1) := by decide +kernel
theorem dX3_holds_0 : decode cX3_holds 0 = .ok (.aload_n 0, 1) := by decide +kernel
theorem dX3_holds_1 : decode cX3_holds 1 = .ok (.getfield 13, 3) := by decide +kernel
theorem dX3_holds_4 : decode cX3_holds 4 = .ok (.ifCond .eq 23, 3) := by decide +kernel
theorem dX3_holds_7 : decode cX3_holds 7 = .ok (.aload_n 0, 1) := by decide +kernel
theorem dX3_holds_8 : decode cX3_holds 8 = .ok (.getfield 17, 3) := by decide +kernel
theorem dX3_holds_11 : decode cX3_holds 11 = .ok (.iload_n 1, 1) := by decide +kernel
theorem dX3_holds_12 : decode cX3_holds 12 = .ok (.if_icmp .ne 15, 3) := by decide +kernel
theorem dX3_holds_15 : decode cX3_holds 15 = .ok (.aload_n 0, 1) := by decide +kernel
theorem dX3_holds_16 : decode cX3_holds 16 = .ok (.getfield 21, 3) := by decide +kernel
theorem dX3_holds_19 : decode cX3_holds 19 = .ok (.iload_n 2, 1) := by decide +kernel
theorem dX3_holds_20 : decode cX3_holds 20 = .ok (.if_icmp .ne 7, 3) := by decide +kernel
theorem dX3_holds_23 : decode cX3_holds 23 = .ok (.iconst 1, 1) := by decide +kernel
theorem dX3_holds_24 : decode cX3_holds 24 = .ok (.goto 4, 3) := by decide +kernel
theorem dX3_holds_27 : decode cX3_holds 27 = .ok (.iconst 0, 1) := by decide +kernel
theorem dX3_holds_28 : decode cX3_holds 28 = .ok (.ireturn, 1) := by decide +kernel
theorem dX3_learn_0 : decode cX3_learn 0 = .ok (.aload_n 0, 1) := by decide +kernel
theorem dX3_learn_1 : decode cX3_learn 1 = .ok (.iconst 1, 1) := by decide +kernel
theorem dX3_learn_2 : decode cX3_learn 2 = .ok (.putfield 13, 3) := by decide +kernel
theorem dX3_learn_5 : decode cX3_learn 5 = .ok (.aload_n 0, 1) := by decide +kernel
theorem dX3_learn_6 : decode cX3_learn 6 = .ok (.iload_n 1, 1) := by decide +kernel
theorem dX3_learn_7 : decode cX3_learn 7 = .ok (.putfield 17, 3) := by decide +kernel
theorem dX3_learn_10 : decode cX3_learn 10 = .ok (.aload_n 0, 1) := by decide +kernel
theorem dX3_learn_11 : decode cX3_learn 11 = .ok (.iload_n 2, 1) := by decide +kernel
theorem dX3_learn_12 : decode cX3_learn 12 = .ok (.putfield 21, 3) := by decide +kernel
theorem dX3_learn_15 : decode cX3_learn 15 = .ok (.iconst 0, 1) := by decide +kernel
theorem dX3_learn_16 : decode cX3_learn 16 = .ok (.istore_n 3, 1) := by decide +kernel
theorem dX3_learn_17 : decode cX3_learn 17 = .ok (.iload_n 3, 1) := by decide +kernel
theorem dX3_learn_18 : decode cX3_learn 18 = .ok (.aload_n 0, 1) := by decide +kernel
theorem dX3_learn_19 : decode cX3_learn 19 = .ok (.getfield 7, 3) := by decide +kernel
theorem dX3_learn_22 : decode cX3_learn 22 = .ok (.arraylength, 1) := by decide +kernel
theorem dX3_learn_23 : decode cX3_learn 23 = .ok (.if_icmp .ge 16, 3) := by decide +kernel
theorem dX3_learn_26 : decode cX3_learn 26 = .ok (.aload_n 0, 1) := by decide +kernel
theorem dX3_learn_27 : decode cX3_learn 27 = .ok (.getfield 7, 3) := by decide +kernel
theorem dX3_learn_30 : decode cX3_learn 30 = .ok (.iload_n 3, 1) := by decide +kernel
theorem dX3_learn_31 : decode cX3_learn 31 = .ok (.iconst 0, 1) := by decide +kernel
theorem dX3_learn_32 : decode cX3_learn 32 = .ok (.iastore, 1) := by decide +kernel
theorem dX3_learn_33 : decode cX3_learn 33 = .ok (.iinc 3 1, 3) := by decide +kernel
theorem dX3_learn_36 : decode cX3_learn 36 = .ok (.goto (-19), 3) := by decide +kernel
theorem dX3_learn_39 : decode cX3_learn 39 = .ok (.return_, 1) := by decide +kernel
theorem dX3_drop_0 : decode cX3_drop 0 = .ok (.aload_n 0, 1) := by decide +kernel
theorem dX3_drop_1 : decode cX3_drop 1 = .ok (.iconst 0, 1) := by decide +kernel
theorem dX3_drop_2 : decode cX3_drop 2 = .ok (.putfield 13, 3) := by decide +kernel
theorem dX3_drop_5 : decode cX3_drop 5 = .ok (.return_, 1) := by decide +kernel
theorem dX3_answer_0 : decode cX3_answer 0 = .ok (.iload_n 1, 1) := by decide +kernel
theorem dX3_answer_1 : decode cX3_answer 1 = .ok (.ifCond .lt 21, 3) := by decide +kernel
theorem dX3_answer_4 : decode cX3_answer 4 = .ok (.iload_n 1, 1) := by decide +kernel
theorem dX3_answer_5 : decode cX3_answer 5 = .ok (.aload_n 0, 1) := by decide +kernel
theorem dX3_answer_6 : decode cX3_answer 6 = .ok (.getfield 7, 3) := by decide +kernel
theorem dX3_answer_9 : decode cX3_answer 9 = .ok (.arraylength, 1) := by decide +kernel
theorem dX3_answer_10 : decode cX3_answer 10 = .ok (.if_icmp .ge 12, 3) := by decide +kernel
theorem dX3_answer_13 : decode cX3_answer 13 = .ok (.aload_n 0, 1) := by decide +kernel
theorem dX3_answer_14 : decode cX3_answer 14 = .ok (.getfield 7, 3) := by decide +kernel
theorem dX3_answer_17 : decode cX3_answer 17 = .ok (.iload_n 1, 1) := by decide +kernel
theorem dX3_answer_18 : decode cX3_answer 18 = .ok (.iaload, 1) := by decide +kernel
theorem dX3_answer_19 : decode cX3_answer 19 = .ok (.goto 4, 3) := by decide +kernel
theorem dX3_answer_22 : decode cX3_answer 22 = .ok (.iconst 0, 1) := by decide +kernel
theorem dX3_answer_23 : decode cX3_answer 23 = .ok (.ireturn, 1) := by decide +kernel
theorem dX3_put_0 : decode cX3_put 0 = .ok (.iload_n 1, 1) := by decide +kernel
theorem dX3_put_1 : decode cX3_put 1 = .ok (.ifCond .lt 19, 3) := by decide +kernel
theorem dX3_put_4 : decode cX3_put 4 = .ok (.iload_n 1, 1) := by decide +kernel
