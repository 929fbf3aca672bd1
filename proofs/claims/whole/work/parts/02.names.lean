theorem goodIn_r {big : List Cond} (ws : List Cond) (ps : List Nat) (hp : ws = ps.filterMap (fun i => big[i]?)) (h : ws.all goodWord = true) : GoodIn big ws := by
  intro w hw
  have h1 := List.all_eq_true.mp h w hw
  rw [hp] at hw
  obtain ⟨i, -, hi⟩ := List.mem_filterMap.mp hw
  have hm : w ∈ big := by first | exact List.mem_of_getElem? hi | exact List.getElem?_mem hi
  exact ⟨hm, good_of_word h1⟩
theorem goodIn_app {big a b : List Cond} (ha : GoodIn big a) (hb : GoodIn big b) : GoodIn big (a ++ b) := fun w h => (List.mem_append.mp h).elim (ha w) (hb w)
theorem goodIn_ca {big a b : List Cond} {c : Cond} (ha : GoodIn big (c :: a)) (hb : GoodIn big b) : GoodIn big (c :: (a ++ b)) := fun w h => (List.mem_cons.mp h).elim (fun e => ha w (List.mem_cons.mpr (Or.inl e))) (fun h => (List.mem_append.mp h).elim (fun h => ha w (List.mem_cons.mpr (Or.inr h))) (hb w))
theorem goodIn_sub {big ws : List Cond} (hm : ∀ w ∈ ws, w ∈ big) (h : ws.all goodWord = true) : GoodIn big ws := fun w hw => ⟨hm w hw, good_of_word (List.all_eq_true.mp h w hw)⟩
def RX0 : String := "RazorTalk$Row"
def TX0 : u_T := fun k => match k with
  | _ => ("RazorTalk$Row", "cells", "[I", true)
def tyX0 : Nat → FieldType := fun k => match k with
  | _ => .array .int
abbrev wsX00 : List Cond := u_ws RX0 TX0 1
theorem nmX0 : ∀ a, a < 1 → ∀ b, b < 1 → a ≠ b → (TX0 a).2.1 ≠ (TX0 b).2.1 := by decide +kernel
theorem tyX0_ok : ∀ k, k < 1 → parseFieldDescriptor (TX0 k).2.2.1 = some (tyX0 k) := by decide +kernel
abbrev cX0_init : ByteArray := prog_2_method_1_code
def yX0_init : MethodName := ⟨RX0, "<init>", "(I)V"⟩
abbrev cX0_at : ByteArray := prog_2_method_2_code
def yX0_at : MethodName := ⟨RX0, "at", "(I)I"⟩
abbrev cX0_put : ByteArray := prog_2_method_3_code
def yX0_put : MethodName := ⟨RX0, "put", "(II)V"⟩
abbrev cX0_zero : ByteArray := prog_2_method_4_code
def yX0_zero : MethodName := ⟨RX0, "zero", "()V"⟩
abbrev cX0_take : ByteArray := prog_2_method_5_code
def yX0_take : MethodName := ⟨RX0, "take", "(LRazorTalk$Row;III)V"⟩
def RX1 : String := "RazorTalk$Script"
def TX1 : u_T := fun k => match k with
  | 0 => ("RazorTalk$Script", "letters", "LRazorTalk$Row;", true)
  | 1 => ("RazorTalk$Script", "words", "LRazorTalk$Row;", true)
  | 2 => ("RazorTalk$Script", "numbers", "LRazorTalk$Row;", true)
  | 3 => ("RazorTalk$Script", "length", "I", false)
  | 4 => ("RazorTalk$Script", "clauses", "I", false)
  | 5 => ("RazorTalk$Script", "people", "I", false)
  | 6 => ("RazorTalk$Script", "rumours", "I", false)
  | 7 => ("RazorTalk$Script", "begin", "I", false)
  | _ => ("RazorTalk$Script", "end", "I", false)
def tyX1 : Nat → FieldType := fun k => match k with
  | 0 => .object "RazorTalk$Row"
  | 1 => .object "RazorTalk$Row"
  | 2 => .object "RazorTalk$Row"
  | 3 => .int
  | 4 => .int
  | 5 => .int
  | 6 => .int
  | 7 => .int
  | _ => .int
abbrev wsX10 : List Cond := u_ws RX1 TX1 9
theorem nmX1 : ∀ a, a < 9 → ∀ b, b < 9 → a ≠ b → (TX1 a).2.1 ≠ (TX1 b).2.1 := by decide +kernel
theorem tyX1_ok : ∀ k, k < 9 → parseFieldDescriptor (TX1 k).2.2.1 = some (tyX1 k) := by decide +kernel
abbrev cX1_init : ByteArray := prog_3_method_1_code
def yX1_init : MethodName := ⟨RX1, "<init>", "()V"⟩
abbrev cX1_addLetter : ByteArray := prog_3_method_2_code
def yX1_addLetter : MethodName := ⟨RX1, "addLetter", "(I)V"⟩
abbrev cX1_empty : ByteArray := prog_3_method_3_code
def yX1_empty : MethodName := ⟨RX1, "empty", "()V"⟩
abbrev cX1_wordOf : ByteArray := prog_3_method_4_code
def yX1_wordOf : MethodName := ⟨RX1, "wordOf", "(I)I"⟩
abbrev cX1_numberOf : ByteArray := prog_3_method_5_code
def yX1_numberOf : MethodName := ⟨RX1, "numberOf", "(II)I"⟩
abbrev cX1_readAll : ByteArray := prog_3_method_6_code
def yX1_readAll : MethodName := ⟨RX1, "readAll", "(II)I"⟩
abbrev cX1_readClause : ByteArray := prog_3_method_7_code
def yX1_readClause : MethodName := ⟨RX1, "readClause", "()Z"⟩
abbrev cX1_canStand : ByteArray := prog_3_method_8_code
def yX1_canStand : MethodName := ⟨RX1, "canStand", "(I)Z"⟩
abbrev cX1_countIn : ByteArray := prog_3_method_9_code
def yX1_countIn : MethodName := ⟨RX1, "countIn", "(I)V"⟩
abbrev cX1_readNumber : ByteArray := prog_3_method_10_code
def yX1_readNumber : MethodName := ⟨RX1, "readNumber", "(III)Z"⟩
abbrev cX1_step : ByteArray := prog_3_method_11_code
def yX1_step : MethodName := ⟨RX1, "step", "()V"⟩
abbrev cX1_sortAt : ByteArray := prog_3_method_12_code
def yX1_sortAt : MethodName := ⟨RX1, "sortAt", "(I)I"⟩
abbrev cX1_numberHere : ByteArray := prog_3_method_13_code
def yX1_numberHere : MethodName := ⟨RX1, "numberHere", "()I"⟩
abbrev cX1_wordHere : ByteArray := prog_3_method_14_code
def yX1_wordHere : MethodName := ⟨RX1, "wordHere", "()I"⟩
abbrev cX1_isHere : ByteArray := prog_3_method_15_code
def yX1_isHere : MethodName := ⟨RX1, "isHere", "(Ljava/lang/String;)Z"⟩
abbrev cX1_spelling : ByteArray := prog_3_method_16_code
def yX1_spelling : MethodName := ⟨RX1, "spelling", "(I)Ljava/lang/String;"⟩
def RX2 : String := "RazorTalk$Shelf"
def TX2 : u_T := fun k => match k with
  | _ => ("RazorTalk$Shelf", "cells", "LRazorTalk$Row;", true)
def tyX2 : Nat → FieldType := fun k => match k with
  | _ => .object "RazorTalk$Row"
abbrev wsX20 : List Cond := u_ws RX2 TX2 1
theorem nmX2 : ∀ a, a < 1 → ∀ b, b < 1 → a ≠ b → (TX2 a).2.1 ≠ (TX2 b).2.1 := by decide +kernel
theorem tyX2_ok : ∀ k, k < 1 → parseFieldDescriptor (TX2 k).2.2.1 = some (tyX2 k) := by decide +kernel
abbrev cX2_init : ByteArray := prog_4_method_1_code
def yX2_init : MethodName := ⟨RX2, "<init>", "(I)V"⟩
abbrev cX2_store : ByteArray := prog_4_method_2_code
def yX2_store : MethodName := ⟨RX2, "store", "(ILRazorTalk$Standing;)V"⟩
abbrev cX2_fetch : ByteArray := prog_4_method_3_code
def yX2_fetch : MethodName := ⟨RX2, "fetch", "(ILRazorTalk$Standing;)V"⟩
def RX3 : String := "RazorTalk$Sightings"
def TX3 : u_T := fun k => match k with
  | 0 => ("RazorTalk$Sightings", "number", "I", false)
  | 1 => ("RazorTalk$Sightings", "strips", "LRazorTalk$Row;", true)
  | 2 => ("RazorTalk$Sightings", "beards", "LRazorTalk$Row;", true)
  | _ => ("RazorTalk$Sightings", "parts", "LRazorTalk$Row;", true)
def tyX3 : Nat → FieldType := fun k => match k with
  | 0 => .int
  | 1 => .object "RazorTalk$Row"
  | 2 => .object "RazorTalk$Row"
  | _ => .object "RazorTalk$Row"
abbrev wsX30 : List Cond := u_ws RX3 TX3 4
theorem nmX3 : ∀ a, a < 4 → ∀ b, b < 4 → a ≠ b → (TX3 a).2.1 ≠ (TX3 b).2.1 := by decide +kernel
theorem tyX3_ok : ∀ k, k < 4 → parseFieldDescriptor (TX3 k).2.2.1 = some (tyX3 k) := by decide +kernel
abbrev cX3_init : ByteArray := prog_5_method_1_code
def yX3_init : MethodName := ⟨RX3, "<init>", "()V"⟩
abbrev cX3_add : ByteArray := prog_5_method_2_code
def yX3_add : MethodName := ⟨RX3, "add", "(III)V"⟩
abbrev cX3_clear : ByteArray := prog_5_method_3_code
def yX3_clear : MethodName := ⟨RX3, "clear", "()V"⟩
abbrev cX3_allTrueOf : ByteArray := prog_5_method_4_code
def yX3_allTrueOf : MethodName := ⟨RX3, "allTrueOf", "(LRazorTalk$Town;I)Z"⟩
def RX4 : String := "RazorTalk$Standing"
def TX4 : u_T := fun k => match k with
  | _ => ("RazorTalk$Standing", "cells", "LRazorTalk$Row;", true)
def tyX4 : Nat → FieldType := fun k => match k with
  | _ => .object "RazorTalk$Row"
abbrev wsX40 : List Cond := u_ws RX4 TX4 1
theorem nmX4 : ∀ a, a < 1 → ∀ b, b < 1 → a ≠ b → (TX4 a).2.1 ≠ (TX4 b).2.1 := by decide +kernel
theorem tyX4_ok : ∀ k, k < 1 → parseFieldDescriptor (TX4 k).2.2.1 = some (tyX4 k) := by decide +kernel
abbrev cX4_init : ByteArray := prog_6_method_1_code
def yX4_init : MethodName := ⟨RX4, "<init>", "()V"⟩
abbrev cX4_startAfresh : ByteArray := prog_6_method_2_code
def yX4_startAfresh : MethodName := ⟨RX4, "startAfresh", "(LRazorTalk$Town;)V"⟩
abbrev cX4_date : ByteArray := prog_6_method_3_code
def yX4_date : MethodName := ⟨RX4, "date", "()I"⟩
abbrev cX4_passDay : ByteArray := prog_6_method_4_code
def yX4_passDay : MethodName := ⟨RX4, "passDay", "(I)V"⟩
abbrev cX4_beardOn : ByteArray := prog_6_method_5_code
def yX4_beardOn : MethodName := ⟨RX4, "beardOn", "(II)I"⟩
abbrev cX4_setBeard : ByteArray := prog_6_method_6_code
def yX4_setBeard : MethodName := ⟨RX4, "setBeard", "(III)V"⟩
abbrev cX4_beardsOf : ByteArray := prog_6_method_7_code
def yX4_beardsOf : MethodName := ⟨RX4, "beardsOf", "(I)I"⟩
abbrev cX4_bareStrips : ByteArray := prog_6_method_8_code
def yX4_bareStrips : MethodName := ⟨RX4, "bareStrips", "(I)I"⟩
abbrev cX4_stripsKnown : ByteArray := prog_6_method_9_code
def yX4_stripsKnown : MethodName := ⟨RX4, "stripsKnown", "(II)I"⟩
abbrev cX4_partsKnown : ByteArray := prog_6_method_10_code
def yX4_partsKnown : MethodName := ⟨RX4, "partsKnown", "(II)I"⟩
abbrev cX4_setKnown : ByteArray := prog_6_method_11_code
def yX4_setKnown : MethodName := ⟨RX4, "setKnown", "(IIII)V"⟩
abbrev cX4_learn : ByteArray := prog_6_method_12_code
def yX4_learn : MethodName := ⟨RX4, "learn", "(IIII)V"⟩
def RX5 : String := "RazorTalk$Town"
def TX5 : u_T := fun k => match k with
  | 0 => ("RazorTalk$Town", "barbers", "I", false)
  | 1 => ("RazorTalk$Town", "people", "I", false)
  | 2 => ("RazorTalk$Town", "rumours", "I", false)
  | 3 => ("RazorTalk$Town", "kinds", "LRazorTalk$Row;", true)
  | 4 => ("RazorTalk$Town", "secrets", "LRazorTalk$Row;", true)
  | 5 => ("RazorTalk$Town", "beards", "LRazorTalk$Row;", true)
  | _ => ("RazorTalk$Town", "rumourNumbers", "LRazorTalk$Row;", true)
def tyX5 : Nat → FieldType := fun k => match k with
  | 0 => .int
  | 1 => .int
  | 2 => .int
  | 3 => .object "RazorTalk$Row"
  | 4 => .object "RazorTalk$Row"
  | 5 => .object "RazorTalk$Row"
  | _ => .object "RazorTalk$Row"
abbrev wsX50 : List Cond := u_ws RX5 TX5 7
theorem nmX5 : ∀ a, a < 7 → ∀ b, b < 7 → a ≠ b → (TX5 a).2.1 ≠ (TX5 b).2.1 := by decide +kernel
theorem tyX5_ok : ∀ k, k < 7 → parseFieldDescriptor (TX5 k).2.2.1 = some (tyX5 k) := by decide +kernel
abbrev cX5_init : ByteArray := prog_7_method_1_code
def yX5_init : MethodName := ⟨RX5, "<init>", "()V"⟩
abbrev cX5_hear : ByteArray := prog_7_method_2_code
def yX5_hear : MethodName := ⟨RX5, "hear", "(IIII)V"⟩
abbrev cX5_found : ByteArray := prog_7_method_3_code
def yX5_found : MethodName := ⟨RX5, "found", "(I)V"⟩
abbrev cX5_addPerson : ByteArray := prog_7_method_4_code
def yX5_addPerson : MethodName := ⟨RX5, "addPerson", "(II)V"⟩
abbrev cX5_addRumour : ByteArray := prog_7_method_5_code
def yX5_addRumour : MethodName := ⟨RX5, "addRumour", "(I)V"⟩
abbrev cX5_kindOf : ByteArray := prog_7_method_6_code
def yX5_kindOf : MethodName := ⟨RX5, "kindOf", "(I)I"⟩
abbrev cX5_secretOf : ByteArray := prog_7_method_7_code
def yX5_secretOf : MethodName := ⟨RX5, "secretOf", "(I)I"⟩
abbrev cX5_toldBeard : ByteArray := prog_7_method_8_code
def yX5_toldBeard : MethodName := ⟨RX5, "toldBeard", "(II)I"⟩
abbrev cX5_rumourNumber : ByteArray := prog_7_method_9_code
def yX5_rumourNumber : MethodName := ⟨RX5, "rumourNumber", "(I)I"⟩
abbrev cX5_wouldTell : ByteArray := prog_7_method_10_code
def yX5_wouldTell : MethodName := ⟨RX5, "wouldTell", "(III)I"⟩
abbrev cX5_fitting : ByteArray := prog_7_method_11_code
def yX5_fitting : MethodName := ⟨RX5, "fitting", "(II)I"⟩
abbrev cX5_mostAlike : ByteArray := prog_7_method_12_code
def yX5_mostAlike : MethodName := ⟨RX5, "mostAlike", "(II)I"⟩
def RX6 : String := "RazorTalk"
def TX6 : u_T := fun k => match k with
  | 0 => ("RazorTalk", "script", "LRazorTalk$Script;", true)
  | 1 => ("RazorTalk", "town", "LRazorTalk$Town;", true)
  | 2 => ("RazorTalk", "standing", "LRazorTalk$Standing;", true)
  | 3 => ("RazorTalk", "sightings", "LRazorTalk$Sightings;", true)
  | 4 => ("RazorTalk", "past", "LRazorTalk$Shelf;", true)
  | 5 => ("RazorTalk", "kept", "LRazorTalk$Shelf;", true)
  | 6 => ("RazorTalk", "latest", "I", false)
  | 7 => ("RazorTalk", "undoable", "I", false)
  | _ => ("RazorTalk", "keptPlaces", "I", false)
def tyX6 : Nat → FieldType := fun k => match k with
  | 0 => .object "RazorTalk$Script"
  | 1 => .object "RazorTalk$Town"
  | 2 => .object "RazorTalk$Standing"
  | 3 => .object "RazorTalk$Sightings"
  | 4 => .object "RazorTalk$Shelf"
  | 5 => .object "RazorTalk$Shelf"
  | 6 => .int
  | 7 => .int
  | _ => .int
abbrev wsX60 : List Cond := u_ws RX6 TX6 9
theorem nmX6 : ∀ a, a < 9 → ∀ b, b < 9 → a ≠ b → (TX6 a).2.1 ≠ (TX6 b).2.1 := by decide +kernel
theorem tyX6_ok : ∀ k, k < 9 → parseFieldDescriptor (TX6 k).2.2.1 = some (tyX6 k) := by decide +kernel
abbrev cX6_init : ByteArray := prog_1_method_1_code
def yX6_init : MethodName := ⟨RX6, "<init>", "()V"⟩
abbrev cX6_write : ByteArray := prog_1_method_2_code
def yX6_write : MethodName := ⟨RX6, "write", "(I)I"⟩
abbrev cX6_erase : ByteArray := prog_1_method_3_code
def yX6_erase : MethodName := ⟨RX6, "erase", "()I"⟩
abbrev cX6_fault : ByteArray := prog_1_method_4_code
def yX6_fault : MethodName := ⟨RX6, "fault", "()I"⟩
abbrev cX6_town : ByteArray := prog_1_method_5_code
def yX6_town : MethodName := ⟨RX6, "town", "()I"⟩
abbrev cX6_person : ByteArray := prog_1_method_6_code
def yX6_person : MethodName := ⟨RX6, "person", "(II)I"⟩
abbrev cX6_beard : ByteArray := prog_1_method_7_code
def yX6_beard : MethodName := ⟨RX6, "beard", "(II)I"⟩
abbrev cX6_rumour : ByteArray := prog_1_method_8_code
def yX6_rumour : MethodName := ⟨RX6, "rumour", "(I)I"⟩
abbrev cX6_knows : ByteArray := prog_1_method_9_code
def yX6_knows : MethodName := ⟨RX6, "knows", "(III)I"⟩
abbrev cX6_as : ByteArray := prog_1_method_10_code
def yX6_as : MethodName := ⟨RX6, "as", "(II)I"⟩
abbrev cX6_shave : ByteArray := prog_1_method_11_code
def yX6_shave : MethodName := ⟨RX6, "shave", "(III)I"⟩
abbrev cX6_day : ByteArray := prog_1_method_12_code
def yX6_day : MethodName := ⟨RX6, "day", "()I"⟩
abbrev cX6_talk : ByteArray := prog_1_method_13_code
def yX6_talk : MethodName := ⟨RX6, "talk", "(III)I"⟩
abbrev cX6_burn : ByteArray := prog_1_method_14_code
def yX6_burn : MethodName := ⟨RX6, "burn", "(II)I"⟩
abbrev cX6_undo : ByteArray := prog_1_method_15_code
def yX6_undo : MethodName := ⟨RX6, "undo", "()I"⟩
abbrev cX6_keep : ByteArray := prog_1_method_16_code
def yX6_keep : MethodName := ⟨RX6, "keep", "(I)I"⟩
abbrev cX6_back : ByteArray := prog_1_method_17_code
def yX6_back : MethodName := ⟨RX6, "back", "(I)I"⟩
abbrev cX6_smooth : ByteArray := prog_1_method_18_code
def yX6_smooth : MethodName := ⟨RX6, "smooth", "(III)I"⟩
abbrev cX6_next : ByteArray := prog_1_method_19_code
def yX6_next : MethodName := ⟨RX6, "next", "(II)I"⟩
abbrev cX6_meet : ByteArray := prog_1_method_20_code
def yX6_meet : MethodName := ⟨RX6, "meet", "(II)I"⟩
abbrev cX6_round : ByteArray := prog_1_method_21_code
def yX6_round : MethodName := ⟨RX6, "round", "(III)I"⟩
abbrev cX6_seen : ByteArray := prog_1_method_22_code
def yX6_seen : MethodName := ⟨RX6, "seen", "(III)I"⟩
abbrev cX6_forget : ByteArray := prog_1_method_23_code
def yX6_forget : MethodName := ⟨RX6, "forget", "()I"⟩
abbrev cX6_was : ByteArray := prog_1_method_24_code
def yX6_was : MethodName := ⟨RX6, "was", "()I"⟩
abbrev cX6_stays : ByteArray := prog_1_method_25_code
def yX6_stays : MethodName := ⟨RX6, "stays", "(IIII)I"⟩
abbrev cX6_count : ByteArray := prog_1_method_26_code
def yX6_count : MethodName := ⟨RX6, "count", "(I)I"⟩
abbrev cX6_isPerson : ByteArray := prog_1_method_27_code
def yX6_isPerson : MethodName := ⟨RX6, "isPerson", "(I)Z"⟩
abbrev cX6_isBarber : ByteArray := prog_1_method_28_code
def yX6_isBarber : MethodName := ⟨RX6, "isBarber", "(I)Z"⟩
abbrev cX6_isRumour : ByteArray := prog_1_method_29_code
def yX6_isRumour : MethodName := ⟨RX6, "isRumour", "(I)Z"⟩
abbrev cX6_isStrip : ByteArray := prog_1_method_30_code
def yX6_isStrip : MethodName := ⟨RX6, "isStrip", "(I)Z"⟩
abbrev cX6_isSuch : ByteArray := prog_1_method_31_code
def yX6_isSuch : MethodName := ⟨RX6, "isSuch", "(II)Z"⟩
abbrev cX6_allBeards : ByteArray := prog_1_method_32_code
def yX6_allBeards : MethodName := ⟨RX6, "allBeards", "()I"⟩
abbrev cX6_allStripsKnown : ByteArray := prog_1_method_33_code
def yX6_allStripsKnown : MethodName := ⟨RX6, "allStripsKnown", "()I"⟩
abbrev cX6_telling : ByteArray := prog_1_method_34_code
def yX6_telling : MethodName := ⟨RX6, "telling", "(IIII)I"⟩
abbrev cX6_tellsNow : ByteArray := prog_1_method_35_code
def yX6_tellsNow : MethodName := ⟨RX6, "tellsNow", "(II)I"⟩
abbrev cX6_stripsTelling : ByteArray := prog_1_method_36_code
def yX6_stripsTelling : MethodName := ⟨RX6, "stripsTelling", "(I)I"⟩
abbrev cX6_partsTold : ByteArray := prog_1_method_37_code
def yX6_partsTold : MethodName := ⟨RX6, "partsTold", "(I)I"⟩
abbrev cX6_fittingBehind : ByteArray := prog_1_method_38_code
def yX6_fittingBehind : MethodName := ⟨RX6, "fittingBehind", "(IIII)I"⟩
abbrev cX6_fittingTogether : ByteArray := prog_1_method_39_code
def yX6_fittingTogether : MethodName := ⟨RX6, "fittingTogether", "(II)I"⟩
abbrev cX6_rememberForUndo : ByteArray := prog_1_method_40_code
def yX6_rememberForUndo : MethodName := ⟨RX6, "rememberForUndo", "()V"⟩
abbrev cX6_has : ByteArray := prog_1_method_41_code
def yX6_has : MethodName := ⟨RX6, "has", "(II)Z"⟩
abbrev cX6_replaced : ByteArray := prog_1_method_42_code
def yX6_replaced : MethodName := ⟨RX6, "replaced", "(III)I"⟩
abbrev cX6_weight : ByteArray := prog_1_method_43_code
def yX6_weight : MethodName := ⟨RX6, "weight", "(II)I"⟩
abbrev cX6_power : ByteArray := prog_1_method_44_code
def yX6_power : MethodName := ⟨RX6, "power", "(II)I"⟩
abbrev cX6_commonDivisor : ByteArray := prog_1_method_45_code
def yX6_commonDivisor : MethodName := ⟨RX6, "commonDivisor", "(II)I"⟩
def RX7 : String := "RazorTalkModel"
def TX7 : u_T := fun k => match k with
  | 0 => ("RazorTalkModel", "w", "[I", true)
  | 1 => ("RazorTalkModel", "told", "[I", true)
  | 2 => ("RazorTalkModel", "read", "[I", true)
  | 3 => ("RazorTalkModel", "isKept", "[Z", true)
  | 4 => ("RazorTalkModel", "undoes", "I", false)
  | 5 => ("RazorTalkModel", "text", "[I", true)
  | 6 => ("RazorTalkModel", "texted", "I", false)
  | 7 => ("RazorTalkModel", "seen", "I", false)
  | 8 => ("RazorTalkModel", "seenStrip", "[I", true)
  | 9 => ("RazorTalkModel", "seenBeard", "[I", true)
  | 10 => ("RazorTalkModel", "seenPart", "[I", true)
  | 11 => ("RazorTalkModel", "at", "I", false)
  | 12 => ("RazorTalkModel", "start", "I", false)
  | 13 => ("RazorTalkModel", "clauses", "I", false)
  | 14 => ("RazorTalkModel", "number", "I", false)
  | _ => ("RazorTalkModel", "word", "J", false)
def tyX7 : Nat → FieldType := fun k => match k with
  | 0 => .array .int
  | 1 => .array .int
  | 2 => .array .int
  | 3 => .array .boolean
  | 4 => .int
  | 5 => .array .int
  | 6 => .int
  | 7 => .int
  | 8 => .array .int
  | 9 => .array .int
  | 10 => .array .int
  | 11 => .int
  | 12 => .int
  | 13 => .int
  | 14 => .int
  | _ => .long
abbrev wsX70 : List Cond := u_ws RX7 TX7 16
theorem nmX7 : ∀ a, a < 16 → ∀ b, b < 16 → a ≠ b → (TX7 a).2.1 ≠ (TX7 b).2.1 := by decide +kernel
theorem tyX7_ok : ∀ k, k < 16 → parseFieldDescriptor (TX7 k).2.2.1 = some (tyX7 k) := by decide +kernel
abbrev cX7_init : ByteArray := prog_9_method_1_code
def yX7_init : MethodName := ⟨RX7, "<init>", "()V"⟩
abbrev cX7_in : ByteArray := prog_9_method_3_code
def yX7_in : MethodName := ⟨RX7, "in", "(JJJ)Z"⟩
abbrev cX7_has : ByteArray := prog_9_method_4_code
def yX7_has : MethodName := ⟨RX7, "has", "(II)Z"⟩
abbrev cX7_ones : ByteArray := prog_9_method_5_code
def yX7_ones : MethodName := ⟨RX7, "ones", "(I)I"⟩
abbrev cX7_copy : ByteArray := prog_9_method_6_code
def yX7_copy : MethodName := ⟨RX7, "copy", "(II)V"⟩
abbrev cX7_isPerson : ByteArray := prog_9_method_7_code
def yX7_isPerson : MethodName := ⟨RX7, "isPerson", "(I)Z"⟩
abbrev cX7_isBarber : ByteArray := prog_9_method_8_code
def yX7_isBarber : MethodName := ⟨RX7, "isBarber", "(I)Z"⟩
abbrev cX7_isRumour : ByteArray := prog_9_method_9_code
def yX7_isRumour : MethodName := ⟨RX7, "isRumour", "(I)Z"⟩
abbrev cX7_isStrip : ByteArray := prog_9_method_10_code
def yX7_isStrip : MethodName := ⟨RX7, "isStrip", "(I)Z"⟩
abbrev cX7_write : ByteArray := prog_9_method_11_code
def yX7_write : MethodName := ⟨RX7, "write", "(I)I"⟩
abbrev cX7_erase : ByteArray := prog_9_method_12_code
def yX7_erase : MethodName := ⟨RX7, "erase", "()I"⟩
abbrev cX7_letterAt : ByteArray := prog_9_method_13_code
def yX7_letterAt : MethodName := ⟨RX7, "letterAt", "(I)I"⟩
abbrev cX7_isSmall : ByteArray := prog_9_method_14_code
def yX7_isSmall : MethodName := ⟨RX7, "isSmall", "(I)Z"⟩
abbrev cX7_isDigit : ByteArray := prog_9_method_15_code
def yX7_isDigit : MethodName := ⟨RX7, "isDigit", "(I)Z"⟩
abbrev cX7_begins : ByteArray := prog_9_method_16_code
def yX7_begins : MethodName := ⟨RX7, "begins", "()V"⟩
abbrev cX7_takesWord : ByteArray := prog_9_method_17_code
def yX7_takesWord : MethodName := ⟨RX7, "takesWord", "()V"⟩
abbrev cX7_takesNumber : ByteArray := prog_9_method_18_code
def yX7_takesNumber : MethodName := ⟨RX7, "takesNumber", "(II)Z"⟩
abbrev cX7_takesOne : ByteArray := prog_9_method_19_code
def yX7_takesOne : MethodName := ⟨RX7, "takesOne", "(I)Z"⟩
abbrev cX7_takesTown : ByteArray := prog_9_method_20_code
def yX7_takesTown : MethodName := ⟨RX7, "takesTown", "()Z"⟩
abbrev cX7_takesRumour : ByteArray := prog_9_method_21_code
def yX7_takesRumour : MethodName := ⟨RX7, "takesRumour", "()Z"⟩
abbrev cX7_takesBeard : ByteArray := prog_9_method_22_code
def yX7_takesBeard : MethodName := ⟨RX7, "takesBeard", "()Z"⟩
abbrev cX7_takesClause : ByteArray := prog_9_method_23_code
def yX7_takesClause : MethodName := ⟨RX7, "takesClause", "()Z"⟩
abbrev cX7_reads : ByteArray := prog_9_method_24_code
def yX7_reads : MethodName := ⟨RX7, "reads", "()I"⟩
abbrev cX7_fault : ByteArray := prog_9_method_25_code
def yX7_fault : MethodName := ⟨RX7, "fault", "()I"⟩
abbrev cX7_town : ByteArray := prog_9_method_26_code
def yX7_town : MethodName := ⟨RX7, "town", "()I"⟩
abbrev cX7_tells : ByteArray := prog_9_method_27_code
def yX7_tells : MethodName := ⟨RX7, "tells", "(III)I"⟩
abbrev cX7_knowsPart : ByteArray := prog_9_method_28_code
def yX7_knowsPart : MethodName := ⟨RX7, "knowsPart", "(IIIII)V"⟩
abbrev cX7_shaves : ByteArray := prog_9_method_29_code
def yX7_shaves : MethodName := ⟨RX7, "shaves", "(IIII)I"⟩
abbrev cX7_fitsBy : ByteArray := prog_9_method_30_code
def yX7_fitsBy : MethodName := ⟨RX7, "fitsBy", "(II)I"⟩
abbrev cX7_many : ByteArray := prog_9_method_31_code
def yX7_many : MethodName := ⟨RX7, "many", "(I)I"⟩
abbrev cX7_fitsOf : ByteArray := prog_9_method_32_code
def yX7_fitsOf : MethodName := ⟨RX7, "fitsOf", "(III)I"⟩
abbrev cX7_beardsOf : ByteArray := prog_9_method_33_code
def yX7_beardsOf : MethodName := ⟨RX7, "beardsOf", "(I)I"⟩
abbrev cX7_smoothOf : ByteArray := prog_9_method_34_code
def yX7_smoothOf : MethodName := ⟨RX7, "smoothOf", "(I)I"⟩
abbrev cX7_person : ByteArray := prog_9_method_35_code
def yX7_person : MethodName := ⟨RX7, "person", "(II)I"⟩
abbrev cX7_beard : ByteArray := prog_9_method_36_code
def yX7_beard : MethodName := ⟨RX7, "beard", "(II)I"⟩
abbrev cX7_rumour : ByteArray := prog_9_method_37_code
def yX7_rumour : MethodName := ⟨RX7, "rumour", "(I)I"⟩
abbrev cX7_knows : ByteArray := prog_9_method_38_code
def yX7_knows : MethodName := ⟨RX7, "knows", "(III)I"⟩
abbrev cX7_as : ByteArray := prog_9_method_39_code
def yX7_as : MethodName := ⟨RX7, "as", "(II)I"⟩
abbrev cX7_minds : ByteArray := prog_9_method_40_code
def yX7_minds : MethodName := ⟨RX7, "minds", "()V"⟩
abbrev cX7_shave : ByteArray := prog_9_method_41_code
def yX7_shave : MethodName := ⟨RX7, "shave", "(III)I"⟩
abbrev cX7_day : ByteArray := prog_9_method_42_code
def yX7_day : MethodName := ⟨RX7, "day", "()I"⟩
abbrev cX7_talk : ByteArray := prog_9_method_43_code
def yX7_talk : MethodName := ⟨RX7, "talk", "(III)I"⟩
abbrev cX7_burn : ByteArray := prog_9_method_44_code
def yX7_burn : MethodName := ⟨RX7, "burn", "(II)I"⟩
abbrev cX7_undo : ByteArray := prog_9_method_45_code
def yX7_undo : MethodName := ⟨RX7, "undo", "()I"⟩
abbrev cX7_keep : ByteArray := prog_9_method_46_code
def yX7_keep : MethodName := ⟨RX7, "keep", "(I)I"⟩
abbrev cX7_back : ByteArray := prog_9_method_47_code
def yX7_back : MethodName := ⟨RX7, "back", "(I)I"⟩
abbrev cX7_triesSet : ByteArray := prog_9_method_48_code
def yX7_triesSet : MethodName := ⟨RX7, "triesSet", "(III)V"⟩
abbrev cX7_smooth : ByteArray := prog_9_method_49_code
def yX7_smooth : MethodName := ⟨RX7, "smooth", "(III)I"⟩
abbrev cX7_next : ByteArray := prog_9_method_50_code
def yX7_next : MethodName := ⟨RX7, "next", "(II)I"⟩
abbrev cX7_meet : ByteArray := prog_9_method_51_code
def yX7_meet : MethodName := ⟨RX7, "meet", "(II)I"⟩
abbrev cX7_round : ByteArray := prog_9_method_52_code
def yX7_round : MethodName := ⟨RX7, "round", "(III)I"⟩
abbrev cX7_seen : ByteArray := prog_9_method_53_code
def yX7_seen : MethodName := ⟨RX7, "seen", "(III)I"⟩
abbrev cX7_forget : ByteArray := prog_9_method_54_code
def yX7_forget : MethodName := ⟨RX7, "forget", "()I"⟩
abbrev cX7_was : ByteArray := prog_9_method_55_code
def yX7_was : MethodName := ⟨RX7, "was", "()I"⟩
abbrev cX7_stays : ByteArray := prog_9_method_56_code
def yX7_stays : MethodName := ⟨RX7, "stays", "(IIII)I"⟩
abbrev cX7_beardsOfAll : ByteArray := prog_9_method_57_code
def yX7_beardsOfAll : MethodName := ⟨RX7, "beardsOfAll", "()I"⟩
abbrev cX7_knownOfAll : ByteArray := prog_9_method_58_code
def yX7_knownOfAll : MethodName := ⟨RX7, "knownOfAll", "()I"⟩
abbrev cX7_count : ByteArray := prog_9_method_59_code
def yX7_count : MethodName := ⟨RX7, "count", "(I)I"⟩
def RJ6 : String := "java/lang/Integer"
def TJ6 : u_T := fun k => match k with
  | _ => ("", "", "", false)
def tyJ6 : Nat → FieldType := fun k => match k with
  | _ => .int
abbrev wsJ60 : List Cond := u_ws RJ6 TJ6 0
theorem nmJ6 : ∀ a, a < 0 → ∀ b, b < 0 → a ≠ b → (TJ6 a).2.1 ≠ (TJ6 b).2.1 := by decide +kernel
theorem tyJ6_ok : ∀ k, k < 0 → parseFieldDescriptor (TJ6 k).2.2.1 = some (tyJ6 k) := by decide +kernel
abbrev cJ6_bitCount_0f7a4 : ByteArray := prog_10_method_49_code
def yJ6_bitCount_0f7a4 : MethodName := ⟨RJ6, "bitCount", "(I)I"⟩
def RJ9 : String := "java/lang/Math"
def TJ9 : u_T := fun k => match k with
  | _ => ("", "", "", false)
def tyJ9 : Nat → FieldType := fun k => match k with
  | _ => .int
abbrev wsJ90 : List Cond := u_ws RJ9 TJ9 0
theorem nmJ9 : ∀ a, a < 0 → ∀ b, b < 0 → a ≠ b → (TJ9 a).2.1 ≠ (TJ9 b).2.1 := by decide +kernel
theorem tyJ9_ok : ∀ k, k < 0 → parseFieldDescriptor (TJ9 k).2.2.1 = some (tyJ9 k) := by decide +kernel
abbrev cJ9_max_7cf53 : ByteArray := prog_11_method_65_code
def yJ9_max_7cf53 : MethodName := ⟨RJ9, "max", "(II)I"⟩
abbrev cJ9_min_7cf53 : ByteArray := prog_11_method_69_code
def yJ9_min_7cf53 : MethodName := ⟨RJ9, "min", "(II)I"⟩
def RJ0 : String := "java/lang/String"
def TJ0 : u_T := fun k => match k with
  | _ => ("", "", "", false)
def tyJ0 : Nat → FieldType := fun k => match k with
  | _ => .int
abbrev wsJ00 : List Cond := u_ws RJ0 TJ0 0
theorem nmJ0 : ∀ a, a < 0 → ∀ b, b < 0 → a ≠ b → (TJ0 a).2.1 ≠ (TJ0 b).2.1 := by decide +kernel
theorem tyJ0_ok : ∀ k, k < 0 → parseFieldDescriptor (TJ0 k).2.2.1 = some (tyJ0 k) := by decide +kernel
abbrev cJ0_length_8abf5 : ByteArray := prog_12_method_54_code
def yJ0_length_8abf5 : MethodName := ⟨RJ0, "length", "()I"⟩
abbrev cJ0_charAt_5068e : ByteArray := prog_12_method_56_code
def yJ0_charAt_5068e : MethodName := ⟨RJ0, "charAt", "(I)C"⟩
abbrev cJ0_coder_7d493 : ByteArray := prog_12_method_152_code
def yJ0_coder_7d493 : MethodName := ⟨RJ0, "coder", "()B"⟩
abbrev cJ0_isLatin1_aae02 : ByteArray := prog_12_method_154_code
def yJ0_isLatin1_aae02 : MethodName := ⟨RJ0, "isLatin1", "()Z"⟩
abbrev cJ0_checkIndex_df160 : ByteArray := prog_12_method_155_code
def yJ0_checkIndex_df160 : MethodName := ⟨RJ0, "checkIndex", "(II)V"⟩
def RJ1 : String := "java/lang/StringLatin1"
def TJ1 : u_T := fun k => match k with
  | _ => ("", "", "", false)
def tyJ1 : Nat → FieldType := fun k => match k with
  | _ => .int
abbrev wsJ10 : List Cond := u_ws RJ1 TJ1 0
theorem nmJ1 : ∀ a, a < 0 → ∀ b, b < 0 → a ≠ b → (TJ1 a).2.1 ≠ (TJ1 b).2.1 := by decide +kernel
theorem tyJ1_ok : ∀ k, k < 0 → parseFieldDescriptor (TJ1 k).2.2.1 = some (tyJ1 k) := by decide +kernel
abbrev cJ1_charAt_3b067 : ByteArray := prog_13_method_2_code
def yJ1_charAt_3b067 : MethodName := ⟨RJ1, "charAt", "([BI)C"⟩
def RJ2 : String := "java/lang/StringUTF16"
def TJ2 : u_T := fun k => match k with
  | _ => ("", "", "", false)
def tyJ2 : Nat → FieldType := fun k => match k with
  | _ => .int
abbrev wsJ20 : List Cond := u_ws RJ2 TJ2 0
theorem nmJ2 : ∀ a, a < 0 → ∀ b, b < 0 → a ≠ b → (TJ2 a).2.1 ≠ (TJ2 b).2.1 := by decide +kernel
theorem tyJ2_ok : ∀ k, k < 0 → parseFieldDescriptor (TJ2 k).2.2.1 = some (tyJ2 k) := by decide +kernel
abbrev cJ2_getChar_3b067 : ByteArray := prog_14_method_5_code
def yJ2_getChar_3b067 : MethodName := ⟨RJ2, "getChar", "([BI)C"⟩
abbrev cJ2_length_9d52b : ByteArray := prog_14_method_6_code
def yJ2_length_9d52b : MethodName := ⟨RJ2, "length", "([B)I"⟩
abbrev cJ2_charAt_3b067 : ByteArray := prog_14_method_83_code
def yJ2_charAt_3b067 : MethodName := ⟨RJ2, "charAt", "([BI)C"⟩
abbrev cJ2_checkIndex_2214a : ByteArray := prog_14_method_91_code
def yJ2_checkIndex_2214a : MethodName := ⟨RJ2, "checkIndex", "(I[B)V"⟩
def RJ10 : String := "java/lang/System"
def TJ10 : u_T := fun k => match k with
  | _ => ("", "", "", false)
def tyJ10 : Nat → FieldType := fun k => match k with
  | _ => .int
abbrev wsJ100 : List Cond := u_ws RJ10 TJ10 0
theorem nmJ10 : ∀ a, a < 0 → ∀ b, b < 0 → a ≠ b → (TJ10 a).2.1 ≠ (TJ10 b).2.1 := by decide +kernel
theorem tyJ10_ok : ∀ k, k < 0 → parseFieldDescriptor (TJ10 k).2.2.1 = some (tyJ10 k) := by decide +kernel
def RJ3 : String := "jdk/internal/util/Preconditions"
def TJ3 : u_T := fun k => match k with
  | _ => ("", "", "", false)
def tyJ3 : Nat → FieldType := fun k => match k with
  | _ => .int
abbrev wsJ30 : List Cond := u_ws RJ3 TJ3 0
theorem nmJ3 : ∀ a, a < 0 → ∀ b, b < 0 → a ≠ b → (TJ3 a).2.1 ≠ (TJ3 b).2.1 := by decide +kernel
theorem tyJ3_ok : ∀ k, k < 0 → parseFieldDescriptor (TJ3 k).2.2.1 = some (tyJ3 k) := by decide +kernel
abbrev cJ3_checkIndex_8e157 : ByteArray := prog_16_method_11_code
def yJ3_checkIndex_8e157 : MethodName := ⟨RJ3, "checkIndex", "(IILjava/util/function/BiFunction;)I"⟩
def RL : String := "RazorTalkLaw"
abbrev cL_law : ByteArray := code
def yL_law : MethodName := ⟨RL, "law", "([I)Z"⟩
def wsL_law_r1 : List Cond := [Cond.classLink RL 7 RX6, Cond.instantiable RX6 9, Cond.initialized RX6, Cond.classLink RL 10 RX7, Cond.instantiable RX7 16, Cond.initialized RX7, Cond.methodLink RL 9 yX6_init, Cond.instanceMethod yX6_init, Cond.code yX6_init cX6_init 1 none, Cond.methodLink RX6 1 objectInit, Cond.instanceMethod objectInit, Cond.code objectInit ⟨#[0xb1]⟩ 1 none, Cond.classLink RX6 7 RX1, Cond.instantiable RX1 9, Cond.initialized RX1, Cond.fieldLink RX6 10 "RazorTalk" "script" "LRazorTalk$Script;", Cond.classLink RX6 16 RX5, Cond.instantiable RX5 7, Cond.initialized RX5, Cond.fieldLink RX6 19 "RazorTalk" "town" "LRazorTalk$Town;", Cond.classLink RX6 23 RX4, Cond.instantiable RX4 1, Cond.initialized RX4, Cond.fieldLink RX6 26 "RazorTalk" "standing" "LRazorTalk$Standing;"]
def wsL_law_r2 : List Cond := [Cond.classLink RX6 30 RX3, Cond.instantiable RX3 4, Cond.initialized RX3, Cond.fieldLink RX6 33 "RazorTalk" "sightings" "LRazorTalk$Sightings;", Cond.classLink RX6 37 RX2, Cond.instantiable RX2 1, Cond.initialized RX2, Cond.fieldLink RX6 42 "RazorTalk" "past" "LRazorTalk$Shelf;", Cond.fieldLink RX6 46 "RazorTalk" "kept" "LRazorTalk$Shelf;", Cond.fieldLink RX6 49 "RazorTalk" "latest" "I", Cond.fieldLink RX6 53 "RazorTalk" "undoable" "I", Cond.fieldLink RX6 56 "RazorTalk" "keptPlaces" "I", Cond.methodLink RX6 9 yX1_init, Cond.instanceMethod yX1_init, Cond.code yX1_init cX1_init 1 none, Cond.methodLink RX1 3 objectInit, Cond.classLink RX1 9 RX0, Cond.instantiable RX0 1, Cond.initialized RX0, Cond.fieldLink RX1 14 "RazorTalk$Script" "letters" "LRazorTalk$Row;", Cond.fieldLink RX1 20 "RazorTalk$Script" "words" "LRazorTalk$Row;", Cond.fieldLink RX1 23 "RazorTalk$Script" "numbers" "LRazorTalk$Row;", Cond.methodLink RX1 11 yX0_init, Cond.instanceMethod yX0_init]
def wsL_law_r3 : List Cond := [Cond.code yX0_init cX0_init 2 none, Cond.methodLink RX0 1 objectInit, Cond.methodLink RX0 7 Lib.Math.max.name, Cond.static Lib.Math.max.name, Cond.initialized "java/lang/Math", Cond.code Lib.Math.max.name Lib.Math.max.code 2 (some .int), Cond.arrayClass .int, Cond.fieldLink RX0 13 "RazorTalk$Row" "cells" "[I", Cond.methodLink RX6 18 yX5_init, Cond.instanceMethod yX5_init, Cond.code yX5_init cX5_init 1 none, Cond.methodLink RX5 3 objectInit, Cond.fieldLink RX5 9 "RazorTalk$Town" "barbers" "I", Cond.classLink RX5 15 RX0, Cond.fieldLink RX5 20 "RazorTalk$Town" "kinds" "LRazorTalk$Row;", Cond.fieldLink RX5 24 "RazorTalk$Town" "secrets" "LRazorTalk$Row;", Cond.fieldLink RX5 27 "RazorTalk$Town" "beards" "LRazorTalk$Row;", Cond.fieldLink RX5 30 "RazorTalk$Town" "rumourNumbers" "LRazorTalk$Row;", Cond.methodLink RX5 17 yX0_init, Cond.methodLink RX6 25 yX4_init, Cond.instanceMethod yX4_init, Cond.code yX4_init cX4_init 1 none, Cond.methodLink RX4 5 objectInit, Cond.classLink RX4 11 RX0]
def wsL_law_r4 : List Cond := [Cond.fieldLink RX4 16 "RazorTalk$Standing" "cells" "LRazorTalk$Row;", Cond.methodLink RX4 13 yX0_init, Cond.methodLink RX6 32 yX3_init, Cond.instanceMethod yX3_init, Cond.code yX3_init cX3_init 1 none, Cond.methodLink RX3 3 objectInit, Cond.classLink RX3 9 RX0, Cond.fieldLink RX3 14 "RazorTalk$Sightings" "strips" "LRazorTalk$Row;", Cond.fieldLink RX3 20 "RazorTalk$Sightings" "beards" "LRazorTalk$Row;", Cond.fieldLink RX3 23 "RazorTalk$Sightings" "parts" "LRazorTalk$Row;", Cond.methodLink RX3 11 yX0_init, Cond.methodLink RX6 39 yX2_init, Cond.instanceMethod yX2_init, Cond.code yX2_init cX2_init 2 none, Cond.methodLink RX2 1 objectInit, Cond.classLink RX2 7 RX0, Cond.fieldLink RX2 14 "RazorTalk$Shelf" "cells" "LRazorTalk$Row;", Cond.methodLink RX2 11 yX0_init, Cond.methodLink RL 12 yX7_init, Cond.instanceMethod yX7_init, Cond.code yX7_init cX7_init 1 none, Cond.methodLink RX7 1 objectInit, Cond.fieldLink RX7 7 "RazorTalkModel" "w" "[I", Cond.fieldLink RX7 13 "RazorTalkModel" "told" "[I"]
def wsL_law_r5 : List Cond := [Cond.fieldLink RX7 16 "RazorTalkModel" "read" "[I", Cond.arrayClass .boolean, Cond.fieldLink RX7 19 "RazorTalkModel" "isKept" "[Z", Cond.fieldLink RX7 23 "RazorTalkModel" "text" "[I", Cond.fieldLink RX7 26 "RazorTalkModel" "seenStrip" "[I", Cond.fieldLink RX7 29 "RazorTalkModel" "seenBeard" "[I", Cond.fieldLink RX7 32 "RazorTalkModel" "seenPart" "[I", Cond.methodLink RL 13 yX6_write, Cond.instanceMethod yX6_write, Cond.selects RX6 yX6_write yX6_write, Cond.code yX6_write cX6_write 2 (some .int), Cond.fieldLink RX6 59 "RazorTalk$Script" "length" "I", Cond.methodLink RX6 62 yX1_addLetter, Cond.instanceMethod yX1_addLetter, Cond.selects RX1 yX1_addLetter yX1_addLetter, Cond.code yX1_addLetter cX1_addLetter 2 none, Cond.fieldLink RX1 26 "RazorTalk$Script" "length" "I", Cond.methodLink RX1 34 Lib.Math.min.name, Cond.static Lib.Math.min.name, Cond.code Lib.Math.min.name Lib.Math.min.code 2 (some .int), Cond.methodLink RX1 30 yX0_put, Cond.instanceMethod yX0_put, Cond.selects RX0 yX0_put yX0_put, Cond.code yX0_put cX0_put 3 none]
def wsL_law_r6 : List Cond := [Cond.methodLink RL 17 yX7_write, Cond.instanceMethod yX7_write, Cond.selects RX7 yX7_write yX7_write, Cond.code yX7_write cX7_write 2 (some .int), Cond.constantLong RX7 41 (255), Cond.fieldLink RX7 43 "RazorTalkModel" "texted" "I", Cond.methodLink RX7 35 yX7_in, Cond.static yX7_in, Cond.code yX7_in cX7_in 6 (some .boolean), Cond.methodLink RL 18 yX6_erase, Cond.instanceMethod yX6_erase, Cond.selects RX6 yX6_erase yX6_erase, Cond.code yX6_erase cX6_erase 2 (some .int), Cond.methodLink RX6 65 yX1_empty, Cond.instanceMethod yX1_empty, Cond.selects RX1 yX1_empty yX1_empty, Cond.code yX1_empty cX1_empty 1 none, Cond.methodLink RL 22 yX7_erase, Cond.instanceMethod yX7_erase, Cond.selects RX7 yX7_erase yX7_erase, Cond.code yX7_erase cX7_erase 2 (some .int), Cond.methodLink RL 23 yX6_fault, Cond.instanceMethod yX6_fault, Cond.selects RX6 yX6_fault yX6_fault]
def wsL_law_r7 : List Cond := [Cond.code yX6_fault cX6_fault 1 (some .int), Cond.fieldLink RX6 68 "RazorTalk$Town" "people" "I", Cond.fieldLink RX6 71 "RazorTalk$Town" "rumours" "I", Cond.methodLink RX6 74 yX1_readAll, Cond.instanceMethod yX1_readAll, Cond.selects RX1 yX1_readAll yX1_readAll, Cond.code yX1_readAll cX1_readAll 3 (some .int), Cond.fieldLink RX1 44 "RazorTalk$Script" "people" "I", Cond.fieldLink RX1 47 "RazorTalk$Script" "rumours" "I", Cond.fieldLink RX1 50 "RazorTalk$Script" "clauses" "I", Cond.fieldLink RX1 53 "RazorTalk$Script" "end" "I", Cond.fieldLink RX1 63 "RazorTalk$Script" "begin" "I", Cond.methodLink RX1 56 yX1_step, Cond.instanceMethod yX1_step, Cond.selects RX1 yX1_step yX1_step, Cond.code yX1_step cX1_step 2 none, Cond.methodLink RX1 40 yX0_at, Cond.instanceMethod yX0_at, Cond.selects RX0 yX0_at yX0_at, Cond.code yX0_at cX0_at 2 (some .int), Cond.methodLink RX1 84 yX1_sortAt, Cond.instanceMethod yX1_sortAt, Cond.selects RX1 yX1_sortAt yX1_sortAt, Cond.code yX1_sortAt cX1_sortAt 3 (some .int)]
def wsL_law_r8 : List Cond := [Cond.methodLink RX1 59 yX1_readClause, Cond.instanceMethod yX1_readClause, Cond.selects RX1 yX1_readClause yX1_readClause, Cond.code yX1_readClause cX1_readClause 2 (some .boolean), Cond.methodLink RX1 66 yX1_wordHere, Cond.instanceMethod yX1_wordHere, Cond.selects RX1 yX1_wordHere yX1_wordHere, Cond.code yX1_wordHere cX1_wordHere 2 (some .int), Cond.methodLink RX1 87 yX1_spelling, Cond.static yX1_spelling, Cond.code yX1_spelling cX1_spelling 1 (some (.object "java/lang/String")), Cond.methodLink RX1 91 yX1_isHere, Cond.instanceMethod yX1_isHere, Cond.selects RX1 yX1_isHere yX1_isHere, Cond.code yX1_isHere cX1_isHere 3 (some .boolean), Cond.methodLink RX1 95 yJ0_length_8abf5, Cond.instanceMethod yJ0_length_8abf5, Cond.selects RJ0 yJ0_length_8abf5 yJ0_length_8abf5, Cond.initialized RJ0, Cond.code yJ0_length_8abf5 cJ0_length_8abf5 1 (some .int), Cond.fieldLink RJ0 9 "java/lang/String" "value" "[B", Cond.methodLink RJ0 335 yJ0_coder_7d493, Cond.instanceMethod yJ0_coder_7d493, Cond.selects RJ0 yJ0_coder_7d493 yJ0_coder_7d493]
def wsL_law_r9 : List Cond := [Cond.code yJ0_coder_7d493 cJ0_coder_7d493 1 (some .byte), Cond.fieldLink RJ0 38 "java/lang/String" "COMPACT_STRINGS" "Z", Cond.fieldLink RJ0 15 "java/lang/String" "coder" "B", Cond.methodLink RX1 99 yJ0_charAt_5068e, Cond.instanceMethod yJ0_charAt_5068e, Cond.selects RJ0 yJ0_charAt_5068e yJ0_charAt_5068e, Cond.code yJ0_charAt_5068e cJ0_charAt_5068e 2 (some .char), Cond.methodLink RJ0 492 yJ0_isLatin1_aae02, Cond.instanceMethod yJ0_isLatin1_aae02, Cond.selects RJ0 yJ0_isLatin1_aae02 yJ0_isLatin1_aae02, Cond.code yJ0_isLatin1_aae02 cJ0_isLatin1_aae02 1 (some .boolean), Cond.methodLink RJ0 495 yJ1_charAt_3b067, Cond.static yJ1_charAt_3b067, Cond.initialized RJ1, Cond.code yJ1_charAt_3b067 cJ1_charAt_3b067 2 (some .char), Cond.methodLink RJ1 9 yJ0_checkIndex_df160, Cond.static yJ0_checkIndex_df160, Cond.code yJ0_checkIndex_df160 cJ0_checkIndex_df160 2 none, Cond.fieldLink RJ0 1053 "jdk/internal/util/Preconditions" "SIOOBE_FORMATTER" "Ljava/util/function/BiFunction;", Cond.methodLink RJ0 1059 yJ3_checkIndex_8e157, Cond.static yJ3_checkIndex_8e157, Cond.initialized RJ3, Cond.code yJ3_checkIndex_8e157 cJ3_checkIndex_8e157 3 (some .int), Cond.methodLink RJ0 498 yJ2_charAt_3b067]
def wsL_law_r10 : List Cond := [Cond.static yJ2_charAt_3b067, Cond.initialized RJ2, Cond.code yJ2_charAt_3b067 cJ2_charAt_3b067 2 (some .char), Cond.methodLink RJ2 67 yJ2_checkIndex_2214a, Cond.static yJ2_checkIndex_2214a, Cond.code yJ2_checkIndex_2214a cJ2_checkIndex_2214a 2 none, Cond.methodLink RJ2 48 yJ2_length_9d52b, Cond.static yJ2_length_9d52b, Cond.code yJ2_length_9d52b cJ2_length_9d52b 1 (some .int), Cond.methodLink RJ2 414 yJ0_checkIndex_df160, Cond.methodLink RJ2 71 yJ2_getChar_3b067, Cond.static yJ2_getChar_3b067, Cond.code yJ2_getChar_3b067 cJ2_getChar_3b067 2 (some .char), Cond.fieldLink RJ2 44 "java/lang/StringUTF16" "$assertionsDisabled" "Z", Cond.fieldLink RJ2 59 "java/lang/StringUTF16" "HI_BYTE_SHIFT" "I", Cond.fieldLink RJ2 63 "java/lang/StringUTF16" "LO_BYTE_SHIFT" "I", Cond.methodLink RX1 70 yX1_canStand, Cond.instanceMethod yX1_canStand, Cond.selects RX1 yX1_canStand yX1_canStand, Cond.code yX1_canStand cX1_canStand 2 (some .boolean), Cond.methodLink RX1 74 yX1_countIn, Cond.instanceMethod yX1_countIn, Cond.selects RX1 yX1_countIn yX1_countIn, Cond.code yX1_countIn cX1_countIn 2 none]
def wsL_law_r11 : List Cond := [Cond.methodLink RX1 77 yX1_readNumber, Cond.instanceMethod yX1_readNumber, Cond.selects RX1 yX1_readNumber yX1_readNumber, Cond.code yX1_readNumber cX1_readNumber 5 (some .boolean), Cond.methodLink RX1 81 yX1_numberHere, Cond.instanceMethod yX1_numberHere, Cond.selects RX1 yX1_numberHere yX1_numberHere, Cond.code yX1_numberHere cX1_numberHere 3 (some .int), Cond.methodLink RL 26 yX7_fault, Cond.instanceMethod yX7_fault, Cond.selects RX7 yX7_fault yX7_fault, Cond.code yX7_fault cX7_fault 1 (some .int), Cond.methodLink RX7 122 yX7_reads, Cond.instanceMethod yX7_reads, Cond.selects RX7 yX7_reads yX7_reads, Cond.code yX7_reads cX7_reads 2 (some .int), Cond.fieldLink RX7 59 "RazorTalkModel" "at" "I", Cond.fieldLink RX7 116 "RazorTalkModel" "clauses" "I", Cond.fieldLink RX7 62 "RazorTalkModel" "start" "I", Cond.methodLink RX7 119 yX7_takesClause, Cond.instanceMethod yX7_takesClause, Cond.selects RX7 yX7_takesClause yX7_takesClause, Cond.code yX7_takesClause cX7_takesClause 1 (some .boolean), Cond.fieldLink RX7 68 "RazorTalkModel" "word" "J"]
def wsL_law_r12 : List Cond := [Cond.constantLong RX7 89 (1953462126), Cond.constantLong RX7 95 (482854660462), Cond.constantLong RX7 100 (108170520061284), Cond.constantLong RX7 102 (8243121572520813924), Cond.constantLong RX7 104 (121398918604132), Cond.constantLong RX7 106 (125848672761202), Cond.constantLong RX7 111 (422607680100), Cond.methodLink RX7 86 yX7_takesWord, Cond.instanceMethod yX7_takesWord, Cond.selects RX7 yX7_takesWord yX7_takesWord, Cond.code yX7_takesWord cX7_takesWord 1 none, Cond.methodLink RX7 65 yX7_begins, Cond.instanceMethod yX7_begins, Cond.selects RX7 yX7_begins yX7_begins, Cond.code yX7_begins cX7_begins 1 none, Cond.methodLink RX7 47 yX7_letterAt, Cond.instanceMethod yX7_letterAt, Cond.selects RX7 yX7_letterAt yX7_letterAt, Cond.code yX7_letterAt cX7_letterAt 2 (some .int), Cond.methodLink RX7 72 yX7_isSmall, Cond.instanceMethod yX7_isSmall, Cond.selects RX7 yX7_isSmall yX7_isSmall, Cond.code yX7_isSmall cX7_isSmall 2 (some .boolean), Cond.constantLong RX7 51 (97)]
def wsL_law_r13 : List Cond := [Cond.constantLong RX7 53 (122), Cond.methodLink RX7 91 yX7_takesTown, Cond.instanceMethod yX7_takesTown, Cond.selects RX7 yX7_takesTown yX7_takesTown, Cond.code yX7_takesTown cX7_takesTown 1 (some .boolean), Cond.fieldLink RX7 76 "RazorTalkModel" "number" "I", Cond.methodLink RX7 82 yX7_takesNumber, Cond.instanceMethod yX7_takesNumber, Cond.selects RX7 yX7_takesNumber yX7_takesNumber, Cond.code yX7_takesNumber cX7_takesNumber 3 (some .boolean), Cond.methodLink RX7 79 yX7_isDigit, Cond.instanceMethod yX7_isDigit, Cond.selects RX7 yX7_isDigit yX7_isDigit, Cond.code yX7_isDigit cX7_isDigit 2 (some .boolean), Cond.constantLong RX7 55 (48), Cond.constantLong RX7 57 (57), Cond.methodLink RX7 97 yX7_takesOne, Cond.instanceMethod yX7_takesOne, Cond.selects RX7 yX7_takesOne yX7_takesOne, Cond.code yX7_takesOne cX7_takesOne 4 (some .boolean), Cond.methodLink RX7 108 yX7_takesRumour, Cond.instanceMethod yX7_takesRumour, Cond.selects RX7 yX7_takesRumour yX7_takesRumour, Cond.code yX7_takesRumour cX7_takesRumour 1 (some .boolean)]
def wsL_law_r14 : List Cond := [Cond.methodLink RX7 113 yX7_takesBeard, Cond.instanceMethod yX7_takesBeard, Cond.selects RX7 yX7_takesBeard yX7_takesBeard, Cond.code yX7_takesBeard cX7_takesBeard 3 (some .boolean), Cond.methodLink RL 27 yX6_town, Cond.instanceMethod yX6_town, Cond.selects RX6 yX6_town yX6_town, Cond.code yX6_town cX6_town 3 (some .int), Cond.fieldLink RX6 78 "RazorTalk$Script" "clauses" "I", Cond.methodLink RX6 81 yX1_wordOf, Cond.instanceMethod yX1_wordOf, Cond.selects RX1 yX1_wordOf yX1_wordOf, Cond.code yX1_wordOf cX1_wordOf 2 (some .int), Cond.methodLink RX6 85 yX1_numberOf, Cond.instanceMethod yX1_numberOf, Cond.selects RX1 yX1_numberOf yX1_numberOf, Cond.code yX1_numberOf cX1_numberOf 3 (some .int), Cond.methodLink RX6 88 yX5_hear, Cond.instanceMethod yX5_hear, Cond.selects RX5 yX5_hear yX5_hear, Cond.code yX5_hear cX5_hear 5 none, Cond.methodLink RX5 33 yX5_found, Cond.instanceMethod yX5_found, Cond.selects RX5 yX5_found yX5_found]
def wsL_law_r15 : List Cond := [Cond.code yX5_found cX5_found 2 none, Cond.methodLink RX5 46 Lib.Math.min.name, Cond.methodLink RX5 52 Lib.Math.max.name, Cond.fieldLink RX5 55 "RazorTalk$Town" "people" "I", Cond.fieldLink RX5 58 "RazorTalk$Town" "rumours" "I", Cond.methodLink RX5 61 yX0_zero, Cond.instanceMethod yX0_zero, Cond.selects RX0 yX0_zero yX0_zero, Cond.code yX0_zero cX0_zero 2 none, Cond.methodLink RX5 36 yX5_addRumour, Cond.instanceMethod yX5_addRumour, Cond.selects RX5 yX5_addRumour yX5_addRumour, Cond.code yX5_addRumour cX5_addRumour 2 none, Cond.methodLink RX5 39 yX0_put, Cond.methodLink RX5 43 yX5_addPerson, Cond.instanceMethod yX5_addPerson, Cond.selects RX5 yX5_addPerson yX5_addPerson, Cond.code yX5_addPerson cX5_addPerson 3 none, Cond.methodLink RX6 92 yX4_startAfresh, Cond.instanceMethod yX4_startAfresh, Cond.selects RX4 yX4_startAfresh yX4_startAfresh, Cond.code yX4_startAfresh cX4_startAfresh 4 none, Cond.fieldLink RX4 23 "RazorTalk$Town" "people" "I", Cond.methodLink RX4 20 yX0_zero]
def wsL_law_r16 : List Cond := [Cond.methodLink RX4 29 yX5_toldBeard, Cond.instanceMethod yX5_toldBeard, Cond.selects RX5 yX5_toldBeard yX5_toldBeard, Cond.code yX5_toldBeard cX5_toldBeard 3 (some .int), Cond.methodLink RX5 64 yX0_at, Cond.methodLink RX4 33 yX4_setBeard, Cond.instanceMethod yX4_setBeard, Cond.selects RX4 yX4_setBeard yX4_setBeard, Cond.code yX4_setBeard cX4_setBeard 4 none, Cond.methodLink RX4 45 yX0_put, Cond.methodLink RX6 96 yX3_clear, Cond.instanceMethod yX3_clear, Cond.selects RX3 yX3_clear yX3_clear, Cond.code yX3_clear cX3_clear 1 none, Cond.fieldLink RX3 26 "RazorTalk$Sightings" "number" "I", Cond.methodLink RL 30 yX7_town, Cond.instanceMethod yX7_town, Cond.selects RX7 yX7_town yX7_town, Cond.code yX7_town cX7_town 2 (some .int), Cond.fieldLink RX7 126 "RazorTalkModel" "seen" "I", Cond.fieldLink RX7 129 "RazorTalkModel" "undoes" "I", Cond.methodLink RL 31 yX6_person, Cond.instanceMethod yX6_person, Cond.selects RX6 yX6_person yX6_person]
def wsL_law_r17 : List Cond := [Cond.code yX6_person cX6_person 3 (some .int), Cond.methodLink RX6 99 yX6_isPerson, Cond.instanceMethod yX6_isPerson, Cond.selects RX6 yX6_isPerson yX6_isPerson, Cond.code yX6_isPerson cX6_isPerson 2 (some .boolean), Cond.methodLink RX6 103 yX5_kindOf, Cond.instanceMethod yX5_kindOf, Cond.selects RX5 yX5_kindOf yX5_kindOf, Cond.code yX5_kindOf cX5_kindOf 2 (some .int), Cond.methodLink RX6 106 yX5_secretOf, Cond.instanceMethod yX5_secretOf, Cond.selects RX5 yX5_secretOf yX5_secretOf, Cond.code yX5_secretOf cX5_secretOf 2 (some .int), Cond.methodLink RX6 109 yX4_bareStrips, Cond.instanceMethod yX4_bareStrips, Cond.selects RX4 yX4_bareStrips yX4_bareStrips, Cond.code yX4_bareStrips cX4_bareStrips 4 (some .int), Cond.methodLink RX4 49 yX4_beardOn, Cond.instanceMethod yX4_beardOn, Cond.selects RX4 yX4_beardOn yX4_beardOn, Cond.code yX4_beardOn cX4_beardOn 3 (some .int), Cond.methodLink RX4 37 yX0_at, Cond.methodLink RX6 112 yX4_beardsOf, Cond.instanceMethod yX4_beardsOf]
def wsL_law_r18 : List Cond := [Cond.selects RX4 yX4_beardsOf yX4_beardsOf, Cond.code yX4_beardsOf cX4_beardsOf 4 (some .int), Cond.methodLink RL 35 yX7_person, Cond.instanceMethod yX7_person, Cond.selects RX7 yX7_person yX7_person, Cond.code yX7_person cX7_person 3 (some .int), Cond.methodLink RX7 144 yX7_isPerson, Cond.instanceMethod yX7_isPerson, Cond.selects RX7 yX7_isPerson yX7_isPerson, Cond.code yX7_isPerson cX7_isPerson 2 (some .boolean), Cond.methodLink RX7 147 yX7_smoothOf, Cond.instanceMethod yX7_smoothOf, Cond.selects RX7 yX7_smoothOf yX7_smoothOf, Cond.code yX7_smoothOf cX7_smoothOf 4 (some .int), Cond.methodLink RX7 150 yX7_beardsOf, Cond.instanceMethod yX7_beardsOf, Cond.selects RX7 yX7_beardsOf yX7_beardsOf, Cond.code yX7_beardsOf cX7_beardsOf 4 (some .int), Cond.methodLink RL 36 yX6_beard, Cond.instanceMethod yX6_beard, Cond.selects RX6 yX6_beard yX6_beard, Cond.code yX6_beard cX6_beard 3 (some .int), Cond.methodLink RX6 115 yX6_isStrip, Cond.static yX6_isStrip]
def wsL_law_r19 : List Cond := [Cond.code yX6_isStrip cX6_isStrip 1 (some .boolean), Cond.methodLink RX6 118 yX4_beardOn, Cond.methodLink RL 39 yX7_beard, Cond.instanceMethod yX7_beard, Cond.selects RX7 yX7_beard yX7_beard, Cond.code yX7_beard cX7_beard 3 (some .int), Cond.methodLink RX7 153 yX7_isStrip, Cond.static yX7_isStrip, Cond.code yX7_isStrip cX7_isStrip 1 (some .boolean), Cond.constantLong RX7 39 (5), Cond.methodLink RL 40 yX6_rumour, Cond.instanceMethod yX6_rumour, Cond.selects RX6 yX6_rumour yX6_rumour, Cond.code yX6_rumour cX6_rumour 2 (some .int), Cond.methodLink RX6 121 yX6_isRumour, Cond.instanceMethod yX6_isRumour, Cond.selects RX6 yX6_isRumour yX6_isRumour, Cond.code yX6_isRumour cX6_isRumour 2 (some .boolean), Cond.methodLink RX6 124 yX5_rumourNumber, Cond.instanceMethod yX5_rumourNumber, Cond.selects RX5 yX5_rumourNumber yX5_rumourNumber, Cond.code yX5_rumourNumber cX5_rumourNumber 2 (some .int), Cond.methodLink RL 43 yX7_rumour, Cond.instanceMethod yX7_rumour]
def wsL_law_r20 : List Cond := [Cond.selects RX7 yX7_rumour yX7_rumour, Cond.code yX7_rumour cX7_rumour 2 (some .int), Cond.methodLink RX7 156 yX7_isRumour, Cond.instanceMethod yX7_isRumour, Cond.selects RX7 yX7_isRumour yX7_isRumour, Cond.code yX7_isRumour cX7_isRumour 2 (some .boolean), Cond.methodLink RL 44 yX6_knows, Cond.instanceMethod yX6_knows, Cond.selects RX6 yX6_knows yX6_knows, Cond.code yX6_knows cX6_knows 6 (some .int), Cond.methodLink RX6 127 yX6_isBarber, Cond.instanceMethod yX6_isBarber, Cond.selects RX6 yX6_isBarber yX6_isBarber, Cond.code yX6_isBarber cX6_isBarber 2 (some .boolean), Cond.fieldLink RX6 194 "RazorTalk$Town" "barbers" "I", Cond.methodLink RX6 130 yX4_stripsKnown, Cond.instanceMethod yX4_stripsKnown, Cond.selects RX4 yX4_stripsKnown yX4_stripsKnown, Cond.code yX4_stripsKnown cX4_stripsKnown 3 (some .int), Cond.methodLink RX6 133 yX4_partsKnown, Cond.instanceMethod yX4_partsKnown, Cond.selects RX4 yX4_partsKnown yX4_partsKnown, Cond.code yX4_partsKnown cX4_partsKnown 3 (some .int), Cond.methodLink RX6 136 yX5_fitting]
def wsL_law_r21 : List Cond := [Cond.instanceMethod yX5_fitting, Cond.selects RX5 yX5_fitting yX5_fitting, Cond.code yX5_fitting cX5_fitting 5 (some .int), Cond.methodLink RX5 78 yX5_rumourNumber, Cond.methodLink RL 48 yX7_knows, Cond.instanceMethod yX7_knows, Cond.selects RX7 yX7_knows yX7_knows, Cond.code yX7_knows cX7_knows 5 (some .int), Cond.methodLink RX7 159 yX7_isBarber, Cond.instanceMethod yX7_isBarber, Cond.selects RX7 yX7_isBarber yX7_isBarber, Cond.code yX7_isBarber cX7_isBarber 2 (some .boolean), Cond.methodLink RX7 162 yX7_fitsOf, Cond.instanceMethod yX7_fitsOf, Cond.selects RX7 yX7_fitsOf yX7_fitsOf, Cond.code yX7_fitsOf cX7_fitsOf 5 (some .int), Cond.methodLink RX7 140 yX7_fitsBy, Cond.instanceMethod yX7_fitsBy, Cond.selects RX7 yX7_fitsBy yX7_fitsBy, Cond.code yX7_fitsBy cX7_fitsBy 5 (some .int), Cond.methodLink RL 49 yX6_as, Cond.instanceMethod yX6_as, Cond.selects RX6 yX6_as yX6_as, Cond.code yX6_as cX6_as 3 (some .int)]
def wsL_law_r22 : List Cond := [Cond.methodLink RX6 139 yX6_isSuch, Cond.static yX6_isSuch, Cond.code yX6_isSuch cX6_isSuch 2 (some .boolean), Cond.methodLink RX6 143 yX6_tellsNow, Cond.instanceMethod yX6_tellsNow, Cond.selects RX6 yX6_tellsNow yX6_tellsNow, Cond.code yX6_tellsNow cX6_tellsNow 3 (some .int), Cond.methodLink RX6 230 yX5_wouldTell, Cond.instanceMethod yX5_wouldTell, Cond.selects RX5 yX5_wouldTell yX5_wouldTell, Cond.code yX5_wouldTell cX5_wouldTell 4 (some .int), Cond.methodLink RX5 68 yX5_kindOf, Cond.methodLink RX5 71 yX5_secretOf, Cond.static yX6_telling, Cond.code yX6_telling cX6_telling 4 (some .int), Cond.methodLink RL 52 yX7_as, Cond.instanceMethod yX7_as, Cond.selects RX7 yX7_as yX7_as, Cond.code yX7_as cX7_as 5 (some .int), Cond.constantLong RX7 165 (4), Cond.methodLink RX7 132 yX7_tells, Cond.instanceMethod yX7_tells, Cond.selects RX7 yX7_tells yX7_tells, Cond.code yX7_tells cX7_tells 5 (some .int)]
def wsL_law_r23 : List Cond := [Cond.methodLink RL 53 yX6_shave, Cond.instanceMethod yX6_shave, Cond.selects RX6 yX6_shave yX6_shave, Cond.code yX6_shave cX6_shave 5 (some .int), Cond.methodLink RX6 146 yX6_rememberForUndo, Cond.instanceMethod yX6_rememberForUndo, Cond.selects RX6 yX6_rememberForUndo yX6_rememberForUndo, Cond.code yX6_rememberForUndo cX6_rememberForUndo 1 none, Cond.methodLink RX6 237 Lib.Math.min.name, Cond.methodLink RX6 175 yX2_store, Cond.instanceMethod yX2_store, Cond.selects RX2 yX2_store yX2_store, Cond.code yX2_store cX2_store 3 none, Cond.fieldLink RX2 20 "RazorTalk$Standing" "cells" "LRazorTalk$Row;", Cond.methodLink RX2 21 yX0_take, Cond.instanceMethod yX0_take, Cond.selects RX0 yX0_take yX0_take, Cond.code yX0_take cX0_take 5 none, Cond.methodLink RX0 19 arraycopyName, Cond.native arraycopyName, Cond.static arraycopyName, Cond.initialized "java/lang/System", Cond.methodLink RX6 149 yX4_learn, Cond.instanceMethod yX4_learn]
def wsL_law_r24 : List Cond := [Cond.selects RX4 yX4_learn yX4_learn, Cond.code yX4_learn cX4_learn 5 none, Cond.methodLink RX4 57 yX4_stripsKnown, Cond.methodLink RX4 60 yX4_partsKnown, Cond.static yX6_replaced, Cond.code yX6_replaced cX6_replaced 3 (some .int), Cond.methodLink RX4 67 yX4_setKnown, Cond.instanceMethod yX4_setKnown, Cond.selects RX4 yX4_setKnown yX4_setKnown, Cond.code yX4_setKnown cX4_setKnown 5 none, Cond.methodLink RX6 152 yX4_setBeard, Cond.methodLink RL 56 yX7_shave, Cond.instanceMethod yX7_shave, Cond.selects RX7 yX7_shave yX7_shave, Cond.code yX7_shave cX7_shave 4 (some .int), Cond.methodLink RX7 171 yX7_minds, Cond.instanceMethod yX7_minds, Cond.selects RX7 yX7_minds yX7_minds, Cond.code yX7_minds cX7_minds 2 none, Cond.methodLink RX7 167 yX7_copy, Cond.instanceMethod yX7_copy, Cond.selects RX7 yX7_copy yX7_copy, Cond.code yX7_copy cX7_copy 4 none, Cond.methodLink RX7 174 yX7_shaves]
def wsL_law_r25 : List Cond := [Cond.instanceMethod yX7_shaves, Cond.selects RX7 yX7_shaves yX7_shaves, Cond.code yX7_shaves cX7_shaves 6 (some .int), Cond.methodLink RX7 136 yX7_knowsPart, Cond.instanceMethod yX7_knowsPart, Cond.selects RX7 yX7_knowsPart yX7_knowsPart, Cond.code yX7_knowsPart cX7_knowsPart 7 none, Cond.methodLink RL 57 yX6_day, Cond.instanceMethod yX6_day, Cond.selects RX6 yX6_day yX6_day, Cond.code yX6_day cX6_day 1 (some .int), Cond.methodLink RX6 156 yX4_date, Cond.instanceMethod yX4_date, Cond.selects RX4 yX4_date yX4_date, Cond.code yX4_date cX4_date 1 (some .int), Cond.methodLink RX6 160 yX4_passDay, Cond.instanceMethod yX4_passDay, Cond.selects RX4 yX4_passDay yX4_passDay, Cond.code yX4_passDay cX4_passDay 4 none, Cond.methodLink RX4 52 Lib.Math.min.name, Cond.methodLink RX4 41 yX4_date, Cond.methodLink RL 60 yX7_day, Cond.instanceMethod yX7_day, Cond.selects RX7 yX7_day yX7_day]
def wsL_law_r26 : List Cond := [Cond.code yX7_day cX7_day 2 (some .int), Cond.methodLink RL 61 yX6_talk, Cond.instanceMethod yX6_talk, Cond.selects RX6 yX6_talk yX6_talk, Cond.code yX6_talk cX6_talk 4 (some .int), Cond.methodLink RL 64 yX7_talk, Cond.instanceMethod yX7_talk, Cond.selects RX7 yX7_talk yX7_talk, Cond.code yX7_talk cX7_talk 6 (some .int), Cond.methodLink RL 65 yX6_burn, Cond.instanceMethod yX6_burn, Cond.selects RX6 yX6_burn yX6_burn, Cond.code yX6_burn cX6_burn 4 (some .int), Cond.methodLink RX6 163 yJ6_bitCount_0f7a4, Cond.static yJ6_bitCount_0f7a4, Cond.initialized RJ6, Cond.code yJ6_bitCount_0f7a4 cJ6_bitCount_0f7a4 1 (some .int), Cond.constant RJ6 265 (1431655765), Cond.constant RJ6 266 (858993459), Cond.constant RJ6 267 (252645135), Cond.methodLink RX6 168 yX4_setKnown, Cond.methodLink RL 68 yX7_burn, Cond.instanceMethod yX7_burn, Cond.selects RX7 yX7_burn yX7_burn]
def wsL_law_r27 : List Cond := [Cond.code yX7_burn cX7_burn 5 (some .int), Cond.methodLink RX7 178 yX7_ones, Cond.static yX7_ones, Cond.code yX7_ones cX7_ones 3 (some .int), Cond.methodLink RL 69 yX6_undo, Cond.instanceMethod yX6_undo, Cond.selects RX6 yX6_undo yX6_undo, Cond.code yX6_undo cX6_undo 1 (some .int), Cond.methodLink RX6 171 yX2_fetch, Cond.instanceMethod yX2_fetch, Cond.selects RX2 yX2_fetch yX2_fetch, Cond.code yX2_fetch cX2_fetch 3 none, Cond.methodLink RL 72 yX7_undo, Cond.instanceMethod yX7_undo, Cond.selects RX7 yX7_undo yX7_undo, Cond.code yX7_undo cX7_undo 1 (some .int), Cond.methodLink RL 73 yX6_keep, Cond.instanceMethod yX6_keep, Cond.selects RX6 yX6_keep yX6_keep, Cond.code yX6_keep cX6_keep 2 (some .int), Cond.methodLink RL 76 yX7_keep, Cond.instanceMethod yX7_keep, Cond.selects RX7 yX7_keep yX7_keep, Cond.code yX7_keep cX7_keep 2 (some .int)]
def wsL_law_r28 : List Cond := [Cond.methodLink RL 77 yX6_back, Cond.instanceMethod yX6_back, Cond.selects RX6 yX6_back yX6_back, Cond.code yX6_back cX6_back 2 (some .int), Cond.methodLink RX6 178 yX6_has, Cond.static yX6_has, Cond.code yX6_has cX6_has 2 (some .boolean), Cond.methodLink RL 80 yX7_back, Cond.instanceMethod yX7_back, Cond.selects RX7 yX7_back yX7_back, Cond.code yX7_back cX7_back 2 (some .int), Cond.methodLink RL 81 yX6_smooth, Cond.instanceMethod yX6_smooth, Cond.selects RX6 yX6_smooth yX6_smooth, Cond.code yX6_smooth cX6_smooth 10 (some .int), Cond.methodLink RX6 181 yX6_stripsTelling, Cond.instanceMethod yX6_stripsTelling, Cond.selects RX6 yX6_stripsTelling yX6_stripsTelling, Cond.code yX6_stripsTelling cX6_stripsTelling 4 (some .int), Cond.methodLink RX6 184 yX6_partsTold, Cond.instanceMethod yX6_partsTold, Cond.selects RX6 yX6_partsTold yX6_partsTold, Cond.code yX6_partsTold cX6_partsTold 4 (some .int), Cond.methodLink RX6 187 yX6_fittingBehind]
def wsL_law_r29 : List Cond := [Cond.instanceMethod yX6_fittingBehind, Cond.selects RX6 yX6_fittingBehind yX6_fittingBehind, Cond.code yX6_fittingBehind cX6_fittingBehind 7 (some .int), Cond.methodLink RX6 234 yX6_replaced, Cond.methodLink RL 84 yX7_smooth, Cond.instanceMethod yX7_smooth, Cond.selects RX7 yX7_smooth yX7_smooth, Cond.code yX7_smooth cX7_smooth 7 (some .int), Cond.constantLong RX7 184 (8), Cond.methodLink RX7 186 yX7_triesSet, Cond.instanceMethod yX7_triesSet, Cond.selects RX7 yX7_triesSet yX7_triesSet, Cond.code yX7_triesSet cX7_triesSet 5 none, Cond.methodLink RX7 181 yX7_has, Cond.static yX7_has, Cond.code yX7_has cX7_has 2 (some .boolean), Cond.methodLink RX7 190 yX7_many, Cond.static yX7_many, Cond.code yX7_many cX7_many 3 (some .int), Cond.methodLink RL 85 yX6_next, Cond.instanceMethod yX6_next, Cond.selects RX6 yX6_next yX6_next, Cond.code yX6_next cX6_next 9 (some .int), Cond.methodLink RX6 191 yX5_mostAlike]
def wsL_law_r30 : List Cond := [Cond.instanceMethod yX5_mostAlike, Cond.selects RX5 yX5_mostAlike yX5_mostAlike, Cond.code yX5_mostAlike cX5_mostAlike 5 (some .int), Cond.methodLink RX5 85 yJ6_bitCount_0f7a4, Cond.methodLink RL 88 yX7_next, Cond.instanceMethod yX7_next, Cond.selects RX7 yX7_next yX7_next, Cond.code yX7_next cX7_next 11 (some .int), Cond.methodLink RL 89 yX6_meet, Cond.instanceMethod yX6_meet, Cond.selects RX6 yX6_meet yX6_meet, Cond.code yX6_meet cX6_meet 7 (some .int), Cond.methodLink RX6 197 yX6_fittingTogether, Cond.instanceMethod yX6_fittingTogether, Cond.selects RX6 yX6_fittingTogether yX6_fittingTogether, Cond.code yX6_fittingTogether cX6_fittingTogether 7 (some .int), Cond.methodLink RL 92 yX7_meet, Cond.instanceMethod yX7_meet, Cond.selects RX7 yX7_meet yX7_meet, Cond.code yX7_meet cX7_meet 9 (some .int), Cond.methodLink RL 93 yX6_round, Cond.instanceMethod yX6_round, Cond.selects RX6 yX6_round yX6_round, Cond.code yX6_round cX6_round 6 (some .int)]
def wsL_law_r31 : List Cond := [Cond.methodLink RX6 200 Lib.Math.max.name, Cond.methodLink RL 96 yX7_round, Cond.instanceMethod yX7_round, Cond.selects RX7 yX7_round yX7_round, Cond.code yX7_round cX7_round 5 (some .int), Cond.methodLink RL 97 yX6_seen, Cond.instanceMethod yX6_seen, Cond.selects RX6 yX6_seen yX6_seen, Cond.code yX6_seen cX6_seen 4 (some .int), Cond.fieldLink RX6 205 "RazorTalk$Sightings" "number" "I", Cond.methodLink RX6 208 yX3_add, Cond.instanceMethod yX3_add, Cond.selects RX3 yX3_add yX3_add, Cond.code yX3_add cX3_add 4 none, Cond.methodLink RX3 34 Lib.Math.min.name, Cond.methodLink RX3 30 yX0_put, Cond.methodLink RL 100 yX7_seen, Cond.instanceMethod yX7_seen, Cond.selects RX7 yX7_seen yX7_seen, Cond.code yX7_seen cX7_seen 4 (some .int), Cond.constantLong RX7 193 (9), Cond.constantLong RX7 195 (-1), Cond.methodLink RL 101 yX6_forget, Cond.instanceMethod yX6_forget]
def wsL_law_r32 : List Cond := [Cond.selects RX6 yX6_forget yX6_forget, Cond.code yX6_forget cX6_forget 2 (some .int), Cond.methodLink RL 104 yX7_forget, Cond.instanceMethod yX7_forget, Cond.selects RX7 yX7_forget yX7_forget, Cond.code yX7_forget cX7_forget 2 (some .int), Cond.methodLink RL 105 yX6_was, Cond.instanceMethod yX6_was, Cond.selects RX6 yX6_was yX6_was, Cond.code yX6_was cX6_was 3 (some .int), Cond.methodLink RX6 211 yX3_allTrueOf, Cond.instanceMethod yX3_allTrueOf, Cond.selects RX3 yX3_allTrueOf yX3_allTrueOf, Cond.code yX3_allTrueOf cX3_allTrueOf 4 (some .boolean), Cond.methodLink RX3 40 yX0_at, Cond.methodLink RX3 44 yX5_wouldTell, Cond.methodLink RL 108 yX7_was, Cond.instanceMethod yX7_was, Cond.selects RX7 yX7_was yX7_was, Cond.code yX7_was cX7_was 5 (some .int), Cond.methodLink RL 109 yX6_stays, Cond.instanceMethod yX6_stays, Cond.selects RX6 yX6_stays yX6_stays, Cond.code yX6_stays cX6_stays 10 (some .int)]
def wsL_law_r33 : List Cond := [Cond.methodLink RX6 215 yX6_weight, Cond.static yX6_weight, Cond.code yX6_weight cX6_weight 3 (some .int), Cond.methodLink RX6 218 yX6_power, Cond.static yX6_power, Cond.code yX6_power cX6_power 4 (some .int), Cond.methodLink RX6 221 yX6_commonDivisor, Cond.static yX6_commonDivisor, Cond.code yX6_commonDivisor cX6_commonDivisor 6 (some .int), Cond.methodLink RL 113 yX7_stays, Cond.instanceMethod yX7_stays, Cond.selects RX7 yX7_stays yX7_stays, Cond.code yX7_stays cX7_stays 9 (some .int), Cond.constantLong RX7 197 (10), Cond.constant RX7 199 (1000000), Cond.methodLink RL 114 yX6_count, Cond.instanceMethod yX6_count, Cond.selects RX6 yX6_count yX6_count, Cond.code yX6_count cX6_count 2 (some .int), Cond.methodLink RX6 224 yX6_allBeards, Cond.instanceMethod yX6_allBeards, Cond.selects RX6 yX6_allBeards yX6_allBeards, Cond.code yX6_allBeards cX6_allBeards 3 (some .int), Cond.methodLink RX6 227 yX6_allStripsKnown]
def wsL_law_r34 : List Cond := [Cond.instanceMethod yX6_allStripsKnown, Cond.selects RX6 yX6_allStripsKnown yX6_allStripsKnown, Cond.code yX6_allStripsKnown cX6_allStripsKnown 4 (some .int), Cond.methodLink RL 117 yX7_count, Cond.instanceMethod yX7_count, Cond.selects RX7 yX7_count yX7_count, Cond.code yX7_count cX7_count 2 (some .int), Cond.methodLink RX7 200 yX7_beardsOfAll, Cond.instanceMethod yX7_beardsOfAll, Cond.selects RX7 yX7_beardsOfAll yX7_beardsOfAll, Cond.code yX7_beardsOfAll cX7_beardsOfAll 3 (some .int), Cond.methodLink RX7 203 yX7_knownOfAll, Cond.instanceMethod yX7_knownOfAll, Cond.selects RX7 yX7_knownOfAll yX7_knownOfAll, Cond.code yX7_knownOfAll cX7_knownOfAll 3 (some .int)]
def wsL_law : List Cond := (wsL_law_r1 ++ (wsL_law_r2 ++ (wsL_law_r3 ++ (wsL_law_r4 ++ (wsL_law_r5 ++ (wsL_law_r6 ++ (wsL_law_r7 ++ (wsL_law_r8 ++ (wsL_law_r9 ++ (wsL_law_r10 ++ (wsL_law_r11 ++ (wsL_law_r12 ++ (wsL_law_r13 ++ (wsL_law_r14 ++ (wsL_law_r15 ++ (wsL_law_r16 ++ (wsL_law_r17 ++ (wsL_law_r18 ++ (wsL_law_r19 ++ (wsL_law_r20 ++ (wsL_law_r21 ++ (wsL_law_r22 ++ (wsL_law_r23 ++ (wsL_law_r24 ++ (wsL_law_r25 ++ (wsL_law_r26 ++ (wsL_law_r27 ++ (wsL_law_r28 ++ (wsL_law_r29 ++ (wsL_law_r30 ++ (wsL_law_r31 ++ (wsL_law_r32 ++ (wsL_law_r33 ++ wsL_law_r34))))))))))))))))))))))))))))))))) ++ wsX60 ++ wsX70 ++ wsX10 ++ wsX50 ++ wsX40 ++ wsX30 ++ wsX20 ++ wsX00 ++ ([] : List Cond)
theorem inlX0 : ∀ w ∈ wsX00, w ∈ wsL_law := fun _ h => List.mem_append_left _ (List.mem_append_right _ h)
theorem inlX1 : ∀ w ∈ wsX10, w ∈ wsL_law := fun _ h => List.mem_append_left _ (List.mem_append_left _ (List.mem_append_left _ (List.mem_append_left _ (List.mem_append_left _ (List.mem_append_left _ (List.mem_append_right _ h))))))
theorem inlX2 : ∀ w ∈ wsX20, w ∈ wsL_law := fun _ h => List.mem_append_left _ (List.mem_append_left _ (List.mem_append_right _ h))
theorem inlX3 : ∀ w ∈ wsX30, w ∈ wsL_law := fun _ h => List.mem_append_left _ (List.mem_append_left _ (List.mem_append_left _ (List.mem_append_right _ h)))
theorem inlX4 : ∀ w ∈ wsX40, w ∈ wsL_law := fun _ h => List.mem_append_left _ (List.mem_append_left _ (List.mem_append_left _ (List.mem_append_left _ (List.mem_append_right _ h))))
theorem inlX5 : ∀ w ∈ wsX50, w ∈ wsL_law := fun _ h => List.mem_append_left _ (List.mem_append_left _ (List.mem_append_left _ (List.mem_append_left _ (List.mem_append_left _ (List.mem_append_right _ h)))))
theorem inlX6 : ∀ w ∈ wsX60, w ∈ wsL_law := fun _ h => List.mem_append_left _ (List.mem_append_left _ (List.mem_append_left _ (List.mem_append_left _ (List.mem_append_left _ (List.mem_append_left _ (List.mem_append_left _ (List.mem_append_left _ (List.mem_append_right _ h))))))))
theorem inlX7 : ∀ w ∈ wsX70, w ∈ wsL_law := fun _ h => List.mem_append_left _ (List.mem_append_left _ (List.mem_append_left _ (List.mem_append_left _ (List.mem_append_left _ (List.mem_append_left _ (List.mem_append_left _ (List.mem_append_right _ h)))))))
abbrev vwCl : List vw_C := [(RX0, TX0, 1), (RX1, TX1, 9), (RX2, TX2, 1), (RX3, TX3, 4), (RX4, TX4, 1), (RX5, TX5, 7), (RX6, TX6, 9), (RX7, TX7, 16)]
