/-! ===== BEGIN words of one list among another's, by their places ===== -/
theorem goodIn_r {big : List Cond} (ws : List Cond) (ps : List Nat) (hp : ws = ps.filterMap (fun i => big[i]?)) (h : ws.all goodWord = true) : GoodIn big ws := by
  intro w hw
  have h1 := List.all_eq_true.mp h w hw
  rw [hp] at hw
  obtain ⟨i, -, hi⟩ := List.mem_filterMap.mp hw
  have hm : w ∈ big := by first | exact List.mem_of_getElem? hi | exact List.getElem?_mem hi
  exact ⟨hm, good_of_word h1⟩
theorem goodIn_app {big a b : List Cond} (ha : GoodIn big a) (hb : GoodIn big b) : GoodIn big (a ++ b) := fun w h => (List.mem_append.mp h).elim (ha w) (hb w)
theorem goodIn_ca {big a b : List Cond} {c : Cond} (ha : GoodIn big (c :: a)) (hb : GoodIn big b) : GoodIn big (c :: (a ++ b)) := fun w h => (List.mem_cons.mp h).elim (fun e => ha w (List.mem_cons.mpr (Or.inl e))) (fun h => (List.mem_append.mp h).elim (fun h => ha w (List.mem_cons.mpr (Or.inr h))) (hb w))
theorem goodIn_sub {big ws : List Cond} (hm : ∀ w ∈ ws, w ∈ big) (h : ws.all goodWord = true) : GoodIn big ws := fun w hw => ⟨hm w hw, good_of_word (List.all_eq_true.mp h w hw)⟩
/-! ===== END ===== -/

/-! ===== BEGIN printed: names, fields, word lists, decode rows ===== -/
def RX0 : String := "FourTrackDeck$Reel"
def TX0 : u_T := fun k => match k with
  | _ => ("FourTrackDeck$Reel", "tracks", "[LFourTrackDeck$Track;", true)
def tyX0 : Nat → FieldType := fun k => match k with
  | _ => .array (.object "FourTrackDeck$Track")
abbrev wsX00 : List Cond := u_ws RX0 TX0 1
theorem nmX0 : ∀ a, a < 1 → ∀ b, b < 1 → a ≠ b → (TX0 a).2.1 ≠ (TX0 b).2.1 := by decide +kernel
theorem tyX0_ok : ∀ k, k < 1 → parseFieldDescriptor (TX0 k).2.2.1 = some (tyX0 k) := by decide +kernel
abbrev cX0_init : ByteArray := prog_2_method_1_code
def yX0_init : MethodName := ⟨RX0, "<init>", "(II)V"⟩
abbrev cX0_bitsOfTracks : ByteArray := prog_2_method_2_code
def yX0_bitsOfTracks : MethodName := ⟨RX0, "bitsOfTracks", "()I"⟩
def RX1 : String := "FourTrackDeck$Track"
def TX1 : u_T := fun k => match k with
  | 0 => ("FourTrackDeck$Track", "kind", "I", true)
  | 1 => ("FourTrackDeck$Track", "numbers", "[I", true)
  | _ => ("FourTrackDeck$Track", "isThere", "Z", false)
def tyX1 : Nat → FieldType := fun k => match k with
  | 0 => .int
  | 1 => .array .int
  | _ => .boolean
abbrev wsX10 : List Cond := u_ws RX1 TX1 3
theorem nmX1 : ∀ a, a < 3 → ∀ b, b < 3 → a ≠ b → (TX1 a).2.1 ≠ (TX1 b).2.1 := by decide +kernel
theorem tyX1_ok : ∀ k, k < 3 → parseFieldDescriptor (TX1 k).2.2.1 = some (tyX1 k) := by decide +kernel
abbrev cX1_init : ByteArray := prog_3_method_1_code
def yX1_init : MethodName := ⟨RX1, "<init>", "(IIZ)V"⟩
abbrev cX1_wipe : ByteArray := prog_3_method_2_code
def yX1_wipe : MethodName := ⟨RX1, "wipe", "()V"⟩
abbrev cX1_faultAt : ByteArray := prog_3_method_3_code
def yX1_faultAt : MethodName := ⟨RX1, "faultAt", "(I)I"⟩
abbrev cX1_numberAt : ByteArray := prog_3_method_4_code
def yX1_numberAt : MethodName := ⟨RX1, "numberAt", "(I)I"⟩
abbrev cX1_put : ByteArray := prog_3_method_5_code
def yX1_put : MethodName := ⟨RX1, "put", "(II)V"⟩
abbrev cX1_exchange : ByteArray := prog_3_method_6_code
def yX1_exchange : MethodName := ⟨RX1, "exchange", "(II)V"⟩
abbrev cX1_asTrackHasIt : ByteArray := prog_3_method_7_code
def yX1_asTrackHasIt : MethodName := ⟨RX1, "asTrackHasIt", "(I)I"⟩
def RX2 : String := "FourTrackDeck"
def TX2 : u_T := fun k => match k with
  | 0 => ("FourTrackDeck", "reels", "[LFourTrackDeck$Reel;", true)
  | 1 => ("FourTrackDeck", "reelsMade", "I", false)
  | 2 => ("FourTrackDeck", "onDeck", "I", false)
  | 3 => ("FourTrackDeck", "tapeAt", "I", false)
  | 4 => ("FourTrackDeck", "offsets", "[I", true)
  | 5 => ("FourTrackDeck", "modes", "[I", true)
  | 6 => ("FourTrackDeck", "meters", "[I", true)
  | 7 => ("FourTrackDeck", "sourceNumber", "I", false)
  | 8 => ("FourTrackDeck", "sourceStep", "I", false)
  | 9 => ("FourTrackDeck", "cells", "[I", true)
  | 10 => ("FourTrackDeck", "sheetRows", "I", false)
  | 11 => ("FourTrackDeck", "sheetWidth", "I", false)
  | 12 => ("FourTrackDeck", "tripTrack", "I", false)
  | 13 => ("FourTrackDeck", "tripStatus", "I", false)
  | _ => ("FourTrackDeck", "latestStatus", "I", false)
def tyX2 : Nat → FieldType := fun k => match k with
  | 0 => .array (.object "FourTrackDeck$Reel")
  | 1 => .int
  | 2 => .int
  | 3 => .int
  | 4 => .array .int
  | 5 => .array .int
  | 6 => .array .int
  | 7 => .int
  | 8 => .int
  | 9 => .array .int
  | 10 => .int
  | 11 => .int
  | 12 => .int
  | 13 => .int
  | _ => .int
abbrev wsX20 : List Cond := u_ws RX2 TX2 15
theorem nmX2 : ∀ a, a < 15 → ∀ b, b < 15 → a ≠ b → (TX2 a).2.1 ≠ (TX2 b).2.1 := by decide +kernel
theorem tyX2_ok : ∀ k, k < 15 → parseFieldDescriptor (TX2 k).2.2.1 = some (tyX2 k) := by decide +kernel
abbrev cX2_init : ByteArray := prog_1_method_1_code
def yX2_init : MethodName := ⟨RX2, "<init>", "()V"⟩
abbrev cX2_reel : ByteArray := prog_1_method_2_code
def yX2_reel : MethodName := ⟨RX2, "reel", "(II)I"⟩
abbrev cX2_strip : ByteArray := prog_1_method_3_code
def yX2_strip : MethodName := ⟨RX2, "strip", "(II)I"⟩
abbrev cX2_lay : ByteArray := prog_1_method_4_code
def yX2_lay : MethodName := ⟨RX2, "lay", "(II)I"⟩
abbrev cX2_thread : ByteArray := prog_1_method_5_code
def yX2_thread : MethodName := ⟨RX2, "thread", "(I)I"⟩
abbrev cX2_head : ByteArray := prog_1_method_6_code
def yX2_head : MethodName := ⟨RX2, "head", "(II)I"⟩
abbrev cX2_arm : ByteArray := prog_1_method_7_code
def yX2_arm : MethodName := ⟨RX2, "arm", "(II)I"⟩
abbrev cX2_source : ByteArray := prog_1_method_8_code
def yX2_source : MethodName := ⟨RX2, "source", "(II)I"⟩
abbrev cX2_wind : ByteArray := prog_1_method_9_code
def yX2_wind : MethodName := ⟨RX2, "wind", "(I)I"⟩
abbrev cX2_read : ByteArray := prog_1_method_10_code
def yX2_read : MethodName := ⟨RX2, "read", "(I)I"⟩
abbrev cX2_write : ByteArray := prog_1_method_11_code
def yX2_write : MethodName := ⟨RX2, "write", "(II)I"⟩
abbrev cX2_run : ByteArray := prog_1_method_12_code
def yX2_run : MethodName := ⟨RX2, "run", "(I)I"⟩
abbrev cX2_dub : ByteArray := prog_1_method_13_code
def yX2_dub : MethodName := ⟨RX2, "dub", "(IIIIII)I"⟩
abbrev cX2_turn : ByteArray := prog_1_method_14_code
def yX2_turn : MethodName := ⟨RX2, "turn", "(II)I"⟩
abbrev cX2_scan : ByteArray := prog_1_method_15_code
def yX2_scan : MethodName := ⟨RX2, "scan", "(II)I"⟩
abbrev cX2_sheet : ByteArray := prog_1_method_16_code
def yX2_sheet : MethodName := ⟨RX2, "sheet", "(II)I"⟩
abbrev cX2_cue : ByteArray := prog_1_method_17_code
def yX2_cue : MethodName := ⟨RX2, "cue", "(III)I"⟩
abbrev cX2_seek : ByteArray := prog_1_method_18_code
def yX2_seek : MethodName := ⟨RX2, "seek", "(II)I"⟩
abbrev cX2_trip : ByteArray := prog_1_method_19_code
def yX2_trip : MethodName := ⟨RX2, "trip", "(I)I"⟩
abbrev cX2_meter : ByteArray := prog_1_method_20_code
def yX2_meter : MethodName := ⟨RX2, "meter", "(I)I"⟩
abbrev cX2_count : ByteArray := prog_1_method_21_code
def yX2_count : MethodName := ⟨RX2, "count", "(I)I"⟩
abbrev cX2_status : ByteArray := prog_1_method_22_code
def yX2_status : MethodName := ⟨RX2, "status", "()I"⟩
abbrev cX2_end : ByteArray := prog_1_method_23_code
def yX2_end : MethodName := ⟨RX2, "end", "(II)I"⟩
abbrev cX2_isWithin : ByteArray := prog_1_method_24_code
def yX2_isWithin : MethodName := ⟨RX2, "isWithin", "(III)Z"⟩
abbrev cX2_isTrack : ByteArray := prog_1_method_25_code
def yX2_isTrack : MethodName := ⟨RX2, "isTrack", "(I)Z"⟩
abbrev cX2_firstFault : ByteArray := prog_1_method_26_code
def yX2_firstFault : MethodName := ⟨RX2, "firstFault", "(II)I"⟩
abbrev cX2_reelOf : ByteArray := prog_1_method_27_code
def yX2_reelOf : MethodName := ⟨RX2, "reelOf", "(I)LFourTrackDeck$Reel;"⟩
abbrev cX2_trackOf : ByteArray := prog_1_method_28_code
def yX2_trackOf : MethodName := ⟨RX2, "trackOf", "(II)LFourTrackDeck$Track;"⟩
abbrev cX2_whyNoneUnderHead : ByteArray := prog_1_method_29_code
def yX2_whyNoneUnderHead : MethodName := ⟨RX2, "whyNoneUnderHead", "(I)I"⟩
abbrev cX2_placeOfHead : ByteArray := prog_1_method_30_code
def yX2_placeOfHead : MethodName := ⟨RX2, "placeOfHead", "(I)I"⟩
abbrev cX2_tick : ByteArray := prog_1_method_31_code
def yX2_tick : MethodName := ⟨RX2, "tick", "()V"⟩
abbrev cX2_moveHead : ByteArray := prog_1_method_32_code
def yX2_moveHead : MethodName := ⟨RX2, "moveHead", "(I)I"⟩
abbrev cX2_faultOfCell : ByteArray := prog_1_method_33_code
def yX2_faultOfCell : MethodName := ⟨RX2, "faultOfCell", "(II)I"⟩
abbrev cX2_indexOfCell : ByteArray := prog_1_method_34_code
def yX2_indexOfCell : MethodName := ⟨RX2, "indexOfCell", "(II)I"⟩
abbrev cX2_tracksThere : ByteArray := prog_1_method_35_code
def yX2_tracksThere : MethodName := ⟨RX2, "tracksThere", "(I)I"⟩
def RX3 : String := "FourTrackDeckModel"
def TX3 : u_T := fun k => match k with
  | 0 => ("FourTrackDeckModel", "reels", "I", false)
  | 1 => ("FourTrackDeckModel", "length", "[I", true)
  | 2 => ("FourTrackDeckModel", "there", "[I", true)
  | 3 => ("FourTrackDeckModel", "number", "[I", true)
  | 4 => ("FourTrackDeckModel", "onDeck", "I", false)
  | 5 => ("FourTrackDeckModel", "p", "I", false)
  | 6 => ("FourTrackDeckModel", "offset", "[I", true)
  | 7 => ("FourTrackDeckModel", "mode", "[I", true)
  | 8 => ("FourTrackDeckModel", "meter", "[I", true)
  | 9 => ("FourTrackDeckModel", "s", "I", false)
  | 10 => ("FourTrackDeckModel", "step", "I", false)
  | 11 => ("FourTrackDeckModel", "tripTrack", "I", false)
  | 12 => ("FourTrackDeckModel", "tripStatus", "I", false)
  | 13 => ("FourTrackDeckModel", "rows", "I", false)
  | 14 => ("FourTrackDeckModel", "cells", "I", false)
  | 15 => ("FourTrackDeckModel", "cue", "[I", true)
  | _ => ("FourTrackDeckModel", "status", "I", false)
def tyX3 : Nat → FieldType := fun k => match k with
  | 0 => .int
  | 1 => .array .int
  | 2 => .array .int
  | 3 => .array .int
  | 4 => .int
  | 5 => .int
  | 6 => .array .int
  | 7 => .array .int
  | 8 => .array .int
  | 9 => .int
  | 10 => .int
  | 11 => .int
  | 12 => .int
  | 13 => .int
  | 14 => .int
  | 15 => .array .int
  | _ => .int
abbrev wsX30 : List Cond := u_ws RX3 TX3 17
theorem nmX3 : ∀ a, a < 17 → ∀ b, b < 17 → a ≠ b → (TX3 a).2.1 ≠ (TX3 b).2.1 := by decide +kernel
theorem tyX3_ok : ∀ k, k < 17 → parseFieldDescriptor (TX3 k).2.2.1 = some (tyX3 k) := by decide +kernel
abbrev cX3_init : ByteArray := prog_5_method_1_code
def yX3_init : MethodName := ⟨RX3, "<init>", "()V"⟩
abbrev cX3_done : ByteArray := prog_5_method_2_code
def yX3_done : MethodName := ⟨RX3, "done", "(I)I"⟩
abbrev cX3_fails : ByteArray := prog_5_method_3_code
def yX3_fails : MethodName := ⟨RX3, "fails", "(II)I"⟩
abbrev cX3_isReel : ByteArray := prog_5_method_4_code
def yX3_isReel : MethodName := ⟨RX3, "isReel", "(I)Z"⟩
abbrev cX3_isTrack : ByteArray := prog_5_method_5_code
def yX3_isTrack : MethodName := ⟨RX3, "isTrack", "(I)Z"⟩
abbrev cX3_isThere : ByteArray := prog_5_method_6_code
def yX3_isThere : MethodName := ⟨RX3, "isThere", "(II)Z"⟩
abbrev cX3_at : ByteArray := prog_5_method_7_code
def yX3_at : MethodName := ⟨RX3, "at", "(III)I"⟩
abbrev cX3_fault : ByteArray := prog_5_method_8_code
def yX3_fault : MethodName := ⟨RX3, "fault", "(III)I"⟩
abbrev cX3_fit : ByteArray := prog_5_method_9_code
def yX3_fit : MethodName := ⟨RX3, "fit", "(II)I"⟩
abbrev cX3_place : ByteArray := prog_5_method_10_code
def yX3_place : MethodName := ⟨RX3, "place", "(I)I"⟩
abbrev cX3_reel : ByteArray := prog_5_method_11_code
def yX3_reel : MethodName := ⟨RX3, "reel", "(II)I"⟩
abbrev cX3_strip : ByteArray := prog_5_method_12_code
def yX3_strip : MethodName := ⟨RX3, "strip", "(II)I"⟩
abbrev cX3_lay : ByteArray := prog_5_method_13_code
def yX3_lay : MethodName := ⟨RX3, "lay", "(II)I"⟩
abbrev cX3_thread : ByteArray := prog_5_method_14_code
def yX3_thread : MethodName := ⟨RX3, "thread", "(I)I"⟩
abbrev cX3_head : ByteArray := prog_5_method_15_code
def yX3_head : MethodName := ⟨RX3, "head", "(II)I"⟩
abbrev cX3_arm : ByteArray := prog_5_method_16_code
def yX3_arm : MethodName := ⟨RX3, "arm", "(II)I"⟩
abbrev cX3_source : ByteArray := prog_5_method_17_code
def yX3_source : MethodName := ⟨RX3, "source", "(II)I"⟩
abbrev cX3_wind : ByteArray := prog_5_method_18_code
def yX3_wind : MethodName := ⟨RX3, "wind", "(I)I"⟩
abbrev cX3_headFault : ByteArray := prog_5_method_19_code
def yX3_headFault : MethodName := ⟨RX3, "headFault", "(I)I"⟩
abbrev cX3_read : ByteArray := prog_5_method_20_code
def yX3_read : MethodName := ⟨RX3, "read", "(I)I"⟩
abbrev cX3_write : ByteArray := prog_5_method_21_code
def yX3_write : MethodName := ⟨RX3, "write", "(II)I"⟩
abbrev cX3_act : ByteArray := prog_5_method_22_code
def yX3_act : MethodName := ⟨RX3, "act", "(I)I"⟩
abbrev cX3_run : ByteArray := prog_5_method_23_code
def yX3_run : MethodName := ⟨RX3, "run", "(I)I"⟩
abbrev cX3_dub : ByteArray := prog_5_method_24_code
def yX3_dub : MethodName := ⟨RX3, "dub", "(IIIIII)I"⟩
abbrev cX3_turn : ByteArray := prog_5_method_25_code
def yX3_turn : MethodName := ⟨RX3, "turn", "(II)I"⟩
abbrev cX3_scan : ByteArray := prog_5_method_26_code
def yX3_scan : MethodName := ⟨RX3, "scan", "(II)I"⟩
abbrev cX3_sheet : ByteArray := prog_5_method_27_code
def yX3_sheet : MethodName := ⟨RX3, "sheet", "(II)I"⟩
abbrev cX3_cellFault : ByteArray := prog_5_method_28_code
def yX3_cellFault : MethodName := ⟨RX3, "cellFault", "(II)I"⟩
abbrev cX3_cue : ByteArray := prog_5_method_29_code
def yX3_cue : MethodName := ⟨RX3, "cue", "(III)I"⟩
abbrev cX3_seek : ByteArray := prog_5_method_30_code
def yX3_seek : MethodName := ⟨RX3, "seek", "(II)I"⟩
abbrev cX3_trip : ByteArray := prog_5_method_31_code
def yX3_trip : MethodName := ⟨RX3, "trip", "(I)I"⟩
abbrev cX3_meter : ByteArray := prog_5_method_32_code
def yX3_meter : MethodName := ⟨RX3, "meter", "(I)I"⟩
abbrev cX3_count : ByteArray := prog_5_method_33_code
def yX3_count : MethodName := ⟨RX3, "count", "(I)I"⟩
abbrev cX3_status : ByteArray := prog_5_method_34_code
def yX3_status : MethodName := ⟨RX3, "status", "()I"⟩
def RJ9 : String := "java/lang/Math"
def TJ9 : u_T := fun k => match k with
  | _ => ("", "", "", false)
def tyJ9 : Nat → FieldType := fun k => match k with
  | _ => .int
abbrev wsJ90 : List Cond := u_ws RJ9 TJ9 0
theorem nmJ9 : ∀ a, a < 0 → ∀ b, b < 0 → a ≠ b → (TJ9 a).2.1 ≠ (TJ9 b).2.1 := by decide +kernel
theorem tyJ9_ok : ∀ k, k < 0 → parseFieldDescriptor (TJ9 k).2.2.1 = some (tyJ9 k) := by decide +kernel
abbrev cJ9_max_7cf53 : ByteArray := prog_6_method_65_code
def yJ9_max_7cf53 : MethodName := ⟨RJ9, "max", "(II)I"⟩
abbrev cJ9_min_7cf53 : ByteArray := prog_6_method_69_code
def yJ9_min_7cf53 : MethodName := ⟨RJ9, "min", "(II)I"⟩
def RJ7 : String := "java/util/Arrays"
def TJ7 : u_T := fun k => match k with
  | _ => ("", "", "", false)
def tyJ7 : Nat → FieldType := fun k => match k with
  | _ => .int
abbrev wsJ70 : List Cond := u_ws RJ7 TJ7 0
theorem nmJ7 : ∀ a, a < 0 → ∀ b, b < 0 → a ≠ b → (TJ7 a).2.1 ≠ (TJ7 b).2.1 := by decide +kernel
theorem tyJ7_ok : ∀ k, k < 0 → parseFieldDescriptor (TJ7 k).2.2.1 = some (tyJ7 k) := by decide +kernel
abbrev cJ7_fill_53178 : ByteArray := prog_7_method_103_code
def yJ7_fill_53178 : MethodName := ⟨RJ7, "fill", "([II)V"⟩
def RL : String := "FourTrackDeckLaw"
abbrev cL_law : ByteArray := code
def yL_law : MethodName := ⟨RL, "law", "([I)Z"⟩
def wsX1_init : List Cond := .code yX1_init cX1_init 4 none :: ([.methodLink RX1 3 objectInit, .instanceMethod objectInit, .code objectInit ⟨#[0xb1]⟩ 1 none, .fieldLink RX1 9 "FourTrackDeck$Track" "kind" "I", .arrayClass .int, .fieldLink RX1 15 "FourTrackDeck$Track" "numbers" "[I", .fieldLink RX1 19 "FourTrackDeck$Track" "isThere" "Z"] ++ wsX10)
def wsX0_init : List Cond := .code yX0_init cX0_init 4 none :: ([.methodLink RX0 3 objectInit, .instanceMethod objectInit, .code objectInit ⟨#[0xb1]⟩ 1 none, .classLink RX0 9 RX1, .fieldLink RX0 11 "FourTrackDeck$Reel" "tracks" "[LFourTrackDeck$Track;", .instantiable RX1 3, .initialized RX1, .instanceMethod yX1_init, .code yX1_init cX1_init 4 none, .methodLink RX1 3 objectInit, .fieldLink RX1 9 "FourTrackDeck$Track" "kind" "I", .arrayClass .int, .fieldLink RX1 15 "FourTrackDeck$Track" "numbers" "[I", .fieldLink RX1 19 "FourTrackDeck$Track" "isThere" "Z"] ++ wsX00 ++ wsX10)
def wsX0_bitsOfTracks : List Cond := .code yX0_bitsOfTracks cX0_bitsOfTracks 3 (some .int) :: ([.fieldLink RX0 11 "FourTrackDeck$Reel" "tracks" "[LFourTrackDeck$Track;"] ++ wsX00 ++ wsX10)
def wsJ7_fill_53178 : List Cond := .code yJ7_fill_53178 cJ7_fill_53178 4 none :: ([])
def wsX1_wipe : List Cond := .code yX1_wipe cX1_wipe 1 none :: ([.fieldLink RX1 15 "FourTrackDeck$Track" "numbers" "[I", .methodLink RX1 23 yJ7_fill_53178, .static yJ7_fill_53178, .initialized RJ7, .code yJ7_fill_53178 cJ7_fill_53178 4 none] ++ wsX10)
def wsX1_faultAt : List Cond := .code yX1_faultAt cX1_faultAt 2 (some .int) :: ([.fieldLink RX1 19 "FourTrackDeck$Track" "isThere" "Z", .fieldLink RX1 15 "FourTrackDeck$Track" "numbers" "[I"] ++ wsX10)
def wsX1_numberAt : List Cond := .code yX1_numberAt cX1_numberAt 2 (some .int) :: ([.fieldLink RX1 15 "FourTrackDeck$Track" "numbers" "[I", .methodLink RX1 29 yX1_faultAt, .instanceMethod yX1_faultAt, .selects RX1 yX1_faultAt yX1_faultAt, .initialized RX1, .code yX1_faultAt cX1_faultAt 2 (some .int), .fieldLink RX1 19 "FourTrackDeck$Track" "isThere" "Z"] ++ wsX10)
def wsX1_asTrackHasIt : List Cond := .code yX1_asTrackHasIt cX1_asTrackHasIt 2 (some .int) :: ([.fieldLink RX1 9 "FourTrackDeck$Track" "kind" "I", .constant RX1 43 (65535), .constant RX1 44 (32768), .methodLink RX1 45 Lib.Math.min.name, .static Lib.Math.min.name, .initialized "java/lang/Math", .code Lib.Math.min.name Lib.Math.min.code 2 (some .int), .methodLink RX1 51 Lib.Math.max.name, .static Lib.Math.max.name, .code Lib.Math.max.name Lib.Math.max.code 2 (some .int)] ++ wsX10)
def wsX1_put : List Cond := .code yX1_put cX1_put 3 none :: ([.fieldLink RX1 15 "FourTrackDeck$Track" "numbers" "[I", .methodLink RX1 29 yX1_faultAt, .instanceMethod yX1_faultAt, .selects RX1 yX1_faultAt yX1_faultAt, .initialized RX1, .code yX1_faultAt cX1_faultAt 2 (some .int), .fieldLink RX1 19 "FourTrackDeck$Track" "isThere" "Z", .methodLink RX1 33 yX1_asTrackHasIt, .instanceMethod yX1_asTrackHasIt, .selects RX1 yX1_asTrackHasIt yX1_asTrackHasIt, .code yX1_asTrackHasIt cX1_asTrackHasIt 2 (some .int), .fieldLink RX1 9 "FourTrackDeck$Track" "kind" "I", .constant RX1 43 (65535), .constant RX1 44 (32768), .methodLink RX1 45 Lib.Math.min.name, .static Lib.Math.min.name, .initialized "java/lang/Math", .code Lib.Math.min.name Lib.Math.min.code 2 (some .int), .methodLink RX1 51 Lib.Math.max.name, .static Lib.Math.max.name, .code Lib.Math.max.name Lib.Math.max.code 2 (some .int)] ++ wsX10)
def wsX1_exchange_r1 : List Cond := [Cond.methodLink RX1 36 yX1_numberAt, Cond.instanceMethod yX1_numberAt, Cond.selects RX1 yX1_numberAt yX1_numberAt, Cond.initialized RX1, Cond.code yX1_numberAt cX1_numberAt 2 (some .int), Cond.fieldLink RX1 15 "FourTrackDeck$Track" "numbers" "[I", Cond.methodLink RX1 29 yX1_faultAt, Cond.instanceMethod yX1_faultAt, Cond.selects RX1 yX1_faultAt yX1_faultAt, Cond.code yX1_faultAt cX1_faultAt 2 (some .int), Cond.fieldLink RX1 19 "FourTrackDeck$Track" "isThere" "Z", Cond.methodLink RX1 39 yX1_put, Cond.instanceMethod yX1_put, Cond.selects RX1 yX1_put yX1_put, Cond.code yX1_put cX1_put 3 none, Cond.methodLink RX1 33 yX1_asTrackHasIt, Cond.instanceMethod yX1_asTrackHasIt, Cond.selects RX1 yX1_asTrackHasIt yX1_asTrackHasIt, Cond.code yX1_asTrackHasIt cX1_asTrackHasIt 2 (some .int), Cond.fieldLink RX1 9 "FourTrackDeck$Track" "kind" "I", Cond.constant RX1 43 (65535), Cond.constant RX1 44 (32768), Cond.methodLink RX1 45 Lib.Math.min.name, Cond.static Lib.Math.min.name]
def wsX1_exchange_r2 : List Cond := [Cond.initialized "java/lang/Math", Cond.code Lib.Math.min.name Lib.Math.min.code 2 (some .int), Cond.methodLink RX1 51 Lib.Math.max.name, Cond.static Lib.Math.max.name, Cond.code Lib.Math.max.name Lib.Math.max.code 2 (some .int)]
def wsX1_exchange : List Cond := .code yX1_exchange cX1_exchange 4 none :: ((wsX1_exchange_r1 ++ wsX1_exchange_r2) ++ wsX10)
def wsX2_init : List Cond := .code yX2_init cX2_init 1 none :: ([.methodLink RX2 1 objectInit, .instanceMethod objectInit, .code objectInit ⟨#[0xb1]⟩ 1 none, .classLink RX2 9 RX0, .fieldLink RX2 11 "FourTrackDeck" "reels" "[LFourTrackDeck$Reel;", .fieldLink RX2 15 "FourTrackDeck" "reelsMade" "I", .fieldLink RX2 19 "FourTrackDeck" "onDeck" "I", .fieldLink RX2 22 "FourTrackDeck" "tapeAt" "I", .arrayClass .int, .fieldLink RX2 25 "FourTrackDeck" "offsets" "[I", .fieldLink RX2 29 "FourTrackDeck" "modes" "[I", .fieldLink RX2 32 "FourTrackDeck" "meters" "[I", .fieldLink RX2 35 "FourTrackDeck" "sourceNumber" "I", .fieldLink RX2 38 "FourTrackDeck" "sourceStep" "I", .fieldLink RX2 41 "FourTrackDeck" "cells" "[I", .fieldLink RX2 44 "FourTrackDeck" "sheetRows" "I", .fieldLink RX2 47 "FourTrackDeck" "sheetWidth" "I", .fieldLink RX2 50 "FourTrackDeck" "tripTrack" "I", .fieldLink RX2 53 "FourTrackDeck" "tripStatus" "I", .fieldLink RX2 56 "FourTrackDeck" "latestStatus" "I"] ++ wsX20)
def wsX2_isWithin : List Cond := .code yX2_isWithin cX2_isWithin 3 (some .boolean) :: ([])
def wsX2_end : List Cond := .code yX2_end cX2_end 3 (some .int) :: ([.fieldLink RX2 56 "FourTrackDeck" "latestStatus" "I"] ++ wsX20)
def wsX2_reel_r1 : List Cond := [Cond.fieldLink RX2 15 "FourTrackDeck" "reelsMade" "I", Cond.fieldLink RX2 11 "FourTrackDeck" "reels" "[LFourTrackDeck$Reel;", Cond.classLink RX2 9 RX0, Cond.instantiable RX0 1, Cond.initialized RX0, Cond.methodLink RX2 59 yX2_isWithin, Cond.static yX2_isWithin, Cond.initialized RX2, Cond.code yX2_isWithin cX2_isWithin 3 (some .boolean), Cond.methodLink RX2 63 yX2_end, Cond.instanceMethod yX2_end, Cond.selects RX2 yX2_end yX2_end, Cond.code yX2_end cX2_end 3 (some .int), Cond.fieldLink RX2 56 "FourTrackDeck" "latestStatus" "I", Cond.instanceMethod yX0_init, Cond.code yX0_init cX0_init 4 none, Cond.methodLink RX0 3 objectInit, Cond.instanceMethod objectInit, Cond.code objectInit ⟨#[0xb1]⟩ 1 none, Cond.classLink RX0 9 RX1, Cond.fieldLink RX0 11 "FourTrackDeck$Reel" "tracks" "[LFourTrackDeck$Track;", Cond.instantiable RX1 3, Cond.initialized RX1, Cond.instanceMethod yX1_init]
def wsX2_reel_r2 : List Cond := [Cond.code yX1_init cX1_init 4 none, Cond.methodLink RX1 3 objectInit, Cond.fieldLink RX1 9 "FourTrackDeck$Track" "kind" "I", Cond.arrayClass .int, Cond.fieldLink RX1 15 "FourTrackDeck$Track" "numbers" "[I", Cond.fieldLink RX1 19 "FourTrackDeck$Track" "isThere" "Z"]
def wsX2_reel : List Cond := .code yX2_reel cX2_reel 4 (some .int) :: ((wsX2_reel_r1 ++ wsX2_reel_r2) ++ wsX20 ++ wsX00 ++ wsX10)
def wsX2_reelOf : List Cond := .code yX2_reelOf cX2_reelOf 2 (some (.object "FourTrackDeck$Reel")) :: ([.fieldLink RX2 11 "FourTrackDeck" "reels" "[LFourTrackDeck$Reel;"] ++ wsX20)
def wsX2_isTrack : List Cond := .code yX2_isTrack cX2_isTrack 1 (some .boolean) :: ([.methodLink RX2 59 yX2_isWithin, .static yX2_isWithin, .initialized RX2, .code yX2_isWithin cX2_isWithin 3 (some .boolean)])
def wsX2_trackOf : List Cond := .code yX2_trackOf cX2_trackOf 4 (some (.object "FourTrackDeck$Track")) :: ([.methodLink RX2 83 yX2_reelOf, .instanceMethod yX2_reelOf, .selects RX2 yX2_reelOf yX2_reelOf, .initialized RX2, .code yX2_reelOf cX2_reelOf 2 (some (.object "FourTrackDeck$Reel")), .fieldLink RX2 11 "FourTrackDeck" "reels" "[LFourTrackDeck$Reel;", .methodLink RX2 87 yX2_isTrack, .static yX2_isTrack, .code yX2_isTrack cX2_isTrack 1 (some .boolean), .methodLink RX2 59 yX2_isWithin, .static yX2_isWithin, .code yX2_isWithin cX2_isWithin 3 (some .boolean)] ++ wsX00 ++ wsX20)
def wsX2_strip : List Cond := .code yX2_strip cX2_strip 5 (some .int) :: ([.methodLink RX2 70 yX2_trackOf, .instanceMethod yX2_trackOf, .selects RX2 yX2_trackOf yX2_trackOf, .initialized RX2, .code yX2_trackOf cX2_trackOf 4 (some (.object "FourTrackDeck$Track")), .methodLink RX2 83 yX2_reelOf, .instanceMethod yX2_reelOf, .selects RX2 yX2_reelOf yX2_reelOf, .code yX2_reelOf cX2_reelOf 2 (some (.object "FourTrackDeck$Reel")), .fieldLink RX2 11 "FourTrackDeck" "reels" "[LFourTrackDeck$Reel;", .methodLink RX2 87 yX2_isTrack, .static yX2_isTrack, .code yX2_isTrack cX2_isTrack 1 (some .boolean), .methodLink RX2 59 yX2_isWithin, .static yX2_isWithin, .code yX2_isWithin cX2_isWithin 3 (some .boolean), .methodLink RX2 63 yX2_end, .instanceMethod yX2_end, .selects RX2 yX2_end yX2_end, .code yX2_end cX2_end 3 (some .int), .fieldLink RX2 56 "FourTrackDeck" "latestStatus" "I"] ++ wsX10 ++ wsX00 ++ wsX20)
def wsX2_lay_r1 : List Cond := [Cond.methodLink RX2 70 yX2_trackOf, Cond.instanceMethod yX2_trackOf, Cond.selects RX2 yX2_trackOf yX2_trackOf, Cond.initialized RX2, Cond.code yX2_trackOf cX2_trackOf 4 (some (.object "FourTrackDeck$Track")), Cond.methodLink RX2 83 yX2_reelOf, Cond.instanceMethod yX2_reelOf, Cond.selects RX2 yX2_reelOf yX2_reelOf, Cond.code yX2_reelOf cX2_reelOf 2 (some (.object "FourTrackDeck$Reel")), Cond.fieldLink RX2 11 "FourTrackDeck" "reels" "[LFourTrackDeck$Reel;", Cond.methodLink RX2 87 yX2_isTrack, Cond.static yX2_isTrack, Cond.code yX2_isTrack cX2_isTrack 1 (some .boolean), Cond.methodLink RX2 59 yX2_isWithin, Cond.static yX2_isWithin, Cond.code yX2_isWithin cX2_isWithin 3 (some .boolean), Cond.methodLink RX2 63 yX2_end, Cond.instanceMethod yX2_end, Cond.selects RX2 yX2_end yX2_end, Cond.code yX2_end cX2_end 3 (some .int), Cond.fieldLink RX2 56 "FourTrackDeck" "latestStatus" "I", Cond.instanceMethod yX1_wipe, Cond.initialized RX1, Cond.selects RX1 yX1_wipe yX1_wipe]
def wsX2_lay_r2 : List Cond := [Cond.code yX1_wipe cX1_wipe 1 none, Cond.fieldLink RX1 15 "FourTrackDeck$Track" "numbers" "[I", Cond.methodLink RX1 23 yJ7_fill_53178, Cond.static yJ7_fill_53178, Cond.initialized RJ7, Cond.code yJ7_fill_53178 cJ7_fill_53178 4 none]
def wsX2_lay : List Cond := .code yX2_lay cX2_lay 5 (some .int) :: ((wsX2_lay_r1 ++ wsX2_lay_r2) ++ wsX10 ++ wsX00 ++ wsX20)
def wsX2_thread : List Cond := .code yX2_thread cX2_thread 3 (some .int) :: ([.fieldLink RX2 19 "FourTrackDeck" "onDeck" "I", .methodLink RX2 83 yX2_reelOf, .instanceMethod yX2_reelOf, .selects RX2 yX2_reelOf yX2_reelOf, .initialized RX2, .code yX2_reelOf cX2_reelOf 2 (some (.object "FourTrackDeck$Reel")), .fieldLink RX2 11 "FourTrackDeck" "reels" "[LFourTrackDeck$Reel;", .methodLink RX2 63 yX2_end, .instanceMethod yX2_end, .selects RX2 yX2_end yX2_end, .code yX2_end cX2_end 3 (some .int), .fieldLink RX2 56 "FourTrackDeck" "latestStatus" "I"] ++ wsX20)
def wsX2_head : List Cond := .code yX2_head cX2_head 4 (some .int) :: ([.fieldLink RX2 25 "FourTrackDeck" "offsets" "[I", .methodLink RX2 87 yX2_isTrack, .static yX2_isTrack, .initialized RX2, .code yX2_isTrack cX2_isTrack 1 (some .boolean), .methodLink RX2 59 yX2_isWithin, .static yX2_isWithin, .code yX2_isWithin cX2_isWithin 3 (some .boolean), .methodLink RX2 63 yX2_end, .instanceMethod yX2_end, .selects RX2 yX2_end yX2_end, .code yX2_end cX2_end 3 (some .int), .fieldLink RX2 56 "FourTrackDeck" "latestStatus" "I"] ++ wsX20)
def wsX2_arm : List Cond := .code yX2_arm cX2_arm 4 (some .int) :: ([.fieldLink RX2 29 "FourTrackDeck" "modes" "[I", .methodLink RX2 87 yX2_isTrack, .static yX2_isTrack, .initialized RX2, .code yX2_isTrack cX2_isTrack 1 (some .boolean), .methodLink RX2 59 yX2_isWithin, .static yX2_isWithin, .code yX2_isWithin cX2_isWithin 3 (some .boolean), .methodLink RX2 63 yX2_end, .instanceMethod yX2_end, .selects RX2 yX2_end yX2_end, .code yX2_end cX2_end 3 (some .int), .fieldLink RX2 56 "FourTrackDeck" "latestStatus" "I"] ++ wsX20)
def wsX2_source : List Cond := .code yX2_source cX2_source 4 (some .int) :: ([.fieldLink RX2 35 "FourTrackDeck" "sourceNumber" "I", .fieldLink RX2 38 "FourTrackDeck" "sourceStep" "I", .methodLink RX2 63 yX2_end, .instanceMethod yX2_end, .selects RX2 yX2_end yX2_end, .initialized RX2, .code yX2_end cX2_end 3 (some .int), .fieldLink RX2 56 "FourTrackDeck" "latestStatus" "I"] ++ wsX20)
def wsX2_wind : List Cond := .code yX2_wind cX2_wind 2 (some .int) :: ([.fieldLink RX2 22 "FourTrackDeck" "tapeAt" "I", .methodLink RX2 59 yX2_isWithin, .static yX2_isWithin, .initialized RX2, .code yX2_isWithin cX2_isWithin 3 (some .boolean), .methodLink RX2 63 yX2_end, .instanceMethod yX2_end, .selects RX2 yX2_end yX2_end, .code yX2_end cX2_end 3 (some .int), .fieldLink RX2 56 "FourTrackDeck" "latestStatus" "I"] ++ wsX20)
def wsX2_whyNoneUnderHead : List Cond := .code yX2_whyNoneUnderHead cX2_whyNoneUnderHead 2 (some .int) :: ([.methodLink RX2 87 yX2_isTrack, .static yX2_isTrack, .initialized RX2, .code yX2_isTrack cX2_isTrack 1 (some .boolean), .methodLink RX2 59 yX2_isWithin, .static yX2_isWithin, .code yX2_isWithin cX2_isWithin 3 (some .boolean)])
def wsX2_placeOfHead : List Cond := .code yX2_placeOfHead cX2_placeOfHead 2 (some .int) :: ([.fieldLink RX2 22 "FourTrackDeck" "tapeAt" "I", .fieldLink RX2 25 "FourTrackDeck" "offsets" "[I", .methodLink RX2 87 yX2_isTrack, .static yX2_isTrack, .initialized RX2, .code yX2_isTrack cX2_isTrack 1 (some .boolean), .methodLink RX2 59 yX2_isWithin, .static yX2_isWithin, .code yX2_isWithin cX2_isWithin 3 (some .boolean)] ++ wsX20)
def wsX2_read_r1 : List Cond := [Cond.fieldLink RX2 19 "FourTrackDeck" "onDeck" "I", Cond.methodLink RX2 70 yX2_trackOf, Cond.instanceMethod yX2_trackOf, Cond.selects RX2 yX2_trackOf yX2_trackOf, Cond.initialized RX2, Cond.code yX2_trackOf cX2_trackOf 4 (some (.object "FourTrackDeck$Track")), Cond.methodLink RX2 83 yX2_reelOf, Cond.instanceMethod yX2_reelOf, Cond.selects RX2 yX2_reelOf yX2_reelOf, Cond.code yX2_reelOf cX2_reelOf 2 (some (.object "FourTrackDeck$Reel")), Cond.fieldLink RX2 11 "FourTrackDeck" "reels" "[LFourTrackDeck$Reel;", Cond.methodLink RX2 87 yX2_isTrack, Cond.static yX2_isTrack, Cond.code yX2_isTrack cX2_isTrack 1 (some .boolean), Cond.methodLink RX2 59 yX2_isWithin, Cond.static yX2_isWithin, Cond.code yX2_isWithin cX2_isWithin 3 (some .boolean), Cond.methodLink RX2 91 yX2_whyNoneUnderHead, Cond.instanceMethod yX2_whyNoneUnderHead, Cond.selects RX2 yX2_whyNoneUnderHead yX2_whyNoneUnderHead, Cond.code yX2_whyNoneUnderHead cX2_whyNoneUnderHead 2 (some .int), Cond.methodLink RX2 63 yX2_end, Cond.instanceMethod yX2_end, Cond.selects RX2 yX2_end yX2_end]
def wsX2_read_r2 : List Cond := [Cond.code yX2_end cX2_end 3 (some .int), Cond.fieldLink RX2 56 "FourTrackDeck" "latestStatus" "I", Cond.methodLink RX2 95 yX2_placeOfHead, Cond.instanceMethod yX2_placeOfHead, Cond.selects RX2 yX2_placeOfHead yX2_placeOfHead, Cond.code yX2_placeOfHead cX2_placeOfHead 2 (some .int), Cond.fieldLink RX2 22 "FourTrackDeck" "tapeAt" "I", Cond.fieldLink RX2 25 "FourTrackDeck" "offsets" "[I", Cond.instanceMethod yX1_faultAt, Cond.initialized RX1, Cond.selects RX1 yX1_faultAt yX1_faultAt, Cond.code yX1_faultAt cX1_faultAt 2 (some .int), Cond.fieldLink RX1 19 "FourTrackDeck$Track" "isThere" "Z", Cond.fieldLink RX1 15 "FourTrackDeck$Track" "numbers" "[I", Cond.instanceMethod yX1_numberAt, Cond.selects RX1 yX1_numberAt yX1_numberAt, Cond.code yX1_numberAt cX1_numberAt 2 (some .int), Cond.methodLink RX1 29 yX1_faultAt]
def wsX2_read : List Cond := .code yX2_read cX2_read 4 (some .int) :: ((wsX2_read_r1 ++ wsX2_read_r2) ++ wsX20 ++ wsX00 ++ wsX10)
def wsX2_write_r1 : List Cond := [Cond.fieldLink RX2 19 "FourTrackDeck" "onDeck" "I", Cond.methodLink RX2 70 yX2_trackOf, Cond.instanceMethod yX2_trackOf, Cond.selects RX2 yX2_trackOf yX2_trackOf, Cond.initialized RX2, Cond.code yX2_trackOf cX2_trackOf 4 (some (.object "FourTrackDeck$Track")), Cond.methodLink RX2 83 yX2_reelOf, Cond.instanceMethod yX2_reelOf, Cond.selects RX2 yX2_reelOf yX2_reelOf, Cond.code yX2_reelOf cX2_reelOf 2 (some (.object "FourTrackDeck$Reel")), Cond.fieldLink RX2 11 "FourTrackDeck" "reels" "[LFourTrackDeck$Reel;", Cond.methodLink RX2 87 yX2_isTrack, Cond.static yX2_isTrack, Cond.code yX2_isTrack cX2_isTrack 1 (some .boolean), Cond.methodLink RX2 59 yX2_isWithin, Cond.static yX2_isWithin, Cond.code yX2_isWithin cX2_isWithin 3 (some .boolean), Cond.methodLink RX2 91 yX2_whyNoneUnderHead, Cond.instanceMethod yX2_whyNoneUnderHead, Cond.selects RX2 yX2_whyNoneUnderHead yX2_whyNoneUnderHead, Cond.code yX2_whyNoneUnderHead cX2_whyNoneUnderHead 2 (some .int), Cond.methodLink RX2 63 yX2_end, Cond.instanceMethod yX2_end, Cond.selects RX2 yX2_end yX2_end]
def wsX2_write_r2 : List Cond := [Cond.code yX2_end cX2_end 3 (some .int), Cond.fieldLink RX2 56 "FourTrackDeck" "latestStatus" "I", Cond.methodLink RX2 95 yX2_placeOfHead, Cond.instanceMethod yX2_placeOfHead, Cond.selects RX2 yX2_placeOfHead yX2_placeOfHead, Cond.code yX2_placeOfHead cX2_placeOfHead 2 (some .int), Cond.fieldLink RX2 22 "FourTrackDeck" "tapeAt" "I", Cond.fieldLink RX2 25 "FourTrackDeck" "offsets" "[I", Cond.instanceMethod yX1_put, Cond.initialized RX1, Cond.selects RX1 yX1_put yX1_put, Cond.code yX1_put cX1_put 3 none, Cond.fieldLink RX1 15 "FourTrackDeck$Track" "numbers" "[I", Cond.methodLink RX1 29 yX1_faultAt, Cond.instanceMethod yX1_faultAt, Cond.selects RX1 yX1_faultAt yX1_faultAt, Cond.code yX1_faultAt cX1_faultAt 2 (some .int), Cond.fieldLink RX1 19 "FourTrackDeck$Track" "isThere" "Z", Cond.methodLink RX1 33 yX1_asTrackHasIt, Cond.instanceMethod yX1_asTrackHasIt, Cond.selects RX1 yX1_asTrackHasIt yX1_asTrackHasIt, Cond.code yX1_asTrackHasIt cX1_asTrackHasIt 2 (some .int), Cond.fieldLink RX1 9 "FourTrackDeck$Track" "kind" "I", Cond.constant RX1 43 (65535)]
def wsX2_write_r3 : List Cond := [Cond.constant RX1 44 (32768), Cond.methodLink RX1 45 Lib.Math.min.name, Cond.static Lib.Math.min.name, Cond.initialized "java/lang/Math", Cond.code Lib.Math.min.name Lib.Math.min.code 2 (some .int), Cond.methodLink RX1 51 Lib.Math.max.name, Cond.static Lib.Math.max.name, Cond.code Lib.Math.max.name Lib.Math.max.code 2 (some .int), Cond.instanceMethod yX1_numberAt, Cond.selects RX1 yX1_numberAt yX1_numberAt, Cond.code yX1_numberAt cX1_numberAt 2 (some .int)]
def wsX2_write : List Cond := .code yX2_write cX2_write 5 (some .int) :: ((wsX2_write_r1 ++ (wsX2_write_r2 ++ wsX2_write_r3)) ++ wsX20 ++ wsX00 ++ wsX10)
def wsX2_moveHead_r1 : List Cond := [Cond.fieldLink RX2 29 "FourTrackDeck" "modes" "[I", Cond.fieldLink RX2 19 "FourTrackDeck" "onDeck" "I", Cond.fieldLink RX2 32 "FourTrackDeck" "meters" "[I", Cond.fieldLink RX2 35 "FourTrackDeck" "sourceNumber" "I", Cond.fieldLink RX2 38 "FourTrackDeck" "sourceStep" "I", Cond.methodLink RX2 70 yX2_trackOf, Cond.instanceMethod yX2_trackOf, Cond.selects RX2 yX2_trackOf yX2_trackOf, Cond.initialized RX2, Cond.code yX2_trackOf cX2_trackOf 4 (some (.object "FourTrackDeck$Track")), Cond.methodLink RX2 83 yX2_reelOf, Cond.instanceMethod yX2_reelOf, Cond.selects RX2 yX2_reelOf yX2_reelOf, Cond.code yX2_reelOf cX2_reelOf 2 (some (.object "FourTrackDeck$Reel")), Cond.fieldLink RX2 11 "FourTrackDeck" "reels" "[LFourTrackDeck$Reel;", Cond.methodLink RX2 87 yX2_isTrack, Cond.static yX2_isTrack, Cond.code yX2_isTrack cX2_isTrack 1 (some .boolean), Cond.methodLink RX2 59 yX2_isWithin, Cond.static yX2_isWithin, Cond.code yX2_isWithin cX2_isWithin 3 (some .boolean), Cond.methodLink RX2 95 yX2_placeOfHead, Cond.instanceMethod yX2_placeOfHead, Cond.selects RX2 yX2_placeOfHead yX2_placeOfHead]
def wsX2_moveHead_r2 : List Cond := [Cond.code yX2_placeOfHead cX2_placeOfHead 2 (some .int), Cond.fieldLink RX2 22 "FourTrackDeck" "tapeAt" "I", Cond.fieldLink RX2 25 "FourTrackDeck" "offsets" "[I", Cond.instanceMethod yX1_faultAt, Cond.initialized RX1, Cond.selects RX1 yX1_faultAt yX1_faultAt, Cond.code yX1_faultAt cX1_faultAt 2 (some .int), Cond.fieldLink RX1 19 "FourTrackDeck$Track" "isThere" "Z", Cond.fieldLink RX1 15 "FourTrackDeck$Track" "numbers" "[I", Cond.instanceMethod yX1_numberAt, Cond.selects RX1 yX1_numberAt yX1_numberAt, Cond.code yX1_numberAt cX1_numberAt 2 (some .int), Cond.methodLink RX1 29 yX1_faultAt, Cond.instanceMethod yX1_put, Cond.selects RX1 yX1_put yX1_put, Cond.code yX1_put cX1_put 3 none, Cond.methodLink RX1 33 yX1_asTrackHasIt, Cond.instanceMethod yX1_asTrackHasIt, Cond.selects RX1 yX1_asTrackHasIt yX1_asTrackHasIt, Cond.code yX1_asTrackHasIt cX1_asTrackHasIt 2 (some .int), Cond.fieldLink RX1 9 "FourTrackDeck$Track" "kind" "I", Cond.constant RX1 43 (65535), Cond.constant RX1 44 (32768), Cond.methodLink RX1 45 Lib.Math.min.name]
def wsX2_moveHead_r3 : List Cond := [Cond.static Lib.Math.min.name, Cond.initialized "java/lang/Math", Cond.code Lib.Math.min.name Lib.Math.min.code 2 (some .int), Cond.methodLink RX1 51 Lib.Math.max.name, Cond.static Lib.Math.max.name, Cond.code Lib.Math.max.name Lib.Math.max.code 2 (some .int)]
def wsX2_moveHead : List Cond := .code yX2_moveHead cX2_moveHead 7 (some .int) :: ((wsX2_moveHead_r1 ++ (wsX2_moveHead_r2 ++ wsX2_moveHead_r3)) ++ wsX20 ++ wsX00 ++ wsX10)
def wsX2_tick_r1 : List Cond := [Cond.fieldLink RX2 50 "FourTrackDeck" "tripTrack" "I", Cond.fieldLink RX2 53 "FourTrackDeck" "tripStatus" "I", Cond.fieldLink RX2 22 "FourTrackDeck" "tapeAt" "I", Cond.methodLink RX2 135 yX2_moveHead, Cond.instanceMethod yX2_moveHead, Cond.selects RX2 yX2_moveHead yX2_moveHead, Cond.initialized RX2, Cond.code yX2_moveHead cX2_moveHead 7 (some .int), Cond.fieldLink RX2 29 "FourTrackDeck" "modes" "[I", Cond.fieldLink RX2 19 "FourTrackDeck" "onDeck" "I", Cond.fieldLink RX2 32 "FourTrackDeck" "meters" "[I", Cond.fieldLink RX2 35 "FourTrackDeck" "sourceNumber" "I", Cond.fieldLink RX2 38 "FourTrackDeck" "sourceStep" "I", Cond.methodLink RX2 70 yX2_trackOf, Cond.instanceMethod yX2_trackOf, Cond.selects RX2 yX2_trackOf yX2_trackOf, Cond.code yX2_trackOf cX2_trackOf 4 (some (.object "FourTrackDeck$Track")), Cond.methodLink RX2 83 yX2_reelOf, Cond.instanceMethod yX2_reelOf, Cond.selects RX2 yX2_reelOf yX2_reelOf, Cond.code yX2_reelOf cX2_reelOf 2 (some (.object "FourTrackDeck$Reel")), Cond.fieldLink RX2 11 "FourTrackDeck" "reels" "[LFourTrackDeck$Reel;", Cond.methodLink RX2 87 yX2_isTrack, Cond.static yX2_isTrack]
def wsX2_tick_r2 : List Cond := [Cond.code yX2_isTrack cX2_isTrack 1 (some .boolean), Cond.methodLink RX2 59 yX2_isWithin, Cond.static yX2_isWithin, Cond.code yX2_isWithin cX2_isWithin 3 (some .boolean), Cond.methodLink RX2 95 yX2_placeOfHead, Cond.instanceMethod yX2_placeOfHead, Cond.selects RX2 yX2_placeOfHead yX2_placeOfHead, Cond.code yX2_placeOfHead cX2_placeOfHead 2 (some .int), Cond.fieldLink RX2 25 "FourTrackDeck" "offsets" "[I", Cond.instanceMethod yX1_faultAt, Cond.initialized RX1, Cond.selects RX1 yX1_faultAt yX1_faultAt, Cond.code yX1_faultAt cX1_faultAt 2 (some .int), Cond.fieldLink RX1 19 "FourTrackDeck$Track" "isThere" "Z", Cond.fieldLink RX1 15 "FourTrackDeck$Track" "numbers" "[I", Cond.instanceMethod yX1_numberAt, Cond.selects RX1 yX1_numberAt yX1_numberAt, Cond.code yX1_numberAt cX1_numberAt 2 (some .int), Cond.methodLink RX1 29 yX1_faultAt, Cond.instanceMethod yX1_put, Cond.selects RX1 yX1_put yX1_put, Cond.code yX1_put cX1_put 3 none, Cond.methodLink RX1 33 yX1_asTrackHasIt, Cond.instanceMethod yX1_asTrackHasIt]
def wsX2_tick_r3 : List Cond := [Cond.selects RX1 yX1_asTrackHasIt yX1_asTrackHasIt, Cond.code yX1_asTrackHasIt cX1_asTrackHasIt 2 (some .int), Cond.fieldLink RX1 9 "FourTrackDeck$Track" "kind" "I", Cond.constant RX1 43 (65535), Cond.constant RX1 44 (32768), Cond.methodLink RX1 45 Lib.Math.min.name, Cond.static Lib.Math.min.name, Cond.initialized "java/lang/Math", Cond.code Lib.Math.min.name Lib.Math.min.code 2 (some .int), Cond.methodLink RX1 51 Lib.Math.max.name, Cond.static Lib.Math.max.name, Cond.code Lib.Math.max.name Lib.Math.max.code 2 (some .int)]
def wsX2_tick : List Cond := .code yX2_tick cX2_tick 3 none :: ((wsX2_tick_r1 ++ (wsX2_tick_r2 ++ wsX2_tick_r3)) ++ wsX20 ++ wsX00 ++ wsX10)
def wsX2_run_r1 : List Cond := [Cond.fieldLink RX2 19 "FourTrackDeck" "onDeck" "I", Cond.fieldLink RX2 50 "FourTrackDeck" "tripTrack" "I", Cond.fieldLink RX2 53 "FourTrackDeck" "tripStatus" "I", Cond.methodLink RX2 59 yX2_isWithin, Cond.static yX2_isWithin, Cond.initialized RX2, Cond.code yX2_isWithin cX2_isWithin 3 (some .boolean), Cond.methodLink RX2 63 yX2_end, Cond.instanceMethod yX2_end, Cond.selects RX2 yX2_end yX2_end, Cond.code yX2_end cX2_end 3 (some .int), Cond.fieldLink RX2 56 "FourTrackDeck" "latestStatus" "I", Cond.methodLink RX2 107 yX2_tick, Cond.instanceMethod yX2_tick, Cond.selects RX2 yX2_tick yX2_tick, Cond.code yX2_tick cX2_tick 3 none, Cond.fieldLink RX2 22 "FourTrackDeck" "tapeAt" "I", Cond.methodLink RX2 135 yX2_moveHead, Cond.instanceMethod yX2_moveHead, Cond.selects RX2 yX2_moveHead yX2_moveHead, Cond.code yX2_moveHead cX2_moveHead 7 (some .int), Cond.fieldLink RX2 29 "FourTrackDeck" "modes" "[I", Cond.fieldLink RX2 32 "FourTrackDeck" "meters" "[I", Cond.fieldLink RX2 35 "FourTrackDeck" "sourceNumber" "I"]
def wsX2_run_r2 : List Cond := [Cond.fieldLink RX2 38 "FourTrackDeck" "sourceStep" "I", Cond.methodLink RX2 70 yX2_trackOf, Cond.instanceMethod yX2_trackOf, Cond.selects RX2 yX2_trackOf yX2_trackOf, Cond.code yX2_trackOf cX2_trackOf 4 (some (.object "FourTrackDeck$Track")), Cond.methodLink RX2 83 yX2_reelOf, Cond.instanceMethod yX2_reelOf, Cond.selects RX2 yX2_reelOf yX2_reelOf, Cond.code yX2_reelOf cX2_reelOf 2 (some (.object "FourTrackDeck$Reel")), Cond.fieldLink RX2 11 "FourTrackDeck" "reels" "[LFourTrackDeck$Reel;", Cond.methodLink RX2 87 yX2_isTrack, Cond.static yX2_isTrack, Cond.code yX2_isTrack cX2_isTrack 1 (some .boolean), Cond.methodLink RX2 95 yX2_placeOfHead, Cond.instanceMethod yX2_placeOfHead, Cond.selects RX2 yX2_placeOfHead yX2_placeOfHead, Cond.code yX2_placeOfHead cX2_placeOfHead 2 (some .int), Cond.fieldLink RX2 25 "FourTrackDeck" "offsets" "[I", Cond.instanceMethod yX1_faultAt, Cond.initialized RX1, Cond.selects RX1 yX1_faultAt yX1_faultAt, Cond.code yX1_faultAt cX1_faultAt 2 (some .int), Cond.fieldLink RX1 19 "FourTrackDeck$Track" "isThere" "Z", Cond.fieldLink RX1 15 "FourTrackDeck$Track" "numbers" "[I"]
def wsX2_run_r3 : List Cond := [Cond.instanceMethod yX1_numberAt, Cond.selects RX1 yX1_numberAt yX1_numberAt, Cond.code yX1_numberAt cX1_numberAt 2 (some .int), Cond.methodLink RX1 29 yX1_faultAt, Cond.instanceMethod yX1_put, Cond.selects RX1 yX1_put yX1_put, Cond.code yX1_put cX1_put 3 none, Cond.methodLink RX1 33 yX1_asTrackHasIt, Cond.instanceMethod yX1_asTrackHasIt, Cond.selects RX1 yX1_asTrackHasIt yX1_asTrackHasIt, Cond.code yX1_asTrackHasIt cX1_asTrackHasIt 2 (some .int), Cond.fieldLink RX1 9 "FourTrackDeck$Track" "kind" "I", Cond.constant RX1 43 (65535), Cond.constant RX1 44 (32768), Cond.methodLink RX1 45 Lib.Math.min.name, Cond.static Lib.Math.min.name, Cond.initialized "java/lang/Math", Cond.code Lib.Math.min.name Lib.Math.min.code 2 (some .int), Cond.methodLink RX1 51 Lib.Math.max.name, Cond.static Lib.Math.max.name, Cond.code Lib.Math.max.name Lib.Math.max.code 2 (some .int)]
def wsX2_run : List Cond := .code yX2_run cX2_run 3 (some .int) :: ((wsX2_run_r1 ++ (wsX2_run_r2 ++ wsX2_run_r3)) ++ wsX20 ++ wsX00 ++ wsX10)
def wsX2_firstFault : List Cond := .code yX2_firstFault cX2_firstFault 2 (some .int) :: ([])
def wsX2_dub_r1 : List Cond := [Cond.fieldLink RX2 22 "FourTrackDeck" "tapeAt" "I", Cond.methodLink RX2 70 yX2_trackOf, Cond.instanceMethod yX2_trackOf, Cond.selects RX2 yX2_trackOf yX2_trackOf, Cond.initialized RX2, Cond.code yX2_trackOf cX2_trackOf 4 (some (.object "FourTrackDeck$Track")), Cond.methodLink RX2 83 yX2_reelOf, Cond.instanceMethod yX2_reelOf, Cond.selects RX2 yX2_reelOf yX2_reelOf, Cond.code yX2_reelOf cX2_reelOf 2 (some (.object "FourTrackDeck$Reel")), Cond.fieldLink RX2 11 "FourTrackDeck" "reels" "[LFourTrackDeck$Reel;", Cond.methodLink RX2 87 yX2_isTrack, Cond.static yX2_isTrack, Cond.code yX2_isTrack cX2_isTrack 1 (some .boolean), Cond.methodLink RX2 59 yX2_isWithin, Cond.static yX2_isWithin, Cond.code yX2_isWithin cX2_isWithin 3 (some .boolean), Cond.methodLink RX2 63 yX2_end, Cond.instanceMethod yX2_end, Cond.selects RX2 yX2_end yX2_end, Cond.code yX2_end cX2_end 3 (some .int), Cond.fieldLink RX2 56 "FourTrackDeck" "latestStatus" "I", Cond.instanceMethod yX1_faultAt, Cond.initialized RX1]
def wsX2_dub_r2 : List Cond := [Cond.selects RX1 yX1_faultAt yX1_faultAt, Cond.code yX1_faultAt cX1_faultAt 2 (some .int), Cond.fieldLink RX1 19 "FourTrackDeck$Track" "isThere" "Z", Cond.fieldLink RX1 15 "FourTrackDeck$Track" "numbers" "[I", Cond.methodLink RX2 110 yX2_firstFault, Cond.static yX2_firstFault, Cond.code yX2_firstFault cX2_firstFault 2 (some .int), Cond.instanceMethod yX1_numberAt, Cond.selects RX1 yX1_numberAt yX1_numberAt, Cond.code yX1_numberAt cX1_numberAt 2 (some .int), Cond.methodLink RX1 29 yX1_faultAt, Cond.instanceMethod yX1_put, Cond.selects RX1 yX1_put yX1_put, Cond.code yX1_put cX1_put 3 none, Cond.methodLink RX1 33 yX1_asTrackHasIt, Cond.instanceMethod yX1_asTrackHasIt, Cond.selects RX1 yX1_asTrackHasIt yX1_asTrackHasIt, Cond.code yX1_asTrackHasIt cX1_asTrackHasIt 2 (some .int), Cond.fieldLink RX1 9 "FourTrackDeck$Track" "kind" "I", Cond.constant RX1 43 (65535), Cond.constant RX1 44 (32768), Cond.methodLink RX1 45 Lib.Math.min.name, Cond.static Lib.Math.min.name, Cond.initialized "java/lang/Math"]
def wsX2_dub_r3 : List Cond := [Cond.code Lib.Math.min.name Lib.Math.min.code 2 (some .int), Cond.methodLink RX1 51 Lib.Math.max.name, Cond.static Lib.Math.max.name, Cond.code Lib.Math.max.name Lib.Math.max.code 2 (some .int)]
def wsX2_dub : List Cond := .code yX2_dub cX2_dub 11 (some .int) :: ((wsX2_dub_r1 ++ (wsX2_dub_r2 ++ wsX2_dub_r3)) ++ wsX20 ++ wsX00 ++ wsX10)
def wsX2_turn_r1 : List Cond := [Cond.fieldLink RX2 19 "FourTrackDeck" "onDeck" "I", Cond.methodLink RX2 59 yX2_isWithin, Cond.static yX2_isWithin, Cond.initialized RX2, Cond.code yX2_isWithin cX2_isWithin 3 (some .boolean), Cond.methodLink RX2 63 yX2_end, Cond.instanceMethod yX2_end, Cond.selects RX2 yX2_end yX2_end, Cond.code yX2_end cX2_end 3 (some .int), Cond.fieldLink RX2 56 "FourTrackDeck" "latestStatus" "I", Cond.methodLink RX2 70 yX2_trackOf, Cond.instanceMethod yX2_trackOf, Cond.selects RX2 yX2_trackOf yX2_trackOf, Cond.code yX2_trackOf cX2_trackOf 4 (some (.object "FourTrackDeck$Track")), Cond.methodLink RX2 83 yX2_reelOf, Cond.instanceMethod yX2_reelOf, Cond.selects RX2 yX2_reelOf yX2_reelOf, Cond.code yX2_reelOf cX2_reelOf 2 (some (.object "FourTrackDeck$Reel")), Cond.fieldLink RX2 11 "FourTrackDeck" "reels" "[LFourTrackDeck$Reel;", Cond.methodLink RX2 87 yX2_isTrack, Cond.static yX2_isTrack, Cond.code yX2_isTrack cX2_isTrack 1 (some .boolean), Cond.methodLink RX2 91 yX2_whyNoneUnderHead, Cond.instanceMethod yX2_whyNoneUnderHead]
def wsX2_turn_r2 : List Cond := [Cond.selects RX2 yX2_whyNoneUnderHead yX2_whyNoneUnderHead, Cond.code yX2_whyNoneUnderHead cX2_whyNoneUnderHead 2 (some .int), Cond.methodLink RX2 95 yX2_placeOfHead, Cond.instanceMethod yX2_placeOfHead, Cond.selects RX2 yX2_placeOfHead yX2_placeOfHead, Cond.code yX2_placeOfHead cX2_placeOfHead 2 (some .int), Cond.fieldLink RX2 22 "FourTrackDeck" "tapeAt" "I", Cond.fieldLink RX2 25 "FourTrackDeck" "offsets" "[I", Cond.instanceMethod yX1_faultAt, Cond.initialized RX1, Cond.selects RX1 yX1_faultAt yX1_faultAt, Cond.code yX1_faultAt cX1_faultAt 2 (some .int), Cond.fieldLink RX1 19 "FourTrackDeck$Track" "isThere" "Z", Cond.fieldLink RX1 15 "FourTrackDeck$Track" "numbers" "[I", Cond.methodLink RX2 110 yX2_firstFault, Cond.static yX2_firstFault, Cond.code yX2_firstFault cX2_firstFault 2 (some .int), Cond.instanceMethod yX1_exchange, Cond.selects RX1 yX1_exchange yX1_exchange, Cond.code yX1_exchange cX1_exchange 4 none, Cond.methodLink RX1 36 yX1_numberAt, Cond.instanceMethod yX1_numberAt, Cond.selects RX1 yX1_numberAt yX1_numberAt, Cond.code yX1_numberAt cX1_numberAt 2 (some .int)]
def wsX2_turn_r3 : List Cond := [Cond.methodLink RX1 29 yX1_faultAt, Cond.methodLink RX1 39 yX1_put, Cond.instanceMethod yX1_put, Cond.selects RX1 yX1_put yX1_put, Cond.code yX1_put cX1_put 3 none, Cond.methodLink RX1 33 yX1_asTrackHasIt, Cond.instanceMethod yX1_asTrackHasIt, Cond.selects RX1 yX1_asTrackHasIt yX1_asTrackHasIt, Cond.code yX1_asTrackHasIt cX1_asTrackHasIt 2 (some .int), Cond.fieldLink RX1 9 "FourTrackDeck$Track" "kind" "I", Cond.constant RX1 43 (65535), Cond.constant RX1 44 (32768), Cond.methodLink RX1 45 Lib.Math.min.name, Cond.static Lib.Math.min.name, Cond.initialized "java/lang/Math", Cond.code Lib.Math.min.name Lib.Math.min.code 2 (some .int), Cond.methodLink RX1 51 Lib.Math.max.name, Cond.static Lib.Math.max.name, Cond.code Lib.Math.max.name Lib.Math.max.code 2 (some .int)]
def wsX2_turn : List Cond := .code yX2_turn cX2_turn 9 (some .int) :: ((wsX2_turn_r1 ++ (wsX2_turn_r2 ++ wsX2_turn_r3)) ++ wsX20 ++ wsX00 ++ wsX10)
def wsX2_scan_r1 : List Cond := [Cond.fieldLink RX2 19 "FourTrackDeck" "onDeck" "I", Cond.methodLink RX2 70 yX2_trackOf, Cond.instanceMethod yX2_trackOf, Cond.selects RX2 yX2_trackOf yX2_trackOf, Cond.initialized RX2, Cond.code yX2_trackOf cX2_trackOf 4 (some (.object "FourTrackDeck$Track")), Cond.methodLink RX2 83 yX2_reelOf, Cond.instanceMethod yX2_reelOf, Cond.selects RX2 yX2_reelOf yX2_reelOf, Cond.code yX2_reelOf cX2_reelOf 2 (some (.object "FourTrackDeck$Reel")), Cond.fieldLink RX2 11 "FourTrackDeck" "reels" "[LFourTrackDeck$Reel;", Cond.methodLink RX2 87 yX2_isTrack, Cond.static yX2_isTrack, Cond.code yX2_isTrack cX2_isTrack 1 (some .boolean), Cond.methodLink RX2 59 yX2_isWithin, Cond.static yX2_isWithin, Cond.code yX2_isWithin cX2_isWithin 3 (some .boolean), Cond.methodLink RX2 91 yX2_whyNoneUnderHead, Cond.instanceMethod yX2_whyNoneUnderHead, Cond.selects RX2 yX2_whyNoneUnderHead yX2_whyNoneUnderHead, Cond.code yX2_whyNoneUnderHead cX2_whyNoneUnderHead 2 (some .int), Cond.methodLink RX2 63 yX2_end, Cond.instanceMethod yX2_end, Cond.selects RX2 yX2_end yX2_end]
def wsX2_scan_r2 : List Cond := [Cond.code yX2_end cX2_end 3 (some .int), Cond.fieldLink RX2 56 "FourTrackDeck" "latestStatus" "I", Cond.methodLink RX2 95 yX2_placeOfHead, Cond.instanceMethod yX2_placeOfHead, Cond.selects RX2 yX2_placeOfHead yX2_placeOfHead, Cond.code yX2_placeOfHead cX2_placeOfHead 2 (some .int), Cond.fieldLink RX2 22 "FourTrackDeck" "tapeAt" "I", Cond.fieldLink RX2 25 "FourTrackDeck" "offsets" "[I", Cond.instanceMethod yX1_faultAt, Cond.initialized RX1, Cond.selects RX1 yX1_faultAt yX1_faultAt, Cond.code yX1_faultAt cX1_faultAt 2 (some .int), Cond.fieldLink RX1 19 "FourTrackDeck$Track" "isThere" "Z", Cond.fieldLink RX1 15 "FourTrackDeck$Track" "numbers" "[I", Cond.instanceMethod yX1_numberAt, Cond.selects RX1 yX1_numberAt yX1_numberAt, Cond.code yX1_numberAt cX1_numberAt 2 (some .int), Cond.methodLink RX1 29 yX1_faultAt]
def wsX2_scan : List Cond := .code yX2_scan cX2_scan 7 (some .int) :: ((wsX2_scan_r1 ++ wsX2_scan_r2) ++ wsX20 ++ wsX00 ++ wsX10)
def wsX2_sheet : List Cond := .code yX2_sheet cX2_sheet 3 (some .int) :: ([.fieldLink RX2 44 "FourTrackDeck" "sheetRows" "I", .fieldLink RX2 47 "FourTrackDeck" "sheetWidth" "I", .fieldLink RX2 41 "FourTrackDeck" "cells" "[I", .methodLink RX2 63 yX2_end, .instanceMethod yX2_end, .selects RX2 yX2_end yX2_end, .initialized RX2, .code yX2_end cX2_end 3 (some .int), .fieldLink RX2 56 "FourTrackDeck" "latestStatus" "I", .methodLink RX2 116 yJ7_fill_53178, .static yJ7_fill_53178, .initialized RJ7, .code yJ7_fill_53178 cJ7_fill_53178 4 none] ++ wsX20)
def wsX2_faultOfCell : List Cond := .code yX2_faultOfCell cX2_faultOfCell 4 (some .int) :: ([.fieldLink RX2 44 "FourTrackDeck" "sheetRows" "I", .fieldLink RX2 47 "FourTrackDeck" "sheetWidth" "I"] ++ wsX20)
def wsX2_indexOfCell : List Cond := .code yX2_indexOfCell cX2_indexOfCell 2 (some .int) :: ([])
def wsX2_cue : List Cond := .code yX2_cue cX2_cue 7 (some .int) :: ([.fieldLink RX2 41 "FourTrackDeck" "cells" "[I", .methodLink RX2 122 yX2_faultOfCell, .instanceMethod yX2_faultOfCell, .selects RX2 yX2_faultOfCell yX2_faultOfCell, .initialized RX2, .code yX2_faultOfCell cX2_faultOfCell 4 (some .int), .fieldLink RX2 44 "FourTrackDeck" "sheetRows" "I", .fieldLink RX2 47 "FourTrackDeck" "sheetWidth" "I", .methodLink RX2 63 yX2_end, .instanceMethod yX2_end, .selects RX2 yX2_end yX2_end, .code yX2_end cX2_end 3 (some .int), .fieldLink RX2 56 "FourTrackDeck" "latestStatus" "I", .methodLink RX2 125 yX2_indexOfCell, .static yX2_indexOfCell, .code yX2_indexOfCell cX2_indexOfCell 2 (some .int)] ++ wsX20)
def wsX2_seek : List Cond := .code yX2_seek cX2_seek 4 (some .int) :: ([.fieldLink RX2 22 "FourTrackDeck" "tapeAt" "I", .fieldLink RX2 41 "FourTrackDeck" "cells" "[I", .methodLink RX2 122 yX2_faultOfCell, .instanceMethod yX2_faultOfCell, .selects RX2 yX2_faultOfCell yX2_faultOfCell, .initialized RX2, .code yX2_faultOfCell cX2_faultOfCell 4 (some .int), .fieldLink RX2 44 "FourTrackDeck" "sheetRows" "I", .fieldLink RX2 47 "FourTrackDeck" "sheetWidth" "I", .methodLink RX2 63 yX2_end, .instanceMethod yX2_end, .selects RX2 yX2_end yX2_end, .code yX2_end cX2_end 3 (some .int), .fieldLink RX2 56 "FourTrackDeck" "latestStatus" "I", .methodLink RX2 125 yX2_indexOfCell, .static yX2_indexOfCell, .code yX2_indexOfCell cX2_indexOfCell 2 (some .int)] ++ wsX20)
def wsX2_trip : List Cond := .code yX2_trip cX2_trip 2 (some .int) :: ([.fieldLink RX2 50 "FourTrackDeck" "tripTrack" "I", .fieldLink RX2 53 "FourTrackDeck" "tripStatus" "I"] ++ wsX20)
def wsX2_meter : List Cond := .code yX2_meter cX2_meter 2 (some .int) :: ([.fieldLink RX2 32 "FourTrackDeck" "meters" "[I", .methodLink RX2 87 yX2_isTrack, .static yX2_isTrack, .initialized RX2, .code yX2_isTrack cX2_isTrack 1 (some .boolean), .methodLink RX2 59 yX2_isWithin, .static yX2_isWithin, .code yX2_isWithin cX2_isWithin 3 (some .boolean)] ++ wsX20)
def wsX2_tracksThere : List Cond := .code yX2_tracksThere cX2_tracksThere 3 (some .int) :: ([.methodLink RX2 83 yX2_reelOf, .instanceMethod yX2_reelOf, .selects RX2 yX2_reelOf yX2_reelOf, .initialized RX2, .code yX2_reelOf cX2_reelOf 2 (some (.object "FourTrackDeck$Reel")), .fieldLink RX2 11 "FourTrackDeck" "reels" "[LFourTrackDeck$Reel;", .instanceMethod yX0_bitsOfTracks, .initialized RX0, .selects RX0 yX0_bitsOfTracks yX0_bitsOfTracks, .code yX0_bitsOfTracks cX0_bitsOfTracks 3 (some .int), .fieldLink RX0 11 "FourTrackDeck$Reel" "tracks" "[LFourTrackDeck$Track;"] ++ wsX20 ++ wsX00 ++ wsX10)
def wsX2_count : List Cond := .code yX2_count cX2_count 2 (some .int) :: ([.fieldLink RX2 15 "FourTrackDeck" "reelsMade" "I", .fieldLink RX2 19 "FourTrackDeck" "onDeck" "I", .fieldLink RX2 22 "FourTrackDeck" "tapeAt" "I", .fieldLink RX2 35 "FourTrackDeck" "sourceNumber" "I", .fieldLink RX2 44 "FourTrackDeck" "sheetRows" "I", .fieldLink RX2 47 "FourTrackDeck" "sheetWidth" "I", .methodLink RX2 128 yX2_tracksThere, .instanceMethod yX2_tracksThere, .selects RX2 yX2_tracksThere yX2_tracksThere, .initialized RX2, .code yX2_tracksThere cX2_tracksThere 3 (some .int), .methodLink RX2 83 yX2_reelOf, .instanceMethod yX2_reelOf, .selects RX2 yX2_reelOf yX2_reelOf, .code yX2_reelOf cX2_reelOf 2 (some (.object "FourTrackDeck$Reel")), .fieldLink RX2 11 "FourTrackDeck" "reels" "[LFourTrackDeck$Reel;", .instanceMethod yX0_bitsOfTracks, .initialized RX0, .selects RX0 yX0_bitsOfTracks yX0_bitsOfTracks, .code yX0_bitsOfTracks cX0_bitsOfTracks 3 (some .int), .fieldLink RX0 11 "FourTrackDeck$Reel" "tracks" "[LFourTrackDeck$Track;"] ++ wsX20 ++ wsX00 ++ wsX10)
def wsX2_status : List Cond := .code yX2_status cX2_status 1 (some .int) :: ([.fieldLink RX2 56 "FourTrackDeck" "latestStatus" "I"] ++ wsX20)
def wsX3_init : List Cond := .code yX3_init cX3_init 1 none :: ([.methodLink RX3 1 objectInit, .instanceMethod objectInit, .code objectInit ⟨#[0xb1]⟩ 1 none, .arrayClass .int, .fieldLink RX3 7 "FourTrackDeckModel" "length" "[I", .fieldLink RX3 13 "FourTrackDeckModel" "there" "[I", .fieldLink RX3 16 "FourTrackDeckModel" "number" "[I", .fieldLink RX3 19 "FourTrackDeckModel" "onDeck" "I", .fieldLink RX3 23 "FourTrackDeckModel" "offset" "[I", .fieldLink RX3 26 "FourTrackDeckModel" "mode" "[I", .fieldLink RX3 29 "FourTrackDeckModel" "meter" "[I", .fieldLink RX3 32 "FourTrackDeckModel" "tripTrack" "I", .fieldLink RX3 35 "FourTrackDeckModel" "rows" "I", .fieldLink RX3 38 "FourTrackDeckModel" "cells" "I", .fieldLink RX3 41 "FourTrackDeckModel" "cue" "[I"] ++ wsX30)
def wsX3_done : List Cond := .code yX3_done cX3_done 2 (some .int) :: ([.fieldLink RX3 44 "FourTrackDeckModel" "status" "I"] ++ wsX30)
def wsX3_fails : List Cond := .code yX3_fails cX3_fails 3 (some .int) :: ([.fieldLink RX3 44 "FourTrackDeckModel" "status" "I"] ++ wsX30)
def wsX3_isReel : List Cond := .code yX3_isReel cX3_isReel 2 (some .boolean) :: ([.fieldLink RX3 47 "FourTrackDeckModel" "reels" "I"] ++ wsX30)
def wsX3_isTrack : List Cond := .code yX3_isTrack cX3_isTrack 2 (some .boolean) :: ([])
def wsX3_isThere : List Cond := .code yX3_isThere cX3_isThere 3 (some .boolean) :: ([.fieldLink RX3 13 "FourTrackDeckModel" "there" "[I"] ++ wsX30)
def wsX3_at : List Cond := .code yX3_at cX3_at 4 (some .int) :: ([])
def wsX3_fault : List Cond := .code yX3_fault cX3_fault 4 (some .int) :: ([.fieldLink RX3 7 "FourTrackDeckModel" "length" "[I", .methodLink RX3 50 yX3_isThere, .instanceMethod yX3_isThere, .selects RX3 yX3_isThere yX3_isThere, .initialized RX3, .code yX3_isThere cX3_isThere 3 (some .boolean), .fieldLink RX3 13 "FourTrackDeckModel" "there" "[I"] ++ wsX30)
def wsX3_fit : List Cond := .code yX3_fit cX3_fit 3 (some .int) :: ([.constant RX3 54 (65535), .constant RX3 55 (32768)])
def wsX3_place : List Cond := .code yX3_place cX3_place 2 (some .int) :: ([.fieldLink RX3 56 "FourTrackDeckModel" "p" "I", .fieldLink RX3 23 "FourTrackDeckModel" "offset" "[I"] ++ wsX30)
def wsX3_reel : List Cond := .code yX3_reel cX3_reel 3 (some .int) :: ([.fieldLink RX3 47 "FourTrackDeckModel" "reels" "I", .fieldLink RX3 7 "FourTrackDeckModel" "length" "[I", .fieldLink RX3 13 "FourTrackDeckModel" "there" "[I", .methodLink RX3 59 yX3_fails, .instanceMethod yX3_fails, .selects RX3 yX3_fails yX3_fails, .initialized RX3, .code yX3_fails cX3_fails 3 (some .int), .fieldLink RX3 44 "FourTrackDeckModel" "status" "I", .methodLink RX3 63 yX3_done, .instanceMethod yX3_done, .selects RX3 yX3_done yX3_done, .code yX3_done cX3_done 2 (some .int)] ++ wsX30)
def wsX3_strip : List Cond := .code yX3_strip cX3_strip 4 (some .int) :: ([.fieldLink RX3 13 "FourTrackDeckModel" "there" "[I", .methodLink RX3 67 yX3_isReel, .instanceMethod yX3_isReel, .selects RX3 yX3_isReel yX3_isReel, .initialized RX3, .code yX3_isReel cX3_isReel 2 (some .boolean), .fieldLink RX3 47 "FourTrackDeckModel" "reels" "I", .methodLink RX3 71 yX3_isTrack, .instanceMethod yX3_isTrack, .selects RX3 yX3_isTrack yX3_isTrack, .code yX3_isTrack cX3_isTrack 2 (some .boolean), .methodLink RX3 59 yX3_fails, .instanceMethod yX3_fails, .selects RX3 yX3_fails yX3_fails, .code yX3_fails cX3_fails 3 (some .int), .fieldLink RX3 44 "FourTrackDeckModel" "status" "I", .methodLink RX3 50 yX3_isThere, .instanceMethod yX3_isThere, .selects RX3 yX3_isThere yX3_isThere, .code yX3_isThere cX3_isThere 3 (some .boolean), .methodLink RX3 63 yX3_done, .instanceMethod yX3_done, .selects RX3 yX3_done yX3_done, .code yX3_done cX3_done 2 (some .int)] ++ wsX30)
def wsX3_lay_r1 : List Cond := [Cond.fieldLink RX3 13 "FourTrackDeckModel" "there" "[I", Cond.fieldLink RX3 16 "FourTrackDeckModel" "number" "[I", Cond.methodLink RX3 67 yX3_isReel, Cond.instanceMethod yX3_isReel, Cond.selects RX3 yX3_isReel yX3_isReel, Cond.initialized RX3, Cond.code yX3_isReel cX3_isReel 2 (some .boolean), Cond.fieldLink RX3 47 "FourTrackDeckModel" "reels" "I", Cond.methodLink RX3 71 yX3_isTrack, Cond.instanceMethod yX3_isTrack, Cond.selects RX3 yX3_isTrack yX3_isTrack, Cond.code yX3_isTrack cX3_isTrack 2 (some .boolean), Cond.methodLink RX3 59 yX3_fails, Cond.instanceMethod yX3_fails, Cond.selects RX3 yX3_fails yX3_fails, Cond.code yX3_fails cX3_fails 3 (some .int), Cond.fieldLink RX3 44 "FourTrackDeckModel" "status" "I", Cond.methodLink RX3 50 yX3_isThere, Cond.instanceMethod yX3_isThere, Cond.selects RX3 yX3_isThere yX3_isThere, Cond.code yX3_isThere cX3_isThere 3 (some .boolean), Cond.methodLink RX3 74 yX3_at, Cond.instanceMethod yX3_at, Cond.selects RX3 yX3_at yX3_at]
def wsX3_lay_r2 : List Cond := [Cond.code yX3_at cX3_at 4 (some .int), Cond.methodLink RX3 63 yX3_done, Cond.instanceMethod yX3_done, Cond.selects RX3 yX3_done yX3_done, Cond.code yX3_done cX3_done 2 (some .int)]
def wsX3_lay : List Cond := .code yX3_lay cX3_lay 5 (some .int) :: ((wsX3_lay_r1 ++ wsX3_lay_r2) ++ wsX30)
def wsX3_thread : List Cond := .code yX3_thread cX3_thread 3 (some .int) :: ([.fieldLink RX3 19 "FourTrackDeckModel" "onDeck" "I", .methodLink RX3 67 yX3_isReel, .instanceMethod yX3_isReel, .selects RX3 yX3_isReel yX3_isReel, .initialized RX3, .code yX3_isReel cX3_isReel 2 (some .boolean), .fieldLink RX3 47 "FourTrackDeckModel" "reels" "I", .methodLink RX3 59 yX3_fails, .instanceMethod yX3_fails, .selects RX3 yX3_fails yX3_fails, .code yX3_fails cX3_fails 3 (some .int), .fieldLink RX3 44 "FourTrackDeckModel" "status" "I", .methodLink RX3 63 yX3_done, .instanceMethod yX3_done, .selects RX3 yX3_done yX3_done, .code yX3_done cX3_done 2 (some .int)] ++ wsX30)
def wsX3_head : List Cond := .code yX3_head cX3_head 4 (some .int) :: ([.fieldLink RX3 23 "FourTrackDeckModel" "offset" "[I", .methodLink RX3 71 yX3_isTrack, .instanceMethod yX3_isTrack, .selects RX3 yX3_isTrack yX3_isTrack, .initialized RX3, .code yX3_isTrack cX3_isTrack 2 (some .boolean), .methodLink RX3 59 yX3_fails, .instanceMethod yX3_fails, .selects RX3 yX3_fails yX3_fails, .code yX3_fails cX3_fails 3 (some .int), .fieldLink RX3 44 "FourTrackDeckModel" "status" "I", .methodLink RX3 63 yX3_done, .instanceMethod yX3_done, .selects RX3 yX3_done yX3_done, .code yX3_done cX3_done 2 (some .int)] ++ wsX30)
def wsX3_arm : List Cond := .code yX3_arm cX3_arm 4 (some .int) :: ([.fieldLink RX3 26 "FourTrackDeckModel" "mode" "[I", .methodLink RX3 71 yX3_isTrack, .instanceMethod yX3_isTrack, .selects RX3 yX3_isTrack yX3_isTrack, .initialized RX3, .code yX3_isTrack cX3_isTrack 2 (some .boolean), .methodLink RX3 59 yX3_fails, .instanceMethod yX3_fails, .selects RX3 yX3_fails yX3_fails, .code yX3_fails cX3_fails 3 (some .int), .fieldLink RX3 44 "FourTrackDeckModel" "status" "I", .methodLink RX3 63 yX3_done, .instanceMethod yX3_done, .selects RX3 yX3_done yX3_done, .code yX3_done cX3_done 2 (some .int)] ++ wsX30)
def wsX3_source : List Cond := .code yX3_source cX3_source 4 (some .int) :: ([.fieldLink RX3 78 "FourTrackDeckModel" "s" "I", .fieldLink RX3 81 "FourTrackDeckModel" "step" "I", .methodLink RX3 63 yX3_done, .instanceMethod yX3_done, .selects RX3 yX3_done yX3_done, .initialized RX3, .code yX3_done cX3_done 2 (some .int), .fieldLink RX3 44 "FourTrackDeckModel" "status" "I"] ++ wsX30)
def wsX3_wind : List Cond := .code yX3_wind cX3_wind 2 (some .int) :: ([.fieldLink RX3 56 "FourTrackDeckModel" "p" "I", .methodLink RX3 59 yX3_fails, .instanceMethod yX3_fails, .selects RX3 yX3_fails yX3_fails, .initialized RX3, .code yX3_fails cX3_fails 3 (some .int), .fieldLink RX3 44 "FourTrackDeckModel" "status" "I", .methodLink RX3 63 yX3_done, .instanceMethod yX3_done, .selects RX3 yX3_done yX3_done, .code yX3_done cX3_done 2 (some .int)] ++ wsX30)
def wsX3_headFault : List Cond := .code yX3_headFault cX3_headFault 2 (some .int) :: ([.fieldLink RX3 19 "FourTrackDeckModel" "onDeck" "I", .methodLink RX3 71 yX3_isTrack, .instanceMethod yX3_isTrack, .selects RX3 yX3_isTrack yX3_isTrack, .initialized RX3, .code yX3_isTrack cX3_isTrack 2 (some .boolean), .methodLink RX3 84 yX3_place, .instanceMethod yX3_place, .selects RX3 yX3_place yX3_place, .code yX3_place cX3_place 2 (some .int), .fieldLink RX3 56 "FourTrackDeckModel" "p" "I", .fieldLink RX3 23 "FourTrackDeckModel" "offset" "[I", .methodLink RX3 87 yX3_fault, .instanceMethod yX3_fault, .selects RX3 yX3_fault yX3_fault, .code yX3_fault cX3_fault 4 (some .int), .fieldLink RX3 7 "FourTrackDeckModel" "length" "[I", .methodLink RX3 50 yX3_isThere, .instanceMethod yX3_isThere, .selects RX3 yX3_isThere yX3_isThere, .code yX3_isThere cX3_isThere 3 (some .boolean), .fieldLink RX3 13 "FourTrackDeckModel" "there" "[I"] ++ wsX30)
def wsX3_read_r1 : List Cond := [Cond.fieldLink RX3 16 "FourTrackDeckModel" "number" "[I", Cond.fieldLink RX3 19 "FourTrackDeckModel" "onDeck" "I", Cond.methodLink RX3 90 yX3_headFault, Cond.instanceMethod yX3_headFault, Cond.selects RX3 yX3_headFault yX3_headFault, Cond.initialized RX3, Cond.code yX3_headFault cX3_headFault 2 (some .int), Cond.methodLink RX3 71 yX3_isTrack, Cond.instanceMethod yX3_isTrack, Cond.selects RX3 yX3_isTrack yX3_isTrack, Cond.code yX3_isTrack cX3_isTrack 2 (some .boolean), Cond.methodLink RX3 84 yX3_place, Cond.instanceMethod yX3_place, Cond.selects RX3 yX3_place yX3_place, Cond.code yX3_place cX3_place 2 (some .int), Cond.fieldLink RX3 56 "FourTrackDeckModel" "p" "I", Cond.fieldLink RX3 23 "FourTrackDeckModel" "offset" "[I", Cond.methodLink RX3 87 yX3_fault, Cond.instanceMethod yX3_fault, Cond.selects RX3 yX3_fault yX3_fault, Cond.code yX3_fault cX3_fault 4 (some .int), Cond.fieldLink RX3 7 "FourTrackDeckModel" "length" "[I", Cond.methodLink RX3 50 yX3_isThere, Cond.instanceMethod yX3_isThere]
def wsX3_read_r2 : List Cond := [Cond.selects RX3 yX3_isThere yX3_isThere, Cond.code yX3_isThere cX3_isThere 3 (some .boolean), Cond.fieldLink RX3 13 "FourTrackDeckModel" "there" "[I", Cond.methodLink RX3 59 yX3_fails, Cond.instanceMethod yX3_fails, Cond.selects RX3 yX3_fails yX3_fails, Cond.code yX3_fails cX3_fails 3 (some .int), Cond.fieldLink RX3 44 "FourTrackDeckModel" "status" "I", Cond.methodLink RX3 74 yX3_at, Cond.instanceMethod yX3_at, Cond.selects RX3 yX3_at yX3_at, Cond.code yX3_at cX3_at 4 (some .int), Cond.methodLink RX3 63 yX3_done, Cond.instanceMethod yX3_done, Cond.selects RX3 yX3_done yX3_done, Cond.code yX3_done cX3_done 2 (some .int)]
def wsX3_read : List Cond := .code yX3_read cX3_read 3 (some .int) :: ((wsX3_read_r1 ++ wsX3_read_r2) ++ wsX30)
def wsX3_write_r1 : List Cond := [Cond.fieldLink RX3 16 "FourTrackDeckModel" "number" "[I", Cond.fieldLink RX3 19 "FourTrackDeckModel" "onDeck" "I", Cond.methodLink RX3 90 yX3_headFault, Cond.instanceMethod yX3_headFault, Cond.selects RX3 yX3_headFault yX3_headFault, Cond.initialized RX3, Cond.code yX3_headFault cX3_headFault 2 (some .int), Cond.methodLink RX3 71 yX3_isTrack, Cond.instanceMethod yX3_isTrack, Cond.selects RX3 yX3_isTrack yX3_isTrack, Cond.code yX3_isTrack cX3_isTrack 2 (some .boolean), Cond.methodLink RX3 84 yX3_place, Cond.instanceMethod yX3_place, Cond.selects RX3 yX3_place yX3_place, Cond.code yX3_place cX3_place 2 (some .int), Cond.fieldLink RX3 56 "FourTrackDeckModel" "p" "I", Cond.fieldLink RX3 23 "FourTrackDeckModel" "offset" "[I", Cond.methodLink RX3 87 yX3_fault, Cond.instanceMethod yX3_fault, Cond.selects RX3 yX3_fault yX3_fault, Cond.code yX3_fault cX3_fault 4 (some .int), Cond.fieldLink RX3 7 "FourTrackDeckModel" "length" "[I", Cond.methodLink RX3 50 yX3_isThere, Cond.instanceMethod yX3_isThere]
def wsX3_write_r2 : List Cond := [Cond.selects RX3 yX3_isThere yX3_isThere, Cond.code yX3_isThere cX3_isThere 3 (some .boolean), Cond.fieldLink RX3 13 "FourTrackDeckModel" "there" "[I", Cond.methodLink RX3 59 yX3_fails, Cond.instanceMethod yX3_fails, Cond.selects RX3 yX3_fails yX3_fails, Cond.code yX3_fails cX3_fails 3 (some .int), Cond.fieldLink RX3 44 "FourTrackDeckModel" "status" "I", Cond.methodLink RX3 74 yX3_at, Cond.instanceMethod yX3_at, Cond.selects RX3 yX3_at yX3_at, Cond.code yX3_at cX3_at 4 (some .int), Cond.methodLink RX3 93 yX3_fit, Cond.instanceMethod yX3_fit, Cond.selects RX3 yX3_fit yX3_fit, Cond.code yX3_fit cX3_fit 3 (some .int), Cond.constant RX3 54 (65535), Cond.constant RX3 55 (32768), Cond.methodLink RX3 63 yX3_done, Cond.instanceMethod yX3_done, Cond.selects RX3 yX3_done yX3_done, Cond.code yX3_done cX3_done 2 (some .int)]
def wsX3_write : List Cond := .code yX3_write cX3_write 4 (some .int) :: ((wsX3_write_r1 ++ wsX3_write_r2) ++ wsX30)
def wsX3_act_r1 : List Cond := [Cond.fieldLink RX3 26 "FourTrackDeckModel" "mode" "[I", Cond.fieldLink RX3 19 "FourTrackDeckModel" "onDeck" "I", Cond.fieldLink RX3 29 "FourTrackDeckModel" "meter" "[I", Cond.fieldLink RX3 16 "FourTrackDeckModel" "number" "[I", Cond.fieldLink RX3 78 "FourTrackDeckModel" "s" "I", Cond.fieldLink RX3 81 "FourTrackDeckModel" "step" "I", Cond.methodLink RX3 84 yX3_place, Cond.instanceMethod yX3_place, Cond.selects RX3 yX3_place yX3_place, Cond.initialized RX3, Cond.code yX3_place cX3_place 2 (some .int), Cond.fieldLink RX3 56 "FourTrackDeckModel" "p" "I", Cond.fieldLink RX3 23 "FourTrackDeckModel" "offset" "[I", Cond.methodLink RX3 87 yX3_fault, Cond.instanceMethod yX3_fault, Cond.selects RX3 yX3_fault yX3_fault, Cond.code yX3_fault cX3_fault 4 (some .int), Cond.fieldLink RX3 7 "FourTrackDeckModel" "length" "[I", Cond.methodLink RX3 50 yX3_isThere, Cond.instanceMethod yX3_isThere, Cond.selects RX3 yX3_isThere yX3_isThere, Cond.code yX3_isThere cX3_isThere 3 (some .boolean), Cond.fieldLink RX3 13 "FourTrackDeckModel" "there" "[I", Cond.methodLink RX3 74 yX3_at]
def wsX3_act_r2 : List Cond := [Cond.instanceMethod yX3_at, Cond.selects RX3 yX3_at yX3_at, Cond.code yX3_at cX3_at 4 (some .int), Cond.methodLink RX3 93 yX3_fit, Cond.instanceMethod yX3_fit, Cond.selects RX3 yX3_fit yX3_fit, Cond.code yX3_fit cX3_fit 3 (some .int), Cond.constant RX3 54 (65535), Cond.constant RX3 55 (32768)]
def wsX3_act : List Cond := .code yX3_act cX3_act 4 (some .int) :: ((wsX3_act_r1 ++ wsX3_act_r2) ++ wsX30)
def wsX3_run_r1 : List Cond := [Cond.fieldLink RX3 19 "FourTrackDeckModel" "onDeck" "I", Cond.fieldLink RX3 32 "FourTrackDeckModel" "tripTrack" "I", Cond.fieldLink RX3 96 "FourTrackDeckModel" "tripStatus" "I", Cond.fieldLink RX3 56 "FourTrackDeckModel" "p" "I", Cond.methodLink RX3 59 yX3_fails, Cond.instanceMethod yX3_fails, Cond.selects RX3 yX3_fails yX3_fails, Cond.initialized RX3, Cond.code yX3_fails cX3_fails 3 (some .int), Cond.fieldLink RX3 44 "FourTrackDeckModel" "status" "I", Cond.methodLink RX3 99 yX3_act, Cond.instanceMethod yX3_act, Cond.selects RX3 yX3_act yX3_act, Cond.code yX3_act cX3_act 4 (some .int), Cond.fieldLink RX3 26 "FourTrackDeckModel" "mode" "[I", Cond.fieldLink RX3 29 "FourTrackDeckModel" "meter" "[I", Cond.fieldLink RX3 16 "FourTrackDeckModel" "number" "[I", Cond.fieldLink RX3 78 "FourTrackDeckModel" "s" "I", Cond.fieldLink RX3 81 "FourTrackDeckModel" "step" "I", Cond.methodLink RX3 84 yX3_place, Cond.instanceMethod yX3_place, Cond.selects RX3 yX3_place yX3_place, Cond.code yX3_place cX3_place 2 (some .int), Cond.fieldLink RX3 23 "FourTrackDeckModel" "offset" "[I"]
def wsX3_run_r2 : List Cond := [Cond.methodLink RX3 87 yX3_fault, Cond.instanceMethod yX3_fault, Cond.selects RX3 yX3_fault yX3_fault, Cond.code yX3_fault cX3_fault 4 (some .int), Cond.fieldLink RX3 7 "FourTrackDeckModel" "length" "[I", Cond.methodLink RX3 50 yX3_isThere, Cond.instanceMethod yX3_isThere, Cond.selects RX3 yX3_isThere yX3_isThere, Cond.code yX3_isThere cX3_isThere 3 (some .boolean), Cond.fieldLink RX3 13 "FourTrackDeckModel" "there" "[I", Cond.methodLink RX3 74 yX3_at, Cond.instanceMethod yX3_at, Cond.selects RX3 yX3_at yX3_at, Cond.code yX3_at cX3_at 4 (some .int), Cond.methodLink RX3 93 yX3_fit, Cond.instanceMethod yX3_fit, Cond.selects RX3 yX3_fit yX3_fit, Cond.code yX3_fit cX3_fit 3 (some .int), Cond.constant RX3 54 (65535), Cond.constant RX3 55 (32768), Cond.methodLink RX3 63 yX3_done, Cond.instanceMethod yX3_done, Cond.selects RX3 yX3_done yX3_done, Cond.code yX3_done cX3_done 2 (some .int)]
def wsX3_run : List Cond := .code yX3_run cX3_run 5 (some .int) :: ((wsX3_run_r1 ++ wsX3_run_r2) ++ wsX30)
def wsX3_dub_r1 : List Cond := [Cond.fieldLink RX3 56 "FourTrackDeckModel" "p" "I", Cond.fieldLink RX3 16 "FourTrackDeckModel" "number" "[I", Cond.methodLink RX3 67 yX3_isReel, Cond.instanceMethod yX3_isReel, Cond.selects RX3 yX3_isReel yX3_isReel, Cond.initialized RX3, Cond.code yX3_isReel cX3_isReel 2 (some .boolean), Cond.fieldLink RX3 47 "FourTrackDeckModel" "reels" "I", Cond.methodLink RX3 71 yX3_isTrack, Cond.instanceMethod yX3_isTrack, Cond.selects RX3 yX3_isTrack yX3_isTrack, Cond.code yX3_isTrack cX3_isTrack 2 (some .boolean), Cond.methodLink RX3 59 yX3_fails, Cond.instanceMethod yX3_fails, Cond.selects RX3 yX3_fails yX3_fails, Cond.code yX3_fails cX3_fails 3 (some .int), Cond.fieldLink RX3 44 "FourTrackDeckModel" "status" "I", Cond.methodLink RX3 87 yX3_fault, Cond.instanceMethod yX3_fault, Cond.selects RX3 yX3_fault yX3_fault, Cond.code yX3_fault cX3_fault 4 (some .int), Cond.fieldLink RX3 7 "FourTrackDeckModel" "length" "[I", Cond.methodLink RX3 50 yX3_isThere, Cond.instanceMethod yX3_isThere]
def wsX3_dub_r2 : List Cond := [Cond.selects RX3 yX3_isThere yX3_isThere, Cond.code yX3_isThere cX3_isThere 3 (some .boolean), Cond.fieldLink RX3 13 "FourTrackDeckModel" "there" "[I", Cond.methodLink RX3 74 yX3_at, Cond.instanceMethod yX3_at, Cond.selects RX3 yX3_at yX3_at, Cond.code yX3_at cX3_at 4 (some .int), Cond.methodLink RX3 93 yX3_fit, Cond.instanceMethod yX3_fit, Cond.selects RX3 yX3_fit yX3_fit, Cond.code yX3_fit cX3_fit 3 (some .int), Cond.constant RX3 54 (65535), Cond.constant RX3 55 (32768), Cond.methodLink RX3 63 yX3_done, Cond.instanceMethod yX3_done, Cond.selects RX3 yX3_done yX3_done, Cond.code yX3_done cX3_done 2 (some .int)]
def wsX3_dub : List Cond := .code yX3_dub cX3_dub 9 (some .int) :: ((wsX3_dub_r1 ++ wsX3_dub_r2) ++ wsX30)
def wsX3_turn_r1 : List Cond := [Cond.fieldLink RX3 19 "FourTrackDeckModel" "onDeck" "I", Cond.fieldLink RX3 16 "FourTrackDeckModel" "number" "[I", Cond.methodLink RX3 71 yX3_isTrack, Cond.instanceMethod yX3_isTrack, Cond.selects RX3 yX3_isTrack yX3_isTrack, Cond.initialized RX3, Cond.code yX3_isTrack cX3_isTrack 2 (some .boolean), Cond.methodLink RX3 59 yX3_fails, Cond.instanceMethod yX3_fails, Cond.selects RX3 yX3_fails yX3_fails, Cond.code yX3_fails cX3_fails 3 (some .int), Cond.fieldLink RX3 44 "FourTrackDeckModel" "status" "I", Cond.methodLink RX3 84 yX3_place, Cond.instanceMethod yX3_place, Cond.selects RX3 yX3_place yX3_place, Cond.code yX3_place cX3_place 2 (some .int), Cond.fieldLink RX3 56 "FourTrackDeckModel" "p" "I", Cond.fieldLink RX3 23 "FourTrackDeckModel" "offset" "[I", Cond.methodLink RX3 87 yX3_fault, Cond.instanceMethod yX3_fault, Cond.selects RX3 yX3_fault yX3_fault, Cond.code yX3_fault cX3_fault 4 (some .int), Cond.fieldLink RX3 7 "FourTrackDeckModel" "length" "[I", Cond.methodLink RX3 50 yX3_isThere]
def wsX3_turn_r2 : List Cond := [Cond.instanceMethod yX3_isThere, Cond.selects RX3 yX3_isThere yX3_isThere, Cond.code yX3_isThere cX3_isThere 3 (some .boolean), Cond.fieldLink RX3 13 "FourTrackDeckModel" "there" "[I", Cond.methodLink RX3 74 yX3_at, Cond.instanceMethod yX3_at, Cond.selects RX3 yX3_at yX3_at, Cond.code yX3_at cX3_at 4 (some .int), Cond.methodLink RX3 63 yX3_done, Cond.instanceMethod yX3_done, Cond.selects RX3 yX3_done yX3_done, Cond.code yX3_done cX3_done 2 (some .int)]
def wsX3_turn : List Cond := .code yX3_turn cX3_turn 9 (some .int) :: ((wsX3_turn_r1 ++ wsX3_turn_r2) ++ wsX30)
def wsX3_scan_r1 : List Cond := [Cond.fieldLink RX3 7 "FourTrackDeckModel" "length" "[I", Cond.fieldLink RX3 19 "FourTrackDeckModel" "onDeck" "I", Cond.fieldLink RX3 16 "FourTrackDeckModel" "number" "[I", Cond.methodLink RX3 90 yX3_headFault, Cond.instanceMethod yX3_headFault, Cond.selects RX3 yX3_headFault yX3_headFault, Cond.initialized RX3, Cond.code yX3_headFault cX3_headFault 2 (some .int), Cond.methodLink RX3 71 yX3_isTrack, Cond.instanceMethod yX3_isTrack, Cond.selects RX3 yX3_isTrack yX3_isTrack, Cond.code yX3_isTrack cX3_isTrack 2 (some .boolean), Cond.methodLink RX3 84 yX3_place, Cond.instanceMethod yX3_place, Cond.selects RX3 yX3_place yX3_place, Cond.code yX3_place cX3_place 2 (some .int), Cond.fieldLink RX3 56 "FourTrackDeckModel" "p" "I", Cond.fieldLink RX3 23 "FourTrackDeckModel" "offset" "[I", Cond.methodLink RX3 87 yX3_fault, Cond.instanceMethod yX3_fault, Cond.selects RX3 yX3_fault yX3_fault, Cond.code yX3_fault cX3_fault 4 (some .int), Cond.methodLink RX3 50 yX3_isThere, Cond.instanceMethod yX3_isThere]
def wsX3_scan_r2 : List Cond := [Cond.selects RX3 yX3_isThere yX3_isThere, Cond.code yX3_isThere cX3_isThere 3 (some .boolean), Cond.fieldLink RX3 13 "FourTrackDeckModel" "there" "[I", Cond.methodLink RX3 59 yX3_fails, Cond.instanceMethod yX3_fails, Cond.selects RX3 yX3_fails yX3_fails, Cond.code yX3_fails cX3_fails 3 (some .int), Cond.fieldLink RX3 44 "FourTrackDeckModel" "status" "I", Cond.methodLink RX3 74 yX3_at, Cond.instanceMethod yX3_at, Cond.selects RX3 yX3_at yX3_at, Cond.code yX3_at cX3_at 4 (some .int), Cond.methodLink RX3 63 yX3_done, Cond.instanceMethod yX3_done, Cond.selects RX3 yX3_done yX3_done, Cond.code yX3_done cX3_done 2 (some .int)]
def wsX3_scan : List Cond := .code yX3_scan cX3_scan 6 (some .int) :: ((wsX3_scan_r1 ++ wsX3_scan_r2) ++ wsX30)
def wsX3_sheet : List Cond := .code yX3_sheet cX3_sheet 4 (some .int) :: ([.fieldLink RX3 35 "FourTrackDeckModel" "rows" "I", .fieldLink RX3 38 "FourTrackDeckModel" "cells" "I", .fieldLink RX3 41 "FourTrackDeckModel" "cue" "[I", .methodLink RX3 59 yX3_fails, .instanceMethod yX3_fails, .selects RX3 yX3_fails yX3_fails, .initialized RX3, .code yX3_fails cX3_fails 3 (some .int), .fieldLink RX3 44 "FourTrackDeckModel" "status" "I", .methodLink RX3 63 yX3_done, .instanceMethod yX3_done, .selects RX3 yX3_done yX3_done, .code yX3_done cX3_done 2 (some .int)] ++ wsX30)
def wsX3_cellFault : List Cond := .code yX3_cellFault cX3_cellFault 3 (some .int) :: ([.fieldLink RX3 35 "FourTrackDeckModel" "rows" "I", .fieldLink RX3 38 "FourTrackDeckModel" "cells" "I"] ++ wsX30)
def wsX3_cue : List Cond := .code yX3_cue cX3_cue 6 (some .int) :: ([.fieldLink RX3 41 "FourTrackDeckModel" "cue" "[I", .methodLink RX3 102 yX3_cellFault, .instanceMethod yX3_cellFault, .selects RX3 yX3_cellFault yX3_cellFault, .initialized RX3, .code yX3_cellFault cX3_cellFault 3 (some .int), .fieldLink RX3 35 "FourTrackDeckModel" "rows" "I", .fieldLink RX3 38 "FourTrackDeckModel" "cells" "I", .methodLink RX3 59 yX3_fails, .instanceMethod yX3_fails, .selects RX3 yX3_fails yX3_fails, .code yX3_fails cX3_fails 3 (some .int), .fieldLink RX3 44 "FourTrackDeckModel" "status" "I", .methodLink RX3 63 yX3_done, .instanceMethod yX3_done, .selects RX3 yX3_done yX3_done, .code yX3_done cX3_done 2 (some .int)] ++ wsX30)
def wsX3_seek : List Cond := .code yX3_seek cX3_seek 4 (some .int) :: ([.fieldLink RX3 56 "FourTrackDeckModel" "p" "I", .fieldLink RX3 41 "FourTrackDeckModel" "cue" "[I", .methodLink RX3 102 yX3_cellFault, .instanceMethod yX3_cellFault, .selects RX3 yX3_cellFault yX3_cellFault, .initialized RX3, .code yX3_cellFault cX3_cellFault 3 (some .int), .fieldLink RX3 35 "FourTrackDeckModel" "rows" "I", .fieldLink RX3 38 "FourTrackDeckModel" "cells" "I", .methodLink RX3 59 yX3_fails, .instanceMethod yX3_fails, .selects RX3 yX3_fails yX3_fails, .code yX3_fails cX3_fails 3 (some .int), .fieldLink RX3 44 "FourTrackDeckModel" "status" "I", .methodLink RX3 63 yX3_done, .instanceMethod yX3_done, .selects RX3 yX3_done yX3_done, .code yX3_done cX3_done 2 (some .int)] ++ wsX30)
def wsX3_trip : List Cond := .code yX3_trip cX3_trip 2 (some .int) :: ([.fieldLink RX3 32 "FourTrackDeckModel" "tripTrack" "I", .fieldLink RX3 96 "FourTrackDeckModel" "tripStatus" "I"] ++ wsX30)
def wsX3_meter : List Cond := .code yX3_meter cX3_meter 2 (some .int) :: ([.fieldLink RX3 29 "FourTrackDeckModel" "meter" "[I", .methodLink RX3 71 yX3_isTrack, .instanceMethod yX3_isTrack, .selects RX3 yX3_isTrack yX3_isTrack, .initialized RX3, .code yX3_isTrack cX3_isTrack 2 (some .boolean)] ++ wsX30)
def wsX3_count : List Cond := .code yX3_count cX3_count 2 (some .int) :: ([.fieldLink RX3 13 "FourTrackDeckModel" "there" "[I", .fieldLink RX3 47 "FourTrackDeckModel" "reels" "I", .fieldLink RX3 19 "FourTrackDeckModel" "onDeck" "I", .fieldLink RX3 56 "FourTrackDeckModel" "p" "I", .fieldLink RX3 78 "FourTrackDeckModel" "s" "I", .fieldLink RX3 35 "FourTrackDeckModel" "rows" "I", .fieldLink RX3 38 "FourTrackDeckModel" "cells" "I", .methodLink RX3 67 yX3_isReel, .instanceMethod yX3_isReel, .selects RX3 yX3_isReel yX3_isReel, .initialized RX3, .code yX3_isReel cX3_isReel 2 (some .boolean)] ++ wsX30)
def wsX3_status : List Cond := .code yX3_status cX3_status 1 (some .int) :: ([.fieldLink RX3 44 "FourTrackDeckModel" "status" "I"] ++ wsX30)
def wsJ9_max_7cf53 : List Cond := .code yJ9_max_7cf53 cJ9_max_7cf53 2 (some .int) :: ([])
def wsJ9_min_7cf53 : List Cond := .code yJ9_min_7cf53 cJ9_min_7cf53 2 (some .int) :: ([])
def wsL_law_r1 : List Cond := [Cond.classLink RL 7 RX2, Cond.instantiable RX2 15, Cond.initialized RX2, Cond.classLink RL 10 RX3, Cond.instantiable RX3 17, Cond.initialized RX3, Cond.methodLink RL 9 yX2_init, Cond.instanceMethod yX2_init, Cond.code yX2_init cX2_init 1 none, Cond.methodLink RX2 1 objectInit, Cond.instanceMethod objectInit, Cond.code objectInit ⟨#[0xb1]⟩ 1 none, Cond.classLink RX2 9 RX0, Cond.fieldLink RX2 11 "FourTrackDeck" "reels" "[LFourTrackDeck$Reel;", Cond.fieldLink RX2 15 "FourTrackDeck" "reelsMade" "I", Cond.fieldLink RX2 19 "FourTrackDeck" "onDeck" "I", Cond.fieldLink RX2 22 "FourTrackDeck" "tapeAt" "I", Cond.arrayClass .int, Cond.fieldLink RX2 25 "FourTrackDeck" "offsets" "[I", Cond.fieldLink RX2 29 "FourTrackDeck" "modes" "[I", Cond.fieldLink RX2 32 "FourTrackDeck" "meters" "[I", Cond.fieldLink RX2 35 "FourTrackDeck" "sourceNumber" "I", Cond.fieldLink RX2 38 "FourTrackDeck" "sourceStep" "I", Cond.fieldLink RX2 41 "FourTrackDeck" "cells" "[I"]
def wsL_law_r2 : List Cond := [Cond.fieldLink RX2 44 "FourTrackDeck" "sheetRows" "I", Cond.fieldLink RX2 47 "FourTrackDeck" "sheetWidth" "I", Cond.fieldLink RX2 50 "FourTrackDeck" "tripTrack" "I", Cond.fieldLink RX2 53 "FourTrackDeck" "tripStatus" "I", Cond.fieldLink RX2 56 "FourTrackDeck" "latestStatus" "I", Cond.methodLink RL 12 yX3_init, Cond.instanceMethod yX3_init, Cond.code yX3_init cX3_init 1 none, Cond.methodLink RX3 1 objectInit, Cond.fieldLink RX3 7 "FourTrackDeckModel" "length" "[I", Cond.fieldLink RX3 13 "FourTrackDeckModel" "there" "[I", Cond.fieldLink RX3 16 "FourTrackDeckModel" "number" "[I", Cond.fieldLink RX3 19 "FourTrackDeckModel" "onDeck" "I", Cond.fieldLink RX3 23 "FourTrackDeckModel" "offset" "[I", Cond.fieldLink RX3 26 "FourTrackDeckModel" "mode" "[I", Cond.fieldLink RX3 29 "FourTrackDeckModel" "meter" "[I", Cond.fieldLink RX3 32 "FourTrackDeckModel" "tripTrack" "I", Cond.fieldLink RX3 35 "FourTrackDeckModel" "rows" "I", Cond.fieldLink RX3 38 "FourTrackDeckModel" "cells" "I", Cond.fieldLink RX3 41 "FourTrackDeckModel" "cue" "[I", Cond.methodLink RL 13 yX2_reel, Cond.instanceMethod yX2_reel, Cond.selects RX2 yX2_reel yX2_reel, Cond.code yX2_reel cX2_reel 4 (some .int)]
def wsL_law_r3 : List Cond := [Cond.instantiable RX0 1, Cond.initialized RX0, Cond.methodLink RX2 59 yX2_isWithin, Cond.static yX2_isWithin, Cond.code yX2_isWithin cX2_isWithin 3 (some .boolean), Cond.methodLink RX2 63 yX2_end, Cond.instanceMethod yX2_end, Cond.selects RX2 yX2_end yX2_end, Cond.code yX2_end cX2_end 3 (some .int), Cond.instanceMethod yX0_init, Cond.code yX0_init cX0_init 4 none, Cond.methodLink RX0 3 objectInit, Cond.classLink RX0 9 RX1, Cond.fieldLink RX0 11 "FourTrackDeck$Reel" "tracks" "[LFourTrackDeck$Track;", Cond.instantiable RX1 3, Cond.initialized RX1, Cond.instanceMethod yX1_init, Cond.code yX1_init cX1_init 4 none, Cond.methodLink RX1 3 objectInit, Cond.fieldLink RX1 9 "FourTrackDeck$Track" "kind" "I", Cond.fieldLink RX1 15 "FourTrackDeck$Track" "numbers" "[I", Cond.fieldLink RX1 19 "FourTrackDeck$Track" "isThere" "Z", Cond.methodLink RL 17 yX3_reel, Cond.instanceMethod yX3_reel]
def wsL_law_r4 : List Cond := [Cond.selects RX3 yX3_reel yX3_reel, Cond.code yX3_reel cX3_reel 3 (some .int), Cond.fieldLink RX3 47 "FourTrackDeckModel" "reels" "I", Cond.methodLink RX3 59 yX3_fails, Cond.instanceMethod yX3_fails, Cond.selects RX3 yX3_fails yX3_fails, Cond.code yX3_fails cX3_fails 3 (some .int), Cond.fieldLink RX3 44 "FourTrackDeckModel" "status" "I", Cond.methodLink RX3 63 yX3_done, Cond.instanceMethod yX3_done, Cond.selects RX3 yX3_done yX3_done, Cond.code yX3_done cX3_done 2 (some .int), Cond.methodLink RL 18 yX2_strip, Cond.instanceMethod yX2_strip, Cond.selects RX2 yX2_strip yX2_strip, Cond.code yX2_strip cX2_strip 5 (some .int), Cond.methodLink RX2 70 yX2_trackOf, Cond.instanceMethod yX2_trackOf, Cond.selects RX2 yX2_trackOf yX2_trackOf, Cond.code yX2_trackOf cX2_trackOf 4 (some (.object "FourTrackDeck$Track")), Cond.methodLink RX2 83 yX2_reelOf, Cond.instanceMethod yX2_reelOf, Cond.selects RX2 yX2_reelOf yX2_reelOf, Cond.code yX2_reelOf cX2_reelOf 2 (some (.object "FourTrackDeck$Reel"))]
def wsL_law_r5 : List Cond := [Cond.methodLink RX2 87 yX2_isTrack, Cond.static yX2_isTrack, Cond.code yX2_isTrack cX2_isTrack 1 (some .boolean), Cond.methodLink RL 21 yX3_strip, Cond.instanceMethod yX3_strip, Cond.selects RX3 yX3_strip yX3_strip, Cond.code yX3_strip cX3_strip 4 (some .int), Cond.methodLink RX3 67 yX3_isReel, Cond.instanceMethod yX3_isReel, Cond.selects RX3 yX3_isReel yX3_isReel, Cond.code yX3_isReel cX3_isReel 2 (some .boolean), Cond.methodLink RX3 71 yX3_isTrack, Cond.instanceMethod yX3_isTrack, Cond.selects RX3 yX3_isTrack yX3_isTrack, Cond.code yX3_isTrack cX3_isTrack 2 (some .boolean), Cond.methodLink RX3 50 yX3_isThere, Cond.instanceMethod yX3_isThere, Cond.selects RX3 yX3_isThere yX3_isThere, Cond.code yX3_isThere cX3_isThere 3 (some .boolean), Cond.methodLink RL 22 yX2_lay, Cond.instanceMethod yX2_lay, Cond.selects RX2 yX2_lay yX2_lay, Cond.code yX2_lay cX2_lay 5 (some .int), Cond.instanceMethod yX1_wipe]
def wsL_law_r6 : List Cond := [Cond.selects RX1 yX1_wipe yX1_wipe, Cond.code yX1_wipe cX1_wipe 1 none, Cond.methodLink RX1 23 yJ7_fill_53178, Cond.static yJ7_fill_53178, Cond.initialized RJ7, Cond.code yJ7_fill_53178 cJ7_fill_53178 4 none, Cond.methodLink RL 25 yX3_lay, Cond.instanceMethod yX3_lay, Cond.selects RX3 yX3_lay yX3_lay, Cond.code yX3_lay cX3_lay 5 (some .int), Cond.methodLink RX3 74 yX3_at, Cond.instanceMethod yX3_at, Cond.selects RX3 yX3_at yX3_at, Cond.code yX3_at cX3_at 4 (some .int), Cond.methodLink RL 26 yX2_thread, Cond.instanceMethod yX2_thread, Cond.selects RX2 yX2_thread yX2_thread, Cond.code yX2_thread cX2_thread 3 (some .int), Cond.methodLink RL 30 yX3_thread, Cond.instanceMethod yX3_thread, Cond.selects RX3 yX3_thread yX3_thread, Cond.code yX3_thread cX3_thread 3 (some .int), Cond.methodLink RL 31 yX2_head, Cond.instanceMethod yX2_head]
def wsL_law_r7 : List Cond := [Cond.selects RX2 yX2_head yX2_head, Cond.code yX2_head cX2_head 4 (some .int), Cond.methodLink RL 34 yX3_head, Cond.instanceMethod yX3_head, Cond.selects RX3 yX3_head yX3_head, Cond.code yX3_head cX3_head 4 (some .int), Cond.methodLink RL 35 yX2_arm, Cond.instanceMethod yX2_arm, Cond.selects RX2 yX2_arm yX2_arm, Cond.code yX2_arm cX2_arm 4 (some .int), Cond.methodLink RL 38 yX3_arm, Cond.instanceMethod yX3_arm, Cond.selects RX3 yX3_arm yX3_arm, Cond.code yX3_arm cX3_arm 4 (some .int), Cond.methodLink RL 39 yX2_source, Cond.instanceMethod yX2_source, Cond.selects RX2 yX2_source yX2_source, Cond.code yX2_source cX2_source 4 (some .int), Cond.methodLink RL 42 yX3_source, Cond.instanceMethod yX3_source, Cond.selects RX3 yX3_source yX3_source, Cond.code yX3_source cX3_source 4 (some .int), Cond.fieldLink RX3 78 "FourTrackDeckModel" "s" "I", Cond.fieldLink RX3 81 "FourTrackDeckModel" "step" "I"]
def wsL_law_r8 : List Cond := [Cond.methodLink RL 43 yX2_wind, Cond.instanceMethod yX2_wind, Cond.selects RX2 yX2_wind yX2_wind, Cond.code yX2_wind cX2_wind 2 (some .int), Cond.methodLink RL 46 yX3_wind, Cond.instanceMethod yX3_wind, Cond.selects RX3 yX3_wind yX3_wind, Cond.code yX3_wind cX3_wind 2 (some .int), Cond.fieldLink RX3 56 "FourTrackDeckModel" "p" "I", Cond.methodLink RL 47 yX2_read, Cond.instanceMethod yX2_read, Cond.selects RX2 yX2_read yX2_read, Cond.code yX2_read cX2_read 4 (some .int), Cond.methodLink RX2 91 yX2_whyNoneUnderHead, Cond.instanceMethod yX2_whyNoneUnderHead, Cond.selects RX2 yX2_whyNoneUnderHead yX2_whyNoneUnderHead, Cond.code yX2_whyNoneUnderHead cX2_whyNoneUnderHead 2 (some .int), Cond.methodLink RX2 95 yX2_placeOfHead, Cond.instanceMethod yX2_placeOfHead, Cond.selects RX2 yX2_placeOfHead yX2_placeOfHead, Cond.code yX2_placeOfHead cX2_placeOfHead 2 (some .int), Cond.instanceMethod yX1_faultAt, Cond.selects RX1 yX1_faultAt yX1_faultAt, Cond.code yX1_faultAt cX1_faultAt 2 (some .int)]
def wsL_law_r9 : List Cond := [Cond.instanceMethod yX1_numberAt, Cond.selects RX1 yX1_numberAt yX1_numberAt, Cond.code yX1_numberAt cX1_numberAt 2 (some .int), Cond.methodLink RX1 29 yX1_faultAt, Cond.methodLink RL 50 yX3_read, Cond.instanceMethod yX3_read, Cond.selects RX3 yX3_read yX3_read, Cond.code yX3_read cX3_read 3 (some .int), Cond.methodLink RX3 90 yX3_headFault, Cond.instanceMethod yX3_headFault, Cond.selects RX3 yX3_headFault yX3_headFault, Cond.code yX3_headFault cX3_headFault 2 (some .int), Cond.methodLink RX3 84 yX3_place, Cond.instanceMethod yX3_place, Cond.selects RX3 yX3_place yX3_place, Cond.code yX3_place cX3_place 2 (some .int), Cond.methodLink RX3 87 yX3_fault, Cond.instanceMethod yX3_fault, Cond.selects RX3 yX3_fault yX3_fault, Cond.code yX3_fault cX3_fault 4 (some .int), Cond.methodLink RL 51 yX2_write, Cond.instanceMethod yX2_write, Cond.selects RX2 yX2_write yX2_write, Cond.code yX2_write cX2_write 5 (some .int)]
def wsL_law_r10 : List Cond := [Cond.instanceMethod yX1_put, Cond.selects RX1 yX1_put yX1_put, Cond.code yX1_put cX1_put 3 none, Cond.methodLink RX1 33 yX1_asTrackHasIt, Cond.instanceMethod yX1_asTrackHasIt, Cond.selects RX1 yX1_asTrackHasIt yX1_asTrackHasIt, Cond.code yX1_asTrackHasIt cX1_asTrackHasIt 2 (some .int), Cond.constant RX1 43 (65535), Cond.constant RX1 44 (32768), Cond.methodLink RX1 45 Lib.Math.min.name, Cond.static Lib.Math.min.name, Cond.initialized "java/lang/Math", Cond.code Lib.Math.min.name Lib.Math.min.code 2 (some .int), Cond.methodLink RX1 51 Lib.Math.max.name, Cond.static Lib.Math.max.name, Cond.code Lib.Math.max.name Lib.Math.max.code 2 (some .int), Cond.methodLink RL 54 yX3_write, Cond.instanceMethod yX3_write, Cond.selects RX3 yX3_write yX3_write, Cond.code yX3_write cX3_write 4 (some .int), Cond.methodLink RX3 93 yX3_fit, Cond.instanceMethod yX3_fit, Cond.selects RX3 yX3_fit yX3_fit, Cond.code yX3_fit cX3_fit 3 (some .int)]
def wsL_law_r11 : List Cond := [Cond.constant RX3 54 (65535), Cond.constant RX3 55 (32768), Cond.methodLink RL 55 yX2_run, Cond.instanceMethod yX2_run, Cond.selects RX2 yX2_run yX2_run, Cond.code yX2_run cX2_run 3 (some .int), Cond.methodLink RX2 107 yX2_tick, Cond.instanceMethod yX2_tick, Cond.selects RX2 yX2_tick yX2_tick, Cond.code yX2_tick cX2_tick 3 none, Cond.methodLink RX2 135 yX2_moveHead, Cond.instanceMethod yX2_moveHead, Cond.selects RX2 yX2_moveHead yX2_moveHead, Cond.code yX2_moveHead cX2_moveHead 7 (some .int), Cond.methodLink RL 58 yX3_run, Cond.instanceMethod yX3_run, Cond.selects RX3 yX3_run yX3_run, Cond.code yX3_run cX3_run 5 (some .int), Cond.fieldLink RX3 96 "FourTrackDeckModel" "tripStatus" "I", Cond.methodLink RX3 99 yX3_act, Cond.instanceMethod yX3_act, Cond.selects RX3 yX3_act yX3_act, Cond.code yX3_act cX3_act 4 (some .int), Cond.methodLink RL 59 yX2_dub]
def wsL_law_r12 : List Cond := [Cond.instanceMethod yX2_dub, Cond.selects RX2 yX2_dub yX2_dub, Cond.code yX2_dub cX2_dub 11 (some .int), Cond.methodLink RX2 110 yX2_firstFault, Cond.static yX2_firstFault, Cond.code yX2_firstFault cX2_firstFault 2 (some .int), Cond.methodLink RL 63 yX3_dub, Cond.instanceMethod yX3_dub, Cond.selects RX3 yX3_dub yX3_dub, Cond.code yX3_dub cX3_dub 9 (some .int), Cond.methodLink RL 64 yX2_turn, Cond.instanceMethod yX2_turn, Cond.selects RX2 yX2_turn yX2_turn, Cond.code yX2_turn cX2_turn 9 (some .int), Cond.instanceMethod yX1_exchange, Cond.selects RX1 yX1_exchange yX1_exchange, Cond.code yX1_exchange cX1_exchange 4 none, Cond.methodLink RX1 36 yX1_numberAt, Cond.methodLink RX1 39 yX1_put, Cond.methodLink RL 67 yX3_turn, Cond.instanceMethod yX3_turn, Cond.selects RX3 yX3_turn yX3_turn, Cond.code yX3_turn cX3_turn 9 (some .int), Cond.methodLink RL 68 yX2_scan]
def wsL_law_r13 : List Cond := [Cond.instanceMethod yX2_scan, Cond.selects RX2 yX2_scan yX2_scan, Cond.code yX2_scan cX2_scan 7 (some .int), Cond.methodLink RL 71 yX3_scan, Cond.instanceMethod yX3_scan, Cond.selects RX3 yX3_scan yX3_scan, Cond.code yX3_scan cX3_scan 6 (some .int), Cond.methodLink RL 72 yX2_sheet, Cond.instanceMethod yX2_sheet, Cond.selects RX2 yX2_sheet yX2_sheet, Cond.code yX2_sheet cX2_sheet 3 (some .int), Cond.methodLink RX2 116 yJ7_fill_53178, Cond.methodLink RL 75 yX3_sheet, Cond.instanceMethod yX3_sheet, Cond.selects RX3 yX3_sheet yX3_sheet, Cond.code yX3_sheet cX3_sheet 4 (some .int), Cond.methodLink RL 76 yX2_cue, Cond.instanceMethod yX2_cue, Cond.selects RX2 yX2_cue yX2_cue, Cond.code yX2_cue cX2_cue 7 (some .int), Cond.methodLink RX2 122 yX2_faultOfCell, Cond.instanceMethod yX2_faultOfCell, Cond.selects RX2 yX2_faultOfCell yX2_faultOfCell, Cond.code yX2_faultOfCell cX2_faultOfCell 4 (some .int)]
def wsL_law_r14 : List Cond := [Cond.methodLink RX2 125 yX2_indexOfCell, Cond.static yX2_indexOfCell, Cond.code yX2_indexOfCell cX2_indexOfCell 2 (some .int), Cond.methodLink RL 80 yX3_cue, Cond.instanceMethod yX3_cue, Cond.selects RX3 yX3_cue yX3_cue, Cond.code yX3_cue cX3_cue 6 (some .int), Cond.methodLink RX3 102 yX3_cellFault, Cond.instanceMethod yX3_cellFault, Cond.selects RX3 yX3_cellFault yX3_cellFault, Cond.code yX3_cellFault cX3_cellFault 3 (some .int), Cond.methodLink RL 81 yX2_seek, Cond.instanceMethod yX2_seek, Cond.selects RX2 yX2_seek yX2_seek, Cond.code yX2_seek cX2_seek 4 (some .int), Cond.methodLink RL 84 yX3_seek, Cond.instanceMethod yX3_seek, Cond.selects RX3 yX3_seek yX3_seek, Cond.code yX3_seek cX3_seek 4 (some .int), Cond.methodLink RL 85 yX2_trip, Cond.instanceMethod yX2_trip, Cond.selects RX2 yX2_trip yX2_trip, Cond.code yX2_trip cX2_trip 2 (some .int), Cond.methodLink RL 88 yX3_trip]
def wsL_law_r15 : List Cond := [Cond.instanceMethod yX3_trip, Cond.selects RX3 yX3_trip yX3_trip, Cond.code yX3_trip cX3_trip 2 (some .int), Cond.methodLink RL 89 yX2_meter, Cond.instanceMethod yX2_meter, Cond.selects RX2 yX2_meter yX2_meter, Cond.code yX2_meter cX2_meter 2 (some .int), Cond.methodLink RL 92 yX3_meter, Cond.instanceMethod yX3_meter, Cond.selects RX3 yX3_meter yX3_meter, Cond.code yX3_meter cX3_meter 2 (some .int), Cond.methodLink RL 93 yX2_count, Cond.instanceMethod yX2_count, Cond.selects RX2 yX2_count yX2_count, Cond.code yX2_count cX2_count 2 (some .int), Cond.methodLink RX2 128 yX2_tracksThere, Cond.instanceMethod yX2_tracksThere, Cond.selects RX2 yX2_tracksThere yX2_tracksThere, Cond.code yX2_tracksThere cX2_tracksThere 3 (some .int), Cond.instanceMethod yX0_bitsOfTracks, Cond.selects RX0 yX0_bitsOfTracks yX0_bitsOfTracks, Cond.code yX0_bitsOfTracks cX0_bitsOfTracks 3 (some .int), Cond.methodLink RL 96 yX3_count, Cond.instanceMethod yX3_count]
def wsL_law_r16 : List Cond := [Cond.selects RX3 yX3_count yX3_count, Cond.code yX3_count cX3_count 2 (some .int), Cond.methodLink RL 97 yX2_status, Cond.instanceMethod yX2_status, Cond.selects RX2 yX2_status yX2_status, Cond.code yX2_status cX2_status 1 (some .int), Cond.methodLink RL 101 yX3_status, Cond.instanceMethod yX3_status, Cond.selects RX3 yX3_status yX3_status, Cond.code yX3_status cX3_status 1 (some .int)]
def wsL_law : List Cond := (wsL_law_r1 ++ (wsL_law_r2 ++ (wsL_law_r3 ++ (wsL_law_r4 ++ (wsL_law_r5 ++ (wsL_law_r6 ++ (wsL_law_r7 ++ (wsL_law_r8 ++ (wsL_law_r9 ++ (wsL_law_r10 ++ (wsL_law_r11 ++ (wsL_law_r12 ++ (wsL_law_r13 ++ (wsL_law_r14 ++ (wsL_law_r15 ++ wsL_law_r16))))))))))))))) ++ wsX20 ++ wsX30 ++ wsX00 ++ wsX10 ++ ([] : List Cond)
set_option maxRecDepth 20000 in
theorem wsL_law_in : ∀ w ∈ wsL_law, w ∈ lw_tbl := fun w h => (goodIn_p wsL_law [39, 42, 300, 95, 98, 102, 106, 113, 357, 361, 365, 135, 139, 143, 146, 369, 373, 377, 381, 150, 154, 157, 385, 389, 161, 393, 165, 397, 169, 401, 173, 405, 177, 409, 181, 185, 189, 193, 197, 413, 417, 421, 425, 202, 206, 210, 215, 218, 429, 433, 222, 226, 230, 439, 443, 234, 237, 447, 241, 245, 451, 251, 455, 255, 459, 260, 264, 267, 463, 467, 271, 471, 275, 475, 279, 479, 283, 287, 291, 483, 295, 487] (by decide +kernel) (by decide +kernel) w h).1
theorem inlX0 : ∀ w ∈ wsX00, w ∈ wsL_law := fun _ h => List.mem_append_left _ (List.mem_append_left _ (List.mem_append_right _ h))
theorem inX0 : ∀ w ∈ wsX00, w ∈ lw_tbl := fun w h => wsL_law_in w (inlX0 w h)
theorem inlX1 : ∀ w ∈ wsX10, w ∈ wsL_law := fun _ h => List.mem_append_left _ (List.mem_append_right _ h)
theorem inX1 : ∀ w ∈ wsX10, w ∈ lw_tbl := fun w h => wsL_law_in w (inlX1 w h)
theorem inlX2 : ∀ w ∈ wsX20, w ∈ wsL_law := fun _ h => List.mem_append_left _ (List.mem_append_left _ (List.mem_append_left _ (List.mem_append_left _ (List.mem_append_right _ h))))
theorem inX2 : ∀ w ∈ wsX20, w ∈ lw_tbl := fun w h => wsL_law_in w (inlX2 w h)
theorem inlX3 : ∀ w ∈ wsX30, w ∈ wsL_law := fun _ h => List.mem_append_left _ (List.mem_append_left _ (List.mem_append_left _ (List.mem_append_right _ h)))
theorem inX3 : ∀ w ∈ wsX30, w ∈ lw_tbl := fun w h => wsL_law_in w (inlX3 w h)
theorem inJ9 : ∀ w ∈ wsJ90, w ∈ lw_tbl := by decide +kernel
theorem inJ7 : ∀ w ∈ wsJ70, w ∈ lw_tbl := by decide +kernel
set_option maxRecDepth 20000 in
theorem ggX0_init_X1_init : GoodIn wsX0_init wsX1_init := goodIn_r _ [9, 10, 2, 3, 11, 12, 13, 14, 16, 17, 18] (by decide +kernel) (by decide +kernel)
set_option maxRecDepth 20000 in
theorem gX0_init_X1_init_n17 : GoodIn wsX0_init (wsX1_init) := ggX0_init_X1_init
theorem dX0_init_0 : decode cX0_init 0 = .ok (.aload_n 0, 1) := by decide +kernel
theorem dX0_init_1 : decode cX0_init 1 = .ok (.invokespecial 3, 3) := by decide +kernel
theorem dX0_init_4 : decode cX0_init 4 = .ok (.aload_n 0, 1) := by decide +kernel
theorem dX0_init_5 : decode cX0_init 5 = .ok (.iconst 4, 1) := by decide +kernel
theorem dX0_init_6 : decode cX0_init 6 = .ok (.anewarray 9, 3) := by decide +kernel
theorem dX0_init_9 : decode cX0_init 9 = .ok (.putfield 11, 3) := by decide +kernel
theorem dX0_init_12 : decode cX0_init 12 = .ok (.iconst 0, 1) := by decide +kernel
theorem dX0_init_13 : decode cX0_init 13 = .ok (.istore_n 3, 1) := by decide +kernel
theorem dX0_init_14 : decode cX0_init 14 = .ok (.iload_n 3, 1) := by decide +kernel
theorem dX0_init_15 : decode cX0_init 15 = .ok (.iconst 4, 1) := by decide +kernel
theorem dX0_init_16 : decode cX0_init 16 = .ok (.if_icmp .ge 38, 3) := by decide +kernel
theorem dX0_init_19 : decode cX0_init 19 = .ok (.aload_n 0, 1) := by decide +kernel
theorem dX0_init_20 : decode cX0_init 20 = .ok (.getfield 11, 3) := by decide +kernel
theorem dX0_init_23 : decode cX0_init 23 = .ok (.iload_n 3, 1) := by decide +kernel
theorem dX0_init_24 : decode cX0_init 24 = .ok (.new 9, 3) := by decide +kernel
theorem dX0_init_27 : decode cX0_init 27 = .ok (.dup, 1) := by decide +kernel
theorem dX0_init_28 : decode cX0_init 28 = .ok (.iload_n 3, 1) := by decide +kernel
theorem dX0_init_29 : decode cX0_init 29 = .ok (.iload_n 1, 1) := by decide +kernel
theorem dX0_init_30 : decode cX0_init 30 = .ok (.iload_n 2, 1) := by decide +kernel
theorem dX0_init_31 : decode cX0_init 31 = .ok (.iload_n 3, 1) := by decide +kernel
theorem dX0_init_32 : decode cX0_init 32 = .ok (.ishr, 1) := by decide +kernel
theorem dX0_init_33 : decode cX0_init 33 = .ok (.iconst 1, 1) := by decide +kernel
theorem dX0_init_34 : decode cX0_init 34 = .ok (.iand, 1) := by decide +kernel
theorem dX0_init_35 : decode cX0_init 35 = .ok (.iconst 1, 1) := by decide +kernel
theorem dX0_init_36 : decode cX0_init 36 = .ok (.if_icmp .ne 7, 3) := by decide +kernel
theorem dX0_init_39 : decode cX0_init 39 = .ok (.iconst 1, 1) := by decide +kernel
theorem dX0_init_40 : decode cX0_init 40 = .ok (.goto 4, 3) := by decide +kernel
theorem dX0_init_43 : decode cX0_init 43 = .ok (.iconst 0, 1) := by decide +kernel
theorem dX0_init_44 : decode cX0_init 44 = .ok (.invokespecial 17, 3) := by decide +kernel
theorem dX0_init_47 : decode cX0_init 47 = .ok (.aastore, 1) := by decide +kernel
theorem dX0_init_48 : decode cX0_init 48 = .ok (.iinc 3 1, 3) := by decide +kernel
theorem dX0_init_51 : decode cX0_init 51 = .ok (.goto (-37), 3) := by decide +kernel
theorem dX0_init_54 : decode cX0_init 54 = .ok (.return_, 1) := by decide +kernel
theorem dX0_bitsOfTracks_0 : decode cX0_bitsOfTracks 0 = .ok (.iconst 0, 1) := by decide +kernel
theorem dX0_bitsOfTracks_1 : decode cX0_bitsOfTracks 1 = .ok (.istore_n 1, 1) := by decide +kernel
theorem dX0_bitsOfTracks_2 : decode cX0_bitsOfTracks 2 = .ok (.iconst 0, 1) := by decide +kernel
theorem dX0_bitsOfTracks_3 : decode cX0_bitsOfTracks 3 = .ok (.istore_n 2, 1) := by decide +kernel
theorem dX0_bitsOfTracks_4 : decode cX0_bitsOfTracks 4 = .ok (.iload_n 2, 1) := by decide +kernel
theorem dX0_bitsOfTracks_5 : decode cX0_bitsOfTracks 5 = .ok (.iconst 4, 1) := by decide +kernel
theorem dX0_bitsOfTracks_6 : decode cX0_bitsOfTracks 6 = .ok (.if_icmp .ge 27, 3) := by decide +kernel
theorem dX0_bitsOfTracks_9 : decode cX0_bitsOfTracks 9 = .ok (.aload_n 0, 1) := by decide +kernel
theorem dX0_bitsOfTracks_10 : decode cX0_bitsOfTracks 10 = .ok (.getfield 11, 3) := by decide +kernel
theorem dX0_bitsOfTracks_13 : decode cX0_bitsOfTracks 13 = .ok (.iload_n 2, 1) := by decide +kernel
theorem dX0_bitsOfTracks_14 : decode cX0_bitsOfTracks 14 = .ok (.aaload, 1) := by decide +kernel
theorem dX0_bitsOfTracks_15 : decode cX0_bitsOfTracks 15 = .ok (.getfield 20, 3) := by decide +kernel
theorem dX0_bitsOfTracks_18 : decode cX0_bitsOfTracks 18 = .ok (.ifCond .eq 9, 3) := by decide +kernel
theorem dX0_bitsOfTracks_21 : decode cX0_bitsOfTracks 21 = .ok (.iload_n 1, 1) := by decide +kernel
theorem dX0_bitsOfTracks_22 : decode cX0_bitsOfTracks 22 = .ok (.iconst 1, 1) := by decide +kernel
theorem dX0_bitsOfTracks_23 : decode cX0_bitsOfTracks 23 = .ok (.iload_n 2, 1) := by decide +kernel
theorem dX0_bitsOfTracks_24 : decode cX0_bitsOfTracks 24 = .ok (.ishl, 1) := by decide +kernel
theorem dX0_bitsOfTracks_25 : decode cX0_bitsOfTracks 25 = .ok (.ior, 1) := by decide +kernel
theorem dX0_bitsOfTracks_26 : decode cX0_bitsOfTracks 26 = .ok (.istore_n 1, 1) := by decide +kernel
theorem dX0_bitsOfTracks_27 : decode cX0_bitsOfTracks 27 = .ok (.iinc 2 1, 3) := by decide +kernel
theorem dX0_bitsOfTracks_30 : decode cX0_bitsOfTracks 30 = .ok (.goto (-26), 3) := by decide +kernel
theorem dX0_bitsOfTracks_33 : decode cX0_bitsOfTracks 33 = .ok (.iload_n 1, 1) := by decide +kernel
theorem dX0_bitsOfTracks_34 : decode cX0_bitsOfTracks 34 = .ok (.ireturn, 1) := by decide +kernel
theorem dX1_init_0 : decode cX1_init 0 = .ok (.aload_n 0, 1) := by decide +kernel
theorem dX1_init_1 : decode cX1_init 1 = .ok (.invokespecial 3, 3) := by decide +kernel
theorem dX1_init_4 : decode cX1_init 4 = .ok (.aload_n 0, 1) := by decide +kernel
theorem dX1_init_5 : decode cX1_init 5 = .ok (.iload_n 1, 1) := by decide +kernel
theorem dX1_init_6 : decode cX1_init 6 = .ok (.putfield 9, 3) := by decide +kernel
theorem dX1_init_9 : decode cX1_init 9 = .ok (.aload_n 0, 1) := by decide +kernel
theorem dX1_init_10 : decode cX1_init 10 = .ok (.iload_n 2, 1) := by decide +kernel
theorem dX1_init_11 : decode cX1_init 11 = .ok (.newarray .int, 2) := by decide +kernel
theorem dX1_init_13 : decode cX1_init 13 = .ok (.putfield 15, 3) := by decide +kernel
theorem dX1_init_16 : decode cX1_init 16 = .ok (.aload_n 0, 1) := by decide +kernel
theorem dX1_init_17 : decode cX1_init 17 = .ok (.iload_n 3, 1) := by decide +kernel
theorem dX1_init_18 : decode cX1_init 18 = .ok (.putfield 19, 3) := by decide +kernel
theorem dX1_init_21 : decode cX1_init 21 = .ok (.return_, 1) := by decide +kernel
set_option maxRecDepth 20000 in
theorem ggX1_wipe_J7_fill_53178 : GoodIn wsX1_wipe wsJ7_fill_53178 := goodIn_r _ [5] (by decide +kernel) (by decide +kernel)
set_option maxRecDepth 20000 in
theorem gX1_wipe_J7_fill_53178 : GoodIn wsX1_wipe (va_wsS RX1 23 yJ7_fill_53178 wsJ7_fill_53178) := goodIn_app (goodIn_of _ (by decide +kernel)) ggX1_wipe_J7_fill_53178
theorem dX1_wipe_0 : decode cX1_wipe 0 = .ok (.aload_n 0, 1) := by decide +kernel
theorem dX1_wipe_1 : decode cX1_wipe 1 = .ok (.getfield 15, 3) := by decide +kernel
theorem dX1_wipe_4 : decode cX1_wipe 4 = .ok (.iconst 0, 1) := by decide +kernel
theorem dX1_wipe_5 : decode cX1_wipe 5 = .ok (.invokestatic 23, 3) := by decide +kernel
theorem dX1_wipe_8 : decode cX1_wipe 8 = .ok (.return_, 1) := by decide +kernel
theorem dX1_faultAt_0 : decode cX1_faultAt 0 = .ok (.aload_n 0, 1) := by decide +kernel
theorem dX1_faultAt_1 : decode cX1_faultAt 1 = .ok (.getfield 19, 3) := by decide +kernel
theorem dX1_faultAt_4 : decode cX1_faultAt 4 = .ok (.ifCond .ne 5, 3) := by decide +kernel
theorem dX1_faultAt_7 : decode cX1_faultAt 7 = .ok (.iconst 2, 1) := by decide +kernel
theorem dX1_faultAt_8 : decode cX1_faultAt 8 = .ok (.ireturn, 1) := by decide +kernel
theorem dX1_faultAt_9 : decode cX1_faultAt 9 = .ok (.iload_n 1, 1) := by decide +kernel
theorem dX1_faultAt_10 : decode cX1_faultAt 10 = .ok (.ifCond .lt 16, 3) := by decide +kernel
theorem dX1_faultAt_13 : decode cX1_faultAt 13 = .ok (.iload_n 1, 1) := by decide +kernel
theorem dX1_faultAt_14 : decode cX1_faultAt 14 = .ok (.aload_n 0, 1) := by decide +kernel
theorem dX1_faultAt_15 : decode cX1_faultAt 15 = .ok (.getfield 15, 3) := by decide +kernel
theorem dX1_faultAt_18 : decode cX1_faultAt 18 = .ok (.arraylength, 1) := by decide +kernel
theorem dX1_faultAt_19 : decode cX1_faultAt 19 = .ok (.if_icmp .ge 7, 3) := by decide +kernel
theorem dX1_faultAt_22 : decode cX1_faultAt 22 = .ok (.iconst 0, 1) := by decide +kernel
theorem dX1_faultAt_23 : decode cX1_faultAt 23 = .ok (.goto 4, 3) := by decide +kernel
theorem dX1_faultAt_26 : decode cX1_faultAt 26 = .ok (.iconst 3, 1) := by decide +kernel
theorem dX1_faultAt_27 : decode cX1_faultAt 27 = .ok (.ireturn, 1) := by decide +kernel
set_option maxRecDepth 20000 in
theorem ggX1_numberAt_X1_faultAt : GoodIn wsX1_numberAt wsX1_faultAt := goodIn_r _ [6, 7, 1, 8, 9, 10] (by decide +kernel) (by decide +kernel)
set_option maxRecDepth 20000 in
theorem gX1_numberAt_X1_faultAt : GoodIn wsX1_numberAt (wsV RX1 29 RX1 yX1_faultAt wsX1_faultAt) := goodIn_app (goodIn_of _ (by decide +kernel)) ggX1_numberAt_X1_faultAt
theorem dX1_numberAt_0 : decode cX1_numberAt 0 = .ok (.aload_n 0, 1) := by decide +kernel
theorem dX1_numberAt_1 : decode cX1_numberAt 1 = .ok (.iload_n 1, 1) := by decide +kernel
theorem dX1_numberAt_2 : decode cX1_numberAt 2 = .ok (.invokevirtual 29, 3) := by decide +kernel
theorem dX1_numberAt_5 : decode cX1_numberAt 5 = .ok (.ifCond .ne 12, 3) := by decide +kernel
theorem dX1_numberAt_8 : decode cX1_numberAt 8 = .ok (.aload_n 0, 1) := by decide +kernel
theorem dX1_numberAt_9 : decode cX1_numberAt 9 = .ok (.getfield 15, 3) := by decide +kernel
theorem dX1_numberAt_12 : decode cX1_numberAt 12 = .ok (.iload_n 1, 1) := by decide +kernel
theorem dX1_numberAt_13 : decode cX1_numberAt 13 = .ok (.iaload, 1) := by decide +kernel
theorem dX1_numberAt_14 : decode cX1_numberAt 14 = .ok (.goto 4, 3) := by decide +kernel
theorem dX1_numberAt_17 : decode cX1_numberAt 17 = .ok (.iconst 0, 1) := by decide +kernel
theorem dX1_numberAt_18 : decode cX1_numberAt 18 = .ok (.ireturn, 1) := by decide +kernel
set_option maxRecDepth 20000 in
theorem ggX1_put_X1_faultAt : GoodIn wsX1_put wsX1_faultAt := goodIn_r _ [6, 7, 1, 22, 23, 24] (by decide +kernel) (by decide +kernel)
set_option maxRecDepth 20000 in
theorem gX1_put_X1_faultAt : GoodIn wsX1_put (wsV RX1 29 RX1 yX1_faultAt wsX1_faultAt) := goodIn_app (goodIn_of _ (by decide +kernel)) ggX1_put_X1_faultAt
set_option maxRecDepth 20000 in
theorem ggX1_put_X1_asTrackHasIt : GoodIn wsX1_put wsX1_asTrackHasIt := goodIn_r _ [11, 12, 13, 14, 15, 16, 17, 18, 19, 20, 21, 22, 23, 24] (by decide +kernel) (by decide +kernel)
set_option maxRecDepth 20000 in
theorem gX1_put_X1_asTrackHasIt : GoodIn wsX1_put (wsV RX1 33 RX1 yX1_asTrackHasIt wsX1_asTrackHasIt) := goodIn_app (goodIn_of _ (by decide +kernel)) ggX1_put_X1_asTrackHasIt
theorem dX1_put_0 : decode cX1_put 0 = .ok (.aload_n 0, 1) := by decide +kernel
theorem dX1_put_1 : decode cX1_put 1 = .ok (.iload_n 1, 1) := by decide +kernel
theorem dX1_put_2 : decode cX1_put 2 = .ok (.invokevirtual 29, 3) := by decide +kernel
theorem dX1_put_5 : decode cX1_put 5 = .ok (.ifCond .ne 14, 3) := by decide +kernel
theorem dX1_put_8 : decode cX1_put 8 = .ok (.aload_n 0, 1) := by decide +kernel
theorem dX1_put_9 : decode cX1_put 9 = .ok (.getfield 15, 3) := by decide +kernel
theorem dX1_put_12 : decode cX1_put 12 = .ok (.iload_n 1, 1) := by decide +kernel
theorem dX1_put_13 : decode cX1_put 13 = .ok (.aload_n 0, 1) := by decide +kernel
theorem dX1_put_14 : decode cX1_put 14 = .ok (.iload_n 2, 1) := by decide +kernel
theorem dX1_put_15 : decode cX1_put 15 = .ok (.invokevirtual 33, 3) := by decide +kernel
theorem dX1_put_18 : decode cX1_put 18 = .ok (.iastore, 1) := by decide +kernel
theorem dX1_put_19 : decode cX1_put 19 = .ok (.return_, 1) := by decide +kernel
set_option maxRecDepth 20000 in
theorem ggX1_exchange_X1_numberAt : GoodIn wsX1_exchange wsX1_numberAt := goodIn_r _ [5, 6, 7, 8, 9, 4, 10, 11, 30, 31, 32] (by decide +kernel) (by decide +kernel)
set_option maxRecDepth 20000 in
theorem gX1_exchange_X1_numberAt : GoodIn wsX1_exchange (wsV RX1 36 RX1 yX1_numberAt wsX1_numberAt) := goodIn_app (goodIn_of _ (by decide +kernel)) ggX1_exchange_X1_numberAt
set_option maxRecDepth 20000 in
theorem ggX1_exchange_X1_put : GoodIn wsX1_exchange wsX1_put := goodIn_r _ [15, 6, 7, 8, 9, 4, 10, 11, 16, 17, 18, 19, 20, 21, 22, 23, 24, 25, 26, 27, 28, 29, 30, 31, 32] (by decide +kernel) (by decide +kernel)
set_option maxRecDepth 20000 in
theorem gX1_exchange_X1_put : GoodIn wsX1_exchange (wsV RX1 39 RX1 yX1_put wsX1_put) := goodIn_app (goodIn_of _ (by decide +kernel)) ggX1_exchange_X1_put
theorem dX1_exchange_0 : decode cX1_exchange 0 = .ok (.aload_n 0, 1) := by decide +kernel
theorem dX1_exchange_1 : decode cX1_exchange 1 = .ok (.iload_n 1, 1) := by decide +kernel
theorem dX1_exchange_2 : decode cX1_exchange 2 = .ok (.invokevirtual 36, 3) := by decide +kernel
theorem dX1_exchange_5 : decode cX1_exchange 5 = .ok (.istore_n 3, 1) := by decide +kernel
theorem dX1_exchange_6 : decode cX1_exchange 6 = .ok (.aload_n 0, 1) := by decide +kernel
theorem dX1_exchange_7 : decode cX1_exchange 7 = .ok (.iload_n 1, 1) := by decide +kernel
theorem dX1_exchange_8 : decode cX1_exchange 8 = .ok (.aload_n 0, 1) := by decide +kernel
theorem dX1_exchange_9 : decode cX1_exchange 9 = .ok (.iload_n 2, 1) := by decide +kernel
theorem dX1_exchange_10 : decode cX1_exchange 10 = .ok (.invokevirtual 36, 3) := by decide +kernel
theorem dX1_exchange_13 : decode cX1_exchange 13 = .ok (.invokevirtual 39, 3) := by decide +kernel
theorem dX1_exchange_16 : decode cX1_exchange 16 = .ok (.aload_n 0, 1) := by decide +kernel
theorem dX1_exchange_17 : decode cX1_exchange 17 = .ok (.iload_n 2, 1) := by decide +kernel
theorem dX1_exchange_18 : decode cX1_exchange 18 = .ok (.iload_n 3, 1) := by decide +kernel
theorem dX1_exchange_19 : decode cX1_exchange 19 = .ok (.invokevirtual 39, 3) := by decide +kernel
theorem dX1_exchange_22 : decode cX1_exchange 22 = .ok (.return_, 1) := by decide +kernel
theorem dX1_asTrackHasIt_0 : decode cX1_asTrackHasIt 0 = .ok (.aload_n 0, 1) := by decide +kernel
theorem dX1_asTrackHasIt_1 : decode cX1_asTrackHasIt 1 = .ok (.getfield 9, 3) := by decide +kernel
theorem dX1_asTrackHasIt_4 : decode cX1_asTrackHasIt 4 = .ok (.tableswitch 49 0 2 #[28, 33, 36], 28) := by decide +kernel
theorem dX1_asTrackHasIt_32 : decode cX1_asTrackHasIt 32 = .ok (.iload_n 1, 1) := by decide +kernel
theorem dX1_asTrackHasIt_33 : decode cX1_asTrackHasIt 33 = .ok (.ldc 43, 2) := by decide +kernel
theorem dX1_asTrackHasIt_35 : decode cX1_asTrackHasIt 35 = .ok (.iand, 1) := by decide +kernel
theorem dX1_asTrackHasIt_36 : decode cX1_asTrackHasIt 36 = .ok (.ireturn, 1) := by decide +kernel
theorem dX1_asTrackHasIt_37 : decode cX1_asTrackHasIt 37 = .ok (.iload_n 1, 1) := by decide +kernel
theorem dX1_asTrackHasIt_38 : decode cX1_asTrackHasIt 38 = .ok (.i2s, 1) := by decide +kernel
theorem dX1_asTrackHasIt_39 : decode cX1_asTrackHasIt 39 = .ok (.ireturn, 1) := by decide +kernel
theorem dX1_asTrackHasIt_40 : decode cX1_asTrackHasIt 40 = .ok (.sipush (-32768), 3) := by decide +kernel
theorem dX1_asTrackHasIt_43 : decode cX1_asTrackHasIt 43 = .ok (.ldc 44, 2) := by decide +kernel
theorem dX1_asTrackHasIt_45 : decode cX1_asTrackHasIt 45 = .ok (.iload_n 1, 1) := by decide +kernel
theorem dX1_asTrackHasIt_46 : decode cX1_asTrackHasIt 46 = .ok (.invokestatic 45, 3) := by decide +kernel
theorem dX1_asTrackHasIt_49 : decode cX1_asTrackHasIt 49 = .ok (.invokestatic 51, 3) := by decide +kernel
theorem dX1_asTrackHasIt_52 : decode cX1_asTrackHasIt 52 = .ok (.ireturn, 1) := by decide +kernel
theorem dX1_asTrackHasIt_53 : decode cX1_asTrackHasIt 53 = .ok (.iload_n 1, 1) := by decide +kernel
theorem dX1_asTrackHasIt_54 : decode cX1_asTrackHasIt 54 = .ok (.iconst 1, 1) := by decide +kernel
theorem dX1_asTrackHasIt_55 : decode cX1_asTrackHasIt 55 = .ok (.iand, 1) := by decide +kernel
theorem dX1_asTrackHasIt_56 : decode cX1_asTrackHasIt 56 = .ok (.ireturn, 1) := by decide +kernel
theorem dX2_init_0 : decode cX2_init 0 = .ok (.aload_n 0, 1) := by decide +kernel
theorem dX2_init_1 : decode cX2_init 1 = .ok (.invokespecial 1, 3) := by decide +kernel
theorem dX2_init_4 : decode cX2_init 4 = .ok (.aload_n 0, 1) := by decide +kernel
theorem dX2_init_5 : decode cX2_init 5 = .ok (.bipush 8, 2) := by decide +kernel
theorem dX2_init_7 : decode cX2_init 7 = .ok (.anewarray 9, 3) := by decide +kernel
theorem dX2_init_10 : decode cX2_init 10 = .ok (.putfield 11, 3) := by decide +kernel
theorem dX2_init_13 : decode cX2_init 13 = .ok (.aload_n 0, 1) := by decide +kernel
theorem dX2_init_14 : decode cX2_init 14 = .ok (.iconst 0, 1) := by decide +kernel
theorem dX2_init_15 : decode cX2_init 15 = .ok (.putfield 15, 3) := by decide +kernel
theorem dX2_init_18 : decode cX2_init 18 = .ok (.aload_n 0, 1) := by decide +kernel
theorem dX2_init_19 : decode cX2_init 19 = .ok (.iconst (-1), 1) := by decide +kernel
theorem dX2_init_20 : decode cX2_init 20 = .ok (.putfield 19, 3) := by decide +kernel
theorem dX2_init_23 : decode cX2_init 23 = .ok (.aload_n 0, 1) := by decide +kernel
theorem dX2_init_24 : decode cX2_init 24 = .ok (.iconst 0, 1) := by decide +kernel
theorem dX2_init_25 : decode cX2_init 25 = .ok (.putfield 22, 3) := by decide +kernel
theorem dX2_init_28 : decode cX2_init 28 = .ok (.aload_n 0, 1) := by decide +kernel
theorem dX2_init_29 : decode cX2_init 29 = .ok (.iconst 4, 1) := by decide +kernel
theorem dX2_init_30 : decode cX2_init 30 = .ok (.newarray .int, 2) := by decide +kernel
theorem dX2_init_32 : decode cX2_init 32 = .ok (.putfield 25, 3) := by decide +kernel
theorem dX2_init_35 : decode cX2_init 35 = .ok (.aload_n 0, 1) := by decide +kernel
theorem dX2_init_36 : decode cX2_init 36 = .ok (.iconst 4, 1) := by decide +kernel
theorem dX2_init_37 : decode cX2_init 37 = .ok (.newarray .int, 2) := by decide +kernel
theorem dX2_init_39 : decode cX2_init 39 = .ok (.putfield 29, 3) := by decide +kernel
theorem dX2_init_42 : decode cX2_init 42 = .ok (.aload_n 0, 1) := by decide +kernel
theorem dX2_init_43 : decode cX2_init 43 = .ok (.iconst 4, 1) := by decide +kernel
theorem dX2_init_44 : decode cX2_init 44 = .ok (.newarray .int, 2) := by decide +kernel
theorem dX2_init_46 : decode cX2_init 46 = .ok (.putfield 32, 3) := by decide +kernel
theorem dX2_init_49 : decode cX2_init 49 = .ok (.aload_n 0, 1) := by decide +kernel
theorem dX2_init_50 : decode cX2_init 50 = .ok (.iconst 0, 1) := by decide +kernel
theorem dX2_init_51 : decode cX2_init 51 = .ok (.putfield 35, 3) := by decide +kernel
theorem dX2_init_54 : decode cX2_init 54 = .ok (.aload_n 0, 1) := by decide +kernel
theorem dX2_init_55 : decode cX2_init 55 = .ok (.iconst 0, 1) := by decide +kernel
theorem dX2_init_56 : decode cX2_init 56 = .ok (.putfield 38, 3) := by decide +kernel
theorem dX2_init_59 : decode cX2_init 59 = .ok (.aload_n 0, 1) := by decide +kernel
theorem dX2_init_60 : decode cX2_init 60 = .ok (.sipush 256, 3) := by decide +kernel
theorem dX2_init_63 : decode cX2_init 63 = .ok (.newarray .int, 2) := by decide +kernel
theorem dX2_init_65 : decode cX2_init 65 = .ok (.putfield 41, 3) := by decide +kernel
theorem dX2_init_68 : decode cX2_init 68 = .ok (.aload_n 0, 1) := by decide +kernel
theorem dX2_init_69 : decode cX2_init 69 = .ok (.iconst (-1), 1) := by decide +kernel
theorem dX2_init_70 : decode cX2_init 70 = .ok (.putfield 44, 3) := by decide +kernel
theorem dX2_init_73 : decode cX2_init 73 = .ok (.aload_n 0, 1) := by decide +kernel
theorem dX2_init_74 : decode cX2_init 74 = .ok (.iconst (-1), 1) := by decide +kernel
theorem dX2_init_75 : decode cX2_init 75 = .ok (.putfield 47, 3) := by decide +kernel
theorem dX2_init_78 : decode cX2_init 78 = .ok (.aload_n 0, 1) := by decide +kernel
theorem dX2_init_79 : decode cX2_init 79 = .ok (.iconst (-1), 1) := by decide +kernel
theorem dX2_init_80 : decode cX2_init 80 = .ok (.putfield 50, 3) := by decide +kernel
theorem dX2_init_83 : decode cX2_init 83 = .ok (.aload_n 0, 1) := by decide +kernel
theorem dX2_init_84 : decode cX2_init 84 = .ok (.iconst 0, 1) := by decide +kernel
theorem dX2_init_85 : decode cX2_init 85 = .ok (.putfield 53, 3) := by decide +kernel
theorem dX2_init_88 : decode cX2_init 88 = .ok (.aload_n 0, 1) := by decide +kernel
theorem dX2_init_89 : decode cX2_init 89 = .ok (.iconst 0, 1) := by decide +kernel
theorem dX2_init_90 : decode cX2_init 90 = .ok (.putfield 56, 3) := by decide +kernel
theorem dX2_init_93 : decode cX2_init 93 = .ok (.return_, 1) := by decide +kernel
set_option maxRecDepth 20000 in
theorem ggX2_reel_X2_isWithin : GoodIn wsX2_reel wsX2_isWithin := goodIn_r _ [9] (by decide +kernel) (by decide +kernel)
set_option maxRecDepth 20000 in
theorem gX2_reel_X2_isWithin : GoodIn wsX2_reel (va_wsS RX2 59 yX2_isWithin wsX2_isWithin) := goodIn_app (goodIn_of _ (by decide +kernel)) ggX2_reel_X2_isWithin
set_option maxRecDepth 20000 in
theorem ggX2_reel_X2_end : GoodIn wsX2_reel wsX2_end := goodIn_r _ [13, 14, 31, 32, 33, 34, 35, 36, 37, 38, 39, 40, 41, 42, 43, 44, 45] (by decide +kernel) (by decide +kernel)
set_option maxRecDepth 20000 in
theorem gX2_reel_X2_end : GoodIn wsX2_reel (wsV RX2 63 RX2 yX2_end wsX2_end) := goodIn_app (goodIn_of _ (by decide +kernel)) ggX2_reel_X2_end
set_option maxRecDepth 20000 in
theorem ggX2_reel_X0_init : GoodIn wsX2_reel wsX0_init := goodIn_r _ [16, 17, 18, 19, 20, 21, 22, 23, 24, 25, 26, 27, 28, 29, 30, 46, 47, 48, 49] (by decide +kernel) (by decide +kernel)
set_option maxRecDepth 20000 in
theorem gX2_reel_X0_init_n67 : GoodIn wsX2_reel (wsX0_init) := ggX2_reel_X0_init
theorem dX2_reel_0 : decode cX2_reel 0 = .ok (.iload_n 1, 1) := by decide +kernel
theorem dX2_reel_1 : decode cX2_reel 1 = .ok (.iconst 1, 1) := by decide +kernel
theorem dX2_reel_2 : decode cX2_reel 2 = .ok (.bipush 64, 2) := by decide +kernel
theorem dX2_reel_4 : decode cX2_reel 4 = .ok (.invokestatic 59, 3) := by decide +kernel
theorem dX2_reel_7 : decode cX2_reel 7 = .ok (.ifCond .eq 13, 3) := by decide +kernel
theorem dX2_reel_10 : decode cX2_reel 10 = .ok (.iload_n 2, 1) := by decide +kernel
theorem dX2_reel_11 : decode cX2_reel 11 = .ok (.iconst 0, 1) := by decide +kernel
theorem dX2_reel_12 : decode cX2_reel 12 = .ok (.bipush 15, 2) := by decide +kernel
theorem dX2_reel_14 : decode cX2_reel 14 = .ok (.invokestatic 59, 3) := by decide +kernel
theorem dX2_reel_17 : decode cX2_reel 17 = .ok (.ifCond .ne 10, 3) := by decide +kernel
theorem dX2_reel_20 : decode cX2_reel 20 = .ok (.aload_n 0, 1) := by decide +kernel
theorem dX2_reel_21 : decode cX2_reel 21 = .ok (.iconst 1, 1) := by decide +kernel
theorem dX2_reel_22 : decode cX2_reel 22 = .ok (.iconst (-1), 1) := by decide +kernel
theorem dX2_reel_23 : decode cX2_reel 23 = .ok (.invokevirtual 63, 3) := by decide +kernel
theorem dX2_reel_26 : decode cX2_reel 26 = .ok (.ireturn, 1) := by decide +kernel
theorem dX2_reel_27 : decode cX2_reel 27 = .ok (.aload_n 0, 1) := by decide +kernel
theorem dX2_reel_28 : decode cX2_reel 28 = .ok (.getfield 15, 3) := by decide +kernel
theorem dX2_reel_31 : decode cX2_reel 31 = .ok (.aload_n 0, 1) := by decide +kernel
theorem dX2_reel_32 : decode cX2_reel 32 = .ok (.getfield 11, 3) := by decide +kernel
theorem dX2_reel_35 : decode cX2_reel 35 = .ok (.arraylength, 1) := by decide +kernel
theorem dX2_reel_36 : decode cX2_reel 36 = .ok (.if_icmp .lt 10, 3) := by decide +kernel
theorem dX2_reel_39 : decode cX2_reel 39 = .ok (.aload_n 0, 1) := by decide +kernel
theorem dX2_reel_40 : decode cX2_reel 40 = .ok (.iconst 5, 1) := by decide +kernel
theorem dX2_reel_41 : decode cX2_reel 41 = .ok (.iconst (-1), 1) := by decide +kernel
theorem dX2_reel_42 : decode cX2_reel 42 = .ok (.invokevirtual 63, 3) := by decide +kernel
theorem dX2_reel_45 : decode cX2_reel 45 = .ok (.ireturn, 1) := by decide +kernel
theorem dX2_reel_46 : decode cX2_reel 46 = .ok (.aload_n 0, 1) := by decide +kernel
theorem dX2_reel_47 : decode cX2_reel 47 = .ok (.getfield 15, 3) := by decide +kernel
theorem dX2_reel_50 : decode cX2_reel 50 = .ok (.istore_n 3, 1) := by decide +kernel
theorem dX2_reel_51 : decode cX2_reel 51 = .ok (.aload_n 0, 1) := by decide +kernel
theorem dX2_reel_52 : decode cX2_reel 52 = .ok (.getfield 11, 3) := by decide +kernel
theorem dX2_reel_55 : decode cX2_reel 55 = .ok (.iload_n 3, 1) := by decide +kernel
theorem dX2_reel_56 : decode cX2_reel 56 = .ok (.new 9, 3) := by decide +kernel
theorem dX2_reel_59 : decode cX2_reel 59 = .ok (.dup, 1) := by decide +kernel
theorem dX2_reel_60 : decode cX2_reel 60 = .ok (.iload_n 1, 1) := by decide +kernel
theorem dX2_reel_61 : decode cX2_reel 61 = .ok (.iload_n 2, 1) := by decide +kernel
theorem dX2_reel_62 : decode cX2_reel 62 = .ok (.invokespecial 67, 3) := by decide +kernel
theorem dX2_reel_65 : decode cX2_reel 65 = .ok (.aastore, 1) := by decide +kernel
theorem dX2_reel_66 : decode cX2_reel 66 = .ok (.aload_n 0, 1) := by decide +kernel
theorem dX2_reel_67 : decode cX2_reel 67 = .ok (.iload_n 3, 1) := by decide +kernel
theorem dX2_reel_68 : decode cX2_reel 68 = .ok (.iconst 1, 1) := by decide +kernel
theorem dX2_reel_69 : decode cX2_reel 69 = .ok (.iadd, 1) := by decide +kernel
theorem dX2_reel_70 : decode cX2_reel 70 = .ok (.putfield 15, 3) := by decide +kernel
theorem dX2_reel_73 : decode cX2_reel 73 = .ok (.aload_n 0, 1) := by decide +kernel
theorem dX2_reel_74 : decode cX2_reel 74 = .ok (.iconst 0, 1) := by decide +kernel
theorem dX2_reel_75 : decode cX2_reel 75 = .ok (.iload_n 3, 1) := by decide +kernel
theorem dX2_reel_76 : decode cX2_reel 76 = .ok (.invokevirtual 63, 3) := by decide +kernel
theorem dX2_reel_79 : decode cX2_reel 79 = .ok (.ireturn, 1) := by decide +kernel
set_option maxRecDepth 20000 in
theorem ggX2_strip_X2_trackOf : GoodIn wsX2_strip wsX2_trackOf := goodIn_r _ [5, 6, 7, 8, 4, 9, 10, 11, 12, 13, 14, 15, 16, 25, 26, 27, 28, 29, 30, 31, 32, 33, 34, 35, 36, 37, 38, 39, 40] (by decide +kernel) (by decide +kernel)
set_option maxRecDepth 20000 in
theorem gX2_strip_X2_trackOf : GoodIn wsX2_strip (wsV RX2 70 RX2 yX2_trackOf wsX2_trackOf) := goodIn_app (goodIn_of _ (by decide +kernel)) ggX2_strip_X2_trackOf
set_option maxRecDepth 20000 in
theorem ggX2_strip_X2_end : GoodIn wsX2_strip wsX2_end := goodIn_r _ [20, 21, 26, 27, 28, 29, 30, 31, 32, 33, 34, 35, 36, 37, 38, 39, 40] (by decide +kernel) (by decide +kernel)
set_option maxRecDepth 20000 in
theorem gX2_strip_X2_end : GoodIn wsX2_strip (wsV RX2 63 RX2 yX2_end wsX2_end) := goodIn_app (goodIn_of _ (by decide +kernel)) ggX2_strip_X2_end
theorem dX2_strip_0 : decode cX2_strip 0 = .ok (.aload_n 0, 1) := by decide +kernel
theorem dX2_strip_1 : decode cX2_strip 1 = .ok (.iload_n 1, 1) := by decide +kernel
theorem dX2_strip_2 : decode cX2_strip 2 = .ok (.iload_n 2, 1) := by decide +kernel
theorem dX2_strip_3 : decode cX2_strip 3 = .ok (.invokevirtual 70, 3) := by decide +kernel
theorem dX2_strip_6 : decode cX2_strip 6 = .ok (.astore_n 3, 1) := by decide +kernel
theorem dX2_strip_7 : decode cX2_strip 7 = .ok (.aload_n 3, 1) := by decide +kernel
theorem dX2_strip_8 : decode cX2_strip 8 = .ok (.ifnonnull 10, 3) := by decide +kernel
theorem dX2_strip_11 : decode cX2_strip 11 = .ok (.aload_n 0, 1) := by decide +kernel
theorem dX2_strip_12 : decode cX2_strip 12 = .ok (.iconst 1, 1) := by decide +kernel
theorem dX2_strip_13 : decode cX2_strip 13 = .ok (.iconst (-1), 1) := by decide +kernel
theorem dX2_strip_14 : decode cX2_strip 14 = .ok (.invokevirtual 63, 3) := by decide +kernel
theorem dX2_strip_17 : decode cX2_strip 17 = .ok (.ireturn, 1) := by decide +kernel
theorem dX2_strip_18 : decode cX2_strip 18 = .ok (.aload_n 3, 1) := by decide +kernel
theorem dX2_strip_19 : decode cX2_strip 19 = .ok (.getfield 74, 3) := by decide +kernel
theorem dX2_strip_22 : decode cX2_strip 22 = .ok (.ifCond .eq 7, 3) := by decide +kernel
theorem dX2_strip_25 : decode cX2_strip 25 = .ok (.iconst 1, 1) := by decide +kernel
theorem dX2_strip_26 : decode cX2_strip 26 = .ok (.goto 4, 3) := by decide +kernel
theorem dX2_strip_29 : decode cX2_strip 29 = .ok (.iconst 0, 1) := by decide +kernel
theorem dX2_strip_30 : decode cX2_strip 30 = .ok (.istore 4, 2) := by decide +kernel
theorem dX2_strip_32 : decode cX2_strip 32 = .ok (.aload_n 3, 1) := by decide +kernel
theorem dX2_strip_33 : decode cX2_strip 33 = .ok (.iconst 0, 1) := by decide +kernel
theorem dX2_strip_34 : decode cX2_strip 34 = .ok (.putfield 74, 3) := by decide +kernel
theorem dX2_strip_37 : decode cX2_strip 37 = .ok (.aload_n 0, 1) := by decide +kernel
theorem dX2_strip_38 : decode cX2_strip 38 = .ok (.iconst 0, 1) := by decide +kernel
theorem dX2_strip_39 : decode cX2_strip 39 = .ok (.iload 4, 2) := by decide +kernel
theorem dX2_strip_41 : decode cX2_strip 41 = .ok (.invokevirtual 63, 3) := by decide +kernel
theorem dX2_strip_44 : decode cX2_strip 44 = .ok (.ireturn, 1) := by decide +kernel
set_option maxRecDepth 20000 in
theorem ggX2_lay_X2_trackOf : GoodIn wsX2_lay wsX2_trackOf := goodIn_r _ [5, 6, 7, 8, 4, 9, 10, 11, 12, 13, 14, 15, 16, 34, 35, 36, 37, 38, 39, 40, 41, 42, 43, 44, 45, 46, 47, 48, 49] (by decide +kernel) (by decide +kernel)
set_option maxRecDepth 20000 in
theorem gX2_lay_X2_trackOf : GoodIn wsX2_lay (wsV RX2 70 RX2 yX2_trackOf wsX2_trackOf) := goodIn_app (goodIn_of _ (by decide +kernel)) ggX2_lay_X2_trackOf
set_option maxRecDepth 20000 in
theorem ggX2_lay_X2_end : GoodIn wsX2_lay wsX2_end := goodIn_r _ [20, 21, 35, 36, 37, 38, 39, 40, 41, 42, 43, 44, 45, 46, 47, 48, 49] (by decide +kernel) (by decide +kernel)
set_option maxRecDepth 20000 in
theorem gX2_lay_X2_end : GoodIn wsX2_lay (wsV RX2 63 RX2 yX2_end wsX2_end) := goodIn_app (goodIn_of _ (by decide +kernel)) ggX2_lay_X2_end
set_option maxRecDepth 20000 in
theorem ggX2_lay_X1_wipe : GoodIn wsX2_lay wsX1_wipe := goodIn_r _ [25, 26, 27, 28, 29, 30, 31, 32, 33] (by decide +kernel) (by decide +kernel)
set_option maxRecDepth 20000 in
theorem gX2_lay_X1_wipe_n80 : GoodIn wsX2_lay (wsX1_wipe) := ggX2_lay_X1_wipe
theorem dX2_lay_0 : decode cX2_lay 0 = .ok (.aload_n 0, 1) := by decide +kernel
theorem dX2_lay_1 : decode cX2_lay 1 = .ok (.iload_n 1, 1) := by decide +kernel
theorem dX2_lay_2 : decode cX2_lay 2 = .ok (.iload_n 2, 1) := by decide +kernel
theorem dX2_lay_3 : decode cX2_lay 3 = .ok (.invokevirtual 70, 3) := by decide +kernel
theorem dX2_lay_6 : decode cX2_lay 6 = .ok (.astore_n 3, 1) := by decide +kernel
theorem dX2_lay_7 : decode cX2_lay 7 = .ok (.aload_n 3, 1) := by decide +kernel
theorem dX2_lay_8 : decode cX2_lay 8 = .ok (.ifnonnull 10, 3) := by decide +kernel
theorem dX2_lay_11 : decode cX2_lay 11 = .ok (.aload_n 0, 1) := by decide +kernel
theorem dX2_lay_12 : decode cX2_lay 12 = .ok (.iconst 1, 1) := by decide +kernel
theorem dX2_lay_13 : decode cX2_lay 13 = .ok (.iconst (-1), 1) := by decide +kernel
theorem dX2_lay_14 : decode cX2_lay 14 = .ok (.invokevirtual 63, 3) := by decide +kernel
theorem dX2_lay_17 : decode cX2_lay 17 = .ok (.ireturn, 1) := by decide +kernel
theorem dX2_lay_18 : decode cX2_lay 18 = .ok (.aload_n 3, 1) := by decide +kernel
theorem dX2_lay_19 : decode cX2_lay 19 = .ok (.getfield 74, 3) := by decide +kernel
theorem dX2_lay_22 : decode cX2_lay 22 = .ok (.ifCond .eq 7, 3) := by decide +kernel
theorem dX2_lay_25 : decode cX2_lay 25 = .ok (.iconst 0, 1) := by decide +kernel
theorem dX2_lay_26 : decode cX2_lay 26 = .ok (.goto 4, 3) := by decide +kernel
theorem dX2_lay_29 : decode cX2_lay 29 = .ok (.iconst 1, 1) := by decide +kernel
theorem dX2_lay_30 : decode cX2_lay 30 = .ok (.istore 4, 2) := by decide +kernel
theorem dX2_lay_32 : decode cX2_lay 32 = .ok (.aload_n 3, 1) := by decide +kernel
theorem dX2_lay_33 : decode cX2_lay 33 = .ok (.iconst 1, 1) := by decide +kernel
theorem dX2_lay_34 : decode cX2_lay 34 = .ok (.putfield 74, 3) := by decide +kernel
theorem dX2_lay_37 : decode cX2_lay 37 = .ok (.aload_n 3, 1) := by decide +kernel
theorem dX2_lay_38 : decode cX2_lay 38 = .ok (.invokevirtual 80, 3) := by decide +kernel
theorem dX2_lay_41 : decode cX2_lay 41 = .ok (.aload_n 0, 1) := by decide +kernel
theorem dX2_lay_42 : decode cX2_lay 42 = .ok (.iconst 0, 1) := by decide +kernel
theorem dX2_lay_43 : decode cX2_lay 43 = .ok (.iload 4, 2) := by decide +kernel
theorem dX2_lay_45 : decode cX2_lay 45 = .ok (.invokevirtual 63, 3) := by decide +kernel
theorem dX2_lay_48 : decode cX2_lay 48 = .ok (.ireturn, 1) := by decide +kernel
set_option maxRecDepth 20000 in
theorem ggX2_thread_X2_reelOf : GoodIn wsX2_thread wsX2_reelOf := goodIn_r _ [6, 7, 13, 14, 15, 16, 17, 18, 19, 20, 21, 22, 23, 24, 25, 26, 27] (by decide +kernel) (by decide +kernel)
set_option maxRecDepth 20000 in
theorem gX2_thread_X2_reelOf : GoodIn wsX2_thread (wsV RX2 83 RX2 yX2_reelOf wsX2_reelOf) := goodIn_app (goodIn_of _ (by decide +kernel)) ggX2_thread_X2_reelOf
set_option maxRecDepth 20000 in
theorem ggX2_thread_X2_end : GoodIn wsX2_thread wsX2_end := goodIn_r _ [11, 12, 13, 14, 15, 16, 17, 18, 19, 20, 21, 22, 23, 24, 25, 26, 27] (by decide +kernel) (by decide +kernel)
set_option maxRecDepth 20000 in
theorem gX2_thread_X2_end : GoodIn wsX2_thread (wsV RX2 63 RX2 yX2_end wsX2_end) := goodIn_app (goodIn_of _ (by decide +kernel)) ggX2_thread_X2_end
theorem dX2_thread_0 : decode cX2_thread 0 = .ok (.iload_n 1, 1) := by decide +kernel
theorem dX2_thread_1 : decode cX2_thread 1 = .ok (.iconst (-1), 1) := by decide +kernel
theorem dX2_thread_2 : decode cX2_thread 2 = .ok (.if_icmp .eq 18, 3) := by decide +kernel
theorem dX2_thread_5 : decode cX2_thread 5 = .ok (.aload_n 0, 1) := by decide +kernel
theorem dX2_thread_6 : decode cX2_thread 6 = .ok (.iload_n 1, 1) := by decide +kernel
theorem dX2_thread_7 : decode cX2_thread 7 = .ok (.invokevirtual 83, 3) := by decide +kernel
theorem dX2_thread_10 : decode cX2_thread 10 = .ok (.ifnonnull 10, 3) := by decide +kernel
theorem dX2_thread_13 : decode cX2_thread 13 = .ok (.aload_n 0, 1) := by decide +kernel
theorem dX2_thread_14 : decode cX2_thread 14 = .ok (.iconst 1, 1) := by decide +kernel
theorem dX2_thread_15 : decode cX2_thread 15 = .ok (.iconst (-1), 1) := by decide +kernel
theorem dX2_thread_16 : decode cX2_thread 16 = .ok (.invokevirtual 63, 3) := by decide +kernel
theorem dX2_thread_19 : decode cX2_thread 19 = .ok (.ireturn, 1) := by decide +kernel
theorem dX2_thread_20 : decode cX2_thread 20 = .ok (.aload_n 0, 1) := by decide +kernel
theorem dX2_thread_21 : decode cX2_thread 21 = .ok (.getfield 19, 3) := by decide +kernel
theorem dX2_thread_24 : decode cX2_thread 24 = .ok (.istore_n 2, 1) := by decide +kernel
theorem dX2_thread_25 : decode cX2_thread 25 = .ok (.aload_n 0, 1) := by decide +kernel
theorem dX2_thread_26 : decode cX2_thread 26 = .ok (.iload_n 1, 1) := by decide +kernel
theorem dX2_thread_27 : decode cX2_thread 27 = .ok (.putfield 19, 3) := by decide +kernel
theorem dX2_thread_30 : decode cX2_thread 30 = .ok (.aload_n 0, 1) := by decide +kernel
theorem dX2_thread_31 : decode cX2_thread 31 = .ok (.iconst 0, 1) := by decide +kernel
theorem dX2_thread_32 : decode cX2_thread 32 = .ok (.iload_n 2, 1) := by decide +kernel
theorem dX2_thread_33 : decode cX2_thread 33 = .ok (.invokevirtual 63, 3) := by decide +kernel
theorem dX2_thread_36 : decode cX2_thread 36 = .ok (.ireturn, 1) := by decide +kernel
set_option maxRecDepth 20000 in
theorem ggX2_head_X2_isTrack : GoodIn wsX2_head wsX2_isTrack := goodIn_r _ [5, 6, 7, 4, 8] (by decide +kernel) (by decide +kernel)
set_option maxRecDepth 20000 in
theorem gX2_head_X2_isTrack : GoodIn wsX2_head (va_wsS RX2 87 yX2_isTrack wsX2_isTrack) := goodIn_app (goodIn_of _ (by decide +kernel)) ggX2_head_X2_isTrack
set_option maxRecDepth 20000 in
theorem ggX2_head_X2_isWithin : GoodIn wsX2_head wsX2_isWithin := goodIn_r _ [8] (by decide +kernel) (by decide +kernel)
set_option maxRecDepth 20000 in
theorem gX2_head_X2_isWithin : GoodIn wsX2_head (va_wsS RX2 59 yX2_isWithin wsX2_isWithin) := goodIn_app (goodIn_of _ (by decide +kernel)) ggX2_head_X2_isWithin
set_option maxRecDepth 20000 in
theorem ggX2_head_X2_end : GoodIn wsX2_head wsX2_end := goodIn_r _ [12, 13, 14, 15, 16, 17, 18, 19, 20, 21, 22, 23, 24, 25, 26, 27, 28] (by decide +kernel) (by decide +kernel)
set_option maxRecDepth 20000 in
theorem gX2_head_X2_end : GoodIn wsX2_head (wsV RX2 63 RX2 yX2_end wsX2_end) := goodIn_app (goodIn_of _ (by decide +kernel)) ggX2_head_X2_end
theorem dX2_head_0 : decode cX2_head 0 = .ok (.iload_n 1, 1) := by decide +kernel
theorem dX2_head_1 : decode cX2_head 1 = .ok (.invokestatic 87, 3) := by decide +kernel
theorem dX2_head_4 : decode cX2_head 4 = .ok (.ifCond .eq 14, 3) := by decide +kernel
theorem dX2_head_7 : decode cX2_head 7 = .ok (.iload_n 2, 1) := by decide +kernel
theorem dX2_head_8 : decode cX2_head 8 = .ok (.bipush (-8), 2) := by decide +kernel
theorem dX2_head_10 : decode cX2_head 10 = .ok (.bipush 8, 2) := by decide +kernel
theorem dX2_head_12 : decode cX2_head 12 = .ok (.invokestatic 59, 3) := by decide +kernel
theorem dX2_head_15 : decode cX2_head 15 = .ok (.ifCond .ne 10, 3) := by decide +kernel
theorem dX2_head_18 : decode cX2_head 18 = .ok (.aload_n 0, 1) := by decide +kernel
theorem dX2_head_19 : decode cX2_head 19 = .ok (.iconst 1, 1) := by decide +kernel
theorem dX2_head_20 : decode cX2_head 20 = .ok (.iconst 0, 1) := by decide +kernel
theorem dX2_head_21 : decode cX2_head 21 = .ok (.invokevirtual 63, 3) := by decide +kernel
theorem dX2_head_24 : decode cX2_head 24 = .ok (.ireturn, 1) := by decide +kernel
theorem dX2_head_25 : decode cX2_head 25 = .ok (.aload_n 0, 1) := by decide +kernel
theorem dX2_head_26 : decode cX2_head 26 = .ok (.getfield 25, 3) := by decide +kernel
theorem dX2_head_29 : decode cX2_head 29 = .ok (.iload_n 1, 1) := by decide +kernel
theorem dX2_head_30 : decode cX2_head 30 = .ok (.iaload, 1) := by decide +kernel
theorem dX2_head_31 : decode cX2_head 31 = .ok (.istore_n 3, 1) := by decide +kernel
theorem dX2_head_32 : decode cX2_head 32 = .ok (.aload_n 0, 1) := by decide +kernel
theorem dX2_head_33 : decode cX2_head 33 = .ok (.getfield 25, 3) := by decide +kernel
theorem dX2_head_36 : decode cX2_head 36 = .ok (.iload_n 1, 1) := by decide +kernel
theorem dX2_head_37 : decode cX2_head 37 = .ok (.iload_n 2, 1) := by decide +kernel
theorem dX2_head_38 : decode cX2_head 38 = .ok (.iastore, 1) := by decide +kernel
theorem dX2_head_39 : decode cX2_head 39 = .ok (.aload_n 0, 1) := by decide +kernel
theorem dX2_head_40 : decode cX2_head 40 = .ok (.iconst 0, 1) := by decide +kernel
theorem dX2_head_41 : decode cX2_head 41 = .ok (.iload_n 3, 1) := by decide +kernel
theorem dX2_head_42 : decode cX2_head 42 = .ok (.invokevirtual 63, 3) := by decide +kernel
theorem dX2_head_45 : decode cX2_head 45 = .ok (.ireturn, 1) := by decide +kernel
set_option maxRecDepth 20000 in
theorem ggX2_arm_X2_isTrack : GoodIn wsX2_arm wsX2_isTrack := goodIn_r _ [5, 6, 7, 4, 8] (by decide +kernel) (by decide +kernel)
set_option maxRecDepth 20000 in
theorem gX2_arm_X2_isTrack : GoodIn wsX2_arm (va_wsS RX2 87 yX2_isTrack wsX2_isTrack) := goodIn_app (goodIn_of _ (by decide +kernel)) ggX2_arm_X2_isTrack
set_option maxRecDepth 20000 in
theorem ggX2_arm_X2_isWithin : GoodIn wsX2_arm wsX2_isWithin := goodIn_r _ [8] (by decide +kernel) (by decide +kernel)
set_option maxRecDepth 20000 in
theorem gX2_arm_X2_isWithin : GoodIn wsX2_arm (va_wsS RX2 59 yX2_isWithin wsX2_isWithin) := goodIn_app (goodIn_of _ (by decide +kernel)) ggX2_arm_X2_isWithin
set_option maxRecDepth 20000 in
theorem ggX2_arm_X2_end : GoodIn wsX2_arm wsX2_end := goodIn_r _ [12, 13, 14, 15, 16, 17, 18, 19, 20, 21, 22, 23, 24, 25, 26, 27, 28] (by decide +kernel) (by decide +kernel)
set_option maxRecDepth 20000 in
theorem gX2_arm_X2_end : GoodIn wsX2_arm (wsV RX2 63 RX2 yX2_end wsX2_end) := goodIn_app (goodIn_of _ (by decide +kernel)) ggX2_arm_X2_end
theorem dX2_arm_0 : decode cX2_arm 0 = .ok (.iload_n 1, 1) := by decide +kernel
theorem dX2_arm_1 : decode cX2_arm 1 = .ok (.invokestatic 87, 3) := by decide +kernel
theorem dX2_arm_4 : decode cX2_arm 4 = .ok (.ifCond .eq 12, 3) := by decide +kernel
theorem dX2_arm_7 : decode cX2_arm 7 = .ok (.iload_n 2, 1) := by decide +kernel
theorem dX2_arm_8 : decode cX2_arm 8 = .ok (.iconst 0, 1) := by decide +kernel
theorem dX2_arm_9 : decode cX2_arm 9 = .ok (.iconst 3, 1) := by decide +kernel
theorem dX2_arm_10 : decode cX2_arm 10 = .ok (.invokestatic 59, 3) := by decide +kernel
theorem dX2_arm_13 : decode cX2_arm 13 = .ok (.ifCond .ne 10, 3) := by decide +kernel
theorem dX2_arm_16 : decode cX2_arm 16 = .ok (.aload_n 0, 1) := by decide +kernel
theorem dX2_arm_17 : decode cX2_arm 17 = .ok (.iconst 1, 1) := by decide +kernel
theorem dX2_arm_18 : decode cX2_arm 18 = .ok (.iconst 0, 1) := by decide +kernel
theorem dX2_arm_19 : decode cX2_arm 19 = .ok (.invokevirtual 63, 3) := by decide +kernel
theorem dX2_arm_22 : decode cX2_arm 22 = .ok (.ireturn, 1) := by decide +kernel
theorem dX2_arm_23 : decode cX2_arm 23 = .ok (.aload_n 0, 1) := by decide +kernel
theorem dX2_arm_24 : decode cX2_arm 24 = .ok (.getfield 29, 3) := by decide +kernel
theorem dX2_arm_27 : decode cX2_arm 27 = .ok (.iload_n 1, 1) := by decide +kernel
theorem dX2_arm_28 : decode cX2_arm 28 = .ok (.iaload, 1) := by decide +kernel
theorem dX2_arm_29 : decode cX2_arm 29 = .ok (.istore_n 3, 1) := by decide +kernel
theorem dX2_arm_30 : decode cX2_arm 30 = .ok (.aload_n 0, 1) := by decide +kernel
theorem dX2_arm_31 : decode cX2_arm 31 = .ok (.getfield 29, 3) := by decide +kernel
theorem dX2_arm_34 : decode cX2_arm 34 = .ok (.iload_n 1, 1) := by decide +kernel
theorem dX2_arm_35 : decode cX2_arm 35 = .ok (.iload_n 2, 1) := by decide +kernel
theorem dX2_arm_36 : decode cX2_arm 36 = .ok (.iastore, 1) := by decide +kernel
theorem dX2_arm_37 : decode cX2_arm 37 = .ok (.aload_n 0, 1) := by decide +kernel
theorem dX2_arm_38 : decode cX2_arm 38 = .ok (.iconst 0, 1) := by decide +kernel
theorem dX2_arm_39 : decode cX2_arm 39 = .ok (.iload_n 3, 1) := by decide +kernel
theorem dX2_arm_40 : decode cX2_arm 40 = .ok (.invokevirtual 63, 3) := by decide +kernel
theorem dX2_arm_43 : decode cX2_arm 43 = .ok (.ireturn, 1) := by decide +kernel
set_option maxRecDepth 20000 in
theorem ggX2_source_X2_end : GoodIn wsX2_source wsX2_end := goodIn_r _ [7, 8, 9, 10, 11, 12, 13, 14, 15, 16, 17, 18, 19, 20, 21, 22, 23] (by decide +kernel) (by decide +kernel)
set_option maxRecDepth 20000 in
theorem gX2_source_X2_end : GoodIn wsX2_source (wsV RX2 63 RX2 yX2_end wsX2_end) := goodIn_app (goodIn_of _ (by decide +kernel)) ggX2_source_X2_end
theorem dX2_source_0 : decode cX2_source 0 = .ok (.aload_n 0, 1) := by decide +kernel
theorem dX2_source_1 : decode cX2_source 1 = .ok (.getfield 35, 3) := by decide +kernel
theorem dX2_source_4 : decode cX2_source 4 = .ok (.istore_n 3, 1) := by decide +kernel
theorem dX2_source_5 : decode cX2_source 5 = .ok (.aload_n 0, 1) := by decide +kernel
theorem dX2_source_6 : decode cX2_source 6 = .ok (.iload_n 1, 1) := by decide +kernel
theorem dX2_source_7 : decode cX2_source 7 = .ok (.putfield 35, 3) := by decide +kernel
theorem dX2_source_10 : decode cX2_source 10 = .ok (.aload_n 0, 1) := by decide +kernel
theorem dX2_source_11 : decode cX2_source 11 = .ok (.iload_n 2, 1) := by decide +kernel
theorem dX2_source_12 : decode cX2_source 12 = .ok (.putfield 38, 3) := by decide +kernel
theorem dX2_source_15 : decode cX2_source 15 = .ok (.aload_n 0, 1) := by decide +kernel
theorem dX2_source_16 : decode cX2_source 16 = .ok (.iconst 0, 1) := by decide +kernel
theorem dX2_source_17 : decode cX2_source 17 = .ok (.iload_n 3, 1) := by decide +kernel
theorem dX2_source_18 : decode cX2_source 18 = .ok (.invokevirtual 63, 3) := by decide +kernel
theorem dX2_source_21 : decode cX2_source 21 = .ok (.ireturn, 1) := by decide +kernel
set_option maxRecDepth 20000 in
theorem ggX2_wind_X2_isWithin : GoodIn wsX2_wind wsX2_isWithin := goodIn_r _ [5] (by decide +kernel) (by decide +kernel)
set_option maxRecDepth 20000 in
theorem gX2_wind_X2_isWithin : GoodIn wsX2_wind (va_wsS RX2 59 yX2_isWithin wsX2_isWithin) := goodIn_app (goodIn_of _ (by decide +kernel)) ggX2_wind_X2_isWithin
set_option maxRecDepth 20000 in
theorem ggX2_wind_X2_end : GoodIn wsX2_wind wsX2_end := goodIn_r _ [9, 10, 11, 12, 13, 14, 15, 16, 17, 18, 19, 20, 21, 22, 23, 24, 25] (by decide +kernel) (by decide +kernel)
set_option maxRecDepth 20000 in
theorem gX2_wind_X2_end : GoodIn wsX2_wind (wsV RX2 63 RX2 yX2_end wsX2_end) := goodIn_app (goodIn_of _ (by decide +kernel)) ggX2_wind_X2_end
theorem dX2_wind_0 : decode cX2_wind 0 = .ok (.iload_n 1, 1) := by decide +kernel
theorem dX2_wind_1 : decode cX2_wind 1 = .ok (.sipush (-1000), 3) := by decide +kernel
theorem dX2_wind_4 : decode cX2_wind 4 = .ok (.sipush 1000, 3) := by decide +kernel
theorem dX2_wind_7 : decode cX2_wind 7 = .ok (.invokestatic 59, 3) := by decide +kernel
theorem dX2_wind_10 : decode cX2_wind 10 = .ok (.ifCond .ne 13, 3) := by decide +kernel
theorem dX2_wind_13 : decode cX2_wind 13 = .ok (.aload_n 0, 1) := by decide +kernel
theorem dX2_wind_14 : decode cX2_wind 14 = .ok (.iconst 1, 1) := by decide +kernel
theorem dX2_wind_15 : decode cX2_wind 15 = .ok (.aload_n 0, 1) := by decide +kernel
theorem dX2_wind_16 : decode cX2_wind 16 = .ok (.getfield 22, 3) := by decide +kernel
theorem dX2_wind_19 : decode cX2_wind 19 = .ok (.invokevirtual 63, 3) := by decide +kernel
theorem dX2_wind_22 : decode cX2_wind 22 = .ok (.ireturn, 1) := by decide +kernel
theorem dX2_wind_23 : decode cX2_wind 23 = .ok (.aload_n 0, 1) := by decide +kernel
theorem dX2_wind_24 : decode cX2_wind 24 = .ok (.dup, 1) := by decide +kernel
theorem dX2_wind_25 : decode cX2_wind 25 = .ok (.getfield 22, 3) := by decide +kernel
theorem dX2_wind_28 : decode cX2_wind 28 = .ok (.iload_n 1, 1) := by decide +kernel
theorem dX2_wind_29 : decode cX2_wind 29 = .ok (.iadd, 1) := by decide +kernel
theorem dX2_wind_30 : decode cX2_wind 30 = .ok (.putfield 22, 3) := by decide +kernel
theorem dX2_wind_33 : decode cX2_wind 33 = .ok (.aload_n 0, 1) := by decide +kernel
theorem dX2_wind_34 : decode cX2_wind 34 = .ok (.iconst 0, 1) := by decide +kernel
theorem dX2_wind_35 : decode cX2_wind 35 = .ok (.aload_n 0, 1) := by decide +kernel
theorem dX2_wind_36 : decode cX2_wind 36 = .ok (.getfield 22, 3) := by decide +kernel
theorem dX2_wind_39 : decode cX2_wind 39 = .ok (.invokevirtual 63, 3) := by decide +kernel
theorem dX2_wind_42 : decode cX2_wind 42 = .ok (.ireturn, 1) := by decide +kernel
set_option maxRecDepth 20000 in
theorem ggX2_read_X2_trackOf : GoodIn wsX2_read wsX2_trackOf := goodIn_r _ [6, 7, 8, 9, 5, 10, 11, 12, 13, 14, 15, 16, 17, 58, 43, 44, 45, 46, 47, 48, 49, 50, 51, 52, 53, 54, 55, 56, 57] (by decide +kernel) (by decide +kernel)
set_option maxRecDepth 20000 in
theorem gX2_read_X2_trackOf : GoodIn wsX2_read (wsV RX2 70 RX2 yX2_trackOf wsX2_trackOf) := goodIn_app (goodIn_of _ (by decide +kernel)) ggX2_read_X2_trackOf
set_option maxRecDepth 20000 in
theorem ggX2_read_X2_whyNoneUnderHead : GoodIn wsX2_read wsX2_whyNoneUnderHead := goodIn_r _ [21, 12, 13, 5, 14, 15, 16, 17] (by decide +kernel) (by decide +kernel)
set_option maxRecDepth 20000 in
theorem gX2_read_X2_whyNoneUnderHead : GoodIn wsX2_read (wsV RX2 91 RX2 yX2_whyNoneUnderHead wsX2_whyNoneUnderHead) := goodIn_app (goodIn_of _ (by decide +kernel)) ggX2_read_X2_whyNoneUnderHead
set_option maxRecDepth 20000 in
theorem ggX2_read_X2_end : GoodIn wsX2_read wsX2_end := goodIn_r _ [25, 26, 43, 44, 45, 46, 47, 48, 49, 50, 51, 52, 53, 54, 55, 56, 57] (by decide +kernel) (by decide +kernel)
set_option maxRecDepth 20000 in
theorem gX2_read_X2_end : GoodIn wsX2_read (wsV RX2 63 RX2 yX2_end wsX2_end) := goodIn_app (goodIn_of _ (by decide +kernel)) ggX2_read_X2_end
set_option maxRecDepth 20000 in
theorem ggX2_read_X2_placeOfHead : GoodIn wsX2_read wsX2_placeOfHead := goodIn_r _ [30, 31, 32, 12, 13, 5, 14, 15, 16, 17, 43, 44, 45, 46, 47, 48, 49, 50, 51, 52, 53, 54, 55, 56, 57] (by decide +kernel) (by decide +kernel)
set_option maxRecDepth 20000 in
theorem gX2_read_X2_placeOfHead : GoodIn wsX2_read (wsV RX2 95 RX2 yX2_placeOfHead wsX2_placeOfHead) := goodIn_app (goodIn_of _ (by decide +kernel)) ggX2_read_X2_placeOfHead
set_option maxRecDepth 20000 in
theorem ggX2_read_X1_faultAt : GoodIn wsX2_read wsX1_faultAt := goodIn_r _ [36, 37, 38, 59, 60, 61] (by decide +kernel) (by decide +kernel)
set_option maxRecDepth 20000 in
theorem gX2_read_X1_faultAt_n98 : GoodIn wsX2_read (wsX1_faultAt) := ggX2_read_X1_faultAt
set_option maxRecDepth 20000 in
theorem ggX2_read_X1_numberAt : GoodIn wsX2_read wsX1_numberAt := goodIn_r _ [41, 38, 42, 33, 35, 34, 36, 37, 59, 60, 61] (by decide +kernel) (by decide +kernel)
set_option maxRecDepth 20000 in
theorem gX2_read_X1_numberAt_n101 : GoodIn wsX2_read (wsX1_numberAt) := ggX2_read_X1_numberAt
theorem dX2_read_0 : decode cX2_read 0 = .ok (.aload_n 0, 1) := by decide +kernel
theorem dX2_read_1 : decode cX2_read 1 = .ok (.aload_n 0, 1) := by decide +kernel
theorem dX2_read_2 : decode cX2_read 2 = .ok (.getfield 19, 3) := by decide +kernel
theorem dX2_read_5 : decode cX2_read 5 = .ok (.iload_n 1, 1) := by decide +kernel
theorem dX2_read_6 : decode cX2_read 6 = .ok (.invokevirtual 70, 3) := by decide +kernel
theorem dX2_read_9 : decode cX2_read 9 = .ok (.astore_n 2, 1) := by decide +kernel
theorem dX2_read_10 : decode cX2_read 10 = .ok (.aload_n 2, 1) := by decide +kernel
theorem dX2_read_11 : decode cX2_read 11 = .ok (.ifnonnull 14, 3) := by decide +kernel
theorem dX2_read_14 : decode cX2_read 14 = .ok (.aload_n 0, 1) := by decide +kernel
theorem dX2_read_15 : decode cX2_read 15 = .ok (.aload_n 0, 1) := by decide +kernel
theorem dX2_read_16 : decode cX2_read 16 = .ok (.iload_n 1, 1) := by decide +kernel
theorem dX2_read_17 : decode cX2_read 17 = .ok (.invokevirtual 91, 3) := by decide +kernel
theorem dX2_read_20 : decode cX2_read 20 = .ok (.iconst 0, 1) := by decide +kernel
theorem dX2_read_21 : decode cX2_read 21 = .ok (.invokevirtual 63, 3) := by decide +kernel
theorem dX2_read_24 : decode cX2_read 24 = .ok (.ireturn, 1) := by decide +kernel
theorem dX2_read_25 : decode cX2_read 25 = .ok (.aload_n 0, 1) := by decide +kernel
theorem dX2_read_26 : decode cX2_read 26 = .ok (.iload_n 1, 1) := by decide +kernel
theorem dX2_read_27 : decode cX2_read 27 = .ok (.invokevirtual 95, 3) := by decide +kernel
theorem dX2_read_30 : decode cX2_read 30 = .ok (.istore_n 3, 1) := by decide +kernel
theorem dX2_read_31 : decode cX2_read 31 = .ok (.aload_n 0, 1) := by decide +kernel
theorem dX2_read_32 : decode cX2_read 32 = .ok (.aload_n 2, 1) := by decide +kernel
theorem dX2_read_33 : decode cX2_read 33 = .ok (.iload_n 3, 1) := by decide +kernel
theorem dX2_read_34 : decode cX2_read 34 = .ok (.invokevirtual 98, 3) := by decide +kernel
theorem dX2_read_37 : decode cX2_read 37 = .ok (.aload_n 2, 1) := by decide +kernel
theorem dX2_read_38 : decode cX2_read 38 = .ok (.iload_n 3, 1) := by decide +kernel
theorem dX2_read_39 : decode cX2_read 39 = .ok (.invokevirtual 101, 3) := by decide +kernel
theorem dX2_read_42 : decode cX2_read 42 = .ok (.invokevirtual 63, 3) := by decide +kernel
theorem dX2_read_45 : decode cX2_read 45 = .ok (.ireturn, 1) := by decide +kernel
set_option maxRecDepth 20000 in
theorem ggX2_write_X2_trackOf : GoodIn wsX2_write wsX2_trackOf := goodIn_r _ [6, 7, 8, 9, 5, 10, 11, 12, 13, 14, 15, 16, 17, 75, 60, 61, 62, 63, 64, 65, 66, 67, 68, 69, 70, 71, 72, 73, 74] (by decide +kernel) (by decide +kernel)
set_option maxRecDepth 20000 in
theorem gX2_write_X2_trackOf : GoodIn wsX2_write (wsV RX2 70 RX2 yX2_trackOf wsX2_trackOf) := goodIn_app (goodIn_of _ (by decide +kernel)) ggX2_write_X2_trackOf
set_option maxRecDepth 20000 in
theorem ggX2_write_X2_whyNoneUnderHead : GoodIn wsX2_write wsX2_whyNoneUnderHead := goodIn_r _ [21, 12, 13, 5, 14, 15, 16, 17] (by decide +kernel) (by decide +kernel)
set_option maxRecDepth 20000 in
theorem gX2_write_X2_whyNoneUnderHead : GoodIn wsX2_write (wsV RX2 91 RX2 yX2_whyNoneUnderHead wsX2_whyNoneUnderHead) := goodIn_app (goodIn_of _ (by decide +kernel)) ggX2_write_X2_whyNoneUnderHead
set_option maxRecDepth 20000 in
theorem ggX2_write_X2_end : GoodIn wsX2_write wsX2_end := goodIn_r _ [25, 26, 60, 61, 62, 63, 64, 65, 66, 67, 68, 69, 70, 71, 72, 73, 74] (by decide +kernel) (by decide +kernel)
set_option maxRecDepth 20000 in
theorem gX2_write_X2_end : GoodIn wsX2_write (wsV RX2 63 RX2 yX2_end wsX2_end) := goodIn_app (goodIn_of _ (by decide +kernel)) ggX2_write_X2_end
set_option maxRecDepth 20000 in
theorem ggX2_write_X2_placeOfHead : GoodIn wsX2_write wsX2_placeOfHead := goodIn_r _ [30, 31, 32, 12, 13, 5, 14, 15, 16, 17, 60, 61, 62, 63, 64, 65, 66, 67, 68, 69, 70, 71, 72, 73, 74] (by decide +kernel) (by decide +kernel)
set_option maxRecDepth 20000 in
theorem gX2_write_X2_placeOfHead : GoodIn wsX2_write (wsV RX2 95 RX2 yX2_placeOfHead wsX2_placeOfHead) := goodIn_app (goodIn_of _ (by decide +kernel)) ggX2_write_X2_placeOfHead
set_option maxRecDepth 20000 in
theorem ggX2_write_X1_put : GoodIn wsX2_write wsX1_put := goodIn_r _ [36, 37, 38, 39, 40, 34, 41, 42, 43, 44, 45, 46, 47, 48, 49, 50, 51, 52, 53, 54, 55, 56, 76, 77, 78] (by decide +kernel) (by decide +kernel)
set_option maxRecDepth 20000 in
theorem gX2_write_X1_put_n104 : GoodIn wsX2_write (wsX1_put) := ggX2_write_X1_put
set_option maxRecDepth 20000 in
theorem ggX2_write_X1_faultAt : GoodIn wsX2_write wsX1_faultAt := goodIn_r _ [41, 42, 37, 76, 77, 78] (by decide +kernel) (by decide +kernel)
set_option maxRecDepth 20000 in
theorem gX2_write_X1_faultAt_n98 : GoodIn wsX2_write (wsX1_faultAt) := ggX2_write_X1_faultAt
set_option maxRecDepth 20000 in
theorem ggX2_write_X1_numberAt : GoodIn wsX2_write wsX1_numberAt := goodIn_r _ [59, 37, 38, 39, 40, 34, 41, 42, 76, 77, 78] (by decide +kernel) (by decide +kernel)
set_option maxRecDepth 20000 in
theorem gX2_write_X1_numberAt_n101 : GoodIn wsX2_write (wsX1_numberAt) := ggX2_write_X1_numberAt
theorem dX2_write_0 : decode cX2_write 0 = .ok (.aload_n 0, 1) := by decide +kernel
theorem dX2_write_1 : decode cX2_write 1 = .ok (.aload_n 0, 1) := by decide +kernel
theorem dX2_write_2 : decode cX2_write 2 = .ok (.getfield 19, 3) := by decide +kernel
theorem dX2_write_5 : decode cX2_write 5 = .ok (.iload_n 1, 1) := by decide +kernel
theorem dX2_write_6 : decode cX2_write 6 = .ok (.invokevirtual 70, 3) := by decide +kernel
theorem dX2_write_9 : decode cX2_write 9 = .ok (.astore_n 3, 1) := by decide +kernel
theorem dX2_write_10 : decode cX2_write 10 = .ok (.aload_n 3, 1) := by decide +kernel
theorem dX2_write_11 : decode cX2_write 11 = .ok (.ifnonnull 14, 3) := by decide +kernel
theorem dX2_write_14 : decode cX2_write 14 = .ok (.aload_n 0, 1) := by decide +kernel
theorem dX2_write_15 : decode cX2_write 15 = .ok (.aload_n 0, 1) := by decide +kernel
theorem dX2_write_16 : decode cX2_write 16 = .ok (.iload_n 1, 1) := by decide +kernel
theorem dX2_write_17 : decode cX2_write 17 = .ok (.invokevirtual 91, 3) := by decide +kernel
theorem dX2_write_20 : decode cX2_write 20 = .ok (.iconst 0, 1) := by decide +kernel
theorem dX2_write_21 : decode cX2_write 21 = .ok (.invokevirtual 63, 3) := by decide +kernel
theorem dX2_write_24 : decode cX2_write 24 = .ok (.ireturn, 1) := by decide +kernel
theorem dX2_write_25 : decode cX2_write 25 = .ok (.aload_n 0, 1) := by decide +kernel
theorem dX2_write_26 : decode cX2_write 26 = .ok (.iload_n 1, 1) := by decide +kernel
theorem dX2_write_27 : decode cX2_write 27 = .ok (.invokevirtual 95, 3) := by decide +kernel
theorem dX2_write_30 : decode cX2_write 30 = .ok (.istore 4, 2) := by decide +kernel
theorem dX2_write_32 : decode cX2_write 32 = .ok (.aload_n 3, 1) := by decide +kernel
theorem dX2_write_33 : decode cX2_write 33 = .ok (.iload 4, 2) := by decide +kernel
theorem dX2_write_35 : decode cX2_write 35 = .ok (.iload_n 2, 1) := by decide +kernel
theorem dX2_write_36 : decode cX2_write 36 = .ok (.invokevirtual 104, 3) := by decide +kernel
theorem dX2_write_39 : decode cX2_write 39 = .ok (.aload_n 0, 1) := by decide +kernel
theorem dX2_write_40 : decode cX2_write 40 = .ok (.aload_n 3, 1) := by decide +kernel
theorem dX2_write_41 : decode cX2_write 41 = .ok (.iload 4, 2) := by decide +kernel
theorem dX2_write_43 : decode cX2_write 43 = .ok (.invokevirtual 98, 3) := by decide +kernel
theorem dX2_write_46 : decode cX2_write 46 = .ok (.aload_n 3, 1) := by decide +kernel
theorem dX2_write_47 : decode cX2_write 47 = .ok (.iload 4, 2) := by decide +kernel
theorem dX2_write_49 : decode cX2_write 49 = .ok (.invokevirtual 101, 3) := by decide +kernel
theorem dX2_write_52 : decode cX2_write 52 = .ok (.invokevirtual 63, 3) := by decide +kernel
theorem dX2_write_55 : decode cX2_write 55 = .ok (.ireturn, 1) := by decide +kernel
set_option maxRecDepth 20000 in
theorem ggX2_run_X2_isWithin : GoodIn wsX2_run wsX2_isWithin := goodIn_r _ [7] (by decide +kernel) (by decide +kernel)
set_option maxRecDepth 20000 in
theorem gX2_run_X2_isWithin : GoodIn wsX2_run (va_wsS RX2 59 yX2_isWithin wsX2_isWithin) := goodIn_app (goodIn_of _ (by decide +kernel)) ggX2_run_X2_isWithin
set_option maxRecDepth 20000 in
theorem ggX2_run_X2_end : GoodIn wsX2_run wsX2_end := goodIn_r _ [11, 12, 70, 71, 72, 73, 74, 75, 76, 77, 78, 79, 80, 81, 82, 83, 84] (by decide +kernel) (by decide +kernel)
set_option maxRecDepth 20000 in
theorem gX2_run_X2_end : GoodIn wsX2_run (wsV RX2 63 RX2 yX2_end wsX2_end) := goodIn_app (goodIn_of _ (by decide +kernel)) ggX2_run_X2_end
set_option maxRecDepth 20000 in
theorem ggX2_run_X2_tick : GoodIn wsX2_run wsX2_tick := goodIn_r _ [16, 2, 3, 17, 18, 19, 20, 6, 21, 22, 1, 23, 24, 25, 26, 27, 28, 29, 30, 31, 32, 33, 34, 35, 36, 37, 4, 5, 7, 38, 39, 40, 41, 42, 43, 44, 45, 46, 47, 48, 49, 50, 51, 52, 53, 54, 55, 56, 57, 58, 59, 60, 61, 62, 63, 64, 65, 66, 67, 68, 69, 70, 71, 72, 73, 74, 75, 76, 77, 78, 79, 80, 81, 82, 83, 84, 85, 86, 87, 88] (by decide +kernel) (by decide +kernel)
set_option maxRecDepth 20000 in
theorem gX2_run_X2_tick : GoodIn wsX2_run (wsV RX2 107 RX2 yX2_tick wsX2_tick) := goodIn_app (goodIn_of _ (by decide +kernel)) ggX2_run_X2_tick
theorem dX2_run_0 : decode cX2_run 0 = .ok (.iload_n 1, 1) := by decide +kernel
theorem dX2_run_1 : decode cX2_run 1 = .ok (.iconst 1, 1) := by decide +kernel
theorem dX2_run_2 : decode cX2_run 2 = .ok (.bipush 100, 2) := by decide +kernel
theorem dX2_run_4 : decode cX2_run 4 = .ok (.invokestatic 59, 3) := by decide +kernel
theorem dX2_run_7 : decode cX2_run 7 = .ok (.ifCond .ne 10, 3) := by decide +kernel
theorem dX2_run_10 : decode cX2_run 10 = .ok (.aload_n 0, 1) := by decide +kernel
theorem dX2_run_11 : decode cX2_run 11 = .ok (.iconst 1, 1) := by decide +kernel
theorem dX2_run_12 : decode cX2_run 12 = .ok (.iconst 0, 1) := by decide +kernel
theorem dX2_run_13 : decode cX2_run 13 = .ok (.invokevirtual 63, 3) := by decide +kernel
theorem dX2_run_16 : decode cX2_run 16 = .ok (.ireturn, 1) := by decide +kernel
theorem dX2_run_17 : decode cX2_run 17 = .ok (.aload_n 0, 1) := by decide +kernel
theorem dX2_run_18 : decode cX2_run 18 = .ok (.getfield 19, 3) := by decide +kernel
theorem dX2_run_21 : decode cX2_run 21 = .ok (.iconst (-1), 1) := by decide +kernel
theorem dX2_run_22 : decode cX2_run 22 = .ok (.if_icmp .ne 10, 3) := by decide +kernel
theorem dX2_run_25 : decode cX2_run 25 = .ok (.aload_n 0, 1) := by decide +kernel
theorem dX2_run_26 : decode cX2_run 26 = .ok (.iconst 5, 1) := by decide +kernel
theorem dX2_run_27 : decode cX2_run 27 = .ok (.iconst 0, 1) := by decide +kernel
theorem dX2_run_28 : decode cX2_run 28 = .ok (.invokevirtual 63, 3) := by decide +kernel
theorem dX2_run_31 : decode cX2_run 31 = .ok (.ireturn, 1) := by decide +kernel
theorem dX2_run_32 : decode cX2_run 32 = .ok (.aload_n 0, 1) := by decide +kernel
theorem dX2_run_33 : decode cX2_run 33 = .ok (.iconst (-1), 1) := by decide +kernel
theorem dX2_run_34 : decode cX2_run 34 = .ok (.putfield 50, 3) := by decide +kernel
theorem dX2_run_37 : decode cX2_run 37 = .ok (.aload_n 0, 1) := by decide +kernel
theorem dX2_run_38 : decode cX2_run 38 = .ok (.iconst 0, 1) := by decide +kernel
theorem dX2_run_39 : decode cX2_run 39 = .ok (.putfield 53, 3) := by decide +kernel
theorem dX2_run_42 : decode cX2_run 42 = .ok (.iconst 0, 1) := by decide +kernel
theorem dX2_run_43 : decode cX2_run 43 = .ok (.istore_n 2, 1) := by decide +kernel
theorem dX2_run_44 : decode cX2_run 44 = .ok (.iload_n 2, 1) := by decide +kernel
theorem dX2_run_45 : decode cX2_run 45 = .ok (.iload_n 1, 1) := by decide +kernel
theorem dX2_run_46 : decode cX2_run 46 = .ok (.if_icmp .ge 30, 3) := by decide +kernel
theorem dX2_run_49 : decode cX2_run 49 = .ok (.aload_n 0, 1) := by decide +kernel
theorem dX2_run_50 : decode cX2_run 50 = .ok (.invokevirtual 107, 3) := by decide +kernel
theorem dX2_run_53 : decode cX2_run 53 = .ok (.aload_n 0, 1) := by decide +kernel
theorem dX2_run_54 : decode cX2_run 54 = .ok (.getfield 53, 3) := by decide +kernel
theorem dX2_run_57 : decode cX2_run 57 = .ok (.ifCond .eq 13, 3) := by decide +kernel
theorem dX2_run_60 : decode cX2_run 60 = .ok (.aload_n 0, 1) := by decide +kernel
theorem dX2_run_61 : decode cX2_run 61 = .ok (.aload_n 0, 1) := by decide +kernel
theorem dX2_run_62 : decode cX2_run 62 = .ok (.getfield 53, 3) := by decide +kernel
theorem dX2_run_65 : decode cX2_run 65 = .ok (.iload_n 2, 1) := by decide +kernel
theorem dX2_run_66 : decode cX2_run 66 = .ok (.invokevirtual 63, 3) := by decide +kernel
theorem dX2_run_69 : decode cX2_run 69 = .ok (.ireturn, 1) := by decide +kernel
theorem dX2_run_70 : decode cX2_run 70 = .ok (.iinc 2 1, 3) := by decide +kernel
theorem dX2_run_73 : decode cX2_run 73 = .ok (.goto (-29), 3) := by decide +kernel
theorem dX2_run_76 : decode cX2_run 76 = .ok (.aload_n 0, 1) := by decide +kernel
theorem dX2_run_77 : decode cX2_run 77 = .ok (.iconst 0, 1) := by decide +kernel
theorem dX2_run_78 : decode cX2_run 78 = .ok (.iload_n 1, 1) := by decide +kernel
theorem dX2_run_79 : decode cX2_run 79 = .ok (.invokevirtual 63, 3) := by decide +kernel
theorem dX2_run_82 : decode cX2_run 82 = .ok (.ireturn, 1) := by decide +kernel
set_option maxRecDepth 20000 in
theorem ggX2_dub_X2_trackOf : GoodIn wsX2_dub wsX2_trackOf := goodIn_r _ [6, 7, 8, 9, 5, 10, 11, 12, 13, 14, 15, 16, 17, 68, 53, 54, 55, 56, 57, 58, 59, 60, 61, 62, 63, 64, 65, 66, 67] (by decide +kernel) (by decide +kernel)
set_option maxRecDepth 20000 in
theorem gX2_dub_X2_trackOf : GoodIn wsX2_dub (wsV RX2 70 RX2 yX2_trackOf wsX2_trackOf) := goodIn_app (goodIn_of _ (by decide +kernel)) ggX2_dub_X2_trackOf
set_option maxRecDepth 20000 in
theorem ggX2_dub_X2_isWithin : GoodIn wsX2_dub wsX2_isWithin := goodIn_r _ [17] (by decide +kernel) (by decide +kernel)
set_option maxRecDepth 20000 in
theorem gX2_dub_X2_isWithin : GoodIn wsX2_dub (va_wsS RX2 59 yX2_isWithin wsX2_isWithin) := goodIn_app (goodIn_of _ (by decide +kernel)) ggX2_dub_X2_isWithin
set_option maxRecDepth 20000 in
theorem ggX2_dub_X2_end : GoodIn wsX2_dub wsX2_end := goodIn_r _ [21, 22, 53, 54, 55, 56, 57, 58, 59, 60, 61, 62, 63, 64, 65, 66, 67] (by decide +kernel) (by decide +kernel)
set_option maxRecDepth 20000 in
theorem gX2_dub_X2_end : GoodIn wsX2_dub (wsV RX2 63 RX2 yX2_end wsX2_end) := goodIn_app (goodIn_of _ (by decide +kernel)) ggX2_dub_X2_end
set_option maxRecDepth 20000 in
theorem ggX2_dub_X1_faultAt : GoodIn wsX2_dub wsX1_faultAt := goodIn_r _ [26, 27, 28, 69, 70, 71] (by decide +kernel) (by decide +kernel)
set_option maxRecDepth 20000 in
theorem gX2_dub_X1_faultAt_n98 : GoodIn wsX2_dub (wsX1_faultAt) := ggX2_dub_X1_faultAt
set_option maxRecDepth 20000 in
theorem ggX2_dub_X2_firstFault : GoodIn wsX2_dub wsX2_firstFault := goodIn_r _ [31] (by decide +kernel) (by decide +kernel)
set_option maxRecDepth 20000 in
theorem gX2_dub_X2_firstFault : GoodIn wsX2_dub (va_wsS RX2 110 yX2_firstFault wsX2_firstFault) := goodIn_app (goodIn_of _ (by decide +kernel)) ggX2_dub_X2_firstFault
set_option maxRecDepth 20000 in
theorem ggX2_dub_X1_numberAt : GoodIn wsX2_dub wsX1_numberAt := goodIn_r _ [34, 28, 35, 23, 25, 24, 26, 27, 69, 70, 71] (by decide +kernel) (by decide +kernel)
set_option maxRecDepth 20000 in
theorem gX2_dub_X1_numberAt_n101 : GoodIn wsX2_dub (wsX1_numberAt) := ggX2_dub_X1_numberAt
set_option maxRecDepth 20000 in
theorem ggX2_dub_X1_put : GoodIn wsX2_dub wsX1_put := goodIn_r _ [38, 28, 35, 23, 25, 24, 26, 27, 39, 40, 41, 42, 43, 44, 45, 46, 47, 48, 49, 50, 51, 52, 69, 70, 71] (by decide +kernel) (by decide +kernel)
set_option maxRecDepth 20000 in
theorem gX2_dub_X1_put_n104 : GoodIn wsX2_dub (wsX1_put) := ggX2_dub_X1_put
theorem dX2_dub_0 : decode cX2_dub 0 = .ok (.aload_n 0, 1) := by decide +kernel
theorem dX2_dub_1 : decode cX2_dub 1 = .ok (.iload_n 1, 1) := by decide +kernel
theorem dX2_dub_2 : decode cX2_dub 2 = .ok (.iload_n 2, 1) := by decide +kernel
theorem dX2_dub_3 : decode cX2_dub 3 = .ok (.invokevirtual 70, 3) := by decide +kernel
theorem dX2_dub_6 : decode cX2_dub 6 = .ok (.astore 7, 2) := by decide +kernel
theorem dX2_dub_8 : decode cX2_dub 8 = .ok (.aload_n 0, 1) := by decide +kernel
theorem dX2_dub_9 : decode cX2_dub 9 = .ok (.iload 5, 2) := by decide +kernel
theorem dX2_dub_11 : decode cX2_dub 11 = .ok (.iload 6, 2) := by decide +kernel
theorem dX2_dub_13 : decode cX2_dub 13 = .ok (.invokevirtual 70, 3) := by decide +kernel
theorem dX2_dub_16 : decode cX2_dub 16 = .ok (.astore 8, 2) := by decide +kernel
theorem dX2_dub_18 : decode cX2_dub 18 = .ok (.aload 7, 2) := by decide +kernel
theorem dX2_dub_20 : decode cX2_dub 20 = .ok (.ifnull 19, 3) := by decide +kernel
theorem dX2_dub_23 : decode cX2_dub 23 = .ok (.aload 8, 2) := by decide +kernel
theorem dX2_dub_25 : decode cX2_dub 25 = .ok (.ifnull 14, 3) := by decide +kernel
theorem dX2_dub_28 : decode cX2_dub 28 = .ok (.iload 4, 2) := by decide +kernel
theorem dX2_dub_30 : decode cX2_dub 30 = .ok (.iconst 0, 1) := by decide +kernel
theorem dX2_dub_31 : decode cX2_dub 31 = .ok (.bipush 64, 2) := by decide +kernel
theorem dX2_dub_33 : decode cX2_dub 33 = .ok (.invokestatic 59, 3) := by decide +kernel
theorem dX2_dub_36 : decode cX2_dub 36 = .ok (.ifCond .ne 10, 3) := by decide +kernel
theorem dX2_dub_39 : decode cX2_dub 39 = .ok (.aload_n 0, 1) := by decide +kernel
theorem dX2_dub_40 : decode cX2_dub 40 = .ok (.iconst 1, 1) := by decide +kernel
theorem dX2_dub_41 : decode cX2_dub 41 = .ok (.iconst 0, 1) := by decide +kernel
theorem dX2_dub_42 : decode cX2_dub 42 = .ok (.invokevirtual 63, 3) := by decide +kernel
theorem dX2_dub_45 : decode cX2_dub 45 = .ok (.ireturn, 1) := by decide +kernel
theorem dX2_dub_46 : decode cX2_dub 46 = .ok (.iconst 0, 1) := by decide +kernel
theorem dX2_dub_47 : decode cX2_dub 47 = .ok (.istore 9, 2) := by decide +kernel
theorem dX2_dub_49 : decode cX2_dub 49 = .ok (.iload 9, 2) := by decide +kernel
theorem dX2_dub_51 : decode cX2_dub 51 = .ok (.iload 4, 2) := by decide +kernel
theorem dX2_dub_53 : decode cX2_dub 53 = .ok (.if_icmp .ge 70, 3) := by decide +kernel
theorem dX2_dub_56 : decode cX2_dub 56 = .ok (.aload 7, 2) := by decide +kernel
theorem dX2_dub_58 : decode cX2_dub 58 = .ok (.iload_n 3, 1) := by decide +kernel
theorem dX2_dub_59 : decode cX2_dub 59 = .ok (.iload 9, 2) := by decide +kernel
theorem dX2_dub_61 : decode cX2_dub 61 = .ok (.iadd, 1) := by decide +kernel
theorem dX2_dub_62 : decode cX2_dub 62 = .ok (.invokevirtual 98, 3) := by decide +kernel
theorem dX2_dub_65 : decode cX2_dub 65 = .ok (.aload 8, 2) := by decide +kernel
theorem dX2_dub_67 : decode cX2_dub 67 = .ok (.aload_n 0, 1) := by decide +kernel
theorem dX2_dub_68 : decode cX2_dub 68 = .ok (.getfield 22, 3) := by decide +kernel
theorem dX2_dub_71 : decode cX2_dub 71 = .ok (.iload 9, 2) := by decide +kernel
theorem dX2_dub_73 : decode cX2_dub 73 = .ok (.iadd, 1) := by decide +kernel
theorem dX2_dub_74 : decode cX2_dub 74 = .ok (.invokevirtual 98, 3) := by decide +kernel
theorem dX2_dub_77 : decode cX2_dub 77 = .ok (.invokestatic 110, 3) := by decide +kernel
theorem dX2_dub_80 : decode cX2_dub 80 = .ok (.istore 10, 2) := by decide +kernel
theorem dX2_dub_82 : decode cX2_dub 82 = .ok (.iload 10, 2) := by decide +kernel
theorem dX2_dub_84 : decode cX2_dub 84 = .ok (.ifCond .eq 12, 3) := by decide +kernel
theorem dX2_dub_87 : decode cX2_dub 87 = .ok (.aload_n 0, 1) := by decide +kernel
theorem dX2_dub_88 : decode cX2_dub 88 = .ok (.iload 10, 2) := by decide +kernel
theorem dX2_dub_90 : decode cX2_dub 90 = .ok (.iload 9, 2) := by decide +kernel
theorem dX2_dub_92 : decode cX2_dub 92 = .ok (.invokevirtual 63, 3) := by decide +kernel
theorem dX2_dub_95 : decode cX2_dub 95 = .ok (.ireturn, 1) := by decide +kernel
theorem dX2_dub_96 : decode cX2_dub 96 = .ok (.aload 8, 2) := by decide +kernel
theorem dX2_dub_98 : decode cX2_dub 98 = .ok (.aload_n 0, 1) := by decide +kernel
theorem dX2_dub_99 : decode cX2_dub 99 = .ok (.getfield 22, 3) := by decide +kernel
theorem dX2_dub_102 : decode cX2_dub 102 = .ok (.iload 9, 2) := by decide +kernel
theorem dX2_dub_104 : decode cX2_dub 104 = .ok (.iadd, 1) := by decide +kernel
theorem dX2_dub_105 : decode cX2_dub 105 = .ok (.aload 7, 2) := by decide +kernel
theorem dX2_dub_107 : decode cX2_dub 107 = .ok (.iload_n 3, 1) := by decide +kernel
theorem dX2_dub_108 : decode cX2_dub 108 = .ok (.iload 9, 2) := by decide +kernel
theorem dX2_dub_110 : decode cX2_dub 110 = .ok (.iadd, 1) := by decide +kernel
theorem dX2_dub_111 : decode cX2_dub 111 = .ok (.invokevirtual 101, 3) := by decide +kernel
theorem dX2_dub_114 : decode cX2_dub 114 = .ok (.invokevirtual 104, 3) := by decide +kernel
theorem dX2_dub_117 : decode cX2_dub 117 = .ok (.iinc 9 1, 3) := by decide +kernel
theorem dX2_dub_120 : decode cX2_dub 120 = .ok (.goto (-71), 3) := by decide +kernel
theorem dX2_dub_123 : decode cX2_dub 123 = .ok (.aload_n 0, 1) := by decide +kernel
theorem dX2_dub_124 : decode cX2_dub 124 = .ok (.iconst 0, 1) := by decide +kernel
theorem dX2_dub_125 : decode cX2_dub 125 = .ok (.iload 4, 2) := by decide +kernel
theorem dX2_dub_127 : decode cX2_dub 127 = .ok (.invokevirtual 63, 3) := by decide +kernel
theorem dX2_dub_130 : decode cX2_dub 130 = .ok (.ireturn, 1) := by decide +kernel
set_option maxRecDepth 20000 in
theorem ggX2_turn_X2_isWithin : GoodIn wsX2_turn wsX2_isWithin := goodIn_r _ [5] (by decide +kernel) (by decide +kernel)
set_option maxRecDepth 20000 in
theorem gX2_turn_X2_isWithin : GoodIn wsX2_turn (va_wsS RX2 59 yX2_isWithin wsX2_isWithin) := goodIn_app (goodIn_of _ (by decide +kernel)) ggX2_turn_X2_isWithin
set_option maxRecDepth 20000 in
theorem ggX2_turn_X2_end : GoodIn wsX2_turn wsX2_end := goodIn_r _ [9, 10, 68, 69, 70, 71, 72, 73, 74, 75, 76, 77, 78, 79, 80, 81, 82] (by decide +kernel) (by decide +kernel)
set_option maxRecDepth 20000 in
theorem gX2_turn_X2_end : GoodIn wsX2_turn (wsV RX2 63 RX2 yX2_end wsX2_end) := goodIn_app (goodIn_of _ (by decide +kernel)) ggX2_turn_X2_end
set_option maxRecDepth 20000 in
theorem ggX2_turn_X2_trackOf : GoodIn wsX2_turn wsX2_trackOf := goodIn_r _ [14, 15, 16, 17, 4, 18, 19, 20, 21, 22, 2, 3, 5, 83, 68, 69, 70, 71, 72, 73, 74, 75, 76, 77, 78, 79, 80, 81, 82] (by decide +kernel) (by decide +kernel)
set_option maxRecDepth 20000 in
theorem gX2_turn_X2_trackOf : GoodIn wsX2_turn (wsV RX2 70 RX2 yX2_trackOf wsX2_trackOf) := goodIn_app (goodIn_of _ (by decide +kernel)) ggX2_turn_X2_trackOf
set_option maxRecDepth 20000 in
theorem ggX2_turn_X2_whyNoneUnderHead : GoodIn wsX2_turn wsX2_whyNoneUnderHead := goodIn_r _ [26, 20, 21, 4, 22, 2, 3, 5] (by decide +kernel) (by decide +kernel)
set_option maxRecDepth 20000 in
theorem gX2_turn_X2_whyNoneUnderHead : GoodIn wsX2_turn (wsV RX2 91 RX2 yX2_whyNoneUnderHead wsX2_whyNoneUnderHead) := goodIn_app (goodIn_of _ (by decide +kernel)) ggX2_turn_X2_whyNoneUnderHead
set_option maxRecDepth 20000 in
theorem ggX2_turn_X2_placeOfHead : GoodIn wsX2_turn wsX2_placeOfHead := goodIn_r _ [30, 31, 32, 20, 21, 4, 22, 2, 3, 5, 68, 69, 70, 71, 72, 73, 74, 75, 76, 77, 78, 79, 80, 81, 82] (by decide +kernel) (by decide +kernel)
set_option maxRecDepth 20000 in
theorem gX2_turn_X2_placeOfHead : GoodIn wsX2_turn (wsV RX2 95 RX2 yX2_placeOfHead wsX2_placeOfHead) := goodIn_app (goodIn_of _ (by decide +kernel)) ggX2_turn_X2_placeOfHead
set_option maxRecDepth 20000 in
theorem ggX2_turn_X1_faultAt : GoodIn wsX2_turn wsX1_faultAt := goodIn_r _ [36, 37, 38, 84, 85, 86] (by decide +kernel) (by decide +kernel)
set_option maxRecDepth 20000 in
theorem gX2_turn_X1_faultAt_n98 : GoodIn wsX2_turn (wsX1_faultAt) := ggX2_turn_X1_faultAt
set_option maxRecDepth 20000 in
theorem ggX2_turn_X2_firstFault : GoodIn wsX2_turn wsX2_firstFault := goodIn_r _ [41] (by decide +kernel) (by decide +kernel)
set_option maxRecDepth 20000 in
theorem gX2_turn_X2_firstFault : GoodIn wsX2_turn (va_wsS RX2 110 yX2_firstFault wsX2_firstFault) := goodIn_app (goodIn_of _ (by decide +kernel)) ggX2_turn_X2_firstFault
set_option maxRecDepth 20000 in
theorem ggX2_turn_X1_exchange : GoodIn wsX2_turn wsX1_exchange := goodIn_r _ [44, 45, 46, 47, 34, 48, 38, 49, 33, 35, 36, 37, 50, 51, 52, 53, 54, 55, 56, 57, 58, 59, 60, 61, 62, 63, 64, 65, 66, 67, 84, 85, 86] (by decide +kernel) (by decide +kernel)
set_option maxRecDepth 20000 in
theorem gX2_turn_X1_exchange_n113 : GoodIn wsX2_turn (wsX1_exchange) := ggX2_turn_X1_exchange
theorem dX2_turn_0 : decode cX2_turn 0 = .ok (.iload_n 2, 1) := by decide +kernel
theorem dX2_turn_1 : decode cX2_turn 1 = .ok (.iconst 0, 1) := by decide +kernel
theorem dX2_turn_2 : decode cX2_turn 2 = .ok (.bipush 64, 2) := by decide +kernel
theorem dX2_turn_4 : decode cX2_turn 4 = .ok (.invokestatic 59, 3) := by decide +kernel
theorem dX2_turn_7 : decode cX2_turn 7 = .ok (.ifCond .ne 10, 3) := by decide +kernel
theorem dX2_turn_10 : decode cX2_turn 10 = .ok (.aload_n 0, 1) := by decide +kernel
theorem dX2_turn_11 : decode cX2_turn 11 = .ok (.iconst 1, 1) := by decide +kernel
theorem dX2_turn_12 : decode cX2_turn 12 = .ok (.iconst 0, 1) := by decide +kernel
theorem dX2_turn_13 : decode cX2_turn 13 = .ok (.invokevirtual 63, 3) := by decide +kernel
theorem dX2_turn_16 : decode cX2_turn 16 = .ok (.ireturn, 1) := by decide +kernel
theorem dX2_turn_17 : decode cX2_turn 17 = .ok (.aload_n 0, 1) := by decide +kernel
theorem dX2_turn_18 : decode cX2_turn 18 = .ok (.aload_n 0, 1) := by decide +kernel
theorem dX2_turn_19 : decode cX2_turn 19 = .ok (.getfield 19, 3) := by decide +kernel
theorem dX2_turn_22 : decode cX2_turn 22 = .ok (.iload_n 1, 1) := by decide +kernel
theorem dX2_turn_23 : decode cX2_turn 23 = .ok (.invokevirtual 70, 3) := by decide +kernel
theorem dX2_turn_26 : decode cX2_turn 26 = .ok (.astore_n 3, 1) := by decide +kernel
theorem dX2_turn_27 : decode cX2_turn 27 = .ok (.aload_n 3, 1) := by decide +kernel
theorem dX2_turn_28 : decode cX2_turn 28 = .ok (.ifnonnull 14, 3) := by decide +kernel
theorem dX2_turn_31 : decode cX2_turn 31 = .ok (.aload_n 0, 1) := by decide +kernel
theorem dX2_turn_32 : decode cX2_turn 32 = .ok (.aload_n 0, 1) := by decide +kernel
theorem dX2_turn_33 : decode cX2_turn 33 = .ok (.iload_n 1, 1) := by decide +kernel
theorem dX2_turn_34 : decode cX2_turn 34 = .ok (.invokevirtual 91, 3) := by decide +kernel
theorem dX2_turn_37 : decode cX2_turn 37 = .ok (.iconst 0, 1) := by decide +kernel
theorem dX2_turn_38 : decode cX2_turn 38 = .ok (.invokevirtual 63, 3) := by decide +kernel
theorem dX2_turn_41 : decode cX2_turn 41 = .ok (.ireturn, 1) := by decide +kernel
theorem dX2_turn_42 : decode cX2_turn 42 = .ok (.iload_n 2, 1) := by decide +kernel
theorem dX2_turn_43 : decode cX2_turn 43 = .ok (.iconst 2, 1) := by decide +kernel
theorem dX2_turn_44 : decode cX2_turn 44 = .ok (.idiv, 1) := by decide +kernel
theorem dX2_turn_45 : decode cX2_turn 45 = .ok (.istore 4, 2) := by decide +kernel
theorem dX2_turn_47 : decode cX2_turn 47 = .ok (.aload_n 0, 1) := by decide +kernel
theorem dX2_turn_48 : decode cX2_turn 48 = .ok (.iload_n 1, 1) := by decide +kernel
theorem dX2_turn_49 : decode cX2_turn 49 = .ok (.invokevirtual 95, 3) := by decide +kernel
theorem dX2_turn_52 : decode cX2_turn 52 = .ok (.istore 5, 2) := by decide +kernel
theorem dX2_turn_54 : decode cX2_turn 54 = .ok (.iload 5, 2) := by decide +kernel
theorem dX2_turn_56 : decode cX2_turn 56 = .ok (.iload_n 2, 1) := by decide +kernel
theorem dX2_turn_57 : decode cX2_turn 57 = .ok (.iadd, 1) := by decide +kernel
theorem dX2_turn_58 : decode cX2_turn 58 = .ok (.iconst 1, 1) := by decide +kernel
theorem dX2_turn_59 : decode cX2_turn 59 = .ok (.isub, 1) := by decide +kernel
theorem dX2_turn_60 : decode cX2_turn 60 = .ok (.istore 6, 2) := by decide +kernel
theorem dX2_turn_62 : decode cX2_turn 62 = .ok (.iconst 0, 1) := by decide +kernel
theorem dX2_turn_63 : decode cX2_turn 63 = .ok (.istore 7, 2) := by decide +kernel
theorem dX2_turn_65 : decode cX2_turn 65 = .ok (.iload 7, 2) := by decide +kernel
theorem dX2_turn_67 : decode cX2_turn 67 = .ok (.iload 4, 2) := by decide +kernel
theorem dX2_turn_69 : decode cX2_turn 69 = .ok (.if_icmp .ge 60, 3) := by decide +kernel
theorem dX2_turn_72 : decode cX2_turn 72 = .ok (.aload_n 3, 1) := by decide +kernel
theorem dX2_turn_73 : decode cX2_turn 73 = .ok (.iload 5, 2) := by decide +kernel
theorem dX2_turn_75 : decode cX2_turn 75 = .ok (.iload 7, 2) := by decide +kernel
theorem dX2_turn_77 : decode cX2_turn 77 = .ok (.iadd, 1) := by decide +kernel
theorem dX2_turn_78 : decode cX2_turn 78 = .ok (.invokevirtual 98, 3) := by decide +kernel
theorem dX2_turn_81 : decode cX2_turn 81 = .ok (.aload_n 3, 1) := by decide +kernel
theorem dX2_turn_82 : decode cX2_turn 82 = .ok (.iload 6, 2) := by decide +kernel
theorem dX2_turn_84 : decode cX2_turn 84 = .ok (.iload 7, 2) := by decide +kernel
theorem dX2_turn_86 : decode cX2_turn 86 = .ok (.isub, 1) := by decide +kernel
theorem dX2_turn_87 : decode cX2_turn 87 = .ok (.invokevirtual 98, 3) := by decide +kernel
theorem dX2_turn_90 : decode cX2_turn 90 = .ok (.invokestatic 110, 3) := by decide +kernel
theorem dX2_turn_93 : decode cX2_turn 93 = .ok (.istore 8, 2) := by decide +kernel
theorem dX2_turn_95 : decode cX2_turn 95 = .ok (.iload 8, 2) := by decide +kernel
theorem dX2_turn_97 : decode cX2_turn 97 = .ok (.ifCond .eq 12, 3) := by decide +kernel
theorem dX2_turn_100 : decode cX2_turn 100 = .ok (.aload_n 0, 1) := by decide +kernel
theorem dX2_turn_101 : decode cX2_turn 101 = .ok (.iload 8, 2) := by decide +kernel
theorem dX2_turn_103 : decode cX2_turn 103 = .ok (.iload 7, 2) := by decide +kernel
theorem dX2_turn_105 : decode cX2_turn 105 = .ok (.invokevirtual 63, 3) := by decide +kernel
theorem dX2_turn_108 : decode cX2_turn 108 = .ok (.ireturn, 1) := by decide +kernel
theorem dX2_turn_109 : decode cX2_turn 109 = .ok (.aload_n 3, 1) := by decide +kernel
theorem dX2_turn_110 : decode cX2_turn 110 = .ok (.iload 5, 2) := by decide +kernel
theorem dX2_turn_112 : decode cX2_turn 112 = .ok (.iload 7, 2) := by decide +kernel
theorem dX2_turn_114 : decode cX2_turn 114 = .ok (.iadd, 1) := by decide +kernel
theorem dX2_turn_115 : decode cX2_turn 115 = .ok (.iload 6, 2) := by decide +kernel
theorem dX2_turn_117 : decode cX2_turn 117 = .ok (.iload 7, 2) := by decide +kernel
theorem dX2_turn_119 : decode cX2_turn 119 = .ok (.isub, 1) := by decide +kernel
theorem dX2_turn_120 : decode cX2_turn 120 = .ok (.invokevirtual 113, 3) := by decide +kernel
theorem dX2_turn_123 : decode cX2_turn 123 = .ok (.iinc 7 1, 3) := by decide +kernel
theorem dX2_turn_126 : decode cX2_turn 126 = .ok (.goto (-61), 3) := by decide +kernel
theorem dX2_turn_129 : decode cX2_turn 129 = .ok (.aload_n 0, 1) := by decide +kernel
theorem dX2_turn_130 : decode cX2_turn 130 = .ok (.iconst 0, 1) := by decide +kernel
theorem dX2_turn_131 : decode cX2_turn 131 = .ok (.iload 4, 2) := by decide +kernel
theorem dX2_turn_133 : decode cX2_turn 133 = .ok (.invokevirtual 63, 3) := by decide +kernel
theorem dX2_turn_136 : decode cX2_turn 136 = .ok (.ireturn, 1) := by decide +kernel
set_option maxRecDepth 20000 in
theorem ggX2_scan_X2_trackOf : GoodIn wsX2_scan wsX2_trackOf := goodIn_r _ [6, 7, 8, 9, 5, 10, 11, 12, 13, 14, 15, 16, 17, 58, 43, 44, 45, 46, 47, 48, 49, 50, 51, 52, 53, 54, 55, 56, 57] (by decide +kernel) (by decide +kernel)
set_option maxRecDepth 20000 in
theorem gX2_scan_X2_trackOf : GoodIn wsX2_scan (wsV RX2 70 RX2 yX2_trackOf wsX2_trackOf) := goodIn_app (goodIn_of _ (by decide +kernel)) ggX2_scan_X2_trackOf
set_option maxRecDepth 20000 in
theorem ggX2_scan_X2_whyNoneUnderHead : GoodIn wsX2_scan wsX2_whyNoneUnderHead := goodIn_r _ [21, 12, 13, 5, 14, 15, 16, 17] (by decide +kernel) (by decide +kernel)
set_option maxRecDepth 20000 in
theorem gX2_scan_X2_whyNoneUnderHead : GoodIn wsX2_scan (wsV RX2 91 RX2 yX2_whyNoneUnderHead wsX2_whyNoneUnderHead) := goodIn_app (goodIn_of _ (by decide +kernel)) ggX2_scan_X2_whyNoneUnderHead
set_option maxRecDepth 20000 in
theorem ggX2_scan_X2_end : GoodIn wsX2_scan wsX2_end := goodIn_r _ [25, 26, 43, 44, 45, 46, 47, 48, 49, 50, 51, 52, 53, 54, 55, 56, 57] (by decide +kernel) (by decide +kernel)
set_option maxRecDepth 20000 in
theorem gX2_scan_X2_end : GoodIn wsX2_scan (wsV RX2 63 RX2 yX2_end wsX2_end) := goodIn_app (goodIn_of _ (by decide +kernel)) ggX2_scan_X2_end
set_option maxRecDepth 20000 in
theorem ggX2_scan_X2_placeOfHead : GoodIn wsX2_scan wsX2_placeOfHead := goodIn_r _ [30, 31, 32, 12, 13, 5, 14, 15, 16, 17, 43, 44, 45, 46, 47, 48, 49, 50, 51, 52, 53, 54, 55, 56, 57] (by decide +kernel) (by decide +kernel)
set_option maxRecDepth 20000 in
theorem gX2_scan_X2_placeOfHead : GoodIn wsX2_scan (wsV RX2 95 RX2 yX2_placeOfHead wsX2_placeOfHead) := goodIn_app (goodIn_of _ (by decide +kernel)) ggX2_scan_X2_placeOfHead
set_option maxRecDepth 20000 in
theorem ggX2_scan_X1_faultAt : GoodIn wsX2_scan wsX1_faultAt := goodIn_r _ [36, 37, 38, 59, 60, 61] (by decide +kernel) (by decide +kernel)
set_option maxRecDepth 20000 in
theorem gX2_scan_X1_faultAt_n98 : GoodIn wsX2_scan (wsX1_faultAt) := ggX2_scan_X1_faultAt
set_option maxRecDepth 20000 in
theorem ggX2_scan_X1_numberAt : GoodIn wsX2_scan wsX1_numberAt := goodIn_r _ [41, 38, 42, 33, 35, 34, 36, 37, 59, 60, 61] (by decide +kernel) (by decide +kernel)
set_option maxRecDepth 20000 in
theorem gX2_scan_X1_numberAt_n101 : GoodIn wsX2_scan (wsX1_numberAt) := ggX2_scan_X1_numberAt
theorem dX2_scan_0 : decode cX2_scan 0 = .ok (.aload_n 0, 1) := by decide +kernel
theorem dX2_scan_1 : decode cX2_scan 1 = .ok (.aload_n 0, 1) := by decide +kernel
theorem dX2_scan_2 : decode cX2_scan 2 = .ok (.getfield 19, 3) := by decide +kernel
theorem dX2_scan_5 : decode cX2_scan 5 = .ok (.iload_n 1, 1) := by decide +kernel
theorem dX2_scan_6 : decode cX2_scan 6 = .ok (.invokevirtual 70, 3) := by decide +kernel
theorem dX2_scan_9 : decode cX2_scan 9 = .ok (.astore_n 3, 1) := by decide +kernel
theorem dX2_scan_10 : decode cX2_scan 10 = .ok (.aload_n 3, 1) := by decide +kernel
theorem dX2_scan_11 : decode cX2_scan 11 = .ok (.ifnonnull 14, 3) := by decide +kernel
theorem dX2_scan_14 : decode cX2_scan 14 = .ok (.aload_n 0, 1) := by decide +kernel
theorem dX2_scan_15 : decode cX2_scan 15 = .ok (.aload_n 0, 1) := by decide +kernel
theorem dX2_scan_16 : decode cX2_scan 16 = .ok (.iload_n 1, 1) := by decide +kernel
theorem dX2_scan_17 : decode cX2_scan 17 = .ok (.invokevirtual 91, 3) := by decide +kernel
theorem dX2_scan_20 : decode cX2_scan 20 = .ok (.iconst (-1), 1) := by decide +kernel
theorem dX2_scan_21 : decode cX2_scan 21 = .ok (.invokevirtual 63, 3) := by decide +kernel
theorem dX2_scan_24 : decode cX2_scan 24 = .ok (.ireturn, 1) := by decide +kernel
theorem dX2_scan_25 : decode cX2_scan 25 = .ok (.aload_n 0, 1) := by decide +kernel
theorem dX2_scan_26 : decode cX2_scan 26 = .ok (.iload_n 1, 1) := by decide +kernel
theorem dX2_scan_27 : decode cX2_scan 27 = .ok (.invokevirtual 95, 3) := by decide +kernel
theorem dX2_scan_30 : decode cX2_scan 30 = .ok (.istore 4, 2) := by decide +kernel
theorem dX2_scan_32 : decode cX2_scan 32 = .ok (.iconst 0, 1) := by decide +kernel
theorem dX2_scan_33 : decode cX2_scan 33 = .ok (.istore 5, 2) := by decide +kernel
theorem dX2_scan_35 : decode cX2_scan 35 = .ok (.iload 5, 2) := by decide +kernel
theorem dX2_scan_37 : decode cX2_scan 37 = .ok (.bipush 64, 2) := by decide +kernel
theorem dX2_scan_39 : decode cX2_scan 39 = .ok (.if_icmp .ge 54, 3) := by decide +kernel
theorem dX2_scan_42 : decode cX2_scan 42 = .ok (.aload_n 3, 1) := by decide +kernel
theorem dX2_scan_43 : decode cX2_scan 43 = .ok (.iload 4, 2) := by decide +kernel
theorem dX2_scan_45 : decode cX2_scan 45 = .ok (.iload 5, 2) := by decide +kernel
theorem dX2_scan_47 : decode cX2_scan 47 = .ok (.iadd, 1) := by decide +kernel
theorem dX2_scan_48 : decode cX2_scan 48 = .ok (.invokevirtual 98, 3) := by decide +kernel
theorem dX2_scan_51 : decode cX2_scan 51 = .ok (.istore 6, 2) := by decide +kernel
theorem dX2_scan_53 : decode cX2_scan 53 = .ok (.iload 6, 2) := by decide +kernel
theorem dX2_scan_55 : decode cX2_scan 55 = .ok (.ifCond .eq 11, 3) := by decide +kernel
theorem dX2_scan_58 : decode cX2_scan 58 = .ok (.aload_n 0, 1) := by decide +kernel
theorem dX2_scan_59 : decode cX2_scan 59 = .ok (.iload 6, 2) := by decide +kernel
theorem dX2_scan_61 : decode cX2_scan 61 = .ok (.iconst (-1), 1) := by decide +kernel
theorem dX2_scan_62 : decode cX2_scan 62 = .ok (.invokevirtual 63, 3) := by decide +kernel
theorem dX2_scan_65 : decode cX2_scan 65 = .ok (.ireturn, 1) := by decide +kernel
theorem dX2_scan_66 : decode cX2_scan 66 = .ok (.aload_n 3, 1) := by decide +kernel
theorem dX2_scan_67 : decode cX2_scan 67 = .ok (.iload 4, 2) := by decide +kernel
theorem dX2_scan_69 : decode cX2_scan 69 = .ok (.iload 5, 2) := by decide +kernel
theorem dX2_scan_71 : decode cX2_scan 71 = .ok (.iadd, 1) := by decide +kernel
theorem dX2_scan_72 : decode cX2_scan 72 = .ok (.invokevirtual 101, 3) := by decide +kernel
theorem dX2_scan_75 : decode cX2_scan 75 = .ok (.iload_n 2, 1) := by decide +kernel
theorem dX2_scan_76 : decode cX2_scan 76 = .ok (.if_icmp .ne 11, 3) := by decide +kernel
theorem dX2_scan_79 : decode cX2_scan 79 = .ok (.aload_n 0, 1) := by decide +kernel
theorem dX2_scan_80 : decode cX2_scan 80 = .ok (.iconst 0, 1) := by decide +kernel
theorem dX2_scan_81 : decode cX2_scan 81 = .ok (.iload 5, 2) := by decide +kernel
theorem dX2_scan_83 : decode cX2_scan 83 = .ok (.invokevirtual 63, 3) := by decide +kernel
theorem dX2_scan_86 : decode cX2_scan 86 = .ok (.ireturn, 1) := by decide +kernel
theorem dX2_scan_87 : decode cX2_scan 87 = .ok (.iinc 5 1, 3) := by decide +kernel
theorem dX2_scan_90 : decode cX2_scan 90 = .ok (.goto (-55), 3) := by decide +kernel
theorem dX2_scan_93 : decode cX2_scan 93 = .ok (.aload_n 0, 1) := by decide +kernel
theorem dX2_scan_94 : decode cX2_scan 94 = .ok (.iconst 3, 1) := by decide +kernel
theorem dX2_scan_95 : decode cX2_scan 95 = .ok (.iconst (-1), 1) := by decide +kernel
theorem dX2_scan_96 : decode cX2_scan 96 = .ok (.invokevirtual 63, 3) := by decide +kernel
theorem dX2_scan_99 : decode cX2_scan 99 = .ok (.ireturn, 1) := by decide +kernel
set_option maxRecDepth 20000 in
theorem ggX2_sheet_X2_end : GoodIn wsX2_sheet wsX2_end := goodIn_r _ [8, 9, 14, 15, 16, 17, 18, 19, 20, 21, 22, 23, 24, 25, 26, 27, 28] (by decide +kernel) (by decide +kernel)
set_option maxRecDepth 20000 in
theorem gX2_sheet_X2_end : GoodIn wsX2_sheet (wsV RX2 63 RX2 yX2_end wsX2_end) := goodIn_app (goodIn_of _ (by decide +kernel)) ggX2_sheet_X2_end
set_option maxRecDepth 20000 in
theorem ggX2_sheet_J7_fill_53178 : GoodIn wsX2_sheet wsJ7_fill_53178 := goodIn_r _ [13] (by decide +kernel) (by decide +kernel)
set_option maxRecDepth 20000 in
theorem gX2_sheet_J7_fill_53178 : GoodIn wsX2_sheet (va_wsS RX2 116 yJ7_fill_53178 wsJ7_fill_53178) := goodIn_app (goodIn_of _ (by decide +kernel)) ggX2_sheet_J7_fill_53178
theorem dX2_sheet_0 : decode cX2_sheet 0 = .ok (.iload_n 1, 1) := by decide +kernel
theorem dX2_sheet_1 : decode cX2_sheet 1 = .ok (.bipush 16, 2) := by decide +kernel
theorem dX2_sheet_3 : decode cX2_sheet 3 = .ok (.if_icmp .gt 9, 3) := by decide +kernel
theorem dX2_sheet_6 : decode cX2_sheet 6 = .ok (.iload_n 2, 1) := by decide +kernel
theorem dX2_sheet_7 : decode cX2_sheet 7 = .ok (.bipush 16, 2) := by decide +kernel
theorem dX2_sheet_9 : decode cX2_sheet 9 = .ok (.if_icmp .le 10, 3) := by decide +kernel
theorem dX2_sheet_12 : decode cX2_sheet 12 = .ok (.aload_n 0, 1) := by decide +kernel
theorem dX2_sheet_13 : decode cX2_sheet 13 = .ok (.iconst 1, 1) := by decide +kernel
theorem dX2_sheet_14 : decode cX2_sheet 14 = .ok (.iconst (-1), 1) := by decide +kernel
theorem dX2_sheet_15 : decode cX2_sheet 15 = .ok (.invokevirtual 63, 3) := by decide +kernel
theorem dX2_sheet_18 : decode cX2_sheet 18 = .ok (.ireturn, 1) := by decide +kernel
theorem dX2_sheet_19 : decode cX2_sheet 19 = .ok (.iload_n 1, 1) := by decide +kernel
theorem dX2_sheet_20 : decode cX2_sheet 20 = .ok (.ifCond .lt 7, 3) := by decide +kernel
theorem dX2_sheet_23 : decode cX2_sheet 23 = .ok (.iload_n 2, 1) := by decide +kernel
theorem dX2_sheet_24 : decode cX2_sheet 24 = .ok (.ifCond .ge 10, 3) := by decide +kernel
theorem dX2_sheet_27 : decode cX2_sheet 27 = .ok (.aload_n 0, 1) := by decide +kernel
theorem dX2_sheet_28 : decode cX2_sheet 28 = .ok (.iconst 4, 1) := by decide +kernel
theorem dX2_sheet_29 : decode cX2_sheet 29 = .ok (.iconst (-1), 1) := by decide +kernel
theorem dX2_sheet_30 : decode cX2_sheet 30 = .ok (.invokevirtual 63, 3) := by decide +kernel
theorem dX2_sheet_33 : decode cX2_sheet 33 = .ok (.ireturn, 1) := by decide +kernel
theorem dX2_sheet_34 : decode cX2_sheet 34 = .ok (.aload_n 0, 1) := by decide +kernel
theorem dX2_sheet_35 : decode cX2_sheet 35 = .ok (.iload_n 1, 1) := by decide +kernel
theorem dX2_sheet_36 : decode cX2_sheet 36 = .ok (.putfield 44, 3) := by decide +kernel
theorem dX2_sheet_39 : decode cX2_sheet 39 = .ok (.aload_n 0, 1) := by decide +kernel
theorem dX2_sheet_40 : decode cX2_sheet 40 = .ok (.iload_n 2, 1) := by decide +kernel
theorem dX2_sheet_41 : decode cX2_sheet 41 = .ok (.putfield 47, 3) := by decide +kernel
theorem dX2_sheet_44 : decode cX2_sheet 44 = .ok (.aload_n 0, 1) := by decide +kernel
theorem dX2_sheet_45 : decode cX2_sheet 45 = .ok (.getfield 41, 3) := by decide +kernel
theorem dX2_sheet_48 : decode cX2_sheet 48 = .ok (.iconst 0, 1) := by decide +kernel
theorem dX2_sheet_49 : decode cX2_sheet 49 = .ok (.invokestatic 116, 3) := by decide +kernel
theorem dX2_sheet_52 : decode cX2_sheet 52 = .ok (.aload_n 0, 1) := by decide +kernel
theorem dX2_sheet_53 : decode cX2_sheet 53 = .ok (.iconst 0, 1) := by decide +kernel
theorem dX2_sheet_54 : decode cX2_sheet 54 = .ok (.iload_n 1, 1) := by decide +kernel
theorem dX2_sheet_55 : decode cX2_sheet 55 = .ok (.iload_n 2, 1) := by decide +kernel
theorem dX2_sheet_56 : decode cX2_sheet 56 = .ok (.imul, 1) := by decide +kernel
theorem dX2_sheet_57 : decode cX2_sheet 57 = .ok (.invokevirtual 63, 3) := by decide +kernel
theorem dX2_sheet_60 : decode cX2_sheet 60 = .ok (.ireturn, 1) := by decide +kernel
set_option maxRecDepth 20000 in
theorem ggX2_cue_X2_faultOfCell : GoodIn wsX2_cue wsX2_faultOfCell := goodIn_r _ [6, 7, 8, 17, 18, 19, 20, 21, 22, 23, 24, 25, 26, 27, 28, 29, 30, 31] (by decide +kernel) (by decide +kernel)
set_option maxRecDepth 20000 in
theorem gX2_cue_X2_faultOfCell : GoodIn wsX2_cue (wsV RX2 122 RX2 yX2_faultOfCell wsX2_faultOfCell) := goodIn_app (goodIn_of _ (by decide +kernel)) ggX2_cue_X2_faultOfCell
set_option maxRecDepth 20000 in
theorem ggX2_cue_X2_end : GoodIn wsX2_cue wsX2_end := goodIn_r _ [12, 13, 17, 18, 19, 20, 21, 22, 23, 24, 25, 26, 27, 28, 29, 30, 31] (by decide +kernel) (by decide +kernel)
set_option maxRecDepth 20000 in
theorem gX2_cue_X2_end : GoodIn wsX2_cue (wsV RX2 63 RX2 yX2_end wsX2_end) := goodIn_app (goodIn_of _ (by decide +kernel)) ggX2_cue_X2_end
set_option maxRecDepth 20000 in
theorem ggX2_cue_X2_indexOfCell : GoodIn wsX2_cue wsX2_indexOfCell := goodIn_r _ [16] (by decide +kernel) (by decide +kernel)
set_option maxRecDepth 20000 in
theorem gX2_cue_X2_indexOfCell : GoodIn wsX2_cue (va_wsS RX2 125 yX2_indexOfCell wsX2_indexOfCell) := goodIn_app (goodIn_of _ (by decide +kernel)) ggX2_cue_X2_indexOfCell
theorem dX2_cue_0 : decode cX2_cue 0 = .ok (.aload_n 0, 1) := by decide +kernel
theorem dX2_cue_1 : decode cX2_cue 1 = .ok (.iload_n 1, 1) := by decide +kernel
theorem dX2_cue_2 : decode cX2_cue 2 = .ok (.iload_n 2, 1) := by decide +kernel
theorem dX2_cue_3 : decode cX2_cue 3 = .ok (.invokevirtual 122, 3) := by decide +kernel
theorem dX2_cue_6 : decode cX2_cue 6 = .ok (.istore 4, 2) := by decide +kernel
theorem dX2_cue_8 : decode cX2_cue 8 = .ok (.iload 4, 2) := by decide +kernel
theorem dX2_cue_10 : decode cX2_cue 10 = .ok (.ifCond .eq 11, 3) := by decide +kernel
theorem dX2_cue_13 : decode cX2_cue 13 = .ok (.aload_n 0, 1) := by decide +kernel
theorem dX2_cue_14 : decode cX2_cue 14 = .ok (.iload 4, 2) := by decide +kernel
theorem dX2_cue_16 : decode cX2_cue 16 = .ok (.iconst 0, 1) := by decide +kernel
theorem dX2_cue_17 : decode cX2_cue 17 = .ok (.invokevirtual 63, 3) := by decide +kernel
theorem dX2_cue_20 : decode cX2_cue 20 = .ok (.ireturn, 1) := by decide +kernel
theorem dX2_cue_21 : decode cX2_cue 21 = .ok (.iload_n 1, 1) := by decide +kernel
theorem dX2_cue_22 : decode cX2_cue 22 = .ok (.iload_n 2, 1) := by decide +kernel
theorem dX2_cue_23 : decode cX2_cue 23 = .ok (.invokestatic 125, 3) := by decide +kernel
theorem dX2_cue_26 : decode cX2_cue 26 = .ok (.istore 5, 2) := by decide +kernel
theorem dX2_cue_28 : decode cX2_cue 28 = .ok (.aload_n 0, 1) := by decide +kernel
theorem dX2_cue_29 : decode cX2_cue 29 = .ok (.getfield 41, 3) := by decide +kernel
theorem dX2_cue_32 : decode cX2_cue 32 = .ok (.iload 5, 2) := by decide +kernel
theorem dX2_cue_34 : decode cX2_cue 34 = .ok (.iaload, 1) := by decide +kernel
theorem dX2_cue_35 : decode cX2_cue 35 = .ok (.istore 6, 2) := by decide +kernel
theorem dX2_cue_37 : decode cX2_cue 37 = .ok (.aload_n 0, 1) := by decide +kernel
theorem dX2_cue_38 : decode cX2_cue 38 = .ok (.getfield 41, 3) := by decide +kernel
theorem dX2_cue_41 : decode cX2_cue 41 = .ok (.iload 5, 2) := by decide +kernel
theorem dX2_cue_43 : decode cX2_cue 43 = .ok (.iload_n 3, 1) := by decide +kernel
theorem dX2_cue_44 : decode cX2_cue 44 = .ok (.iastore, 1) := by decide +kernel
theorem dX2_cue_45 : decode cX2_cue 45 = .ok (.aload_n 0, 1) := by decide +kernel
theorem dX2_cue_46 : decode cX2_cue 46 = .ok (.iconst 0, 1) := by decide +kernel
theorem dX2_cue_47 : decode cX2_cue 47 = .ok (.iload 6, 2) := by decide +kernel
theorem dX2_cue_49 : decode cX2_cue 49 = .ok (.invokevirtual 63, 3) := by decide +kernel
theorem dX2_cue_52 : decode cX2_cue 52 = .ok (.ireturn, 1) := by decide +kernel
set_option maxRecDepth 20000 in
theorem ggX2_seek_X2_faultOfCell : GoodIn wsX2_seek wsX2_faultOfCell := goodIn_r _ [7, 8, 9, 18, 19, 20, 21, 22, 23, 24, 25, 26, 27, 28, 29, 30, 31, 32] (by decide +kernel) (by decide +kernel)
set_option maxRecDepth 20000 in
theorem gX2_seek_X2_faultOfCell : GoodIn wsX2_seek (wsV RX2 122 RX2 yX2_faultOfCell wsX2_faultOfCell) := goodIn_app (goodIn_of _ (by decide +kernel)) ggX2_seek_X2_faultOfCell
set_option maxRecDepth 20000 in
theorem ggX2_seek_X2_end : GoodIn wsX2_seek wsX2_end := goodIn_r _ [13, 14, 18, 19, 20, 21, 22, 23, 24, 25, 26, 27, 28, 29, 30, 31, 32] (by decide +kernel) (by decide +kernel)
set_option maxRecDepth 20000 in
theorem gX2_seek_X2_end : GoodIn wsX2_seek (wsV RX2 63 RX2 yX2_end wsX2_end) := goodIn_app (goodIn_of _ (by decide +kernel)) ggX2_seek_X2_end
set_option maxRecDepth 20000 in
theorem ggX2_seek_X2_indexOfCell : GoodIn wsX2_seek wsX2_indexOfCell := goodIn_r _ [17] (by decide +kernel) (by decide +kernel)
set_option maxRecDepth 20000 in
theorem gX2_seek_X2_indexOfCell : GoodIn wsX2_seek (va_wsS RX2 125 yX2_indexOfCell wsX2_indexOfCell) := goodIn_app (goodIn_of _ (by decide +kernel)) ggX2_seek_X2_indexOfCell
theorem dX2_seek_0 : decode cX2_seek 0 = .ok (.aload_n 0, 1) := by decide +kernel
theorem dX2_seek_1 : decode cX2_seek 1 = .ok (.iload_n 1, 1) := by decide +kernel
theorem dX2_seek_2 : decode cX2_seek 2 = .ok (.iload_n 2, 1) := by decide +kernel
theorem dX2_seek_3 : decode cX2_seek 3 = .ok (.invokevirtual 122, 3) := by decide +kernel
theorem dX2_seek_6 : decode cX2_seek 6 = .ok (.istore_n 3, 1) := by decide +kernel
theorem dX2_seek_7 : decode cX2_seek 7 = .ok (.iload_n 3, 1) := by decide +kernel
theorem dX2_seek_8 : decode cX2_seek 8 = .ok (.ifCond .eq 13, 3) := by decide +kernel
theorem dX2_seek_11 : decode cX2_seek 11 = .ok (.aload_n 0, 1) := by decide +kernel
theorem dX2_seek_12 : decode cX2_seek 12 = .ok (.iload_n 3, 1) := by decide +kernel
theorem dX2_seek_13 : decode cX2_seek 13 = .ok (.aload_n 0, 1) := by decide +kernel
theorem dX2_seek_14 : decode cX2_seek 14 = .ok (.getfield 22, 3) := by decide +kernel
theorem dX2_seek_17 : decode cX2_seek 17 = .ok (.invokevirtual 63, 3) := by decide +kernel
theorem dX2_seek_20 : decode cX2_seek 20 = .ok (.ireturn, 1) := by decide +kernel
theorem dX2_seek_21 : decode cX2_seek 21 = .ok (.aload_n 0, 1) := by decide +kernel
theorem dX2_seek_22 : decode cX2_seek 22 = .ok (.aload_n 0, 1) := by decide +kernel
theorem dX2_seek_23 : decode cX2_seek 23 = .ok (.getfield 41, 3) := by decide +kernel
theorem dX2_seek_26 : decode cX2_seek 26 = .ok (.iload_n 1, 1) := by decide +kernel
theorem dX2_seek_27 : decode cX2_seek 27 = .ok (.iload_n 2, 1) := by decide +kernel
theorem dX2_seek_28 : decode cX2_seek 28 = .ok (.invokestatic 125, 3) := by decide +kernel
theorem dX2_seek_31 : decode cX2_seek 31 = .ok (.iaload, 1) := by decide +kernel
theorem dX2_seek_32 : decode cX2_seek 32 = .ok (.putfield 22, 3) := by decide +kernel
theorem dX2_seek_35 : decode cX2_seek 35 = .ok (.aload_n 0, 1) := by decide +kernel
theorem dX2_seek_36 : decode cX2_seek 36 = .ok (.iconst 0, 1) := by decide +kernel
theorem dX2_seek_37 : decode cX2_seek 37 = .ok (.aload_n 0, 1) := by decide +kernel
theorem dX2_seek_38 : decode cX2_seek 38 = .ok (.getfield 22, 3) := by decide +kernel
theorem dX2_seek_41 : decode cX2_seek 41 = .ok (.invokevirtual 63, 3) := by decide +kernel
theorem dX2_seek_44 : decode cX2_seek 44 = .ok (.ireturn, 1) := by decide +kernel
theorem dX2_trip_0 : decode cX2_trip 0 = .ok (.iload_n 1, 1) := by decide +kernel
theorem dX2_trip_1 : decode cX2_trip 1 = .ok (.lookupswitch 37 #[(0, 27), (1, 32)], 27) := by decide +kernel
theorem dX2_trip_28 : decode cX2_trip 28 = .ok (.aload_n 0, 1) := by decide +kernel
theorem dX2_trip_29 : decode cX2_trip 29 = .ok (.getfield 50, 3) := by decide +kernel
theorem dX2_trip_32 : decode cX2_trip 32 = .ok (.ireturn, 1) := by decide +kernel
theorem dX2_trip_33 : decode cX2_trip 33 = .ok (.aload_n 0, 1) := by decide +kernel
theorem dX2_trip_34 : decode cX2_trip 34 = .ok (.getfield 53, 3) := by decide +kernel
theorem dX2_trip_37 : decode cX2_trip 37 = .ok (.ireturn, 1) := by decide +kernel
theorem dX2_trip_38 : decode cX2_trip 38 = .ok (.iconst (-1), 1) := by decide +kernel
theorem dX2_trip_39 : decode cX2_trip 39 = .ok (.ireturn, 1) := by decide +kernel
set_option maxRecDepth 20000 in
theorem ggX2_meter_X2_isTrack : GoodIn wsX2_meter wsX2_isTrack := goodIn_r _ [5, 6, 7, 4, 8] (by decide +kernel) (by decide +kernel)
set_option maxRecDepth 20000 in
theorem gX2_meter_X2_isTrack : GoodIn wsX2_meter (va_wsS RX2 87 yX2_isTrack wsX2_isTrack) := goodIn_app (goodIn_of _ (by decide +kernel)) ggX2_meter_X2_isTrack
theorem dX2_meter_0 : decode cX2_meter 0 = .ok (.iload_n 1, 1) := by decide +kernel
theorem dX2_meter_1 : decode cX2_meter 1 = .ok (.invokestatic 87, 3) := by decide +kernel
theorem dX2_meter_4 : decode cX2_meter 4 = .ok (.ifCond .eq 12, 3) := by decide +kernel
theorem dX2_meter_7 : decode cX2_meter 7 = .ok (.aload_n 0, 1) := by decide +kernel
theorem dX2_meter_8 : decode cX2_meter 8 = .ok (.getfield 32, 3) := by decide +kernel
theorem dX2_meter_11 : decode cX2_meter 11 = .ok (.iload_n 1, 1) := by decide +kernel
theorem dX2_meter_12 : decode cX2_meter 12 = .ok (.iaload, 1) := by decide +kernel
theorem dX2_meter_13 : decode cX2_meter 13 = .ok (.goto 4, 3) := by decide +kernel
theorem dX2_meter_16 : decode cX2_meter 16 = .ok (.iconst 0, 1) := by decide +kernel
theorem dX2_meter_17 : decode cX2_meter 17 = .ok (.ireturn, 1) := by decide +kernel
set_option maxRecDepth 20000 in
theorem ggX2_count_X2_tracksThere : GoodIn wsX2_count wsX2_tracksThere := goodIn_r _ [11, 12, 13, 14, 10, 15, 16, 17, 18, 19, 20, 21, 22, 23, 24, 25, 26, 27, 28, 29, 30, 31, 32, 33, 34, 35, 36, 37, 38, 39, 40] (by decide +kernel) (by decide +kernel)
set_option maxRecDepth 20000 in
theorem gX2_count_X2_tracksThere : GoodIn wsX2_count (wsV RX2 128 RX2 yX2_tracksThere wsX2_tracksThere) := goodIn_app (goodIn_of _ (by decide +kernel)) ggX2_count_X2_tracksThere
theorem dX2_count_0 : decode cX2_count 0 = .ok (.iload_n 1, 1) := by decide +kernel
theorem dX2_count_1 : decode cX2_count 1 = .ok (.tableswitch 69 0 5 #[39, 44, 49, 54, 59, 64], 39) := by decide +kernel
theorem dX2_count_40 : decode cX2_count 40 = .ok (.aload_n 0, 1) := by decide +kernel
theorem dX2_count_41 : decode cX2_count 41 = .ok (.getfield 15, 3) := by decide +kernel
theorem dX2_count_44 : decode cX2_count 44 = .ok (.ireturn, 1) := by decide +kernel
theorem dX2_count_45 : decode cX2_count 45 = .ok (.aload_n 0, 1) := by decide +kernel
theorem dX2_count_46 : decode cX2_count 46 = .ok (.getfield 19, 3) := by decide +kernel
theorem dX2_count_49 : decode cX2_count 49 = .ok (.ireturn, 1) := by decide +kernel
theorem dX2_count_50 : decode cX2_count 50 = .ok (.aload_n 0, 1) := by decide +kernel
theorem dX2_count_51 : decode cX2_count 51 = .ok (.getfield 22, 3) := by decide +kernel
theorem dX2_count_54 : decode cX2_count 54 = .ok (.ireturn, 1) := by decide +kernel
theorem dX2_count_55 : decode cX2_count 55 = .ok (.aload_n 0, 1) := by decide +kernel
theorem dX2_count_56 : decode cX2_count 56 = .ok (.getfield 35, 3) := by decide +kernel
theorem dX2_count_59 : decode cX2_count 59 = .ok (.ireturn, 1) := by decide +kernel
theorem dX2_count_60 : decode cX2_count 60 = .ok (.aload_n 0, 1) := by decide +kernel
theorem dX2_count_61 : decode cX2_count 61 = .ok (.getfield 44, 3) := by decide +kernel
theorem dX2_count_64 : decode cX2_count 64 = .ok (.ireturn, 1) := by decide +kernel
theorem dX2_count_65 : decode cX2_count 65 = .ok (.aload_n 0, 1) := by decide +kernel
theorem dX2_count_66 : decode cX2_count 66 = .ok (.getfield 47, 3) := by decide +kernel
theorem dX2_count_69 : decode cX2_count 69 = .ok (.ireturn, 1) := by decide +kernel
theorem dX2_count_70 : decode cX2_count 70 = .ok (.aload_n 0, 1) := by decide +kernel
theorem dX2_count_71 : decode cX2_count 71 = .ok (.iload_n 1, 1) := by decide +kernel
theorem dX2_count_72 : decode cX2_count 72 = .ok (.bipush 10, 2) := by decide +kernel
theorem dX2_count_74 : decode cX2_count 74 = .ok (.isub, 1) := by decide +kernel
theorem dX2_count_75 : decode cX2_count 75 = .ok (.invokevirtual 128, 3) := by decide +kernel
theorem dX2_count_78 : decode cX2_count 78 = .ok (.ireturn, 1) := by decide +kernel
theorem dX2_status_0 : decode cX2_status 0 = .ok (.aload_n 0, 1) := by decide +kernel
theorem dX2_status_1 : decode cX2_status 1 = .ok (.getfield 56, 3) := by decide +kernel
theorem dX2_status_4 : decode cX2_status 4 = .ok (.ireturn, 1) := by decide +kernel
theorem dX2_end_0 : decode cX2_end 0 = .ok (.aload_n 0, 1) := by decide +kernel
theorem dX2_end_1 : decode cX2_end 1 = .ok (.iload_n 1, 1) := by decide +kernel
theorem dX2_end_2 : decode cX2_end 2 = .ok (.putfield 56, 3) := by decide +kernel
theorem dX2_end_5 : decode cX2_end 5 = .ok (.iload_n 2, 1) := by decide +kernel
theorem dX2_end_6 : decode cX2_end 6 = .ok (.ireturn, 1) := by decide +kernel
theorem dX2_isWithin_0 : decode cX2_isWithin 0 = .ok (.iload_n 0, 1) := by decide +kernel
theorem dX2_isWithin_1 : decode cX2_isWithin 1 = .ok (.iload_n 1, 1) := by decide +kernel
theorem dX2_isWithin_2 : decode cX2_isWithin 2 = .ok (.if_icmp .lt 12, 3) := by decide +kernel
theorem dX2_isWithin_5 : decode cX2_isWithin 5 = .ok (.iload_n 0, 1) := by decide +kernel
theorem dX2_isWithin_6 : decode cX2_isWithin 6 = .ok (.iload_n 2, 1) := by decide +kernel
theorem dX2_isWithin_7 : decode cX2_isWithin 7 = .ok (.if_icmp .gt 7, 3) := by decide +kernel
theorem dX2_isWithin_10 : decode cX2_isWithin 10 = .ok (.iconst 1, 1) := by decide +kernel
theorem dX2_isWithin_11 : decode cX2_isWithin 11 = .ok (.goto 4, 3) := by decide +kernel
theorem dX2_isWithin_14 : decode cX2_isWithin 14 = .ok (.iconst 0, 1) := by decide +kernel
theorem dX2_isWithin_15 : decode cX2_isWithin 15 = .ok (.ireturn, 1) := by decide +kernel
set_option maxRecDepth 20000 in
theorem ggX2_isTrack_X2_isWithin : GoodIn wsX2_isTrack wsX2_isWithin := goodIn_r _ [4] (by decide +kernel) (by decide +kernel)
set_option maxRecDepth 20000 in
theorem gX2_isTrack_X2_isWithin : GoodIn wsX2_isTrack (va_wsS RX2 59 yX2_isWithin wsX2_isWithin) := goodIn_app (goodIn_of _ (by decide +kernel)) ggX2_isTrack_X2_isWithin
theorem dX2_isTrack_0 : decode cX2_isTrack 0 = .ok (.iload_n 0, 1) := by decide +kernel
theorem dX2_isTrack_1 : decode cX2_isTrack 1 = .ok (.iconst 0, 1) := by decide +kernel
theorem dX2_isTrack_2 : decode cX2_isTrack 2 = .ok (.iconst 3, 1) := by decide +kernel
theorem dX2_isTrack_3 : decode cX2_isTrack 3 = .ok (.invokestatic 59, 3) := by decide +kernel
theorem dX2_isTrack_6 : decode cX2_isTrack 6 = .ok (.ireturn, 1) := by decide +kernel
theorem dX2_firstFault_0 : decode cX2_firstFault 0 = .ok (.iload_n 0, 1) := by decide +kernel
theorem dX2_firstFault_1 : decode cX2_firstFault 1 = .ok (.ifCond .eq 7, 3) := by decide +kernel
theorem dX2_firstFault_4 : decode cX2_firstFault 4 = .ok (.iload_n 0, 1) := by decide +kernel
theorem dX2_firstFault_5 : decode cX2_firstFault 5 = .ok (.goto 4, 3) := by decide +kernel
theorem dX2_firstFault_8 : decode cX2_firstFault 8 = .ok (.iload_n 1, 1) := by decide +kernel
theorem dX2_firstFault_9 : decode cX2_firstFault 9 = .ok (.ireturn, 1) := by decide +kernel
theorem dX2_reelOf_0 : decode cX2_reelOf 0 = .ok (.iload_n 1, 1) := by decide +kernel
theorem dX2_reelOf_1 : decode cX2_reelOf 1 = .ok (.ifCond .lt 21, 3) := by decide +kernel
theorem dX2_reelOf_4 : decode cX2_reelOf 4 = .ok (.iload_n 1, 1) := by decide +kernel
theorem dX2_reelOf_5 : decode cX2_reelOf 5 = .ok (.aload_n 0, 1) := by decide +kernel
theorem dX2_reelOf_6 : decode cX2_reelOf 6 = .ok (.getfield 11, 3) := by decide +kernel
theorem dX2_reelOf_9 : decode cX2_reelOf 9 = .ok (.arraylength, 1) := by decide +kernel
theorem dX2_reelOf_10 : decode cX2_reelOf 10 = .ok (.if_icmp .ge 12, 3) := by decide +kernel
theorem dX2_reelOf_13 : decode cX2_reelOf 13 = .ok (.aload_n 0, 1) := by decide +kernel
theorem dX2_reelOf_14 : decode cX2_reelOf 14 = .ok (.getfield 11, 3) := by decide +kernel
theorem dX2_reelOf_17 : decode cX2_reelOf 17 = .ok (.iload_n 1, 1) := by decide +kernel
theorem dX2_reelOf_18 : decode cX2_reelOf 18 = .ok (.aaload, 1) := by decide +kernel
theorem dX2_reelOf_19 : decode cX2_reelOf 19 = .ok (.goto 4, 3) := by decide +kernel
theorem dX2_reelOf_22 : decode cX2_reelOf 22 = .ok (.aconst_null, 1) := by decide +kernel
theorem dX2_reelOf_23 : decode cX2_reelOf 23 = .ok (.areturn, 1) := by decide +kernel
set_option maxRecDepth 20000 in
theorem ggX2_trackOf_X2_reelOf : GoodIn wsX2_trackOf wsX2_reelOf := goodIn_r _ [5, 6, 14, 15, 16, 17, 18, 19, 20, 21, 22, 23, 24, 25, 26, 27, 28] (by decide +kernel) (by decide +kernel)
set_option maxRecDepth 20000 in
theorem gX2_trackOf_X2_reelOf : GoodIn wsX2_trackOf (wsV RX2 83 RX2 yX2_reelOf wsX2_reelOf) := goodIn_app (goodIn_of _ (by decide +kernel)) ggX2_trackOf_X2_reelOf
set_option maxRecDepth 20000 in
theorem ggX2_trackOf_X2_isTrack : GoodIn wsX2_trackOf wsX2_isTrack := goodIn_r _ [9, 10, 11, 4, 12] (by decide +kernel) (by decide +kernel)
set_option maxRecDepth 20000 in
theorem gX2_trackOf_X2_isTrack : GoodIn wsX2_trackOf (va_wsS RX2 87 yX2_isTrack wsX2_isTrack) := goodIn_app (goodIn_of _ (by decide +kernel)) ggX2_trackOf_X2_isTrack
theorem dX2_trackOf_0 : decode cX2_trackOf 0 = .ok (.aload_n 0, 1) := by decide +kernel
theorem dX2_trackOf_1 : decode cX2_trackOf 1 = .ok (.iload_n 1, 1) := by decide +kernel
theorem dX2_trackOf_2 : decode cX2_trackOf 2 = .ok (.invokevirtual 83, 3) := by decide +kernel
theorem dX2_trackOf_5 : decode cX2_trackOf 5 = .ok (.astore_n 3, 1) := by decide +kernel
theorem dX2_trackOf_6 : decode cX2_trackOf 6 = .ok (.aload_n 3, 1) := by decide +kernel
theorem dX2_trackOf_7 : decode cX2_trackOf 7 = .ok (.ifnull 10, 3) := by decide +kernel
theorem dX2_trackOf_10 : decode cX2_trackOf 10 = .ok (.iload_n 2, 1) := by decide +kernel
theorem dX2_trackOf_11 : decode cX2_trackOf 11 = .ok (.invokestatic 87, 3) := by decide +kernel
theorem dX2_trackOf_14 : decode cX2_trackOf 14 = .ok (.ifCond .ne 7, 3) := by decide +kernel
theorem dX2_trackOf_17 : decode cX2_trackOf 17 = .ok (.aconst_null, 1) := by decide +kernel
theorem dX2_trackOf_18 : decode cX2_trackOf 18 = .ok (.goto 9, 3) := by decide +kernel
theorem dX2_trackOf_21 : decode cX2_trackOf 21 = .ok (.aload_n 3, 1) := by decide +kernel
theorem dX2_trackOf_22 : decode cX2_trackOf 22 = .ok (.getfield 131, 3) := by decide +kernel
theorem dX2_trackOf_25 : decode cX2_trackOf 25 = .ok (.iload_n 2, 1) := by decide +kernel
theorem dX2_trackOf_26 : decode cX2_trackOf 26 = .ok (.aaload, 1) := by decide +kernel
theorem dX2_trackOf_27 : decode cX2_trackOf 27 = .ok (.areturn, 1) := by decide +kernel
set_option maxRecDepth 20000 in
theorem ggX2_whyNoneUnderHead_X2_isTrack : GoodIn wsX2_whyNoneUnderHead wsX2_isTrack := goodIn_r _ [4, 5, 6, 3, 7] (by decide +kernel) (by decide +kernel)
set_option maxRecDepth 20000 in
theorem gX2_whyNoneUnderHead_X2_isTrack : GoodIn wsX2_whyNoneUnderHead (va_wsS RX2 87 yX2_isTrack wsX2_isTrack) := goodIn_app (goodIn_of _ (by decide +kernel)) ggX2_whyNoneUnderHead_X2_isTrack
theorem dX2_whyNoneUnderHead_0 : decode cX2_whyNoneUnderHead 0 = .ok (.iload_n 1, 1) := by decide +kernel
theorem dX2_whyNoneUnderHead_1 : decode cX2_whyNoneUnderHead 1 = .ok (.invokestatic 87, 3) := by decide +kernel
theorem dX2_whyNoneUnderHead_4 : decode cX2_whyNoneUnderHead 4 = .ok (.ifCond .eq 7, 3) := by decide +kernel
theorem dX2_whyNoneUnderHead_7 : decode cX2_whyNoneUnderHead 7 = .ok (.iconst 5, 1) := by decide +kernel
theorem dX2_whyNoneUnderHead_8 : decode cX2_whyNoneUnderHead 8 = .ok (.goto 4, 3) := by decide +kernel
theorem dX2_whyNoneUnderHead_11 : decode cX2_whyNoneUnderHead 11 = .ok (.iconst 1, 1) := by decide +kernel
theorem dX2_whyNoneUnderHead_12 : decode cX2_whyNoneUnderHead 12 = .ok (.ireturn, 1) := by decide +kernel
set_option maxRecDepth 20000 in
theorem ggX2_placeOfHead_X2_isTrack : GoodIn wsX2_placeOfHead wsX2_isTrack := goodIn_r _ [6, 7, 8, 5, 9] (by decide +kernel) (by decide +kernel)
set_option maxRecDepth 20000 in
theorem gX2_placeOfHead_X2_isTrack : GoodIn wsX2_placeOfHead (va_wsS RX2 87 yX2_isTrack wsX2_isTrack) := goodIn_app (goodIn_of _ (by decide +kernel)) ggX2_placeOfHead_X2_isTrack
theorem dX2_placeOfHead_0 : decode cX2_placeOfHead 0 = .ok (.iload_n 1, 1) := by decide +kernel
theorem dX2_placeOfHead_1 : decode cX2_placeOfHead 1 = .ok (.invokestatic 87, 3) := by decide +kernel
theorem dX2_placeOfHead_4 : decode cX2_placeOfHead 4 = .ok (.ifCond .eq 17, 3) := by decide +kernel
theorem dX2_placeOfHead_7 : decode cX2_placeOfHead 7 = .ok (.aload_n 0, 1) := by decide +kernel
theorem dX2_placeOfHead_8 : decode cX2_placeOfHead 8 = .ok (.getfield 22, 3) := by decide +kernel
theorem dX2_placeOfHead_11 : decode cX2_placeOfHead 11 = .ok (.aload_n 0, 1) := by decide +kernel
theorem dX2_placeOfHead_12 : decode cX2_placeOfHead 12 = .ok (.getfield 25, 3) := by decide +kernel
theorem dX2_placeOfHead_15 : decode cX2_placeOfHead 15 = .ok (.iload_n 1, 1) := by decide +kernel
theorem dX2_placeOfHead_16 : decode cX2_placeOfHead 16 = .ok (.iaload, 1) := by decide +kernel
theorem dX2_placeOfHead_17 : decode cX2_placeOfHead 17 = .ok (.iadd, 1) := by decide +kernel
theorem dX2_placeOfHead_18 : decode cX2_placeOfHead 18 = .ok (.goto 7, 3) := by decide +kernel
theorem dX2_placeOfHead_21 : decode cX2_placeOfHead 21 = .ok (.aload_n 0, 1) := by decide +kernel
theorem dX2_placeOfHead_22 : decode cX2_placeOfHead 22 = .ok (.getfield 22, 3) := by decide +kernel
theorem dX2_placeOfHead_25 : decode cX2_placeOfHead 25 = .ok (.ireturn, 1) := by decide +kernel
set_option maxRecDepth 20000 in
theorem ggX2_tick_X2_moveHead : GoodIn wsX2_tick wsX2_moveHead := goodIn_r _ [8, 9, 10, 11, 12, 13, 14, 15, 16, 7, 17, 18, 19, 20, 21, 22, 23, 24, 25, 26, 27, 28, 29, 30, 31, 32, 3, 33, 34, 35, 36, 37, 38, 39, 40, 41, 42, 43, 44, 45, 46, 47, 48, 49, 50, 51, 52, 53, 54, 55, 56, 57, 58, 59, 60, 61, 62, 63, 64, 65, 66, 67, 68, 69, 70, 71, 72, 73, 74, 75, 76, 77, 78, 79] (by decide +kernel) (by decide +kernel)
set_option maxRecDepth 20000 in
theorem gX2_tick_X2_moveHead : GoodIn wsX2_tick (wsV RX2 135 RX2 yX2_moveHead wsX2_moveHead) := goodIn_app (goodIn_of _ (by decide +kernel)) ggX2_tick_X2_moveHead
theorem dX2_tick_0 : decode cX2_tick 0 = .ok (.iconst 0, 1) := by decide +kernel
theorem dX2_tick_1 : decode cX2_tick 1 = .ok (.istore_n 1, 1) := by decide +kernel
theorem dX2_tick_2 : decode cX2_tick 2 = .ok (.iload_n 1, 1) := by decide +kernel
theorem dX2_tick_3 : decode cX2_tick 3 = .ok (.iconst 4, 1) := by decide +kernel
theorem dX2_tick_4 : decode cX2_tick 4 = .ok (.if_icmp .ge 30, 3) := by decide +kernel
theorem dX2_tick_7 : decode cX2_tick 7 = .ok (.aload_n 0, 1) := by decide +kernel
theorem dX2_tick_8 : decode cX2_tick 8 = .ok (.iload_n 1, 1) := by decide +kernel
theorem dX2_tick_9 : decode cX2_tick 9 = .ok (.invokevirtual 135, 3) := by decide +kernel
theorem dX2_tick_12 : decode cX2_tick 12 = .ok (.istore_n 2, 1) := by decide +kernel
theorem dX2_tick_13 : decode cX2_tick 13 = .ok (.iload_n 2, 1) := by decide +kernel
theorem dX2_tick_14 : decode cX2_tick 14 = .ok (.ifCond .eq 14, 3) := by decide +kernel
theorem dX2_tick_17 : decode cX2_tick 17 = .ok (.aload_n 0, 1) := by decide +kernel
theorem dX2_tick_18 : decode cX2_tick 18 = .ok (.iload_n 1, 1) := by decide +kernel
theorem dX2_tick_19 : decode cX2_tick 19 = .ok (.putfield 50, 3) := by decide +kernel
theorem dX2_tick_22 : decode cX2_tick 22 = .ok (.aload_n 0, 1) := by decide +kernel
theorem dX2_tick_23 : decode cX2_tick 23 = .ok (.iload_n 2, 1) := by decide +kernel
theorem dX2_tick_24 : decode cX2_tick 24 = .ok (.putfield 53, 3) := by decide +kernel
theorem dX2_tick_27 : decode cX2_tick 27 = .ok (.return_, 1) := by decide +kernel
theorem dX2_tick_28 : decode cX2_tick 28 = .ok (.iinc 1 1, 3) := by decide +kernel
theorem dX2_tick_31 : decode cX2_tick 31 = .ok (.goto (-29), 3) := by decide +kernel
theorem dX2_tick_34 : decode cX2_tick 34 = .ok (.aload_n 0, 1) := by decide +kernel
theorem dX2_tick_35 : decode cX2_tick 35 = .ok (.dup, 1) := by decide +kernel
theorem dX2_tick_36 : decode cX2_tick 36 = .ok (.getfield 22, 3) := by decide +kernel
theorem dX2_tick_39 : decode cX2_tick 39 = .ok (.iconst 1, 1) := by decide +kernel
theorem dX2_tick_40 : decode cX2_tick 40 = .ok (.iadd, 1) := by decide +kernel
theorem dX2_tick_41 : decode cX2_tick 41 = .ok (.putfield 22, 3) := by decide +kernel
theorem dX2_tick_44 : decode cX2_tick 44 = .ok (.return_, 1) := by decide +kernel
set_option maxRecDepth 20000 in
theorem ggX2_moveHead_X2_trackOf : GoodIn wsX2_moveHead wsX2_trackOf := goodIn_r _ [10, 11, 12, 13, 9, 14, 15, 16, 17, 18, 19, 20, 21, 70, 55, 56, 57, 58, 59, 60, 61, 62, 63, 64, 65, 66, 67, 68, 69] (by decide +kernel) (by decide +kernel)
set_option maxRecDepth 20000 in
theorem gX2_moveHead_X2_trackOf : GoodIn wsX2_moveHead (wsV RX2 70 RX2 yX2_trackOf wsX2_trackOf) := goodIn_app (goodIn_of _ (by decide +kernel)) ggX2_moveHead_X2_trackOf
set_option maxRecDepth 20000 in
theorem ggX2_moveHead_X2_placeOfHead : GoodIn wsX2_moveHead wsX2_placeOfHead := goodIn_r _ [25, 26, 27, 16, 17, 9, 18, 19, 20, 21, 55, 56, 57, 58, 59, 60, 61, 62, 63, 64, 65, 66, 67, 68, 69] (by decide +kernel) (by decide +kernel)
set_option maxRecDepth 20000 in
theorem gX2_moveHead_X2_placeOfHead : GoodIn wsX2_moveHead (wsV RX2 95 RX2 yX2_placeOfHead wsX2_placeOfHead) := goodIn_app (goodIn_of _ (by decide +kernel)) ggX2_moveHead_X2_placeOfHead
set_option maxRecDepth 20000 in
theorem ggX2_moveHead_X1_faultAt : GoodIn wsX2_moveHead wsX1_faultAt := goodIn_r _ [31, 32, 33, 71, 72, 73] (by decide +kernel) (by decide +kernel)
set_option maxRecDepth 20000 in
theorem gX2_moveHead_X1_faultAt_n98 : GoodIn wsX2_moveHead (wsX1_faultAt) := ggX2_moveHead_X1_faultAt
set_option maxRecDepth 20000 in
theorem ggX2_moveHead_X1_numberAt : GoodIn wsX2_moveHead wsX1_numberAt := goodIn_r _ [36, 33, 37, 28, 30, 29, 31, 32, 71, 72, 73] (by decide +kernel) (by decide +kernel)
set_option maxRecDepth 20000 in
theorem gX2_moveHead_X1_numberAt_n101 : GoodIn wsX2_moveHead (wsX1_numberAt) := ggX2_moveHead_X1_numberAt
set_option maxRecDepth 20000 in
theorem ggX2_moveHead_X1_put : GoodIn wsX2_moveHead wsX1_put := goodIn_r _ [40, 33, 37, 28, 30, 29, 31, 32, 41, 42, 43, 44, 45, 46, 47, 48, 49, 50, 51, 52, 53, 54, 71, 72, 73] (by decide +kernel) (by decide +kernel)
set_option maxRecDepth 20000 in
theorem gX2_moveHead_X1_put_n104 : GoodIn wsX2_moveHead (wsX1_put) := ggX2_moveHead_X1_put
theorem dX2_moveHead_0 : decode cX2_moveHead 0 = .ok (.aload_n 0, 1) := by decide +kernel
theorem dX2_moveHead_1 : decode cX2_moveHead 1 = .ok (.getfield 29, 3) := by decide +kernel
theorem dX2_moveHead_4 : decode cX2_moveHead 4 = .ok (.iload_n 1, 1) := by decide +kernel
theorem dX2_moveHead_5 : decode cX2_moveHead 5 = .ok (.iaload, 1) := by decide +kernel
theorem dX2_moveHead_6 : decode cX2_moveHead 6 = .ok (.istore_n 2, 1) := by decide +kernel
theorem dX2_moveHead_7 : decode cX2_moveHead 7 = .ok (.aload_n 0, 1) := by decide +kernel
theorem dX2_moveHead_8 : decode cX2_moveHead 8 = .ok (.aload_n 0, 1) := by decide +kernel
theorem dX2_moveHead_9 : decode cX2_moveHead 9 = .ok (.getfield 19, 3) := by decide +kernel
theorem dX2_moveHead_12 : decode cX2_moveHead 12 = .ok (.iload_n 1, 1) := by decide +kernel
theorem dX2_moveHead_13 : decode cX2_moveHead 13 = .ok (.invokevirtual 70, 3) := by decide +kernel
theorem dX2_moveHead_16 : decode cX2_moveHead 16 = .ok (.astore_n 3, 1) := by decide +kernel
theorem dX2_moveHead_17 : decode cX2_moveHead 17 = .ok (.iload_n 2, 1) := by decide +kernel
theorem dX2_moveHead_18 : decode cX2_moveHead 18 = .ok (.ifCond .eq 7, 3) := by decide +kernel
theorem dX2_moveHead_21 : decode cX2_moveHead 21 = .ok (.aload_n 3, 1) := by decide +kernel
theorem dX2_moveHead_22 : decode cX2_moveHead 22 = .ok (.ifnonnull 5, 3) := by decide +kernel
theorem dX2_moveHead_25 : decode cX2_moveHead 25 = .ok (.iconst 0, 1) := by decide +kernel
theorem dX2_moveHead_26 : decode cX2_moveHead 26 = .ok (.ireturn, 1) := by decide +kernel
theorem dX2_moveHead_27 : decode cX2_moveHead 27 = .ok (.aload_n 0, 1) := by decide +kernel
theorem dX2_moveHead_28 : decode cX2_moveHead 28 = .ok (.iload_n 1, 1) := by decide +kernel
theorem dX2_moveHead_29 : decode cX2_moveHead 29 = .ok (.invokevirtual 95, 3) := by decide +kernel
theorem dX2_moveHead_32 : decode cX2_moveHead 32 = .ok (.istore 4, 2) := by decide +kernel
theorem dX2_moveHead_34 : decode cX2_moveHead 34 = .ok (.aload_n 3, 1) := by decide +kernel
theorem dX2_moveHead_35 : decode cX2_moveHead 35 = .ok (.iload 4, 2) := by decide +kernel
theorem dX2_moveHead_37 : decode cX2_moveHead 37 = .ok (.invokevirtual 98, 3) := by decide +kernel
theorem dX2_moveHead_40 : decode cX2_moveHead 40 = .ok (.istore 5, 2) := by decide +kernel
theorem dX2_moveHead_42 : decode cX2_moveHead 42 = .ok (.iload 5, 2) := by decide +kernel
theorem dX2_moveHead_44 : decode cX2_moveHead 44 = .ok (.ifCond .eq 6, 3) := by decide +kernel
theorem dX2_moveHead_47 : decode cX2_moveHead 47 = .ok (.iload 5, 2) := by decide +kernel
theorem dX2_moveHead_49 : decode cX2_moveHead 49 = .ok (.ireturn, 1) := by decide +kernel
theorem dX2_moveHead_50 : decode cX2_moveHead 50 = .ok (.aload_n 3, 1) := by decide +kernel
theorem dX2_moveHead_51 : decode cX2_moveHead 51 = .ok (.iload 4, 2) := by decide +kernel
theorem dX2_moveHead_53 : decode cX2_moveHead 53 = .ok (.invokevirtual 101, 3) := by decide +kernel
theorem dX2_moveHead_56 : decode cX2_moveHead 56 = .ok (.istore 6, 2) := by decide +kernel
theorem dX2_moveHead_58 : decode cX2_moveHead 58 = .ok (.iload_n 2, 1) := by decide +kernel
theorem dX2_moveHead_59 : decode cX2_moveHead 59 = .ok (.iconst 1, 1) := by decide +kernel
theorem dX2_moveHead_60 : decode cX2_moveHead 60 = .ok (.if_icmp .ne 16, 3) := by decide +kernel
theorem dX2_moveHead_63 : decode cX2_moveHead 63 = .ok (.aload_n 0, 1) := by decide +kernel
theorem dX2_moveHead_64 : decode cX2_moveHead 64 = .ok (.getfield 32, 3) := by decide +kernel
theorem dX2_moveHead_67 : decode cX2_moveHead 67 = .ok (.iload_n 1, 1) := by decide +kernel
theorem dX2_moveHead_68 : decode cX2_moveHead 68 = .ok (.dup2, 1) := by decide +kernel
theorem dX2_moveHead_69 : decode cX2_moveHead 69 = .ok (.iaload, 1) := by decide +kernel
theorem dX2_moveHead_70 : decode cX2_moveHead 70 = .ok (.iload 6, 2) := by decide +kernel
theorem dX2_moveHead_72 : decode cX2_moveHead 72 = .ok (.iadd, 1) := by decide +kernel
theorem dX2_moveHead_73 : decode cX2_moveHead 73 = .ok (.iastore, 1) := by decide +kernel
theorem dX2_moveHead_74 : decode cX2_moveHead 74 = .ok (.iconst 0, 1) := by decide +kernel
theorem dX2_moveHead_75 : decode cX2_moveHead 75 = .ok (.ireturn, 1) := by decide +kernel
theorem dX2_moveHead_76 : decode cX2_moveHead 76 = .ok (.aload_n 3, 1) := by decide +kernel
theorem dX2_moveHead_77 : decode cX2_moveHead 77 = .ok (.iload 4, 2) := by decide +kernel
theorem dX2_moveHead_79 : decode cX2_moveHead 79 = .ok (.iload_n 2, 1) := by decide +kernel
theorem dX2_moveHead_80 : decode cX2_moveHead 80 = .ok (.iconst 3, 1) := by decide +kernel
theorem dX2_moveHead_81 : decode cX2_moveHead 81 = .ok (.if_icmp .ne 13, 3) := by decide +kernel
theorem dX2_moveHead_84 : decode cX2_moveHead 84 = .ok (.iload 6, 2) := by decide +kernel
theorem dX2_moveHead_86 : decode cX2_moveHead 86 = .ok (.aload_n 0, 1) := by decide +kernel
theorem dX2_moveHead_87 : decode cX2_moveHead 87 = .ok (.getfield 35, 3) := by decide +kernel
theorem dX2_moveHead_90 : decode cX2_moveHead 90 = .ok (.iadd, 1) := by decide +kernel
theorem dX2_moveHead_91 : decode cX2_moveHead 91 = .ok (.goto 7, 3) := by decide +kernel
theorem dX2_moveHead_94 : decode cX2_moveHead 94 = .ok (.aload_n 0, 1) := by decide +kernel
theorem dX2_moveHead_95 : decode cX2_moveHead 95 = .ok (.getfield 35, 3) := by decide +kernel
theorem dX2_moveHead_98 : decode cX2_moveHead 98 = .ok (.invokevirtual 104, 3) := by decide +kernel
theorem dX2_moveHead_101 : decode cX2_moveHead 101 = .ok (.aload_n 0, 1) := by decide +kernel
theorem dX2_moveHead_102 : decode cX2_moveHead 102 = .ok (.dup, 1) := by decide +kernel
theorem dX2_moveHead_103 : decode cX2_moveHead 103 = .ok (.getfield 35, 3) := by decide +kernel
theorem dX2_moveHead_106 : decode cX2_moveHead 106 = .ok (.aload_n 0, 1) := by decide +kernel
theorem dX2_moveHead_107 : decode cX2_moveHead 107 = .ok (.getfield 38, 3) := by decide +kernel
theorem dX2_moveHead_110 : decode cX2_moveHead 110 = .ok (.iadd, 1) := by decide +kernel
theorem dX2_moveHead_111 : decode cX2_moveHead 111 = .ok (.putfield 35, 3) := by decide +kernel
theorem dX2_moveHead_114 : decode cX2_moveHead 114 = .ok (.iconst 0, 1) := by decide +kernel
theorem dX2_moveHead_115 : decode cX2_moveHead 115 = .ok (.ireturn, 1) := by decide +kernel
theorem dX2_faultOfCell_0 : decode cX2_faultOfCell 0 = .ok (.aload_n 0, 1) := by decide +kernel
theorem dX2_faultOfCell_1 : decode cX2_faultOfCell 1 = .ok (.getfield 44, 3) := by decide +kernel
theorem dX2_faultOfCell_4 : decode cX2_faultOfCell 4 = .ok (.iconst (-1), 1) := by decide +kernel
theorem dX2_faultOfCell_5 : decode cX2_faultOfCell 5 = .ok (.if_icmp .ne 5, 3) := by decide +kernel
theorem dX2_faultOfCell_8 : decode cX2_faultOfCell 8 = .ok (.iconst 2, 1) := by decide +kernel
theorem dX2_faultOfCell_9 : decode cX2_faultOfCell 9 = .ok (.ireturn, 1) := by decide +kernel
theorem dX2_faultOfCell_10 : decode cX2_faultOfCell 10 = .ok (.iload_n 1, 1) := by decide +kernel
theorem dX2_faultOfCell_11 : decode cX2_faultOfCell 11 = .ok (.ifCond .lt 27, 3) := by decide +kernel
theorem dX2_faultOfCell_14 : decode cX2_faultOfCell 14 = .ok (.iload_n 1, 1) := by decide +kernel
theorem dX2_faultOfCell_15 : decode cX2_faultOfCell 15 = .ok (.aload_n 0, 1) := by decide +kernel
theorem dX2_faultOfCell_16 : decode cX2_faultOfCell 16 = .ok (.getfield 44, 3) := by decide +kernel
theorem dX2_faultOfCell_19 : decode cX2_faultOfCell 19 = .ok (.if_icmp .ge 19, 3) := by decide +kernel
theorem dX2_faultOfCell_22 : decode cX2_faultOfCell 22 = .ok (.iload_n 2, 1) := by decide +kernel
theorem dX2_faultOfCell_23 : decode cX2_faultOfCell 23 = .ok (.ifCond .lt 15, 3) := by decide +kernel
theorem dX2_faultOfCell_26 : decode cX2_faultOfCell 26 = .ok (.iload_n 2, 1) := by decide +kernel
theorem dX2_faultOfCell_27 : decode cX2_faultOfCell 27 = .ok (.aload_n 0, 1) := by decide +kernel
theorem dX2_faultOfCell_28 : decode cX2_faultOfCell 28 = .ok (.getfield 47, 3) := by decide +kernel
theorem dX2_faultOfCell_31 : decode cX2_faultOfCell 31 = .ok (.if_icmp .ge 7, 3) := by decide +kernel
theorem dX2_faultOfCell_34 : decode cX2_faultOfCell 34 = .ok (.iconst 1, 1) := by decide +kernel
theorem dX2_faultOfCell_35 : decode cX2_faultOfCell 35 = .ok (.goto 4, 3) := by decide +kernel
theorem dX2_faultOfCell_38 : decode cX2_faultOfCell 38 = .ok (.iconst 0, 1) := by decide +kernel
theorem dX2_faultOfCell_39 : decode cX2_faultOfCell 39 = .ok (.istore_n 3, 1) := by decide +kernel
theorem dX2_faultOfCell_40 : decode cX2_faultOfCell 40 = .ok (.iload_n 3, 1) := by decide +kernel
theorem dX2_faultOfCell_41 : decode cX2_faultOfCell 41 = .ok (.ifCond .eq 7, 3) := by decide +kernel
theorem dX2_faultOfCell_44 : decode cX2_faultOfCell 44 = .ok (.iconst 0, 1) := by decide +kernel
theorem dX2_faultOfCell_45 : decode cX2_faultOfCell 45 = .ok (.goto 4, 3) := by decide +kernel
theorem dX2_faultOfCell_48 : decode cX2_faultOfCell 48 = .ok (.iconst 3, 1) := by decide +kernel
theorem dX2_faultOfCell_49 : decode cX2_faultOfCell 49 = .ok (.ireturn, 1) := by decide +kernel
theorem dX2_indexOfCell_0 : decode cX2_indexOfCell 0 = .ok (.iload_n 0, 1) := by decide +kernel
theorem dX2_indexOfCell_1 : decode cX2_indexOfCell 1 = .ok (.bipush 16, 2) := by decide +kernel
theorem dX2_indexOfCell_3 : decode cX2_indexOfCell 3 = .ok (.imul, 1) := by decide +kernel
theorem dX2_indexOfCell_4 : decode cX2_indexOfCell 4 = .ok (.iload_n 1, 1) := by decide +kernel
theorem dX2_indexOfCell_5 : decode cX2_indexOfCell 5 = .ok (.iadd, 1) := by decide +kernel
theorem dX2_indexOfCell_6 : decode cX2_indexOfCell 6 = .ok (.ireturn, 1) := by decide +kernel
set_option maxRecDepth 20000 in
theorem ggX2_tracksThere_X2_reelOf : GoodIn wsX2_tracksThere wsX2_reelOf := goodIn_r _ [5, 6, 12, 13, 14, 15, 16, 17, 18, 19, 20, 21, 22, 23, 24, 25, 26] (by decide +kernel) (by decide +kernel)
set_option maxRecDepth 20000 in
theorem gX2_tracksThere_X2_reelOf : GoodIn wsX2_tracksThere (wsV RX2 83 RX2 yX2_reelOf wsX2_reelOf) := goodIn_app (goodIn_of _ (by decide +kernel)) ggX2_tracksThere_X2_reelOf
set_option maxRecDepth 20000 in
theorem ggX2_tracksThere_X0_bitsOfTracks : GoodIn wsX2_tracksThere wsX0_bitsOfTracks := goodIn_r _ [10, 11, 27, 28, 29, 30] (by decide +kernel) (by decide +kernel)
set_option maxRecDepth 20000 in
theorem gX2_tracksThere_X0_bitsOfTracks_n138 : GoodIn wsX2_tracksThere (wsX0_bitsOfTracks) := ggX2_tracksThere_X0_bitsOfTracks
theorem dX2_tracksThere_0 : decode cX2_tracksThere 0 = .ok (.aload_n 0, 1) := by decide +kernel
theorem dX2_tracksThere_1 : decode cX2_tracksThere 1 = .ok (.iload_n 1, 1) := by decide +kernel
theorem dX2_tracksThere_2 : decode cX2_tracksThere 2 = .ok (.invokevirtual 83, 3) := by decide +kernel
theorem dX2_tracksThere_5 : decode cX2_tracksThere 5 = .ok (.astore_n 2, 1) := by decide +kernel
theorem dX2_tracksThere_6 : decode cX2_tracksThere 6 = .ok (.aload_n 2, 1) := by decide +kernel
theorem dX2_tracksThere_7 : decode cX2_tracksThere 7 = .ok (.ifnonnull 7, 3) := by decide +kernel
theorem dX2_tracksThere_10 : decode cX2_tracksThere 10 = .ok (.iconst (-1), 1) := by decide +kernel
theorem dX2_tracksThere_11 : decode cX2_tracksThere 11 = .ok (.goto 7, 3) := by decide +kernel
theorem dX2_tracksThere_14 : decode cX2_tracksThere 14 = .ok (.aload_n 2, 1) := by decide +kernel
theorem dX2_tracksThere_15 : decode cX2_tracksThere 15 = .ok (.invokevirtual 138, 3) := by decide +kernel
theorem dX2_tracksThere_18 : decode cX2_tracksThere 18 = .ok (.ireturn, 1) := by decide +kernel
