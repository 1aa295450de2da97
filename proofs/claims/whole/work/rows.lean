section
-- ===== PART A: goes FIRST, ahead of the names: the tables' words, and 'selects' of the private methods out of them =====
/-- a private method of a class that the tables say can be made, by its rows of tables_1 -/
def lw_okq (q : MethodName × Nat) : Prop := (q.1.cls ≠ "java/lang/invoke/MethodHandle" ∧ q.1.cls ≠ "java/lang/invoke/VarHandle") ∧ Cond.instantiable q.1.cls q.2 ∈ tables_1 ∧ Cond.privateMethod q.1 ∈ tables_1 ∧ Cond.instanceMethod q.1 ∈ tables_1
theorem lw_p0 : lw_okq (⟨"FourTrackDeck", "end", "(II)I"⟩, 15) := ⟨⟨by decide +kernel, by decide +kernel⟩, List.mem_of_getElem? (i := 8) (by decide +kernel), List.mem_of_getElem? (i := 72) (by decide +kernel), List.mem_of_getElem? (i := 73) (by decide +kernel)⟩
theorem lw_p1 : lw_okq (⟨"FourTrackDeck", "trackOf", "(II)LFourTrackDeck$Track;"⟩, 15) := ⟨⟨by decide +kernel, by decide +kernel⟩, List.mem_of_getElem? (i := 8) (by decide +kernel), List.mem_of_getElem? (i := 109) (by decide +kernel), List.mem_of_getElem? (i := 110) (by decide +kernel)⟩
theorem lw_p2 : lw_okq (⟨"FourTrackDeck", "reelOf", "(I)LFourTrackDeck$Reel;"⟩, 15) := ⟨⟨by decide +kernel, by decide +kernel⟩, List.mem_of_getElem? (i := 8) (by decide +kernel), List.mem_of_getElem? (i := 113) (by decide +kernel), List.mem_of_getElem? (i := 114) (by decide +kernel)⟩
theorem lw_p3 : lw_okq (⟨"FourTrackDeck$Track", "wipe", "()V"⟩, 3) := ⟨⟨by decide +kernel, by decide +kernel⟩, List.mem_of_getElem? (i := 82) (by decide +kernel), List.mem_of_getElem? (i := 124) (by decide +kernel), List.mem_of_getElem? (i := 125) (by decide +kernel)⟩
theorem lw_p4 : lw_okq (⟨"FourTrackDeck", "whyNoneUnderHead", "(I)I"⟩, 15) := ⟨⟨by decide +kernel, by decide +kernel⟩, List.mem_of_getElem? (i := 8) (by decide +kernel), List.mem_of_getElem? (i := 155) (by decide +kernel), List.mem_of_getElem? (i := 156) (by decide +kernel)⟩
theorem lw_p5 : lw_okq (⟨"FourTrackDeck", "placeOfHead", "(I)I"⟩, 15) := ⟨⟨by decide +kernel, by decide +kernel⟩, List.mem_of_getElem? (i := 8) (by decide +kernel), List.mem_of_getElem? (i := 159) (by decide +kernel), List.mem_of_getElem? (i := 160) (by decide +kernel)⟩
theorem lw_p6 : lw_okq (⟨"FourTrackDeck$Track", "faultAt", "(I)I"⟩, 3) := ⟨⟨by decide +kernel, by decide +kernel⟩, List.mem_of_getElem? (i := 82) (by decide +kernel), List.mem_of_getElem? (i := 163) (by decide +kernel), List.mem_of_getElem? (i := 164) (by decide +kernel)⟩
theorem lw_p7 : lw_okq (⟨"FourTrackDeck$Track", "numberAt", "(I)I"⟩, 3) := ⟨⟨by decide +kernel, by decide +kernel⟩, List.mem_of_getElem? (i := 82) (by decide +kernel), List.mem_of_getElem? (i := 167) (by decide +kernel), List.mem_of_getElem? (i := 168) (by decide +kernel)⟩
theorem lw_p8 : lw_okq (⟨"FourTrackDeck$Track", "put", "(II)V"⟩, 3) := ⟨⟨by decide +kernel, by decide +kernel⟩, List.mem_of_getElem? (i := 82) (by decide +kernel), List.mem_of_getElem? (i := 176) (by decide +kernel), List.mem_of_getElem? (i := 177) (by decide +kernel)⟩
theorem lw_p9 : lw_okq (⟨"FourTrackDeck$Track", "asTrackHasIt", "(I)I"⟩, 3) := ⟨⟨by decide +kernel, by decide +kernel⟩, List.mem_of_getElem? (i := 82) (by decide +kernel), List.mem_of_getElem? (i := 180) (by decide +kernel), List.mem_of_getElem? (i := 181) (by decide +kernel)⟩
theorem lw_p10 : lw_okq (⟨"FourTrackDeck", "tick", "()V"⟩, 15) := ⟨⟨by decide +kernel, by decide +kernel⟩, List.mem_of_getElem? (i := 8) (by decide +kernel), List.mem_of_getElem? (i := 196) (by decide +kernel), List.mem_of_getElem? (i := 197) (by decide +kernel)⟩
theorem lw_p11 : lw_okq (⟨"FourTrackDeck", "moveHead", "(I)I"⟩, 15) := ⟨⟨by decide +kernel, by decide +kernel⟩, List.mem_of_getElem? (i := 8) (by decide +kernel), List.mem_of_getElem? (i := 200) (by decide +kernel), List.mem_of_getElem? (i := 201) (by decide +kernel)⟩
theorem lw_p12 : lw_okq (⟨"FourTrackDeck$Track", "exchange", "(II)V"⟩, 3) := ⟨⟨by decide +kernel, by decide +kernel⟩, List.mem_of_getElem? (i := 82) (by decide +kernel), List.mem_of_getElem? (i := 215) (by decide +kernel), List.mem_of_getElem? (i := 216) (by decide +kernel)⟩
theorem lw_p13 : lw_okq (⟨"FourTrackDeck", "faultOfCell", "(II)I"⟩, 15) := ⟨⟨by decide +kernel, by decide +kernel⟩, List.mem_of_getElem? (i := 8) (by decide +kernel), List.mem_of_getElem? (i := 234) (by decide +kernel), List.mem_of_getElem? (i := 235) (by decide +kernel)⟩
theorem lw_p14 : lw_okq (⟨"FourTrackDeck", "tracksThere", "(I)I"⟩, 15) := ⟨⟨by decide +kernel, by decide +kernel⟩, List.mem_of_getElem? (i := 8) (by decide +kernel), List.mem_of_getElem? (i := 257) (by decide +kernel), List.mem_of_getElem? (i := 258) (by decide +kernel)⟩
theorem lw_p15 : lw_okq (⟨"FourTrackDeck$Reel", "bitsOfTracks", "()I"⟩, 1) := ⟨⟨by decide +kernel, by decide +kernel⟩, List.mem_of_getElem? (i := 75) (by decide +kernel), List.mem_of_getElem? (i := 261) (by decide +kernel), List.mem_of_getElem? (i := 262) (by decide +kernel)⟩
def lw_privs_1 : List (MethodName × Nat) := [(⟨"FourTrackDeck", "end", "(II)I"⟩, 15), (⟨"FourTrackDeck", "trackOf", "(II)LFourTrackDeck$Track;"⟩, 15), (⟨"FourTrackDeck", "reelOf", "(I)LFourTrackDeck$Reel;"⟩, 15), (⟨"FourTrackDeck$Track", "wipe", "()V"⟩, 3), (⟨"FourTrackDeck", "whyNoneUnderHead", "(I)I"⟩, 15), (⟨"FourTrackDeck", "placeOfHead", "(I)I"⟩, 15), (⟨"FourTrackDeck$Track", "faultAt", "(I)I"⟩, 3), (⟨"FourTrackDeck$Track", "numberAt", "(I)I"⟩, 3), (⟨"FourTrackDeck$Track", "put", "(II)V"⟩, 3), (⟨"FourTrackDeck$Track", "asTrackHasIt", "(I)I"⟩, 3), (⟨"FourTrackDeck", "tick", "()V"⟩, 15), (⟨"FourTrackDeck", "moveHead", "(I)I"⟩, 15), (⟨"FourTrackDeck$Track", "exchange", "(II)V"⟩, 3), (⟨"FourTrackDeck", "faultOfCell", "(II)I"⟩, 15), (⟨"FourTrackDeck", "tracksThere", "(I)I"⟩, 15), (⟨"FourTrackDeck$Reel", "bitsOfTracks", "()I"⟩, 1)]
theorem lw_r1 : ∀ q ∈ lw_privs_1, lw_okq q := List.forall_mem_cons.mpr ⟨lw_p0, List.forall_mem_cons.mpr ⟨lw_p1, List.forall_mem_cons.mpr ⟨lw_p2, List.forall_mem_cons.mpr ⟨lw_p3, List.forall_mem_cons.mpr ⟨lw_p4, List.forall_mem_cons.mpr ⟨lw_p5, List.forall_mem_cons.mpr ⟨lw_p6, List.forall_mem_cons.mpr ⟨lw_p7, List.forall_mem_cons.mpr ⟨lw_p8, List.forall_mem_cons.mpr ⟨lw_p9, List.forall_mem_cons.mpr ⟨lw_p10, List.forall_mem_cons.mpr ⟨lw_p11, List.forall_mem_cons.mpr ⟨lw_p12, List.forall_mem_cons.mpr ⟨lw_p13, List.forall_mem_cons.mpr ⟨lw_p14, List.forall_mem_cons.mpr ⟨lw_p15, fun _ h => absurd h List.not_mem_nil⟩⟩⟩⟩⟩⟩⟩⟩⟩⟩⟩⟩⟩⟩⟩⟩
theorem lw_p16 : lw_okq (⟨"FourTrackDeckModel", "fails", "(II)I"⟩, 17) := ⟨⟨by decide +kernel, by decide +kernel⟩, List.mem_of_getElem? (i := 269) (by decide +kernel), List.mem_of_getElem? (i := 331) (by decide +kernel), List.mem_of_getElem? (i := 332) (by decide +kernel)⟩
theorem lw_p17 : lw_okq (⟨"FourTrackDeckModel", "done", "(I)I"⟩, 17) := ⟨⟨by decide +kernel, by decide +kernel⟩, List.mem_of_getElem? (i := 269) (by decide +kernel), List.mem_of_getElem? (i := 335) (by decide +kernel), List.mem_of_getElem? (i := 336) (by decide +kernel)⟩
theorem lw_p18 : lw_okq (⟨"FourTrackDeckModel", "isReel", "(I)Z"⟩, 17) := ⟨⟨by decide +kernel, by decide +kernel⟩, List.mem_of_getElem? (i := 269) (by decide +kernel), List.mem_of_getElem? (i := 343) (by decide +kernel), List.mem_of_getElem? (i := 344) (by decide +kernel)⟩
theorem lw_p19 : lw_okq (⟨"FourTrackDeckModel", "isTrack", "(I)Z"⟩, 17) := ⟨⟨by decide +kernel, by decide +kernel⟩, List.mem_of_getElem? (i := 269) (by decide +kernel), List.mem_of_getElem? (i := 347) (by decide +kernel), List.mem_of_getElem? (i := 348) (by decide +kernel)⟩
theorem lw_p20 : lw_okq (⟨"FourTrackDeckModel", "isThere", "(II)Z"⟩, 17) := ⟨⟨by decide +kernel, by decide +kernel⟩, List.mem_of_getElem? (i := 269) (by decide +kernel), List.mem_of_getElem? (i := 351) (by decide +kernel), List.mem_of_getElem? (i := 352) (by decide +kernel)⟩
theorem lw_p21 : lw_okq (⟨"FourTrackDeckModel", "at", "(III)I"⟩, 17) := ⟨⟨by decide +kernel, by decide +kernel⟩, List.mem_of_getElem? (i := 269) (by decide +kernel), List.mem_of_getElem? (i := 359) (by decide +kernel), List.mem_of_getElem? (i := 360) (by decide +kernel)⟩
theorem lw_p22 : lw_okq (⟨"FourTrackDeckModel", "headFault", "(I)I"⟩, 17) := ⟨⟨by decide +kernel, by decide +kernel⟩, List.mem_of_getElem? (i := 269) (by decide +kernel), List.mem_of_getElem? (i := 387) (by decide +kernel), List.mem_of_getElem? (i := 388) (by decide +kernel)⟩
theorem lw_p23 : lw_okq (⟨"FourTrackDeckModel", "place", "(I)I"⟩, 17) := ⟨⟨by decide +kernel, by decide +kernel⟩, List.mem_of_getElem? (i := 269) (by decide +kernel), List.mem_of_getElem? (i := 391) (by decide +kernel), List.mem_of_getElem? (i := 392) (by decide +kernel)⟩
theorem lw_p24 : lw_okq (⟨"FourTrackDeckModel", "fault", "(III)I"⟩, 17) := ⟨⟨by decide +kernel, by decide +kernel⟩, List.mem_of_getElem? (i := 269) (by decide +kernel), List.mem_of_getElem? (i := 395) (by decide +kernel), List.mem_of_getElem? (i := 396) (by decide +kernel)⟩
theorem lw_p25 : lw_okq (⟨"FourTrackDeckModel", "fit", "(II)I"⟩, 17) := ⟨⟨by decide +kernel, by decide +kernel⟩, List.mem_of_getElem? (i := 269) (by decide +kernel), List.mem_of_getElem? (i := 403) (by decide +kernel), List.mem_of_getElem? (i := 404) (by decide +kernel)⟩
theorem lw_p26 : lw_okq (⟨"FourTrackDeckModel", "act", "(I)I"⟩, 17) := ⟨⟨by decide +kernel, by decide +kernel⟩, List.mem_of_getElem? (i := 269) (by decide +kernel), List.mem_of_getElem? (i := 413) (by decide +kernel), List.mem_of_getElem? (i := 414) (by decide +kernel)⟩
theorem lw_p27 : lw_okq (⟨"FourTrackDeckModel", "cellFault", "(II)I"⟩, 17) := ⟨⟨by decide +kernel, by decide +kernel⟩, List.mem_of_getElem? (i := 269) (by decide +kernel), List.mem_of_getElem? (i := 437) (by decide +kernel), List.mem_of_getElem? (i := 438) (by decide +kernel)⟩
def lw_privs_2 : List (MethodName × Nat) := [(⟨"FourTrackDeckModel", "fails", "(II)I"⟩, 17), (⟨"FourTrackDeckModel", "done", "(I)I"⟩, 17), (⟨"FourTrackDeckModel", "isReel", "(I)Z"⟩, 17), (⟨"FourTrackDeckModel", "isTrack", "(I)Z"⟩, 17), (⟨"FourTrackDeckModel", "isThere", "(II)Z"⟩, 17), (⟨"FourTrackDeckModel", "at", "(III)I"⟩, 17), (⟨"FourTrackDeckModel", "headFault", "(I)I"⟩, 17), (⟨"FourTrackDeckModel", "place", "(I)I"⟩, 17), (⟨"FourTrackDeckModel", "fault", "(III)I"⟩, 17), (⟨"FourTrackDeckModel", "fit", "(II)I"⟩, 17), (⟨"FourTrackDeckModel", "act", "(I)I"⟩, 17), (⟨"FourTrackDeckModel", "cellFault", "(II)I"⟩, 17)]
theorem lw_r2 : ∀ q ∈ lw_privs_2, lw_okq q := List.forall_mem_cons.mpr ⟨lw_p16, List.forall_mem_cons.mpr ⟨lw_p17, List.forall_mem_cons.mpr ⟨lw_p18, List.forall_mem_cons.mpr ⟨lw_p19, List.forall_mem_cons.mpr ⟨lw_p20, List.forall_mem_cons.mpr ⟨lw_p21, List.forall_mem_cons.mpr ⟨lw_p22, List.forall_mem_cons.mpr ⟨lw_p23, List.forall_mem_cons.mpr ⟨lw_p24, List.forall_mem_cons.mpr ⟨lw_p25, List.forall_mem_cons.mpr ⟨lw_p26, List.forall_mem_cons.mpr ⟨lw_p27, fun _ h => absurd h List.not_mem_nil⟩⟩⟩⟩⟩⟩⟩⟩⟩⟩⟩⟩
def lw_privs : List (MethodName × Nat) := lw_privs_1 ++ (lw_privs_2)
def lw_tbl : List Cond := k2_sels lw_privs ++ tables_1
theorem lw_privs_ok : ∀ q ∈ lw_privs, lw_okq q := by
  show ∀ q ∈ lw_privs_1 ++ (lw_privs_2), lw_okq q
  exact List.forall_mem_append.mpr ⟨lw_r1, lw_r2⟩
-- ===== end of PART A; then your names; then what follows =====
end
section
/-! ===== BEGIN words of one list among another's, by their places ===== -/
theorem goodIn_r {big : List Cond} (ws : List Cond) (ps : List Nat) (hp : ws = ps.filterMap (fun i => big[i]?)) (h : ws.all goodWord = true) : GoodIn big ws := by
  intro w hw
  have h1 := List.all_eq_true.mp h w hw
  rw [hp] at hw
  obtain ⟨i, -, hi⟩ := List.mem_filterMap.mp hw
  have hm : w ∈ big := by first | exact List.mem_of_getElem? hi | exact List.getElem?_mem hi
  exact ⟨hm, good_of_word h1⟩
theorem goodIn_app {big a b : List Cond} (ha : GoodIn big a) (hb : GoodIn big b) : GoodIn big (a ++ b) := fun w h => (List.mem_append.mp h).elim (ha w) (hb w)
theorem goodIn_ca {big a b : List Cond} {c : Cond} (ha : GoodIn big (c :: a)) (hb : GoodIn big b) : GoodIn big (c :: (a ++ b)) := fun w h => (List.mem_cons.mp h).elim (fun e => ha w (List.mem_cons.mpr (Or.inl e))) (fun h => (List.mem_append.mp h).elim (fun h => ha w (List.mem_cons.mpr (Or.inr h))) (hb w))
theorem goodIn_sub {big ws : List Cond} (hm : ∀ w ∈ ws, w ∈ big) (h : ws.all goodWord = true) : GoodIn big ws := fun w hw => ⟨hm w hw, good_of_word (List.all_eq_true.mp h w hw)⟩
/-! ===== END ===== -/

/-! ===== BEGIN printed: names, fields, word lists, decode rows ===== -/
def RX0 : String := "FourTrackDeck$Reel"
def TX0 : u_T := fun k => match k with
  | _ => ("FourTrackDeck$Reel", "tracks", "[LFourTrackDeck$Track;", true)
def tyX0 : Nat → FieldType := fun k => match k with
  | _ => .array (.object "FourTrackDeck$Track")
abbrev wsX00 : List Cond := u_ws RX0 TX0 1
theorem nmX0 : ∀ a, a < 1 → ∀ b, b < 1 → a ≠ b → (TX0 a).2.1 ≠ (TX0 b).2.1 := by decide +kernel
theorem tyX0_ok : ∀ k, k < 1 → parseFieldDescriptor (TX0 k).2.2.1 = some (tyX0 k) := by decide +kernel
abbrev cX0_init : ByteArray := prog_2_method_1_code
def yX0_init : MethodName := ⟨RX0, "<init>", "(II)V"⟩
abbrev cX0_bitsOfTracks : ByteArray := prog_2_method_2_code
def yX0_bitsOfTracks : MethodName := ⟨RX0, "bitsOfTracks", "()I"⟩
def RX1 : String := "FourTrackDeck$Track"
def TX1 : u_T := fun k => match k with
  | 0 => ("FourTrackDeck$Track", "kind", "I", true)
  | 1 => ("FourTrackDeck$Track", "numbers", "[I", true)
  | _ => ("FourTrackDeck$Track", "isThere", "Z", false)
def tyX1 : Nat → FieldType := fun k => match k with
  | 0 => .int
  | 1 => .array .int
  | _ => .boolean
abbrev wsX10 : List Cond := u_ws RX1 TX1 3
theorem nmX1 : ∀ a, a < 3 → ∀ b, b < 3 → a ≠ b → (TX1 a).2.1 ≠ (TX1 b).2.1 := by decide +kernel
theorem tyX1_ok : ∀ k, k < 3 → parseFieldDescriptor (TX1 k).2.2.1 = some (tyX1 k) := by decide +kernel
abbrev cX1_init : ByteArray := prog_3_method_1_code
def yX1_init : MethodName := ⟨RX1, "<init>", "(IIZ)V"⟩
abbrev cX1_wipe : ByteArray := prog_3_method_2_code
def yX1_wipe : MethodName := ⟨RX1, "wipe", "()V"⟩
abbrev cX1_faultAt : ByteArray := prog_3_method_3_code
def yX1_faultAt : MethodName := ⟨RX1, "faultAt", "(I)I"⟩
abbrev cX1_numberAt : ByteArray := prog_3_method_4_code
def yX1_numberAt : MethodName := ⟨RX1, "numberAt", "(I)I"⟩
abbrev cX1_put : ByteArray := prog_3_method_5_code
def yX1_put : MethodName := ⟨RX1, "put", "(II)V"⟩
abbrev cX1_exchange : ByteArray := prog_3_method_6_code
def yX1_exchange : MethodName := ⟨RX1, "exchange", "(II)V"⟩
abbrev cX1_asTrackHasIt : ByteArray := prog_3_method_7_code
def yX1_asTrackHasIt : MethodName := ⟨RX1, "asTrackHasIt", "(I)I"⟩
def RX2 : String := "FourTrackDeck"
def TX2 : u_T := fun k => match k with
  | 0 => ("FourTrackDeck", "reels", "[LFourTrackDeck$Reel;", true)
  | 1 => ("FourTrackDeck", "reelsMade", "I", false)
  | 2 => ("FourTrackDeck", "onDeck", "I", false)
  | 3 => ("FourTrackDeck", "tapeAt", "I", false)
  | 4 => ("FourTrackDeck", "offsets", "[I", true)
  | 5 => ("FourTrackDeck", "modes", "[I", true)
  | 6 => ("FourTrackDeck", "meters", "[I", true)
  | 7 => ("FourTrackDeck", "sourceNumber", "I", false)
  | 8 => ("FourTrackDeck", "sourceStep", "I", false)
  | 9 => ("FourTrackDeck", "cells", "[I", true)
  | 10 => ("FourTrackDeck", "sheetRows", "I", false)
  | 11 => ("FourTrackDeck", "sheetWidth", "I", false)
  | 12 => ("FourTrackDeck", "tripTrack", "I", false)
  | 13 => ("FourTrackDeck", "tripStatus", "I", false)
  | _ => ("FourTrackDeck", "latestStatus", "I", false)
def tyX2 : Nat → FieldType := fun k => match k with
  | 0 => .array (.object "FourTrackDeck$Reel")
  | 1 => .int
  | 2 => .int
  | 3 => .int
  | 4 => .array .int
  | 5 => .array .int
  | 6 => .array .int
  | 7 => .int
  | 8 => .int
  | 9 => .array .int
  | 10 => .int
  | 11 => .int
  | 12 => .int
  | 13 => .int
  | _ => .int
abbrev wsX20 : List Cond := u_ws RX2 TX2 15
theorem nmX2 : ∀ a, a < 15 → ∀ b, b < 15 → a ≠ b → (TX2 a).2.1 ≠ (TX2 b).2.1 := by decide +kernel
theorem tyX2_ok : ∀ k, k < 15 → parseFieldDescriptor (TX2 k).2.2.1 = some (tyX2 k) := by decide +kernel
abbrev cX2_init : ByteArray := prog_1_method_1_code
def yX2_init : MethodName := ⟨RX2, "<init>", "()V"⟩
abbrev cX2_reel : ByteArray := prog_1_method_2_code
def yX2_reel : MethodName := ⟨RX2, "reel", "(II)I"⟩
abbrev cX2_strip : ByteArray := prog_1_method_3_code
def yX2_strip : MethodName := ⟨RX2, "strip", "(II)I"⟩
abbrev cX2_lay : ByteArray := prog_1_method_4_code
def yX2_lay : MethodName := ⟨RX2, "lay", "(II)I"⟩
abbrev cX2_thread : ByteArray := prog_1_method_5_code
def yX2_thread : MethodName := ⟨RX2, "thread", "(I)I"⟩
abbrev cX2_head : ByteArray := prog_1_method_6_code
def yX2_head : MethodName := ⟨RX2, "head", "(II)I"⟩
abbrev cX2_arm : ByteArray := prog_1_method_7_code
def yX2_arm : MethodName := ⟨RX2, "arm", "(II)I"⟩
abbrev cX2_source : ByteArray := prog_1_method_8_code
def yX2_source : MethodName := ⟨RX2, "source", "(II)I"⟩
abbrev cX2_wind : ByteArray := prog_1_method_9_code
def yX2_wind : MethodName := ⟨RX2, "wind", "(I)I"⟩
abbrev cX2_read : ByteArray := prog_1_method_10_code
def yX2_read : MethodName := ⟨RX2, "read", "(I)I"⟩
abbrev cX2_write : ByteArray := prog_1_method_11_code
def yX2_write : MethodName := ⟨RX2, "write", "(II)I"⟩
abbrev cX2_run : ByteArray := prog_1_method_12_code
def yX2_run : MethodName := ⟨RX2, "run", "(I)I"⟩
abbrev cX2_dub : ByteArray := prog_1_method_13_code
def yX2_dub : MethodName := ⟨RX2, "dub", "(IIIIII)I"⟩
abbrev cX2_turn : ByteArray := prog_1_method_14_code
def yX2_turn : MethodName := ⟨RX2, "turn", "(II)I"⟩
abbrev cX2_scan : ByteArray := prog_1_method_15_code
def yX2_scan : MethodName := ⟨RX2, "scan", "(II)I"⟩
abbrev cX2_sheet : ByteArray := prog_1_method_16_code
def yX2_sheet : MethodName := ⟨RX2, "sheet", "(II)I"⟩
abbrev cX2_cue : ByteArray := prog_1_method_17_code
def yX2_cue : MethodName := ⟨RX2, "cue", "(III)I"⟩
abbrev cX2_seek : ByteArray := prog_1_method_18_code
def yX2_seek : MethodName := ⟨RX2, "seek", "(II)I"⟩
abbrev cX2_trip : ByteArray := prog_1_method_19_code
def yX2_trip : MethodName := ⟨RX2, "trip", "(I)I"⟩
abbrev cX2_meter : ByteArray := prog_1_method_20_code
def yX2_meter : MethodName := ⟨RX2, "meter", "(I)I"⟩
abbrev cX2_count : ByteArray := prog_1_method_21_code
def yX2_count : MethodName := ⟨RX2, "count", "(I)I"⟩
abbrev cX2_status : ByteArray := prog_1_method_22_code
def yX2_status : MethodName := ⟨RX2, "status", "()I"⟩
abbrev cX2_end : ByteArray := prog_1_method_23_code
def yX2_end : MethodName := ⟨RX2, "end", "(II)I"⟩
abbrev cX2_isWithin : ByteArray := prog_1_method_24_code
def yX2_isWithin : MethodName := ⟨RX2, "isWithin", "(III)Z"⟩
abbrev cX2_isTrack : ByteArray := prog_1_method_25_code
def yX2_isTrack : MethodName := ⟨RX2, "isTrack", "(I)Z"⟩
abbrev cX2_firstFault : ByteArray := prog_1_method_26_code
def yX2_firstFault : MethodName := ⟨RX2, "firstFault", "(II)I"⟩
abbrev cX2_reelOf : ByteArray := prog_1_method_27_code
def yX2_reelOf : MethodName := ⟨RX2, "reelOf", "(I)LFourTrackDeck$Reel;"⟩
abbrev cX2_trackOf : ByteArray := prog_1_method_28_code
def yX2_trackOf : MethodName := ⟨RX2, "trackOf", "(II)LFourTrackDeck$Track;"⟩
abbrev cX2_whyNoneUnderHead : ByteArray := prog_1_method_29_code
def yX2_whyNoneUnderHead : MethodName := ⟨RX2, "whyNoneUnderHead", "(I)I"⟩
abbrev cX2_placeOfHead : ByteArray := prog_1_method_30_code
def yX2_placeOfHead : MethodName := ⟨RX2, "placeOfHead", "(I)I"⟩
abbrev cX2_tick : ByteArray := prog_1_method_31_code
def yX2_tick : MethodName := ⟨RX2, "tick", "()V"⟩
abbrev cX2_moveHead : ByteArray := prog_1_method_32_code
def yX2_moveHead : MethodName := ⟨RX2, "moveHead", "(I)I"⟩
abbrev cX2_faultOfCell : ByteArray := prog_1_method_33_code
def yX2_faultOfCell : MethodName := ⟨RX2, "faultOfCell", "(II)I"⟩
abbrev cX2_indexOfCell : ByteArray := prog_1_method_34_code
def yX2_indexOfCell : MethodName := ⟨RX2, "indexOfCell", "(II)I"⟩
abbrev cX2_tracksThere : ByteArray := prog_1_method_35_code
def yX2_tracksThere : MethodName := ⟨RX2, "tracksThere", "(I)I"⟩
def RX3 : String := "FourTrackDeckModel"
def TX3 : u_T := fun k => match k with
  | 0 => ("FourTrackDeckModel", "reels", "I", false)
  | 1 => ("FourTrackDeckModel", "length", "[I", true)
  | 2 => ("FourTrackDeckModel", "there", "[I", true)
  | 3 => ("FourTrackDeckModel", "number", "[I", true)
  | 4 => ("FourTrackDeckModel", "onDeck", "I", false)
  | 5 => ("FourTrackDeckModel", "p", "I", false)
  | 6 => ("FourTrackDeckModel", "offset", "[I", true)
  | 7 => ("FourTrackDeckModel", "mode", "[I", true)
  | 8 => ("FourTrackDeckModel", "meter", "[I", true)
  | 9 => ("FourTrackDeckModel", "s", "I", false)
  | 10 => ("FourTrackDeckModel", "step", "I", false)
  | 11 => ("FourTrackDeckModel", "tripTrack", "I", false)
  | 12 => ("FourTrackDeckModel", "tripStatus", "I", false)
  | 13 => ("FourTrackDeckModel", "rows", "I", false)
  | 14 => ("FourTrackDeckModel", "cells", "I", false)
  | 15 => ("FourTrackDeckModel", "cue", "[I", true)
  | _ => ("FourTrackDeckModel", "status", "I", false)
def tyX3 : Nat → FieldType := fun k => match k with
  | 0 => .int
  | 1 => .array .int
  | 2 => .array .int
  | 3 => .array .int
  | 4 => .int
  | 5 => .int
  | 6 => .array .int
  | 7 => .array .int
  | 8 => .array .int
  | 9 => .int
  | 10 => .int
  | 11 => .int
  | 12 => .int
  | 13 => .int
  | 14 => .int
  | 15 => .array .int
  | _ => .int
abbrev wsX30 : List Cond := u_ws RX3 TX3 17
theorem nmX3 : ∀ a, a < 17 → ∀ b, b < 17 → a ≠ b → (TX3 a).2.1 ≠ (TX3 b).2.1 := by decide +kernel
theorem tyX3_ok : ∀ k, k < 17 → parseFieldDescriptor (TX3 k).2.2.1 = some (tyX3 k) := by decide +kernel
abbrev cX3_init : ByteArray := prog_5_method_1_code
def yX3_init : MethodName := ⟨RX3, "<init>", "()V"⟩
abbrev cX3_done : ByteArray := prog_5_method_2_code
def yX3_done : MethodName := ⟨RX3, "done", "(I)I"⟩
abbrev cX3_fails : ByteArray := prog_5_method_3_code
def yX3_fails : MethodName := ⟨RX3, "fails", "(II)I"⟩
abbrev cX3_isReel : ByteArray := prog_5_method_4_code
def yX3_isReel : MethodName := ⟨RX3, "isReel", "(I)Z"⟩
abbrev cX3_isTrack : ByteArray := prog_5_method_5_code
def yX3_isTrack : MethodName := ⟨RX3, "isTrack", "(I)Z"⟩
abbrev cX3_isThere : ByteArray := prog_5_method_6_code
def yX3_isThere : MethodName := ⟨RX3, "isThere", "(II)Z"⟩
abbrev cX3_at : ByteArray := prog_5_method_7_code
def yX3_at : MethodName := ⟨RX3, "at", "(III)I"⟩
abbrev cX3_fault : ByteArray := prog_5_method_8_code
def yX3_fault : MethodName := ⟨RX3, "fault", "(III)I"⟩
abbrev cX3_fit : ByteArray := prog_5_method_9_code
def yX3_fit : MethodName := ⟨RX3, "fit", "(II)I"⟩
abbrev cX3_place : ByteArray := prog_5_method_10_code
def yX3_place : MethodName := ⟨RX3, "place", "(I)I"⟩
abbrev cX3_reel : ByteArray := prog_5_method_11_code
def yX3_reel : MethodName := ⟨RX3, "reel", "(II)I"⟩
abbrev cX3_strip : ByteArray := prog_5_method_12_code
def yX3_strip : MethodName := ⟨RX3, "strip", "(II)I"⟩
abbrev cX3_lay : ByteArray := prog_5_method_13_code
def yX3_lay : MethodName := ⟨RX3, "lay", "(II)I"⟩
abbrev cX3_thread : ByteArray := prog_5_method_14_code
def yX3_thread : MethodName := ⟨RX3, "thread", "(I)I"⟩
abbrev cX3_head : ByteArray := prog_5_method_15_code
def yX3_head : MethodName := ⟨RX3, "head", "(II)I"⟩
abbrev cX3_arm : ByteArray := prog_5_method_16_code
def yX3_arm : MethodName := ⟨RX3, "arm", "(II)I"⟩
abbrev cX3_source : ByteArray := prog_5_method_17_code
def yX3_source : MethodName := ⟨RX3, "source", "(II)I"⟩
abbrev cX3_wind : ByteArray := prog_5_method_18_code
def yX3_wind : MethodName := ⟨RX3, "wind", "(I)I"⟩
abbrev cX3_headFault : ByteArray := prog_5_method_19_code
def yX3_headFault : MethodName := ⟨RX3, "headFault", "(I)I"⟩
abbrev cX3_read : ByteArray := prog_5_method_20_code
def yX3_read : MethodName := ⟨RX3, "read", "(I)I"⟩
abbrev cX3_write : ByteArray := prog_5_method_21_code
def yX3_write : MethodName := ⟨RX3, "write", "(II)I"⟩
abbrev cX3_act : ByteArray := prog_5_method_22_code
def yX3_act : MethodName := ⟨RX3, "act", "(I)I"⟩
abbrev cX3_run : ByteArray := prog_5_method_23_code
def yX3_run : MethodName := ⟨RX3, "run", "(I)I"⟩
abbrev cX3_dub : ByteArray := prog_5_method_24_code
def yX3_dub : MethodName := ⟨RX3, "dub", "(IIIIII)I"⟩
abbrev cX3_turn : ByteArray := prog_5_method_25_code
def yX3_turn : MethodName := ⟨RX3, "turn", "(II)I"⟩
abbrev cX3_scan : ByteArray := prog_5_method_26_code
def yX3_scan : MethodName := ⟨RX3, "scan", "(II)I"⟩
abbrev cX3_sheet : ByteArray := prog_5_method_27_code
def yX3_sheet : MethodName := ⟨RX3, "sheet", "(II)I"⟩
abbrev cX3_cellFault : ByteArray := prog_5_method_28_code
def yX3_cellFault : MethodName := ⟨RX3, "cellFault", "(II)I"⟩
abbrev cX3_cue : ByteArray := prog_5_method_29_code
def yX3_cue : MethodName := ⟨RX3, "cue", "(III)I"⟩
abbrev cX3_seek : ByteArray := prog_5_method_30_code
def yX3_seek : MethodName := ⟨RX3, "seek", "(II)I"⟩
abbrev cX3_trip : ByteArray := prog_5_method_31_code
def yX3_trip : MethodName := ⟨RX3, "trip", "(I)I"⟩
abbrev cX3_meter : ByteArray := prog_5_method_32_code
def yX3_meter : MethodName := ⟨RX3, "meter", "(I)I"⟩
abbrev cX3_count : ByteArray := prog_5_method_33_code
def yX3_count : MethodName := ⟨RX3, "count", "(I)I"⟩
abbrev cX3_status : ByteArray := prog_5_method_34_code
def yX3_status : MethodName := ⟨RX3, "status", "()I"⟩
def RJ9 : String := "java/lang/Math"
def TJ9 : u_T := fun k => match k with
  | _ => ("", "", "", false)
def tyJ9 : Nat → FieldType := fun k => match k with
  | _ => .int
abbrev wsJ90 : List Cond := u_ws RJ9 TJ9 0
theorem nmJ9 : ∀ a, a < 0 → ∀ b, b < 0 → a ≠ b → (TJ9 a).2.1 ≠ (TJ9 b).2.1 := by decide +kernel
theorem tyJ9_ok : ∀ k, k < 0 → parseFieldDescriptor (TJ9 k).2.2.1 = some (tyJ9 k) := by decide +kernel
abbrev cJ9_max_7cf53 : ByteArray := prog_6_method_65_code
def yJ9_max_7cf53 : MethodName := ⟨RJ9, "max", "(II)I"⟩
abbrev cJ9_min_7cf53 : ByteArray := prog_6_method_69_code
def yJ9_min_7cf53 : MethodName := ⟨RJ9, "min", "(II)I"⟩
def RJ7 : String := "java/util/Arrays"
def TJ7 : u_T := fun k => match k with
  | _ => ("", "", "", false)
def tyJ7 : Nat → FieldType := fun k => match k with
  | _ => .int
abbrev wsJ70 : List Cond := u_ws RJ7 TJ7 0
theorem nmJ7 : ∀ a, a < 0 → ∀ b, b < 0 → a ≠ b → (TJ7 a).2.1 ≠ (TJ7 b).2.1 := by decide +kernel
theorem tyJ7_ok : ∀ k, k < 0 → parseFieldDescriptor (TJ7 k).2.2.1 = some (tyJ7 k) := by decide +kernel
abbrev cJ7_fill_53178 : ByteArray := prog_7_method_103_code
def yJ7_fill_53178 : MethodName := ⟨RJ7, "fill", "([II)V"⟩
def RL : String := "FourTrackDeckLaw"
abbrev cL_law : ByteArray := code
def yL_law : MethodName := ⟨RL, "law", "([I)Z"⟩
def wsX1_init : List Cond := .code yX1_init cX1_init 4 none :: ([.methodLink RX1 3 objectInit, .instanceMethod objectInit, .code objectInit ⟨#[0xb1]⟩ 1 none, .fieldLink RX1 9 "FourTrackDeck$Track" "kind" "I", .arrayClass .int, .fieldLink RX1 15 "FourTrackDeck$Track" "numbers" "[I", .fieldLink RX1 19 "FourTrackDeck$Track" "isThere" "Z"] ++ wsX10)
def wsX0_init : List Cond := .code yX0_init cX0_init 4 none :: ([.methodLink RX0 3 objectInit, .instanceMethod objectInit, .code objectInit ⟨#[0xb1]⟩ 1 none, .classLink RX0 9 RX1, .fieldLink RX0 11 "FourTrackDeck$Reel" "tracks" "[LFourTrackDeck$Track;", .instantiable RX1 3, .initialized RX1, .instanceMethod yX1_init, .code yX1_init cX1_init 4 none, .methodLink RX1 3 objectInit, .fieldLink RX1 9 "FourTrackDeck$Track" "kind" "I", .arrayClass .int, .fieldLink RX1 15 "FourTrackDeck$Track" "numbers" "[I", .fieldLink RX1 19 "FourTrackDeck$Track" "isThere" "Z"] ++ wsX00 ++ wsX10)
def wsX0_bitsOfTracks : List Cond := .code yX0_bitsOfTracks cX0_bitsOfTracks 3 (some .int) :: ([.fieldLink RX0 11 "FourTrackDeck$Reel" "tracks" "[LFourTrackDeck$Track;"] ++ wsX00 ++ wsX10)
def wsJ7_fill_53178 : List Cond := .code yJ7_fill_53178 cJ7_fill_53178 4 none :: ([])
def wsX1_wipe : List Cond := .code yX1_wipe cX1_wipe 1 none :: ([.fieldLink RX1 15 "FourTrackDeck$Track" "numbers" "[I", .methodLink RX1 23 yJ7_fill_53178, .static yJ7_fill_53178, .initialized RJ7, .code yJ7_fill_53178 cJ7_fill_53178 4 none] ++ wsX10)
def wsX1_faultAt : List Cond := .code yX1_faultAt cX1_faultAt 2 (some .int) :: ([.fieldLink RX1 19 "FourTrackDeck$Track" "isThere" "Z", .fieldLink RX1 15 "FourTrackDeck$Track" "numbers" "[I"] ++ wsX10)
def wsX1_numberAt : List Cond := .code yX1_numberAt cX1_numberAt 2 (some .int) :: ([.fieldLink RX1 15 "FourTrackDeck$Track" "numbers" "[I", .methodLink RX1 29 yX1_faultAt, .instanceMethod yX1_faultAt, .selects RX1 yX1_faultAt yX1_faultAt, .initialized RX1, .code yX1_faultAt cX1_faultAt 2 (some .int), .fieldLink RX1 19 "FourTrackDeck$Track" "isThere" "Z"] ++ wsX10)
def wsX1_asTrackHasIt : List Cond := .code yX1_asTrackHasIt cX1_asTrackHasIt 2 (some .int) :: ([.fieldLink RX1 9 "FourTrackDeck$Track" "kind" "I", .constant RX1 43 (65535), .constant RX1 44 (32768), .methodLink RX1 45 Lib.Math.min.name, .static Lib.Math.min.name, .initialized "java/lang/Math", .code Lib.Math.min.name Lib.Math.min.code 2 (some .int), .methodLink RX1 51 Lib.Math.max.name, .static Lib.Math.max.name, .code Lib.Math.max.name Lib.Math.max.code 2 (some .int)] ++ wsX10)
def wsX1_put : List Cond := .code yX1_put cX1_put 3 none :: ([.fieldLink RX1 15 "FourTrackDeck$Track" "numbers" "[I", .methodLink RX1 29 yX1_faultAt, .instanceMethod yX1_faultAt, .selects RX1 yX1_faultAt yX1_faultAt, .initialized RX1, .code yX1_faultAt cX1_faultAt 2 (some .int), .fieldLink RX1 19 "FourTrackDeck$Track" "isThere" "Z", .methodLink RX1 33 yX1_asTrackHasIt, .instanceMethod yX1_asTrackHasIt, .selects RX1 yX1_asTrackHasIt yX1_asTrackHasIt, .code yX1_asTrackHasIt cX1_asTrackHasIt 2 (some .int), .fieldLink RX1 9 "FourTrackDeck$Track" "kind" "I", .constant RX1 43 (65535), .constant RX1 44 (32768), .methodLink RX1 45 Lib.Math.min.name, .static Lib.Math.min.name, .initialized "java/lang/Math", .code Lib.Math.min.name Lib.Math.min.code 2 (some .int), .methodLink RX1 51 Lib.Math.max.name, .static Lib.Math.max.name, .code Lib.Math.max.name Lib.Math.max.code 2 (some .int)] ++ wsX10)
def wsX1_exchange_r1 : List Cond := [Cond.methodLink RX1 36 yX1_numberAt, Cond.instanceMethod yX1_numberAt, Cond.selects RX1 yX1_numberAt yX1_numberAt, Cond.initialized RX1, Cond.code yX1_numberAt cX1_numberAt 2 (some .int), Cond.fieldLink RX1 15 "FourTrackDeck$Track" "numbers" "[I", Cond.methodLink RX1 29 yX1_faultAt, Cond.instanceMethod yX1_faultAt, Cond.selects RX1 yX1_faultAt yX1_faultAt, Cond.code yX1_faultAt cX1_faultAt 2 (some .int), Cond.fieldLink RX1 19 "FourTrackDeck$Track" "isThere" "Z", Cond.methodLink RX1 39 yX1_put, Cond.instanceMethod yX1_put, Cond.selects RX1 yX1_put yX1_put, Cond.code yX1_put cX1_put 3 none, Cond.methodLink RX1 33 yX1_asTrackHasIt, Cond.instanceMethod yX1_asTrackHasIt, Cond.selects RX1 yX1_asTrackHasIt yX1_asTrackHasIt, Cond.code yX1_asTrackHasIt cX1_asTrackHasIt 2 (some .int), Cond.fieldLink RX1 9 "FourTrackDeck$Track" "kind" "I", Cond.constant RX1 43 (65535), Cond.constant RX1 44 (32768), Cond.methodLink RX1 45 Lib.Math.min.name, Cond.static Lib.Math.min.name]
def wsX1_exchange_r2 : List Cond := [Cond.initialized "java/lang/Math", Cond.code Lib.Math.min.name Lib.Math.min.code 2 (some .int), Cond.methodLink RX1 51 Lib.Math.max.name, Cond.static Lib.Math.max.name, Cond.code Lib.Math.max.name Lib.Math.max.code 2 (some .int)]
def wsX1_exchange : List Cond := .code yX1_exchange cX1_exchange 4 none :: ((wsX1_exchange_r1 ++ wsX1_exchange_r2) ++ wsX10)
def wsX2_init : List Cond := .code yX2_init cX2_init 1 none :: ([.methodLink RX2 1 objectInit, .instanceMethod objectInit, .code objectInit ⟨#[0xb1]⟩ 1 none, .classLink RX2 9 RX0, .fieldLink RX2 11 "FourTrackDeck" "reels" "[LFourTrackDeck$Reel;", .fieldLink RX2 15 "FourTrackDeck" "reelsMade" "I", .fieldLink RX2 19 "FourTrackDeck" "onDeck" "I", .fieldLink RX2 22 "FourTrackDeck" "tapeAt" "I", .arrayClass .int, .fieldLink RX2 25 "FourTrackDeck" "offsets" "[I", .fieldLink RX2 29 "FourTrackDeck" "modes" "[I", .fieldLink RX2 32 "FourTrackDeck" "meters" "[I", .fieldLink RX2 35 "FourTrackDeck" "sourceNumber" "I", .fieldLink RX2 38 "FourTrackDeck" "sourceStep" "I", .fieldLink RX2 41 "FourTrackDeck" "cells" "[I", .fieldLink RX2 44 "FourTrackDeck" "sheetRows" "I", .fieldLink RX2 47 "FourTrackDeck" "sheetWidth" "I", .fieldLink RX2 50 "FourTrackDeck" "tripTrack" "I", .fieldLink RX2 53 "FourTrackDeck" "tripStatus" "I", .fieldLink RX2 56 "FourTrackDeck" "latestStatus" "I"] ++ wsX20)
def wsX2_isWithin : List Cond := .code yX2_isWithin cX2_isWithin 3 (some .boolean) :: ([])
def wsX2_end : List Cond := .code yX2_end cX2_end 3 (some .int) :: ([.fieldLink RX2 56 "FourTrackDeck" "latestStatus" "I"] ++ wsX20)
def wsX2_reel_r1 : List Cond := [Cond.fieldLink RX2 15 "FourTrackDeck" "reelsMade" "I", Cond.fieldLink RX2 11 "FourTrackDeck" "reels" "[LFourTrackDeck$Reel;", Cond.classLink RX2 9 RX0, Cond.instantiable RX0 1, Cond.initialized RX0, Cond.methodLink RX2 59 yX2_isWithin, Cond.static yX2_isWithin, Cond.initialized RX2, Cond.code yX2_isWithin cX2_isWithin 3 (some .boolean), Cond.methodLink RX2 63 yX2_end, Cond.instanceMethod yX2_end, Cond.selects RX2 yX2_end yX2_end, Cond.code yX2_end cX2_end 3 (some .int), Cond.fieldLink RX2 56 "FourTrackDeck" "latestStatus" "I", Cond.instanceMethod yX0_init, Cond.code yX0_init cX0_init 4 none, Cond.methodLink RX0 3 objectInit, Cond.instanceMethod objectInit, Cond.code objectInit ⟨#[0xb1]⟩ 1 none, Cond.classLink RX0 9 RX1, Cond.fieldLink RX0 11 "FourTrackDeck$Reel" "tracks" "[LFourTrackDeck$Track;", Cond.instantiable RX1 3, Cond.initialized RX1, Cond.instanceMethod yX1_init]
def wsX2_reel_r2 : List Cond := [Cond.code yX1_init cX1_init 4 none, Cond.methodLink RX1 3 objectInit, Cond.fieldLink RX1 9 "FourTrackDeck$Track" "kind" "I", Cond.arrayClass .int, Cond.fieldLink RX1 15 "FourTrackDeck$Track" "numbers" "[I", Cond.fieldLink RX1 19 "FourTrackDeck$Track" "isThere" "Z"]
def wsX2_reel : List Cond := .code yX2_reel cX2_reel 4 (some .int) :: ((wsX2_reel_r1 ++ wsX2_reel_r2) ++ wsX20 ++ wsX00 ++ wsX10)
def wsX2_reelOf : List Cond := .code yX2_reelOf cX2_reelOf 2 (some (.object "FourTrackDeck$Reel")) :: ([.fieldLink RX2 11 "FourTrackDeck" "reels" "[LFourTrackDeck$Reel;"] ++ wsX20)
def wsX2_isTrack : List Cond := .code yX2_isTrack cX2_isTrack 1 (some .boolean) :: ([.methodLink RX2 59 yX2_isWithin, .static yX2_isWithin, .initialized RX2, .code yX2_isWithin cX2_isWithin 3 (some .boolean)])
def wsX2_trackOf : List Cond := .code yX2_trackOf cX2_trackOf 4 (some (.object "FourTrackDeck$Track")) :: ([.methodLink RX2 83 yX2_reelOf, .instanceMethod yX2_reelOf, .selects RX2 yX2_reelOf yX2_reelOf, .initialized RX2, .code yX2_reelOf cX2_reelOf 2 (some (.object "FourTrackDeck$Reel")), .fieldLink RX2 11 "FourTrackDeck" "reels" "[LFourTrackDeck$Reel;", .methodLink RX2 87 yX2_isTrack, .static yX2_isTrack, .code yX2_isTrack cX2_isTrack 1 (some .boolean), .methodLink RX2 59 yX2_isWithin, .static yX2_isWithin, .code yX2_isWithin cX2_isWithin 3 (some .boolean)] ++ wsX00 ++ wsX20)
def wsX2_strip : List Cond := .code yX2_strip cX2_strip 5 (some .int) :: ([.methodLink RX2 70 yX2_trackOf, .instanceMethod yX2_trackOf, .selects RX2 yX2_trackOf yX2_trackOf, .initialized RX2, .code yX2_trackOf cX2_trackOf 4 (some (.object "FourTrackDeck$Track")), .methodLink RX2 83 yX2_reelOf, .instanceMethod yX2_reelOf, .selects RX2 yX2_reelOf yX2_reelOf, .code yX2_reelOf cX2_reelOf 2 (some (.object "FourTrackDeck$Reel")), .fieldLink RX2 11 "FourTrackDeck" "reels" "[LFourTrackDeck$Reel;", .methodLink RX2 87 yX2_isTrack, .static yX2_isTrack, .code yX2_isTrack cX2_isTrack 1 (some .boolean), .methodLink RX2 59 yX2_isWithin, .static yX2_isWithin, .code yX2_isWithin cX2_isWithin 3 (some .boolean), .methodLink RX2 63 yX2_end, .instanceMethod yX2_end, .selects RX2 yX2_end yX2_end, .code yX2_end cX2_end 3 (some .int), .fieldLink RX2 56 "FourTrackDeck" "latestStatus" "I"] ++ wsX10 ++ wsX00 ++ wsX20)
def wsX2_lay_r1 : List Cond := [Cond.methodLink RX2 70 yX2_trackOf, Cond.instanceMethod yX2_trackOf, Cond.selects RX2 yX2_trackOf yX2_trackOf, Cond.initialized RX2, Cond.code yX2_trackOf cX2_trackOf 4 (some (.object "FourTrackDeck$Track")), Cond.methodLink RX2 83 yX2_reelOf, Cond.instanceMethod yX2_reelOf, Cond.selects RX2 yX2_reelOf yX2_reelOf, Cond.code yX2_reelOf cX2_reelOf 2 (some (.object "FourTrackDeck$Reel")), Cond.fieldLink RX2 11 "FourTrackDeck" "reels" "[LFourTrackDeck$Reel;", Cond.methodLink RX2 87 yX2_isTrack, Cond.static yX2_isTrack, Cond.code yX2_isTrack cX2_isTrack 1 (some .boolean), Cond.methodLink RX2 59 yX2_isWithin, Cond.static yX2_isWithin, Cond.code yX2_isWithin cX2_isWithin 3 (some .boolean), Cond.methodLink RX2 63 yX2_end, Cond.instanceMethod yX2_end, Cond.selects RX2 yX2_end yX2_end, Cond.code yX2_end cX2_end 3 (some .int), Cond.fieldLink RX2 56 "FourTrackDeck" "latestStatus" "I", Cond.instanceMethod yX1_wipe, Cond.initialized RX1, Cond.selects RX1 yX1_wipe yX1_wipe]
def wsX2_lay_r2 : List Cond := [Cond.code yX1_wipe cX1_wipe 1 none, Cond.fieldLink RX1 15 "FourTrackDeck$Track" "numbers" "[I", Cond.methodLink RX1 23 yJ7_fill_53178, Cond.static yJ7_fill_53178, Cond.initialized RJ7, Cond.code yJ7_fill_53178 cJ7_fill_53178 4 none]
def wsX2_lay : List Cond := .code yX2_lay cX2_lay 5 (some .int) :: ((wsX2_lay_r1 ++ wsX2_lay_r2) ++ wsX10 ++ wsX00 ++ wsX20)
def wsX2_thread : List Cond := .code yX2_thread cX2_thread 3 (some .int) :: ([.fieldLink RX2 19 "FourTrackDeck" "onDeck" "I", .methodLink RX2 83 yX2_reelOf, .instanceMethod yX2_reelOf, .selects RX2 yX2_reelOf yX2_reelOf, .initialized RX2, .code yX2_reelOf cX2_reelOf 2 (some (.object "FourTrackDeck$Reel")), .fieldLink RX2 11 "FourTrackDeck" "reels" "[LFourTrackDeck$Reel;", .methodLink RX2 63 yX2_end, .instanceMethod yX2_end, .selects RX2 yX2_end yX2_end, .code yX2_end cX2_end 3 (some .int), .fieldLink RX2 56 "FourTrackDeck" "latestStatus" "I"] ++ wsX20)
def wsX2_head : List Cond := .code yX2_head cX2_head 4 (some .int) :: ([.fieldLink RX2 25 "FourTrackDeck" "offsets" "[I", .methodLink RX2 87 yX2_isTrack, .static yX2_isTrack, .initialized RX2, .code yX2_isTrack cX2_isTrack 1 (some .boolean), .methodLink RX2 59 yX2_isWithin, .static yX2_isWithin, .code yX2_isWithin cX2_isWithin 3 (some .boolean), .methodLink RX2 63 yX2_end, .instanceMethod yX2_end, .selects RX2 yX2_end yX2_end, .code yX2_end cX2_end 3 (some .int), .fieldLink RX2 56 "FourTrackDeck" "latestStatus" "I"] ++ wsX20)
def wsX2_arm : List Cond := .code yX2_arm cX2_arm 4 (some .int) :: ([.fieldLink RX2 29 "FourTrackDeck" "modes" "[I", .methodLink RX2 87 yX2_isTrack, .static yX2_isTrack, .initialized RX2, .code yX2_isTrack cX2_isTrack 1 (some .boolean), .methodLink RX2 59 yX2_isWithin, .static yX2_isWithin, .code yX2_isWithin cX2_isWithin 3 (some .boolean), .methodLink RX2 63 yX2_end, .instanceMethod yX2_end, .selects RX2 yX2_end yX2_end, .code yX2_end cX2_end 3 (some .int), .fieldLink RX2 56 "FourTrackDeck" "latestStatus" "I"] ++ wsX20)
def wsX2_source : List Cond := .code yX2_source cX2_source 4 (some .int) :: ([.fieldLink RX2 35 "FourTrackDeck" "sourceNumber" "I", .fieldLink RX2 38 "FourTrackDeck" "sourceStep" "I", .methodLink RX2 63 yX2_end, .instanceMethod yX2_end, .selects RX2 yX2_end yX2_end, .initialized RX2, .code yX2_end cX2_end 3 (some .int), .fieldLink RX2 56 "FourTrackDeck" "latestStatus" "I"] ++ wsX20)
def wsX2_wind : List Cond := .code yX2_wind cX2_wind 2 (some .int) :: ([.fieldLink RX2 22 "FourTrackDeck" "tapeAt" "I", .methodLink RX2 59 yX2_isWithin, .static yX2_isWithin, .initialized RX2, .code yX2_isWithin cX2_isWithin 3 (some .boolean), .methodLink RX2 63 yX2_end, .instanceMethod yX2_end, .selects RX2 yX2_end yX2_end, .code yX2_end cX2_end 3 (some .int), .fieldLink RX2 56 "FourTrackDeck" "latestStatus" "I"] ++ wsX20)
def wsX2_whyNoneUnderHead : List Cond := .code yX2_whyNoneUnderHead cX2_whyNoneUnderHead 2 (some .int) :: ([.methodLink RX2 87 yX2_isTrack, .static yX2_isTrack, .initialized RX2, .code yX2_isTrack cX2_isTrack 1 (some .boolean), .methodLink RX2 59 yX2_isWithin, .static yX2_isWithin, .code yX2_isWithin cX2_isWithin 3 (some .boolean)])
def wsX2_placeOfHead : List Cond := .code yX2_placeOfHead cX2_placeOfHead 2 (some .int) :: ([.fieldLink RX2 22 "FourTrackDeck" "tapeAt" "I", .fieldLink RX2 25 "FourTrackDeck" "offsets" "[I", .methodLink RX2 87 yX2_isTrack, .static yX2_isTrack, .initialized RX2, .code yX2_isTrack cX2_isTrack 1 (some .boolean), .methodLink RX2 59 yX2_isWithin, .static yX2_isWithin, .code yX2_isWithin cX2_isWithin 3 (some .boolean)] ++ wsX20)
def wsX2_read_r1 : List Cond := [Cond.fieldLink RX2 19 "FourTrackDeck" "onDeck" "I", Cond.methodLink RX2 70 yX2_trackOf, Cond.instanceMethod yX2_trackOf, Cond.selects RX2 yX2_trackOf yX2_trackOf, Cond.initialized RX2, Cond.code yX2_trackOf cX2_trackOf 4 (some (.object "FourTrackDeck$Track")), Cond.methodLink RX2 83 yX2_reelOf, Cond.instanceMethod yX2_reelOf, Cond.selects RX2 yX2_reelOf yX2_reelOf, Cond.code yX2_reelOf cX2_reelOf 2 (some (.object "FourTrackDeck$Reel")), Cond.fieldLink RX2 11 "FourTrackDeck" "reels" "[LFourTrackDeck$Reel;", Cond.methodLink RX2 87 yX2_isTrack, Cond.static yX2_isTrack, Cond.code yX2_isTrack cX2_isTrack 1 (some .boolean), Cond.methodLink RX2 59 yX2_isWithin, Cond.static yX2_isWithin, Cond.code yX2_isWithin cX2_isWithin 3 (some .boolean), Cond.methodLink RX2 91 yX2_whyNoneUnderHead, Cond.instanceMethod yX2_whyNoneUnderHead, Cond.selects RX2 yX2_whyNoneUnderHead yX2_whyNoneUnderHead, Cond.code yX2_whyNoneUnderHead cX2_whyNoneUnderHead 2 (some .int), Cond.methodLink RX2 63 yX2_end, Cond.instanceMethod yX2_end, Cond.selects RX2 yX2_end yX2_end]
def wsX2_read_r2 : List Cond := [Cond.code yX2_end cX2_end 3 (some .int), Cond.fieldLink RX2 56 "FourTrackDeck" "latestStatus" "I", Cond.methodLink RX2 95 yX2_placeOfHead, Cond.instanceMethod yX2_placeOfHead, Cond.selects RX2 yX2_placeOfHead yX2_placeOfHead, Cond.code yX2_placeOfHead cX2_placeOfHead 2 (some .int), Cond.fieldLink RX2 22 "FourTrackDeck" "tapeAt" "I", Cond.fieldLink RX2 25 "FourTrackDeck" "offsets" "[I", Cond.instanceMethod yX1_faultAt, Cond.initialized RX1, Cond.selects RX1 yX1_faultAt yX1_faultAt, Cond.code yX1_faultAt cX1_faultAt 2 (some .int), Cond.fieldLink RX1 19 "FourTrackDeck$Track" "isThere" "Z", Cond.fieldLink RX1 15 "FourTrackDeck$Track" "numbers" "[I", Cond.instanceMethod yX1_numberAt, Cond.selects RX1 yX1_numberAt yX1_numberAt, Cond.code yX1_numberAt cX1_numberAt 2 (some .int), Cond.methodLink RX1 29 yX1_faultAt]
def wsX2_read : List Cond := .code yX2_read cX2_read 4 (some .int) :: ((wsX2_read_r1 ++ wsX2_read_r2) ++ wsX20 ++ wsX00 ++ wsX10)
def wsX2_write_r1 : List Cond := [Cond.fieldLink RX2 19 "FourTrackDeck" "onDeck" "I", Cond.methodLink RX2 70 yX2_trackOf, Cond.instanceMethod yX2_trackOf, Cond.selects RX2 yX2_trackOf yX2_trackOf, Cond.initialized RX2, Cond.code yX2_trackOf cX2_trackOf 4 (some (.object "FourTrackDeck$Track")), Cond.methodLink RX2 83 yX2_reelOf, Cond.instanceMethod yX2_reelOf, Cond.selects RX2 yX2_reelOf yX2_reelOf, Cond.code yX2_reelOf cX2_reelOf 2 (some (.object "FourTrackDeck$Reel")), Cond.fieldLink RX2 11 "FourTrackDeck" "reels" "[LFourTrackDeck$Reel;", Cond.methodLink RX2 87 yX2_isTrack, Cond.static yX2_isTrack, Cond.code yX2_isTrack cX2_isTrack 1 (some .boolean), Cond.methodLink RX2 59 yX2_isWithin, Cond.static yX2_isWithin, Cond.code yX2_isWithin cX2_isWithin 3 (some .boolean), Cond.methodLink RX2 91 yX2_whyNoneUnderHead, Cond.instanceMethod yX2_whyNoneUnderHead, Cond.selects RX2 yX2_whyNoneUnderHead yX2_whyNoneUnderHead, Cond.code yX2_whyNoneUnderHead cX2_whyNoneUnderHead 2 (some .int), Cond.methodLink RX2 63 yX2_end, Cond.instanceMethod yX2_end, Cond.selects RX2 yX2_end yX2_end]
def wsX2_write_r2 : List Cond := [Cond.code yX2_end cX2_end 3 (some .int), Cond.fieldLink RX2 56 "FourTrackDeck" "latestStatus" "I", Cond.methodLink RX2 95 yX2_placeOfHead, Cond.instanceMethod yX2_placeOfHead, Cond.selects RX2 yX2_placeOfHead yX2_placeOfHead, Cond.code yX2_placeOfHead cX2_placeOfHead 2 (some .int), Cond.fieldLink RX2 22 "FourTrackDeck" "tapeAt" "I", Cond.fieldLink RX2 25 "FourTrackDeck" "offsets" "[I", Cond.instanceMethod yX1_put, Cond.initialized RX1, Cond.selects RX1 yX1_put yX1_put, Cond.code yX1_put cX1_put 3 none, Cond.fieldLink RX1 15 "FourTrackDeck$Track" "numbers" "[I", Cond.methodLink RX1 29 yX1_faultAt, Cond.instanceMethod yX1_faultAt, Cond.selects RX1 yX1_faultAt yX1_faultAt, Cond.code yX1_faultAt cX1_faultAt 2 (some .int), Cond.fieldLink RX1 19 "FourTrackDeck$Track" "isThere" "Z", Cond.methodLink RX1 33 yX1_asTrackHasIt, Cond.instanceMethod yX1_asTrackHasIt, Cond.selects RX1 yX1_asTrackHasIt yX1_asTrackHasIt, Cond.code yX1_asTrackHasIt cX1_asTrackHasIt 2 (some .int), Cond.fieldLink RX1 9 "FourTrackDeck$Track" "kind" "I", Cond.constant RX1 43 (65535)]
def wsX2_write_r3 : List Cond := [Cond.constant RX1 44 (32768), Cond.methodLink RX1 45 Lib.Math.min.name, Cond.static Lib.Math.min.name, Cond.initialized "java/lang/Math", Cond.code Lib.Math.min.name Lib.Math.min.code 2 (some .int), Cond.methodLink RX1 51 Lib.Math.max.name, Cond.static Lib.Math.max.name, Cond.code Lib.Math.max.name Lib.Math.max.code 2 (some .int), Cond.instanceMethod yX1_numberAt, Cond.selects RX1 yX1_numberAt yX1_numberAt, Cond.code yX1_numberAt cX1_numberAt 2 (some .int)]
def wsX2_write : List Cond := .code yX2_write cX2_write 5 (some .int) :: ((wsX2_write_r1 ++ (wsX2_write_r2 ++ wsX2_write_r3)) ++ wsX20 ++ wsX00 ++ wsX10)
def wsX2_moveHead_r1 : List Cond := [Cond.fieldLink RX2 29 "FourTrackDeck" "modes" "[I", Cond.fieldLink RX2 19 "FourTrackDeck" "onDeck" "I", Cond.fieldLink RX2 32 "FourTrackDeck" "meters" "[I", Cond.fieldLink RX2 35 "FourTrackDeck" "sourceNumber" "I", Cond.fieldLink RX2 38 "FourTrackDeck" "sourceStep" "I", Cond.methodLink RX2 70 yX2_trackOf, Cond.instanceMethod yX2_trackOf, Cond.selects RX2 yX2_trackOf yX2_trackOf, Cond.initialized RX2, Cond.code yX2_trackOf cX2_trackOf 4 (some (.object "FourTrackDeck$Track")), Cond.methodLink RX2 83 yX2_reelOf, Cond.instanceMethod yX2_reelOf, Cond.selects RX2 yX2_reelOf yX2_reelOf, Cond.code yX2_reelOf cX2_reelOf 2 (some (.object "FourTrackDeck$Reel")), Cond.fieldLink RX2 11 "FourTrackDeck" "reels" "[LFourTrackDeck$Reel;", Cond.methodLink RX2 87 yX2_isTrack, Cond.static yX2_isTrack, Cond.code yX2_isTrack cX2_isTrack 1 (some .boolean), Cond.methodLink RX2 59 yX2_isWithin, Cond.static yX2_isWithin, Cond.code yX2_isWithin cX2_isWithin 3 (some .boolean), Cond.methodLink RX2 95 yX2_placeOfHead, Cond.instanceMethod yX2_placeOfHead, Cond.selects RX2 yX2_placeOfHead yX2_placeOfHead]
def wsX2_moveHead_r2 : List Cond := [Cond.code yX2_placeOfHead cX2_placeOfHead 2 (some .int), Cond.fieldLink RX2 22 "FourTrackDeck" "tapeAt" "I", Cond.fieldLink RX2 25 "FourTrackDeck" "offsets" "[I", Cond.instanceMethod yX1_faultAt, Cond.initialized RX1, Cond.selects RX1 yX1_faultAt yX1_faultAt, Cond.code yX1_faultAt cX1_faultAt 2 (some .int), Cond.fieldLink RX1 19 "FourTrackDeck$Track" "isThere" "Z", Cond.fieldLink RX1 15 "FourTrackDeck$Track" "numbers" "[I", Cond.instanceMethod yX1_numberAt, Cond.selects RX1 yX1_numberAt yX1_numberAt, Cond.code yX1_numberAt cX1_numberAt 2 (some .int), Cond.methodLink RX1 29 yX1_faultAt, Cond.instanceMethod yX1_put, Cond.selects RX1 yX1_put yX1_put, Cond.code yX1_put cX1_put 3 none, Cond.methodLink RX1 33 yX1_asTrackHasIt, Cond.instanceMethod yX1_asTrackHasIt, Cond.selects RX1 yX1_asTrackHasIt yX1_asTrackHasIt, Cond.code yX1_asTrackHasIt cX1_asTrackHasIt 2 (some .int), Cond.fieldLink RX1 9 "FourTrackDeck$Track" "kind" "I", Cond.constant RX1 43 (65535), Cond.constant RX1 44 (32768), Cond.methodLink RX1 45 Lib.Math.min.name]
def wsX2_moveHead_r3 : List Cond := [Cond.static Lib.Math.min.name, Cond.initialized "java/lang/Math", Cond.code Lib.Math.min.name Lib.Math.min.code 2 (some .int), Cond.methodLink RX1 51 Lib.Math.max.name, Cond.static Lib.Math.max.name, Cond.code Lib.Math.max.name Lib.Math.max.code 2 (some .int)]
def wsX2_moveHead : List Cond := .code yX2_moveHead cX2_moveHead 7 (some .int) :: ((wsX2_moveHead_r1 ++ (wsX2_moveHead_r2 ++ wsX2_moveHead_r3)) ++ wsX20 ++ wsX00 ++ wsX10)
def wsX2_tick_r1 : List Cond := [Cond.fieldLink RX2 50 "FourTrackDeck" "tripTrack" "I", Cond.fieldLink RX2 53 "FourTrackDeck" "tripStatus" "I", Cond.fieldLink RX2 22 "FourTrackDeck" "tapeAt" "I", Cond.methodLink RX2 135 yX2_moveHead, Cond.instanceMethod yX2_moveHead, Cond.selects RX2 yX2_moveHead yX2_moveHead, Cond.initialized RX2, Cond.code yX2_moveHead cX2_moveHead 7 (some .int), Cond.fieldLink RX2 29 "FourTrackDeck" "modes" "[I", Cond.fieldLink RX2 19 "FourTrackDeck" "onDeck" "I", Cond.fieldLink RX2 32 "FourTrackDeck" "meters" "[I", Cond.fieldLink RX2 35 "FourTrackDeck" "sourceNumber" "I", Cond.fieldLink RX2 38 "FourTrackDeck" "sourceStep" "I", Cond.methodLink RX2 70 yX2_trackOf, Cond.instanceMethod yX2_trackOf, Cond.selects RX2 yX2_trackOf yX2_trackOf, Cond.code yX2_trackOf cX2_trackOf 4 (some (.object "FourTrackDeck$Track")), Cond.methodLink RX2 83 yX2_reelOf, Cond.instanceMethod yX2_reelOf, Cond.selects RX2 yX2_reelOf yX2_reelOf, Cond.code yX2_reelOf cX2_reelOf 2 (some (.object "FourTrackDeck$Reel")), Cond.fieldLink RX2 11 "FourTrackDeck" "reels" "[LFourTrackDeck$Reel;", Cond.methodLink RX2 87 yX2_isTrack, Cond.static yX2_isTrack]
def wsX2_tick_r2 : List Cond := [Cond.code yX2_isTrack cX2_isTrack 1 (some .boolean), Cond.methodLink RX2 59 yX2_isWithin, Cond.static yX2_isWithin, Cond.code yX2_isWithin cX2_isWithin 3 (some .boolean), Cond.methodLink RX2 95 yX2_placeOfHead, Cond.instanceMethod yX2_placeOfHead, Cond.selects RX2 yX2_placeOfHead yX2_placeOfHead, Cond.code yX2_placeOfHead cX2_placeOfHead 2 (some .int), Cond.fieldLink RX2 25 "FourTrackDeck" "offsets" "[I", Cond.instanceMethod yX1_faultAt, Cond.initialized RX1, Cond.selects RX1 yX1_faultAt yX1_faultAt, Cond.code yX1_faultAt cX1_faultAt 2 (some .int), Cond.fieldLink RX1 19 "FourTrackDeck$Track" "isThere" "Z", Cond.fieldLink RX1 15 "FourTrackDeck$Track" "numbers" "[I", Cond.instanceMethod yX1_numberAt, Cond.selects RX1 yX1_numberAt yX1_numberAt, Cond.code yX1_numberAt cX1_numberAt 2 (some .int), Cond.methodLink RX1 29 yX1_faultAt, Cond.instanceMethod yX1_put, Cond.selects RX1 yX1_put yX1_put, Cond.code yX1_put cX1_put 3 none, Cond.methodLink RX1 33 yX1_asTrackHasIt, Cond.instanceMethod yX1_asTrackHasIt]
def wsX2_tick_r3 : List Cond := [Cond.selects RX1 yX1_asTrackHasIt yX1_asTrackHasIt, Cond.code yX1_asTrackHasIt cX1_asTrackHasIt 2 (some .int), Cond.fieldLink RX1 9 "FourTrackDeck$Track" "kind" "I", Cond.constant RX1 43 (65535), Cond.constant RX1 44 (32768), Cond.methodLink RX1 45 Lib.Math.min.name, Cond.static Lib.Math.min.name, Cond.initialized "java/lang/Math", Cond.code Lib.Math.min.name Lib.Math.min.code 2 (some .int), Cond.methodLink RX1 51 Lib.Math.max.name, Cond.static Lib.Math.max.name, Cond.code Lib.Math.max.name Lib.Math.max.code 2 (some .int)]
def wsX2_tick : List Cond := .code yX2_tick cX2_tick 3 none :: ((wsX2_tick_r1 ++ (wsX2_tick_r2 ++ wsX2_tick_r3)) ++ wsX20 ++ wsX00 ++ wsX10)
def wsX2_run_r1 : List Cond := [Cond.fieldLink RX2 19 "FourTrackDeck" "onDeck" "I", Cond.fieldLink RX2 50 "FourTrackDeck" "tripTrack" "I", Cond.fieldLink RX2 53 "FourTrackDeck" "tripStatus" "I", Cond.methodLink RX2 59 yX2_isWithin, Cond.static yX2_isWithin, Cond.initialized RX2, Cond.code yX2_isWithin cX2_isWithin 3 (some .boolean), Cond.methodLink RX2 63 yX2_end, Cond.instanceMethod yX2_end, Cond.selects RX2 yX2_end yX2_end, Cond.code yX2_end cX2_end 3 (some .int), Cond.fieldLink RX2 56 "FourTrackDeck" "latestStatus" "I", Cond.methodLink RX2 107 yX2_tick, Cond.instanceMethod yX2_tick, Cond.selects RX2 yX2_tick yX2_tick, Cond.code yX2_tick cX2_tick 3 none, Cond.fieldLink RX2 22 "FourTrackDeck" "tapeAt" "I", Cond.methodLink RX2 135 yX2_moveHead, Cond.instanceMethod yX2_moveHead, Cond.selects RX2 yX2_moveHead yX2_moveHead, Cond.code yX2_moveHead cX2_moveHead 7 (some .int), Cond.fieldLink RX2 29 "FourTrackDeck" "modes" "[I", Cond.fieldLink RX2 32 "FourTrackDeck" "meters" "[I", Cond.fieldLink RX2 35 "FourTrackDeck" "sourceNumber" "I"]
def wsX2_run_r2 : List Cond := [Cond.fieldLink RX2 38 "FourTrackDeck" "sourceStep" "I", Cond.methodLink RX2 70 yX2_trackOf, Cond.instanceMethod yX2_trackOf, Cond.selects RX2 yX2_trackOf yX2_trackOf, Cond.code yX2_trackOf cX2_trackOf 4 (some (.object "FourTrackDeck$Track")), Cond.methodLink RX2 83 yX2_reelOf, Cond.instanceMethod yX2_reelOf, Cond.selects RX2 yX2_reelOf yX2_reelOf, Cond.code yX2_reelOf cX2_reelOf 2 (some (.object "FourTrackDeck$Reel")), Cond.fieldLink RX2 11 "FourTrackDeck" "reels" "[LFourTrackDeck$Reel;", Cond.methodLink RX2 87 yX2_isTrack, Cond.static yX2_isTrack, Cond.code yX2_isTrack cX2_isTrack 1 (some .boolean), Cond.methodLink RX2 95 yX2_placeOfHead, Cond.instanceMethod yX2_placeOfHead, Cond.selects RX2 yX2_placeOfHead yX2_placeOfHead, Cond.code yX2_placeOfHead cX2_placeOfHead 2 (some .int), Cond.fieldLink RX2 25 "FourTrackDeck" "offsets" "[I", Cond.instanceMethod yX1_faultAt, Cond.initialized RX1, Cond.selects RX1 yX1_faultAt yX1_faultAt, Cond.code yX1_faultAt cX1_faultAt 2 (some .int), Cond.fieldLink RX1 19 "FourTrackDeck$Track" "isThere" "Z", Cond.fieldLink RX1 15 "FourTrackDeck$Track" "numbers" "[I"]
def wsX2_run_r3 : List Cond := [Cond.instanceMethod yX1_numberAt, Cond.selects RX1 yX1_numberAt yX1_numberAt, Cond.code yX1_numberAt cX1_numberAt 2 (some .int), Cond.methodLink RX1 29 yX1_faultAt, Cond.instanceMethod yX1_put, Cond.selects RX1 yX1_put yX1_put, Cond.code yX1_put cX1_put 3 none, Cond.methodLink RX1 33 yX1_asTrackHasIt, Cond.instanceMethod yX1_asTrackHasIt, Cond.selects RX1 yX1_asTrackHasIt yX1_asTrackHasIt, Cond.code yX1_asTrackHasIt cX1_asTrackHasIt 2 (some .int), Cond.fieldLink RX1 9 "FourTrackDeck$Track" "kind" "I", Cond.constant RX1 43 (65535), Cond.constant RX1 44 (32768), Cond.methodLink RX1 45 Lib.Math.min.name, Cond.static Lib.Math.min.name, Cond.initialized "java/lang/Math", Cond.code Lib.Math.min.name Lib.Math.min.code 2 (some .int), Cond.methodLink RX1 51 Lib.Math.max.name, Cond.static Lib.Math.max.name, Cond.code Lib.Math.max.name Lib.Math.max.code 2 (some .int)]
def wsX2_run : List Cond := .code yX2_run cX2_run 3 (some .int) :: ((wsX2_run_r1 ++ (wsX2_run_r2 ++ wsX2_run_r3)) ++ wsX20 ++ wsX00 ++ wsX10)
def wsX2_firstFault : List Cond := .code yX2_firstFault cX2_firstFault 2 (some .int) :: ([])
def wsX2_dub_r1 : List Cond := [Cond.fieldLink RX2 22 "FourTrackDeck" "tapeAt" "I", Cond.methodLink RX2 70 yX2_trackOf, Cond.instanceMethod yX2_trackOf, Cond.selects RX2 yX2_trackOf yX2_trackOf, Cond.initialized RX2, Cond.code yX2_trackOf cX2_trackOf 4 (some (.object "FourTrackDeck$Track")), Cond.methodLink RX2 83 yX2_reelOf, Cond.instanceMethod yX2_reelOf, Cond.selects RX2 yX2_reelOf yX2_reelOf, Cond.code yX2_reelOf cX2_reelOf 2 (some (.object "FourTrackDeck$Reel")), Cond.fieldLink RX2 11 "FourTrackDeck" "reels" "[LFourTrackDeck$Reel;", Cond.methodLink RX2 87 yX2_isTrack, Cond.static yX2_isTrack, Cond.code yX2_isTrack cX2_isTrack 1 (some .boolean), Cond.methodLink RX2 59 yX2_isWithin, Cond.static yX2_isWithin, Cond.code yX2_isWithin cX2_isWithin 3 (some .boolean), Cond.methodLink RX2 63 yX2_end, Cond.instanceMethod yX2_end, Cond.selects RX2 yX2_end yX2_end, Cond.code yX2_end cX2_end 3 (some .int), Cond.fieldLink RX2 56 "FourTrackDeck" "latestStatus" "I", Cond.instanceMethod yX1_faultAt, Cond.initialized RX1]
def wsX2_dub_r2 : List Cond := [Cond.selects RX1 yX1_faultAt yX1_faultAt, Cond.code yX1_faultAt cX1_faultAt 2 (some .int), Cond.fieldLink RX1 19 "FourTrackDeck$Track" "isThere" "Z", Cond.fieldLink RX1 15 "FourTrackDeck$Track" "numbers" "[I", Cond.methodLink RX2 110 yX2_firstFault, Cond.static yX2_firstFault, Cond.code yX2_firstFault cX2_firstFault 2 (some .int), Cond.instanceMethod yX1_numberAt, Cond.selects RX1 yX1_numberAt yX1_numberAt, Cond.code yX1_numberAt cX1_numberAt 2 (some .int), Cond.methodLink RX1 29 yX1_faultAt, Cond.instanceMethod yX1_put, Cond.selects RX1 yX1_put yX1_put, Cond.code yX1_put cX1_put 3 none, Cond.methodLink RX1 33 yX1_asTrackHasIt, Cond.instanceMethod yX1_asTrackHasIt, Cond.selects RX1 yX1_asTrackHasIt yX1_asTrackHasIt, Cond.code yX1_asTrackHasIt cX1_asTrackHasIt 2 (some .int), Cond.fieldLink RX1 9 "FourTrackDeck$Track" "kind" "I", Cond.constant RX1 43 (65535), Cond.constant RX1 44 (32768), Cond.methodLink RX1 45 Lib.Math.min.name, Cond.static Lib.Math.min.name, Cond.initialized "java/lang/Math"]
def wsX2_dub_r3 : List Cond := [Cond.code Lib.Math.min.name Lib.Math.min.code 2 (some .int), Cond.methodLink RX1 51 Lib.Math.max.name, Cond.static Lib.Math.max.name, Cond.code Lib.Math.max.name Lib.Math.max.code 2 (some .int)]
def wsX2_dub : List Cond := .code yX2_dub cX2_dub 11 (some .int) :: ((wsX2_dub_r1 ++ (wsX2_dub_r2 ++ wsX2_dub_r3)) ++ wsX20 ++ wsX00 ++ wsX10)
def wsX2_turn_r1 : List Cond := [Cond.fieldLink RX2 19 "FourTrackDeck" "onDeck" "I", Cond.methodLink RX2 59 yX2_isWithin, Cond.static yX2_isWithin, Cond.initialized RX2, Cond.code yX2_isWithin cX2_isWithin 3 (some .boolean), Cond.methodLink RX2 63 yX2_end, Cond.instanceMethod yX2_end, Cond.selects RX2 yX2_end yX2_end, Cond.code yX2_end cX2_end 3 (some .int), Cond.fieldLink RX2 56 "FourTrackDeck" "latestStatus" "I", Cond.methodLink RX2 70 yX2_trackOf, Cond.instanceMethod yX2_trackOf, Cond.selects RX2 yX2_trackOf yX2_trackOf, Cond.code yX2_trackOf cX2_trackOf 4 (some (.object "FourTrackDeck$Track")), Cond.methodLink RX2 83 yX2_reelOf, Cond.instanceMethod yX2_reelOf, Cond.selects RX2 yX2_reelOf yX2_reelOf, Cond.code yX2_reelOf cX2_reelOf 2 (some (.object "FourTrackDeck$Reel")), Cond.fieldLink RX2 11 "FourTrackDeck" "reels" "[LFourTrackDeck$Reel;", Cond.methodLink RX2 87 yX2_isTrack, Cond.static yX2_isTrack, Cond.code yX2_isTrack cX2_isTrack 1 (some .boolean), Cond.methodLink RX2 91 yX2_whyNoneUnderHead, Cond.instanceMethod yX2_whyNoneUnderHead]
def wsX2_turn_r2 : List Cond := [Cond.selects RX2 yX2_whyNoneUnderHead yX2_whyNoneUnderHead, Cond.code yX2_whyNoneUnderHead cX2_whyNoneUnderHead 2 (some .int), Cond.methodLink RX2 95 yX2_placeOfHead, Cond.instanceMethod yX2_placeOfHead, Cond.selects RX2 yX2_placeOfHead yX2_placeOfHead, Cond.code yX2_placeOfHead cX2_placeOfHead 2 (some .int), Cond.fieldLink RX2 22 "FourTrackDeck" "tapeAt" "I", Cond.fieldLink RX2 25 "FourTrackDeck" "offsets" "[I", Cond.instanceMethod yX1_faultAt, Cond.initialized RX1, Cond.selects RX1 yX1_faultAt yX1_faultAt, Cond.code yX1_faultAt cX1_faultAt 2 (some .int), Cond.fieldLink RX1 19 "FourTrackDeck$Track" "isThere" "Z", Cond.fieldLink RX1 15 "FourTrackDeck$Track" "numbers" "[I", Cond.methodLink RX2 110 yX2_firstFault, Cond.static yX2_firstFault, Cond.code yX2_firstFault cX2_firstFault 2 (some .int), Cond.instanceMethod yX1_exchange, Cond.selects RX1 yX1_exchange yX1_exchange, Cond.code yX1_exchange cX1_exchange 4 none, Cond.methodLink RX1 36 yX1_numberAt, Cond.instanceMethod yX1_numberAt, Cond.selects RX1 yX1_numberAt yX1_numberAt, Cond.code yX1_numberAt cX1_numberAt 2 (some .int)]
def wsX2_turn_r3 : List Cond := [Cond.methodLink RX1 29 yX1_faultAt, Cond.methodLink RX1 39 yX1_put, Cond.instanceMethod yX1_put, Cond.selects RX1 yX1_put yX1_put, Cond.code yX1_put cX1_put 3 none, Cond.methodLink RX1 33 yX1_asTrackHasIt, Cond.instanceMethod yX1_asTrackHasIt, Cond.selects RX1 yX1_asTrackHasIt yX1_asTrackHasIt, Cond.code yX1_asTrackHasIt cX1_asTrackHasIt 2 (some .int), Cond.fieldLink RX1 9 "FourTrackDeck$Track" "kind" "I", Cond.constant RX1 43 (65535), Cond.constant RX1 44 (32768), Cond.methodLink RX1 45 Lib.Math.min.name, Cond.static Lib.Math.min.name, Cond.initialized "java/lang/Math", Cond.code Lib.Math.min.name Lib.Math.min.code 2 (some .int), Cond.methodLink RX1 51 Lib.Math.max.name, Cond.static Lib.Math.max.name, Cond.code Lib.Math.max.name Lib.Math.max.code 2 (some .int)]
def wsX2_turn : List Cond := .code yX2_turn cX2_turn 9 (some .int) :: ((wsX2_turn_r1 ++ (wsX2_turn_r2 ++ wsX2_turn_r3)) ++ wsX20 ++ wsX00 ++ wsX10)
def wsX2_scan_r1 : List Cond := [Cond.fieldLink RX2 19 "FourTrackDeck" "onDeck" "I", Cond.methodLink RX2 70 yX2_trackOf, Cond.instanceMethod yX2_trackOf, Cond.selects RX2 yX2_trackOf yX2_trackOf, Cond.initialized RX2, Cond.code yX2_trackOf cX2_trackOf 4 (some (.object "FourTrackDeck$Track")), Cond.methodLink RX2 83 yX2_reelOf, Cond.instanceMethod yX2_reelOf, Cond.selects RX2 yX2_reelOf yX2_reelOf, Cond.code yX2_reelOf cX2_reelOf 2 (some (.object "FourTrackDeck$Reel")), Cond.fieldLink RX2 11 "FourTrackDeck" "reels" "[LFourTrackDeck$Reel;", Cond.methodLink RX2 87 yX2_isTrack, Cond.static yX2_isTrack, Cond.code yX2_isTrack cX2_isTrack 1 (some .boolean), Cond.methodLink RX2 59 yX2_isWithin, Cond.static yX2_isWithin, Cond.code yX2_isWithin cX2_isWithin 3 (some .boolean), Cond.methodLink RX2 91 yX2_whyNoneUnderHead, Cond.instanceMethod yX2_whyNoneUnderHead, Cond.selects RX2 yX2_whyNoneUnderHead yX2_whyNoneUnderHead, Cond.code yX2_whyNoneUnderHead cX2_whyNoneUnderHead 2 (some .int), Cond.methodLink RX2 63 yX2_end, Cond.instanceMethod yX2_end, Cond.selects RX2 yX2_end yX2_end]
def wsX2_scan_r2 : List Cond := [Cond.code yX2_end cX2_end 3 (some .int), Cond.fieldLink RX2 56 "FourTrackDeck" "latestStatus" "I", Cond.methodLink RX2 95 yX2_placeOfHead, Cond.instanceMethod yX2_placeOfHead, Cond.selects RX2 yX2_placeOfHead yX2_placeOfHead, Cond.code yX2_placeOfHead cX2_placeOfHead 2 (some .int), Cond.fieldLink RX2 22 "FourTrackDeck" "tapeAt" "I", Cond.fieldLink RX2 25 "FourTrackDeck" "offsets" "[I", Cond.instanceMethod yX1_faultAt, Cond.initialized RX1, Cond.selects RX1 yX1_faultAt yX1_faultAt, Cond.code yX1_faultAt cX1_faultAt 2 (some .int), Cond.fieldLink RX1 19 "FourTrackDeck$Track" "isThere" "Z", Cond.fieldLink RX1 15 "FourTrackDeck$Track" "numbers" "[I", Cond.instanceMethod yX1_numberAt, Cond.selects RX1 yX1_numberAt yX1_numberAt, Cond.code yX1_numberAt cX1_numberAt 2 (some .int), Cond.methodLink RX1 29 yX1_faultAt]
def wsX2_scan : List Cond := .code yX2_scan cX2_scan 7 (some .int) :: ((wsX2_scan_r1 ++ wsX2_scan_r2) ++ wsX20 ++ wsX00 ++ wsX10)
def wsX2_sheet : List Cond := .code yX2_sheet cX2_sheet 3 (some .int) :: ([.fieldLink RX2 44 "FourTrackDeck" "sheetRows" "I", .fieldLink RX2 47 "FourTrackDeck" "sheetWidth" "I", .fieldLink RX2 41 "FourTrackDeck" "cells" "[I", .methodLink RX2 63 yX2_end, .instanceMethod yX2_end, .selects RX2 yX2_end yX2_end, .initialized RX2, .code yX2_end cX2_end 3 (some .int), .fieldLink RX2 56 "FourTrackDeck" "latestStatus" "I", .methodLink RX2 116 yJ7_fill_53178, .static yJ7_fill_53178, .initialized RJ7, .code yJ7_fill_53178 cJ7_fill_53178 4 none] ++ wsX20)
def wsX2_faultOfCell : List Cond := .code yX2_faultOfCell cX2_faultOfCell 4 (some .int) :: ([.fieldLink RX2 44 "FourTrackDeck" "sheetRows" "I", .fieldLink RX2 47 "FourTrackDeck" "sheetWidth" "I"] ++ wsX20)
def wsX2_indexOfCell : List Cond := .code yX2_indexOfCell cX2_indexOfCell 2 (some .int) :: ([])
def wsX2_cue : List Cond := .code yX2_cue cX2_cue 7 (some .int) :: ([.fieldLink RX2 41 "FourTrackDeck" "cells" "[I", .methodLink RX2 122 yX2_faultOfCell, .instanceMethod yX2_faultOfCell, .selects RX2 yX2_faultOfCell yX2_faultOfCell, .initialized RX2, .code yX2_faultOfCell cX2_faultOfCell 4 (some .int), .fieldLink RX2 44 "FourTrackDeck" "sheetRows" "I", .fieldLink RX2 47 "FourTrackDeck" "sheetWidth" "I", .methodLink RX2 63 yX2_end, .instanceMethod yX2_end, .selects RX2 yX2_end yX2_end, .code yX2_end cX2_end 3 (some .int), .fieldLink RX2 56 "FourTrackDeck" "latestStatus" "I", .methodLink RX2 125 yX2_indexOfCell, .static yX2_indexOfCell, .code yX2_indexOfCell cX2_indexOfCell 2 (some .int)] ++ wsX20)
def wsX2_seek : List Cond := .code yX2_seek cX2_seek 4 (some .int) :: ([.fieldLink RX2 22 "FourTrackDeck" "tapeAt" "I", .fieldLink RX2 41 "FourTrackDeck" "cells" "[I", .methodLink RX2 122 yX2_faultOfCell, .instanceMethod yX2_faultOfCell, .selects RX2 yX2_faultOfCell yX2_faultOfCell, .initialized RX2, .code yX2_faultOfCell cX2_faultOfCell 4 (some .int), .fieldLink RX2 44 "FourTrackDeck" "sheetRows" "I", .fieldLink RX2 47 "FourTrackDeck" "sheetWidth" "I", .methodLink RX2 63 yX2_end, .instanceMethod yX2_end, .selects RX2 yX2_end yX2_end, .code yX2_end cX2_end 3 (some .int), .fieldLink RX2 56 "FourTrackDeck" "latestStatus" "I", .methodLink RX2 125 yX2_indexOfCell, .static yX2_indexOfCell, .code yX2_indexOfCell cX2_indexOfCell 2 (some .int)] ++ wsX20)
def wsX2_trip : List Cond := .code yX2_trip cX2_trip 2 (some .int) :: ([.fieldLink RX2 50 "FourTrackDeck" "tripTrack" "I", .fieldLink RX2 53 "FourTrackDeck" "tripStatus" "I"] ++ wsX20)
def wsX2_meter : List Cond := .code yX2_meter cX2_meter 2 (some .int) :: ([.fieldLink RX2 32 "FourTrackDeck" "meters" "[I", .methodLink RX2 87 yX2_isTrack, .static yX2_isTrack, .initialized RX2, .code yX2_isTrack cX2_isTrack 1 (some .boolean), .methodLink RX2 59 yX2_isWithin, .static yX2_isWithin, .code yX2_isWithin cX2_isWithin 3 (some .boolean)] ++ wsX20)
def wsX2_tracksThere : List Cond := .code yX2_tracksThere cX2_tracksThere 3 (some .int) :: ([.methodLink RX2 83 yX2_reelOf, .instanceMethod yX2_reelOf, .selects RX2 yX2_reelOf yX2_reelOf, .initialized RX2, .code yX2_reelOf cX2_reelOf 2 (some (.object "FourTrackDeck$Reel")), .fieldLink RX2 11 "FourTrackDeck" "reels" "[LFourTrackDeck$Reel;", .instanceMethod yX0_bitsOfTracks, .initialized RX0, .selects RX0 yX0_bitsOfTracks yX0_bitsOfTracks, .code yX0_bitsOfTracks cX0_bitsOfTracks 3 (some .int), .fieldLink RX0 11 "FourTrackDeck$Reel" "tracks" "[LFourTrackDeck$Track;"] ++ wsX20 ++ wsX00 ++ wsX10)
def wsX2_count : List Cond := .code yX2_count cX2_count 2 (some .int) :: ([.fieldLink RX2 15 "FourTrackDeck" "reelsMade" "I", .fieldLink RX2 19 "FourTrackDeck" "onDeck" "I", .fieldLink RX2 22 "FourTrackDeck" "tapeAt" "I", .fieldLink RX2 35 "FourTrackDeck" "sourceNumber" "I", .fieldLink RX2 44 "FourTrackDeck" "sheetRows" "I", .fieldLink RX2 47 "FourTrackDeck" "sheetWidth" "I", .methodLink RX2 128 yX2_tracksThere, .instanceMethod yX2_tracksThere, .selects RX2 yX2_tracksThere yX2_tracksThere, .initialized RX2, .code yX2_tracksThere cX2_tracksThere 3 (some .int), .methodLink RX2 83 yX2_reelOf, .instanceMethod yX2_reelOf, .selects RX2 yX2_reelOf yX2_reelOf, .code yX2_reelOf cX2_reelOf 2 (some (.object "FourTrackDeck$Reel")), .fieldLink RX2 11 "FourTrackDeck" "reels" "[LFourTrackDeck$Reel;", .instanceMethod yX0_bitsOfTracks, .initialized RX0, .selects RX0 yX0_bitsOfTracks yX0_bitsOfTracks, .code yX0_bitsOfTracks cX0_bitsOfTracks 3 (some .int), .fieldLink RX0 11 "FourTrackDeck$Reel" "tracks" "[LFourTrackDeck$Track;"] ++ wsX20 ++ wsX00 ++ wsX10)
def wsX2_status : List Cond := .code yX2_status cX2_status 1 (some .int) :: ([.fieldLink RX2 56 "FourTrackDeck" "latestStatus" "I"] ++ wsX20)
def wsX3_init : List Cond := .code yX3_init cX3_init 1 none :: ([.methodLink RX3 1 objectInit, .instanceMethod objectInit, .code objectInit ⟨#[0xb1]⟩ 1 none, .arrayClass .int, .fieldLink RX3 7 "FourTrackDeckModel" "length" "[I", .fieldLink RX3 13 "FourTrackDeckModel" "there" "[I", .fieldLink RX3 16 "FourTrackDeckModel" "number" "[I", .fieldLink RX3 19 "FourTrackDeckModel" "onDeck" "I", .fieldLink RX3 23 "FourTrackDeckModel" "offset" "[I", .fieldLink RX3 26 "FourTrackDeckModel" "mode" "[I", .fieldLink RX3 29 "FourTrackDeckModel" "meter" "[I", .fieldLink RX3 32 "FourTrackDeckModel" "tripTrack" "I", .fieldLink RX3 35 "FourTrackDeckModel" "rows" "I", .fieldLink RX3 38 "FourTrackDeckModel" "cells" "I", .fieldLink RX3 41 "FourTrackDeckModel" "cue" "[I"] ++ wsX30)
def wsX3_done : List Cond := .code yX3_done cX3_done 2 (some .int) :: ([.fieldLink RX3 44 "FourTrackDeckModel" "status" "I"] ++ wsX30)
def wsX3_fails : List Cond := .code yX3_fails cX3_fails 3 (some .int) :: ([.fieldLink RX3 44 "FourTrackDeckModel" "status" "I"] ++ wsX30)
def wsX3_isReel : List Cond := .code yX3_isReel cX3_isReel 2 (some .boolean) :: ([.fieldLink RX3 47 "FourTrackDeckModel" "reels" "I"] ++ wsX30)
def wsX3_isTrack : List Cond := .code yX3_isTrack cX3_isTrack 2 (some .boolean) :: ([])
def wsX3_isThere : List Cond := .code yX3_isThere cX3_isThere 3 (some .boolean) :: ([.fieldLink RX3 13 "FourTrackDeckModel" "there" "[I"] ++ wsX30)
def wsX3_at : List Cond := .code yX3_at cX3_at 4 (some .int) :: ([])
def wsX3_fault : List Cond := .code yX3_fault cX3_fault 4 (some .int) :: ([.fieldLink RX3 7 "FourTrackDeckModel" "length" "[I", .methodLink RX3 50 yX3_isThere, .instanceMethod yX3_isThere, .selects RX3 yX3_isThere yX3_isThere, .initialized RX3, .code yX3_isThere cX3_isThere 3 (some .boolean), .fieldLink RX3 13 "FourTrackDeckModel" "there" "[I"] ++ wsX30)
def wsX3_fit : List Cond := .code yX3_fit cX3_fit 3 (some .int) :: ([.constant RX3 54 (65535), .constant RX3 55 (32768)])
def wsX3_place : List Cond := .code yX3_place cX3_place 2 (some .int) :: ([.fieldLink RX3 56 "FourTrackDeckModel" "p" "I", .fieldLink RX3 23 "FourTrackDeckModel" "offset" "[I"] ++ wsX30)
def wsX3_reel : List Cond := .code yX3_reel cX3_reel 3 (some .int) :: ([.fieldLink RX3 47 "FourTrackDeckModel" "reels" "I", .fieldLink RX3 7 "FourTrackDeckModel" "length" "[I", .fieldLink RX3 13 "FourTrackDeckModel" "there" "[I", .methodLink RX3 59 yX3_fails, .instanceMethod yX3_fails, .selects RX3 yX3_fails yX3_fails, .initialized RX3, .code yX3_fails cX3_fails 3 (some .int), .fieldLink RX3 44 "FourTrackDeckModel" "status" "I", .methodLink RX3 63 yX3_done, .instanceMethod yX3_done, .selects RX3 yX3_done yX3_done, .code yX3_done cX3_done 2 (some .int)] ++ wsX30)
def wsX3_strip : List Cond := .code yX3_strip cX3_strip 4 (some .int) :: ([.fieldLink RX3 13 "FourTrackDeckModel" "there" "[I", .methodLink RX3 67 yX3_isReel, .instanceMethod yX3_isReel, .selects RX3 yX3_isReel yX3_isReel, .initialized RX3, .code yX3_isReel cX3_isReel 2 (some .boolean), .fieldLink RX3 47 "FourTrackDeckModel" "reels" "I", .methodLink RX3 71 yX3_isTrack, .instanceMethod yX3_isTrack, .selects RX3 yX3_isTrack yX3_isTrack, .code yX3_isTrack cX3_isTrack 2 (some .boolean), .methodLink RX3 59 yX3_fails, .instanceMethod yX3_fails, .selects RX3 yX3_fails yX3_fails, .code yX3_fails cX3_fails 3 (some .int), .fieldLink RX3 44 "FourTrackDeckModel" "status" "I", .methodLink RX3 50 yX3_isThere, .instanceMethod yX3_isThere, .selects RX3 yX3_isThere yX3_isThere, .code yX3_isThere cX3_isThere 3 (some .boolean), .methodLink RX3 63 yX3_done, .instanceMethod yX3_done, .selects RX3 yX3_done yX3_done, .code yX3_done cX3_done 2 (some .int)] ++ wsX30)
def wsX3_lay_r1 : List Cond := [Cond.fieldLink RX3 13 "FourTrackDeckModel" "there" "[I", Cond.fieldLink RX3 16 "FourTrackDeckModel" "number" "[I", Cond.methodLink RX3 67 yX3_isReel, Cond.instanceMethod yX3_isReel, Cond.selects RX3 yX3_isReel yX3_isReel, Cond.initialized RX3, Cond.code yX3_isReel cX3_isReel 2 (some .boolean), Cond.fieldLink RX3 47 "FourTrackDeckModel" "reels" "I", Cond.methodLink RX3 71 yX3_isTrack, Cond.instanceMethod yX3_isTrack, Cond.selects RX3 yX3_isTrack yX3_isTrack, Cond.code yX3_isTrack cX3_isTrack 2 (some .boolean), Cond.methodLink RX3 59 yX3_fails, Cond.instanceMethod yX3_fails, Cond.selects RX3 yX3_fails yX3_fails, Cond.code yX3_fails cX3_fails 3 (some .int), Cond.fieldLink RX3 44 "FourTrackDeckModel" "status" "I", Cond.methodLink RX3 50 yX3_isThere, Cond.instanceMethod yX3_isThere, Cond.selects RX3 yX3_isThere yX3_isThere, Cond.code yX3_isThere cX3_isThere 3 (some .boolean), Cond.methodLink RX3 74 yX3_at, Cond.instanceMethod yX3_at, Cond.selects RX3 yX3_at yX3_at]
def wsX3_lay_r2 : List Cond := [Cond.code yX3_at cX3_at 4 (some .int), Cond.methodLink RX3 63 yX3_done, Cond.instanceMethod yX3_done, Cond.selects RX3 yX3_done yX3_done, Cond.code yX3_done cX3_done 2 (some .int)]
def wsX3_lay : List Cond := .code yX3_lay cX3_lay 5 (some .int) :: ((wsX3_lay_r1 ++ wsX3_lay_r2) ++ wsX30)
def wsX3_thread : List Cond := .code yX3_thread cX3_thread 3 (some .int) :: ([.fieldLink RX3 19 "FourTrackDeckModel" "onDeck" "I", .methodLink RX3 67 yX3_isReel, .instanceMethod yX3_isReel, .selects RX3 yX3_isReel yX3_isReel, .initialized RX3, .code yX3_isReel cX3_isReel 2 (some .boolean), .fieldLink RX3 47 "FourTrackDeckModel" "reels" "I", .methodLink RX3 59 yX3_fails, .instanceMethod yX3_fails, .selects RX3 yX3_fails yX3_fails, .code yX3_fails cX3_fails 3 (some .int), .fieldLink RX3 44 "FourTrackDeckModel" "status" "I", .methodLink RX3 63 yX3_done, .instanceMethod yX3_done, .selects RX3 yX3_done yX3_done, .code yX3_done cX3_done 2 (some .int)] ++ wsX30)
def wsX3_head : List Cond := .code yX3_head cX3_head 4 (some .int) :: ([.fieldLink RX3 23 "FourTrackDeckModel" "offset" "[I", .methodLink RX3 71 yX3_isTrack, .instanceMethod yX3_isTrack, .selects RX3 yX3_isTrack yX3_isTrack, .initialized RX3, .code yX3_isTrack cX3_isTrack 2 (some .boolean), .methodLink RX3 59 yX3_fails, .instanceMethod yX3_fails, .selects RX3 yX3_fails yX3_fails, .code yX3_fails cX3_fails 3 (some .int), .fieldLink RX3 44 "FourTrackDeckModel" "status" "I", .methodLink RX3 63 yX3_done, .instanceMethod yX3_done, .selects RX3 yX3_done yX3_done, .code yX3_done cX3_done 2 (some .int)] ++ wsX30)
def wsX3_arm : List Cond := .code yX3_arm cX3_arm 4 (some .int) :: ([.fieldLink RX3 26 "FourTrackDeckModel" "mode" "[I", .methodLink RX3 71 yX3_isTrack, .instanceMethod yX3_isTrack, .selects RX3 yX3_isTrack yX3_isTrack, .initialized RX3, .code yX3_isTrack cX3_isTrack 2 (some .boolean), .methodLink RX3 59 yX3_fails, .instanceMethod yX3_fails, .selects RX3 yX3_fails yX3_fails, .code yX3_fails cX3_fails 3 (some .int), .fieldLink RX3 44 "FourTrackDeckModel" "status" "I", .methodLink RX3 63 yX3_done, .instanceMethod yX3_done, .selects RX3 yX3_done yX3_done, .code yX3_done cX3_done 2 (some .int)] ++ wsX30)
def wsX3_source : List Cond := .code yX3_source cX3_source 4 (some .int) :: ([.fieldLink RX3 78 "FourTrackDeckModel" "s" "I", .fieldLink RX3 81 "FourTrackDeckModel" "step" "I", .methodLink RX3 63 yX3_done, .instanceMethod yX3_done, .selects RX3 yX3_done yX3_done, .initialized RX3, .code yX3_done cX3_done 2 (some .int), .fieldLink RX3 44 "FourTrackDeckModel" "status" "I"] ++ wsX30)
def wsX3_wind : List Cond := .code yX3_wind cX3_wind 2 (some .int) :: ([.fieldLink RX3 56 "FourTrackDeckModel" "p" "I", .methodLink RX3 59 yX3_fails, .instanceMethod yX3_fails, .selects RX3 yX3_fails yX3_fails, .initialized RX3, .code yX3_fails cX3_fails 3 (some .int), .fieldLink RX3 44 "FourTrackDeckModel" "status" "I", .methodLink RX3 63 yX3_done, .instanceMethod yX3_done, .selects RX3 yX3_done yX3_done, .code yX3_done cX3_done 2 (some .int)] ++ wsX30)
def wsX3_headFault : List Cond := .code yX3_headFault cX3_headFault 2 (some .int) :: ([.fieldLink RX3 19 "FourTrackDeckModel" "onDeck" "I", .methodLink RX3 71 yX3_isTrack, .instanceMethod yX3_isTrack, .selects RX3 yX3_isTrack yX3_isTrack, .initialized RX3, .code yX3_isTrack cX3_isTrack 2 (some .boolean), .methodLink RX3 84 yX3_place, .instanceMethod yX3_place, .selects RX3 yX3_place yX3_place, .code yX3_place cX3_place 2 (some .int), .fieldLink RX3 56 "FourTrackDeckModel" "p" "I", .fieldLink RX3 23 "FourTrackDeckModel" "offset" "[I", .methodLink RX3 87 yX3_fault, .instanceMethod yX3_fault, .selects RX3 yX3_fault yX3_fault, .code yX3_fault cX3_fault 4 (some .int), .fieldLink RX3 7 "FourTrackDeckModel" "length" "[I", .methodLink RX3 50 yX3_isThere, .instanceMethod yX3_isThere, .selects RX3 yX3_isThere yX3_isThere, .code yX3_isThere cX3_isThere 3 (some .boolean), .fieldLink RX3 13 "FourTrackDeckModel" "there" "[I"] ++ wsX30)
def wsX3_read_r1 : List Cond := [Cond.fieldLink RX3 16 "FourTrackDeckModel" "number" "[I", Cond.fieldLink RX3 19 "FourTrackDeckModel" "onDeck" "I", Cond.methodLink RX3 90 yX3_headFault, Cond.instanceMethod yX3_headFault, Cond.selects RX3 yX3_headFault yX3_headFault, Cond.initialized RX3, Cond.code yX3_headFault cX3_headFault 2 (some .int), Cond.methodLink RX3 71 yX3_isTrack, Cond.instanceMethod yX3_isTrack, Cond.selects RX3 yX3_isTrack yX3_isTrack, Cond.code yX3_isTrack cX3_isTrack 2 (some .boolean), Cond.methodLink RX3 84 yX3_place, Cond.instanceMethod yX3_place, Cond.selects RX3 yX3_place yX3_place, Cond.code yX3_place cX3_place 2 (some .int), Cond.fieldLink RX3 56 "FourTrackDeckModel" "p" "I", Cond.fieldLink RX3 23 "FourTrackDeckModel" "offset" "[I", Cond.methodLink RX3 87 yX3_fault, Cond.instanceMethod yX3_fault, Cond.selects RX3 yX3_fault yX3_fault, Cond.code yX3_fault cX3_fault 4 (some .int), Cond.fieldLink RX3 7 "FourTrackDeckModel" "length" "[I", Cond.methodLink RX3 50 yX3_isThere, Cond.instanceMethod yX3_isThere]
def wsX3_read_r2 : List Cond := [Cond.selects RX3 yX3_isThere yX3_isThere, Cond.code yX3_isThere cX3_isThere 3 (some .boolean), Cond.fieldLink RX3 13 "FourTrackDeckModel" "there" "[I", Cond.methodLink RX3 59 yX3_fails, Cond.instanceMethod yX3_fails, Cond.selects RX3 yX3_fails yX3_fails, Cond.code yX3_fails cX3_fails 3 (some .int), Cond.fieldLink RX3 44 "FourTrackDeckModel" "status" "I", Cond.methodLink RX3 74 yX3_at, Cond.instanceMethod yX3_at, Cond.selects RX3 yX3_at yX3_at, Cond.code yX3_at cX3_at 4 (some .int), Cond.methodLink RX3 63 yX3_done, Cond.instanceMethod yX3_done, Cond.selects RX3 yX3_done yX3_done, Cond.code yX3_done cX3_done 2 (some .int)]
def wsX3_read : List Cond := .code yX3_read cX3_read 3 (some .int) :: ((wsX3_read_r1 ++ wsX3_read_r2) ++ wsX30)
def wsX3_write_r1 : List Cond := [Cond.fieldLink RX3 16 "FourTrackDeckModel" "number" "[I", Cond.fieldLink RX3 19 "FourTrackDeckModel" "onDeck" "I", Cond.methodLink RX3 90 yX3_headFault, Cond.instanceMethod yX3_headFault, Cond.selects RX3 yX3_headFault yX3_headFault, Cond.initialized RX3, Cond.code yX3_headFault cX3_headFault 2 (some .int), Cond.methodLink RX3 71 yX3_isTrack, Cond.instanceMethod yX3_isTrack, Cond.selects RX3 yX3_isTrack yX3_isTrack, Cond.code yX3_isTrack cX3_isTrack 2 (some .boolean), Cond.methodLink RX3 84 yX3_place, Cond.instanceMethod yX3_place, Cond.selects RX3 yX3_place yX3_place, Cond.code yX3_place cX3_place 2 (some .int), Cond.fieldLink RX3 56 "FourTrackDeckModel" "p" "I", Cond.fieldLink RX3 23 "FourTrackDeckModel" "offset" "[I", Cond.methodLink RX3 87 yX3_fault, Cond.instanceMethod yX3_fault, Cond.selects RX3 yX3_fault yX3_fault, Cond.code yX3_fault cX3_fault 4 (some .int), Cond.fieldLink RX3 7 "FourTrackDeckModel" "length" "[I", Cond.methodLink RX3 50 yX3_isThere, Cond.instanceMethod yX3_isThere]
def wsX3_write_r2 : List Cond := [Cond.selects RX3 yX3_isThere yX3_isThere, Cond.code yX3_isThere cX3_isThere 3 (some .boolean), Cond.fieldLink RX3 13 "FourTrackDeckModel" "there" "[I", Cond.methodLink RX3 59 yX3_fails, Cond.instanceMethod yX3_fails, Cond.selects RX3 yX3_fails yX3_fails, Cond.code yX3_fails cX3_fails 3 (some .int), Cond.fieldLink RX3 44 "FourTrackDeckModel" "status" "I", Cond.methodLink RX3 74 yX3_at, Cond.instanceMethod yX3_at, Cond.selects RX3 yX3_at yX3_at, Cond.code yX3_at cX3_at 4 (some .int), Cond.methodLink RX3 93 yX3_fit, Cond.instanceMethod yX3_fit, Cond.selects RX3 yX3_fit yX3_fit, Cond.code yX3_fit cX3_fit 3 (some .int), Cond.constant RX3 54 (65535), Cond.constant RX3 55 (32768), Cond.methodLink RX3 63 yX3_done, Cond.instanceMethod yX3_done, Cond.selects RX3 yX3_done yX3_done, Cond.code yX3_done cX3_done 2 (some .int)]
def wsX3_write : List Cond := .code yX3_write cX3_write 4 (some .int) :: ((wsX3_write_r1 ++ wsX3_write_r2) ++ wsX30)
def wsX3_act_r1 : List Cond := [Cond.fieldLink RX3 26 "FourTrackDeckModel" "mode" "[I", Cond.fieldLink RX3 19 "FourTrackDeckModel" "onDeck" "I", Cond.fieldLink RX3 29 "FourTrackDeckModel" "meter" "[I", Cond.fieldLink RX3 16 "FourTrackDeckModel" "number" "[I", Cond.fieldLink RX3 78 "FourTrackDeckModel" "s" "I", Cond.fieldLink RX3 81 "FourTrackDeckModel" "step" "I", Cond.methodLink RX3 84 yX3_place, Cond.instanceMethod yX3_place, Cond.selects RX3 yX3_place yX3_place, Cond.initialized RX3, Cond.code yX3_place cX3_place 2 (some .int), Cond.fieldLink RX3 56 "FourTrackDeckModel" "p" "I", Cond.fieldLink RX3 23 "FourTrackDeckModel" "offset" "[I", Cond.methodLink RX3 87 yX3_fault, Cond.instanceMethod yX3_fault, Cond.selects RX3 yX3_fault yX3_fault, Cond.code yX3_fault cX3_fault 4 (some .int), Cond.fieldLink RX3 7 "FourTrackDeckModel" "length" "[I", Cond.methodLink RX3 50 yX3_isThere, Cond.instanceMethod yX3_isThere, Cond.selects RX3 yX3_isThere yX3_isThere, Cond.code yX3_isThere cX3_isThere 3 (some .boolean), Cond.fieldLink RX3 13 "FourTrackDeckModel" "there" "[I", Cond.methodLink RX3 74 yX3_at]
def wsX3_act_r2 : List Cond := [Cond.instanceMethod yX3_at, Cond.selects RX3 yX3_at yX3_at, Cond.code yX3_at cX3_at 4 (some .int), Cond.methodLink RX3 93 yX3_fit, Cond.instanceMethod yX3_fit, Cond.selects RX3 yX3_fit yX3_fit, Cond.code yX3_fit cX3_fit 3 (some .int), Cond.constant RX3 54 (65535), Cond.constant RX3 55 (32768)]
def wsX3_act : List Cond := .code yX3_act cX3_act 4 (some .int) :: ((wsX3_act_r1 ++ wsX3_act_r2) ++ wsX30)
def wsX3_run_r1 : List Cond := [Cond.fieldLink RX3 19 "FourTrackDeckModel" "onDeck" "I", Cond.fieldLink RX3 32 "FourTrackDeckModel" "tripTrack" "I", Cond.fieldLink RX3 96 "FourTrackDeckModel" "tripStatus" "I", Cond.fieldLink RX3 56 "FourTrackDeckModel" "p" "I", Cond.methodLink RX3 59 yX3_fails, Cond.instanceMethod yX3_fails, Cond.selects RX3 yX3_fails yX3_fails, Cond.initialized RX3, Cond.code yX3_fails cX3_fails 3 (some .int), Cond.fieldLink RX3 44 "FourTrackDeckModel" "status" "I", Cond.methodLink RX3 99 yX3_act, Cond.instanceMethod yX3_act, Cond.selects RX3 yX3_act yX3_act, Cond.code yX3_act cX3_act 4 (some .int), Cond.fieldLink RX3 26 "FourTrackDeckModel" "mode" "[I", Cond.fieldLink RX3 29 "FourTrackDeckModel" "meter" "[I", Cond.fieldLink RX3 16 "FourTrackDeckModel" "number" "[I", Cond.fieldLink RX3 78 "FourTrackDeckModel" "s" "I", Cond.fieldLink RX3 81 "FourTrackDeckModel" "step" "I", Cond.methodLink RX3 84 yX3_place, Cond.instanceMethod yX3_place, Cond.selects RX3 yX3_place yX3_place, Cond.code yX3_place cX3_place 2 (some .int), Cond.fieldLink RX3 23 "FourTrackDeckModel" "offset" "[I"]
def wsX3_run_r2 : List Cond := [Cond.methodLink RX3 87 yX3_fault, Cond.instanceMethod yX3_fault, Cond.selects RX3 yX3_fault yX3_fault, Cond.code yX3_fault cX3_fault 4 (some .int), Cond.fieldLink RX3 7 "FourTrackDeckModel" "length" "[I", Cond.methodLink RX3 50 yX3_isThere, Cond.instanceMethod yX3_isThere, Cond.selects RX3 yX3_isThere yX3_isThere, Cond.code yX3_isThere cX3_isThere 3 (some .boolean), Cond.fieldLink RX3 13 "FourTrackDeckModel" "there" "[I", Cond.methodLink RX3 74 yX3_at, Cond.instanceMethod yX3_at, Cond.selects RX3 yX3_at yX3_at, Cond.code yX3_at cX3_at 4 (some .int), Cond.methodLink RX3 93 yX3_fit, Cond.instanceMethod yX3_fit, Cond.selects RX3 yX3_fit yX3_fit, Cond.code yX3_fit cX3_fit 3 (some .int), Cond.constant RX3 54 (65535), Cond.constant RX3 55 (32768), Cond.methodLink RX3 63 yX3_done, Cond.instanceMethod yX3_done, Cond.selects RX3 yX3_done yX3_done, Cond.code yX3_done cX3_done 2 (some .int)]
def wsX3_run : List Cond := .code yX3_run cX3_run 5 (some .int) :: ((wsX3_run_r1 ++ wsX3_run_r2) ++ wsX30)
def wsX3_dub_r1 : List Cond := [Cond.fieldLink RX3 56 "FourTrackDeckModel" "p" "I", Cond.fieldLink RX3 16 "FourTrackDeckModel" "number" "[I", Cond.methodLink RX3 67 yX3_isReel, Cond.instanceMethod yX3_isReel, Cond.selects RX3 yX3_isReel yX3_isReel, Cond.initialized RX3, Cond.code yX3_isReel cX3_isReel 2 (some .boolean), Cond.fieldLink RX3 47 "FourTrackDeckModel" "reels" "I", Cond.methodLink RX3 71 yX3_isTrack, Cond.instanceMethod yX3_isTrack, Cond.selects RX3 yX3_isTrack yX3_isTrack, Cond.code yX3_isTrack cX3_isTrack 2 (some .boolean), Cond.methodLink RX3 59 yX3_fails, Cond.instanceMethod yX3_fails, Cond.selects RX3 yX3_fails yX3_fails, Cond.code yX3_fails cX3_fails 3 (some .int), Cond.fieldLink RX3 44 "FourTrackDeckModel" "status" "I", Cond.methodLink RX3 87 yX3_fault, Cond.instanceMethod yX3_fault, Cond.selects RX3 yX3_fault yX3_fault, Cond.code yX3_fault cX3_fault 4 (some .int), Cond.fieldLink RX3 7 "FourTrackDeckModel" "length" "[I", Cond.methodLink RX3 50 yX3_isThere, Cond.instanceMethod yX3_isThere]
def wsX3_dub_r2 : List Cond := [Cond.selects RX3 yX3_isThere yX3_isThere, Cond.code yX3_isThere cX3_isThere 3 (some .boolean), Cond.fieldLink RX3 13 "FourTrackDeckModel" "there" "[I", Cond.methodLink RX3 74 yX3_at, Cond.instanceMethod yX3_at, Cond.selects RX3 yX3_at yX3_at, Cond.code yX3_at cX3_at 4 (some .int), Cond.methodLink RX3 93 yX3_fit, Cond.instanceMethod yX3_fit, Cond.selects RX3 yX3_fit yX3_fit, Cond.code yX3_fit cX3_fit 3 (some .int), Cond.constant RX3 54 (65535), Cond.constant RX3 55 (32768), Cond.methodLink RX3 63 yX3_done, Cond.instanceMethod yX3_done, Cond.selects RX3 yX3_done yX3_done, Cond.code yX3_done cX3_done 2 (some .int)]
def wsX3_dub : List Cond := .code yX3_dub cX3_dub 9 (some .int) :: ((wsX3_dub_r1 ++ wsX3_dub_r2) ++ wsX30)
def wsX3_turn_r1 : List Cond := [Cond.fieldLink RX3 19 "FourTrackDeckModel" "onDeck" "I", Cond.fieldLink RX3 16 "FourTrackDeckModel" "number" "[I", Cond.methodLink RX3 71 yX3_isTrack, Cond.instanceMethod yX3_isTrack, Cond.selects RX3 yX3_isTrack yX3_isTrack, Cond.initialized RX3, Cond.code yX3_isTrack cX3_isTrack 2 (some .boolean), Cond.methodLink RX3 59 yX3_fails, Cond.instanceMethod yX3_fails, Cond.selects RX3 yX3_fails yX3_fails, Cond.code yX3_fails cX3_fails 3 (some .int), Cond.fieldLink RX3 44 "FourTrackDeckModel" "status" "I", Cond.methodLink RX3 84 yX3_place, Cond.instanceMethod yX3_place, Cond.selects RX3 yX3_place yX3_place, Cond.code yX3_place cX3_place 2 (some .int), Cond.fieldLink RX3 56 "FourTrackDeckModel" "p" "I", Cond.fieldLink RX3 23 "FourTrackDeckModel" "offset" "[I", Cond.methodLink RX3 87 yX3_fault, Cond.instanceMethod yX3_fault, Cond.selects RX3 yX3_fault yX3_fault, Cond.code yX3_fault cX3_fault 4 (some .int), Cond.fieldLink RX3 7 "FourTrackDeckModel" "length" "[I", Cond.methodLink RX3 50 yX3_isThere]
def wsX3_turn_r2 : List Cond := [Cond.instanceMethod yX3_isThere, Cond.selects RX3 yX3_isThere yX3_isThere, Cond.code yX3_isThere cX3_isThere 3 (some .boolean), Cond.fieldLink RX3 13 "FourTrackDeckModel" "there" "[I", Cond.methodLink RX3 74 yX3_at, Cond.instanceMethod yX3_at, Cond.selects RX3 yX3_at yX3_at, Cond.code yX3_at cX3_at 4 (some .int), Cond.methodLink RX3 63 yX3_done, Cond.instanceMethod yX3_done, Cond.selects RX3 yX3_done yX3_done, Cond.code yX3_done cX3_done 2 (some .int)]
def wsX3_turn : List Cond := .code yX3_turn cX3_turn 9 (some .int) :: ((wsX3_turn_r1 ++ wsX3_turn_r2) ++ wsX30)
def wsX3_scan_r1 : List Cond := [Cond.fieldLink RX3 7 "FourTrackDeckModel" "length" "[I", Cond.fieldLink RX3 19 "FourTrackDeckModel" "onDeck" "I", Cond.fieldLink RX3 16 "FourTrackDeckModel" "number" "[I", Cond.methodLink RX3 90 yX3_headFault, Cond.instanceMethod yX3_headFault, Cond.selects RX3 yX3_headFault yX3_headFault, Cond.initialized RX3, Cond.code yX3_headFault cX3_headFault 2 (some .int), Cond.methodLink RX3 71 yX3_isTrack, Cond.instanceMethod yX3_isTrack, Cond.selects RX3 yX3_isTrack yX3_isTrack, Cond.code yX3_isTrack cX3_isTrack 2 (some .boolean), Cond.methodLink RX3 84 yX3_place, Cond.instanceMethod yX3_place, Cond.selects RX3 yX3_place yX3_place, Cond.code yX3_place cX3_place 2 (some .int), Cond.fieldLink RX3 56 "FourTrackDeckModel" "p" "I", Cond.fieldLink RX3 23 "FourTrackDeckModel" "offset" "[I", Cond.methodLink RX3 87 yX3_fault, Cond.instanceMethod yX3_fault, Cond.selects RX3 yX3_fault yX3_fault, Cond.code yX3_fault cX3_fault 4 (some .int), Cond.methodLink RX3 50 yX3_isThere, Cond.instanceMethod yX3_isThere]
def wsX3_scan_r2 : List Cond := [Cond.selects RX3 yX3_isThere yX3_isThere, Cond.code yX3_isThere cX3_isThere 3 (some .boolean), Cond.fieldLink RX3 13 "FourTrackDeckModel" "there" "[I", Cond.methodLink RX3 59 yX3_fails, Cond.instanceMethod yX3_fails, Cond.selects RX3 yX3_fails yX3_fails, Cond.code yX3_fails cX3_fails 3 (some .int), Cond.fieldLink RX3 44 "FourTrackDeckModel" "status" "I", Cond.methodLink RX3 74 yX3_at, Cond.instanceMethod yX3_at, Cond.selects RX3 yX3_at yX3_at, Cond.code yX3_at cX3_at 4 (some .int), Cond.methodLink RX3 63 yX3_done, Cond.instanceMethod yX3_done, Cond.selects RX3 yX3_done yX3_done, Cond.code yX3_done cX3_done 2 (some .int)]
def wsX3_scan : List Cond := .code yX3_scan cX3_scan 6 (some .int) :: ((wsX3_scan_r1 ++ wsX3_scan_r2) ++ wsX30)
def wsX3_sheet : List Cond := .code yX3_sheet cX3_sheet 4 (some .int) :: ([.fieldLink RX3 35 "FourTrackDeckModel" "rows" "I", .fieldLink RX3 38 "FourTrackDeckModel" "cells" "I", .fieldLink RX3 41 "FourTrackDeckModel" "cue" "[I", .methodLink RX3 59 yX3_fails, .instanceMethod yX3_fails, .selects RX3 yX3_fails yX3_fails, .initialized RX3, .code yX3_fails cX3_fails 3 (some .int), .fieldLink RX3 44 "FourTrackDeckModel" "status" "I", .methodLink RX3 63 yX3_done, .instanceMethod yX3_done, .selects RX3 yX3_done yX3_done, .code yX3_done cX3_done 2 (some .int)] ++ wsX30)
def wsX3_cellFault : List Cond := .code yX3_cellFault cX3_cellFault 3 (some .int) :: ([.fieldLink RX3 35 "FourTrackDeckModel" "rows" "I", .fieldLink RX3 38 "FourTrackDeckModel" "cells" "I"] ++ wsX30)
def wsX3_cue : List Cond := .code yX3_cue cX3_cue 6 (some .int) :: ([.fieldLink RX3 41 "FourTrackDeckModel" "cue" "[I", .methodLink RX3 102 yX3_cellFault, .instanceMethod yX3_cellFault, .selects RX3 yX3_cellFault yX3_cellFault, .initialized RX3, .code yX3_cellFault cX3_cellFault 3 (some .int), .fieldLink RX3 35 "FourTrackDeckModel" "rows" "I", .fieldLink RX3 38 "FourTrackDeckModel" "cells" "I", .methodLink RX3 59 yX3_fails, .instanceMethod yX3_fails, .selects RX3 yX3_fails yX3_fails, .code yX3_fails cX3_fails 3 (some .int), .fieldLink RX3 44 "FourTrackDeckModel" "status" "I", .methodLink RX3 63 yX3_done, .instanceMethod yX3_done, .selects RX3 yX3_done yX3_done, .code yX3_done cX3_done 2 (some .int)] ++ wsX30)
def wsX3_seek : List Cond := .code yX3_seek cX3_seek 4 (some .int) :: ([.fieldLink RX3 56 "FourTrackDeckModel" "p" "I", .fieldLink RX3 41 "FourTrackDeckModel" "cue" "[I", .methodLink RX3 102 yX3_cellFault, .instanceMethod yX3_cellFault, .selects RX3 yX3_cellFault yX3_cellFault, .initialized RX3, .code yX3_cellFault cX3_cellFault 3 (some .int), .fieldLink RX3 35 "FourTrackDeckModel" "rows" "I", .fieldLink RX3 38 "FourTrackDeckModel" "cells" "I", .methodLink RX3 59 yX3_fails, .instanceMethod yX3_fails, .selects RX3 yX3_fails yX3_fails, .code yX3_fails cX3_fails 3 (some .int), .fieldLink RX3 44 "FourTrackDeckModel" "status" "I", .methodLink RX3 63 yX3_done, .instanceMethod yX3_done, .selects RX3 yX3_done yX3_done, .code yX3_done cX3_done 2 (some .int)] ++ wsX30)
def wsX3_trip : List Cond := .code yX3_trip cX3_trip 2 (some .int) :: ([.fieldLink RX3 32 "FourTrackDeckModel" "tripTrack" "I", .fieldLink RX3 96 "FourTrackDeckModel" "tripStatus" "I"] ++ wsX30)
def wsX3_meter : List Cond := .code yX3_meter cX3_meter 2 (some .int) :: ([.fieldLink RX3 29 "FourTrackDeckModel" "meter" "[I", .methodLink RX3 71 yX3_isTrack, .instanceMethod yX3_isTrack, .selects RX3 yX3_isTrack yX3_isTrack, .initialized RX3, .code yX3_isTrack cX3_isTrack 2 (some .boolean)] ++ wsX30)
def wsX3_count : List Cond := .code yX3_count cX3_count 2 (some .int) :: ([.fieldLink RX3 13 "FourTrackDeckModel" "there" "[I", .fieldLink RX3 47 "FourTrackDeckModel" "reels" "I", .fieldLink RX3 19 "FourTrackDeckModel" "onDeck" "I", .fieldLink RX3 56 "FourTrackDeckModel" "p" "I", .fieldLink RX3 78 "FourTrackDeckModel" "s" "I", .fieldLink RX3 35 "FourTrackDeckModel" "rows" "I", .fieldLink RX3 38 "FourTrackDeckModel" "cells" "I", .methodLink RX3 67 yX3_isReel, .instanceMethod yX3_isReel, .selects RX3 yX3_isReel yX3_isReel, .initialized RX3, .code yX3_isReel cX3_isReel 2 (some .boolean)] ++ wsX30)
def wsX3_status : List Cond := .code yX3_status cX3_status 1 (some .int) :: ([.fieldLink RX3 44 "FourTrackDeckModel" "status" "I"] ++ wsX30)
def wsJ9_max_7cf53 : List Cond := .code yJ9_max_7cf53 cJ9_max_7cf53 2 (some .int) :: ([])
def wsJ9_min_7cf53 : List Cond := .code yJ9_min_7cf53 cJ9_min_7cf53 2 (some .int) :: ([])
def wsL_law_r1 : List Cond := [Cond.classLink RL 7 RX2, Cond.instantiable RX2 15, Cond.initialized RX2, Cond.classLink RL 10 RX3, Cond.instantiable RX3 17, Cond.initialized RX3, Cond.methodLink RL 9 yX2_init, Cond.instanceMethod yX2_init, Cond.code yX2_init cX2_init 1 none, Cond.methodLink RX2 1 objectInit, Cond.instanceMethod objectInit, Cond.code objectInit ⟨#[0xb1]⟩ 1 none, Cond.classLink RX2 9 RX0, Cond.fieldLink RX2 11 "FourTrackDeck" "reels" "[LFourTrackDeck$Reel;", Cond.fieldLink RX2 15 "FourTrackDeck" "reelsMade" "I", Cond.fieldLink RX2 19 "FourTrackDeck" "onDeck" "I", Cond.fieldLink RX2 22 "FourTrackDeck" "tapeAt" "I", Cond.arrayClass .int, Cond.fieldLink RX2 25 "FourTrackDeck" "offsets" "[I", Cond.fieldLink RX2 29 "FourTrackDeck" "modes" "[I", Cond.fieldLink RX2 32 "FourTrackDeck" "meters" "[I", Cond.fieldLink RX2 35 "FourTrackDeck" "sourceNumber" "I", Cond.fieldLink RX2 38 "FourTrackDeck" "sourceStep" "I", Cond.fieldLink RX2 41 "FourTrackDeck" "cells" "[I"]
def wsL_law_r2 : List Cond := [Cond.fieldLink RX2 44 "FourTrackDeck" "sheetRows" "I", Cond.fieldLink RX2 47 "FourTrackDeck" "sheetWidth" "I", Cond.fieldLink RX2 50 "FourTrackDeck" "tripTrack" "I", Cond.fieldLink RX2 53 "FourTrackDeck" "tripStatus" "I", Cond.fieldLink RX2 56 "FourTrackDeck" "latestStatus" "I", Cond.methodLink RL 12 yX3_init, Cond.instanceMethod yX3_init, Cond.code yX3_init cX3_init 1 none, Cond.methodLink RX3 1 objectInit, Cond.fieldLink RX3 7 "FourTrackDeckModel" "length" "[I", Cond.fieldLink RX3 13 "FourTrackDeckModel" "there" "[I", Cond.fieldLink RX3 16 "FourTrackDeckModel" "number" "[I", Cond.fieldLink RX3 19 "FourTrackDeckModel" "onDeck" "I", Cond.fieldLink RX3 23 "FourTrackDeckModel" "offset" "[I", Cond.fieldLink RX3 26 "FourTrackDeckModel" "mode" "[I", Cond.fieldLink RX3 29 "FourTrackDeckModel" "meter" "[I", Cond.fieldLink RX3 32 "FourTrackDeckModel" "tripTrack" "I", Cond.fieldLink RX3 35 "FourTrackDeckModel" "rows" "I", Cond.fieldLink RX3 38 "FourTrackDeckModel" "cells" "I", Cond.fieldLink RX3 41 "FourTrackDeckModel" "cue" "[I", Cond.methodLink RL 13 yX2_reel, Cond.instanceMethod yX2_reel, Cond.selects RX2 yX2_reel yX2_reel, Cond.code yX2_reel cX2_reel 4 (some .int)]
def wsL_law_r3 : List Cond := [Cond.instantiable RX0 1, Cond.initialized RX0, Cond.methodLink RX2 59 yX2_isWithin, Cond.static yX2_isWithin, Cond.code yX2_isWithin cX2_isWithin 3 (some .boolean), Cond.methodLink RX2 63 yX2_end, Cond.instanceMethod yX2_end, Cond.selects RX2 yX2_end yX2_end, Cond.code yX2_end cX2_end 3 (some .int), Cond.instanceMethod yX0_init, Cond.code yX0_init cX0_init 4 none, Cond.methodLink RX0 3 objectInit, Cond.classLink RX0 9 RX1, Cond.fieldLink RX0 11 "FourTrackDeck$Reel" "tracks" "[LFourTrackDeck$Track;", Cond.instantiable RX1 3, Cond.initialized RX1, Cond.instanceMethod yX1_init, Cond.code yX1_init cX1_init 4 none, Cond.methodLink RX1 3 objectInit, Cond.fieldLink RX1 9 "FourTrackDeck$Track" "kind" "I", Cond.fieldLink RX1 15 "FourTrackDeck$Track" "numbers" "[I", Cond.fieldLink RX1 19 "FourTrackDeck$Track" "isThere" "Z", Cond.methodLink RL 17 yX3_reel, Cond.instanceMethod yX3_reel]
def wsL_law_r4 : List Cond := [Cond.selects RX3 yX3_reel yX3_reel, Cond.code yX3_reel cX3_reel 3 (some .int), Cond.fieldLink RX3 47 "FourTrackDeckModel" "reels" "I", Cond.methodLink RX3 59 yX3_fails, Cond.instanceMethod yX3_fails, Cond.selects RX3 yX3_fails yX3_fails, Cond.code yX3_fails cX3_fails 3 (some .int), Cond.fieldLink RX3 44 "FourTrackDeckModel" "status" "I", Cond.methodLink RX3 63 yX3_done, Cond.instanceMethod yX3_done, Cond.selects RX3 yX3_done yX3_done, Cond.code yX3_done cX3_done 2 (some .int), Cond.methodLink RL 18 yX2_strip, Cond.instanceMethod yX2_strip, Cond.selects RX2 yX2_strip yX2_strip, Cond.code yX2_strip cX2_strip 5 (some .int), Cond.methodLink RX2 70 yX2_trackOf, Cond.instanceMethod yX2_trackOf, Cond.selects RX2 yX2_trackOf yX2_trackOf, Cond.code yX2_trackOf cX2_trackOf 4 (some (.object "FourTrackDeck$Track")), Cond.methodLink RX2 83 yX2_reelOf, Cond.instanceMethod yX2_reelOf, Cond.selects RX2 yX2_reelOf yX2_reelOf, Cond.code yX2_reelOf cX2_reelOf 2 (some (.object "FourTrackDeck$Reel"))]
def wsL_law_r5 : List Cond := [Cond.methodLink RX2 87 yX2_isTrack, Cond.static yX2_isTrack, Cond.code yX2_isTrack cX2_isTrack 1 (some .boolean), Cond.methodLink RL 21 yX3_strip, Cond.instanceMethod yX3_strip, Cond.selects RX3 yX3_strip yX3_strip, Cond.code yX3_strip cX3_strip 4 (some .int), Cond.methodLink RX3 67 yX3_isReel, Cond.instanceMethod yX3_isReel, Cond.selects RX3 yX3_isReel yX3_isReel, Cond.code yX3_isReel cX3_isReel 2 (some .boolean), Cond.methodLink RX3 71 yX3_isTrack, Cond.instanceMethod yX3_isTrack, Cond.selects RX3 yX3_isTrack yX3_isTrack, Cond.code yX3_isTrack cX3_isTrack 2 (some .boolean), Cond.methodLink RX3 50 yX3_isThere, Cond.instanceMethod yX3_isThere, Cond.selects RX3 yX3_isThere yX3_isThere, Cond.code yX3_isThere cX3_isThere 3 (some .boolean), Cond.methodLink RL 22 yX2_lay, Cond.instanceMethod yX2_lay, Cond.selects RX2 yX2_lay yX2_lay, Cond.code yX2_lay cX2_lay 5 (some .int), Cond.instanceMethod yX1_wipe]
def wsL_law_r6 : List Cond := [Cond.selects RX1 yX1_wipe yX1_wipe, Cond.code yX1_wipe cX1_wipe 1 none, Cond.methodLink RX1 23 yJ7_fill_53178, Cond.static yJ7_fill_53178, Cond.initialized RJ7, Cond.code yJ7_fill_53178 cJ7_fill_53178 4 none, Cond.methodLink RL 25 yX3_lay, Cond.instanceMethod yX3_lay, Cond.selects RX3 yX3_lay yX3_lay, Cond.code yX3_lay cX3_lay 5 (some .int), Cond.methodLink RX3 74 yX3_at, Cond.instanceMethod yX3_at, Cond.selects RX3 yX3_at yX3_at, Cond.code yX3_at cX3_at 4 (some .int), Cond.methodLink RL 26 yX2_thread, Cond.instanceMethod yX2_thread, Cond.selects RX2 yX2_thread yX2_thread, Cond.code yX2_thread cX2_thread 3 (some .int), Cond.methodLink RL 30 yX3_thread, Cond.instanceMethod yX3_thread, Cond.selects RX3 yX3_thread yX3_thread, Cond.code yX3_thread cX3_thread 3 (some .int), Cond.methodLink RL 31 yX2_head, Cond.instanceMethod yX2_head]
def wsL_law_r7 : List Cond := [Cond.selects RX2 yX2_head yX2_head, Cond.code yX2_head cX2_head 4 (some .int), Cond.methodLink RL 34 yX3_head, Cond.instanceMethod yX3_head, Cond.selects RX3 yX3_head yX3_head, Cond.code yX3_head cX3_head 4 (some .int), Cond.methodLink RL 35 yX2_arm, Cond.instanceMethod yX2_arm, Cond.selects RX2 yX2_arm yX2_arm, Cond.code yX2_arm cX2_arm 4 (some .int), Cond.methodLink RL 38 yX3_arm, Cond.instanceMethod yX3_arm, Cond.selects RX3 yX3_arm yX3_arm, Cond.code yX3_arm cX3_arm 4 (some .int), Cond.methodLink RL 39 yX2_source, Cond.instanceMethod yX2_source, Cond.selects RX2 yX2_source yX2_source, Cond.code yX2_source cX2_source 4 (some .int), Cond.methodLink RL 42 yX3_source, Cond.instanceMethod yX3_source, Cond.selects RX3 yX3_source yX3_source, Cond.code yX3_source cX3_source 4 (some .int), Cond.fieldLink RX3 78 "FourTrackDeckModel" "s" "I", Cond.fieldLink RX3 81 "FourTrackDeckModel" "step" "I"]
def wsL_law_r8 : List Cond := [Cond.methodLink RL 43 yX2_wind, Cond.instanceMethod yX2_wind, Cond.selects RX2 yX2_wind yX2_wind, Cond.code yX2_wind cX2_wind 2 (some .int), Cond.methodLink RL 46 yX3_wind, Cond.instanceMethod yX3_wind, Cond.selects RX3 yX3_wind yX3_wind, Cond.code yX3_wind cX3_wind 2 (some .int), Cond.fieldLink RX3 56 "FourTrackDeckModel" "p" "I", Cond.methodLink RL 47 yX2_read, Cond.instanceMethod yX2_read, Cond.selects RX2 yX2_read yX2_read, Cond.code yX2_read cX2_read 4 (some .int), Cond.methodLink RX2 91 yX2_whyNoneUnderHead, Cond.instanceMethod yX2_whyNoneUnderHead, Cond.selects RX2 yX2_whyNoneUnderHead yX2_whyNoneUnderHead, Cond.code yX2_whyNoneUnderHead cX2_whyNoneUnderHead 2 (some .int), Cond.methodLink RX2 95 yX2_placeOfHead, Cond.instanceMethod yX2_placeOfHead, Cond.selects RX2 yX2_placeOfHead yX2_placeOfHead, Cond.code yX2_placeOfHead cX2_placeOfHead 2 (some .int), Cond.instanceMethod yX1_faultAt, Cond.selects RX1 yX1_faultAt yX1_faultAt, Cond.code yX1_faultAt cX1_faultAt 2 (some .int)]
def wsL_law_r9 : List Cond := [Cond.instanceMethod yX1_numberAt, Cond.selects RX1 yX1_numberAt yX1_numberAt, Cond.code yX1_numberAt cX1_numberAt 2 (some .int), Cond.methodLink RX1 29 yX1_faultAt, Cond.methodLink RL 50 yX3_read, Cond.instanceMethod yX3_read, Cond.selects RX3 yX3_read yX3_read, Cond.code yX3_read cX3_read 3 (some .int), Cond.methodLink RX3 90 yX3_headFault, Cond.instanceMethod yX3_headFault, Cond.selects RX3 yX3_headFault yX3_headFault, Cond.code yX3_headFault cX3_headFault 2 (some .int), Cond.methodLink RX3 84 yX3_place, Cond.instanceMethod yX3_place, Cond.selects RX3 yX3_place yX3_place, Cond.code yX3_place cX3_place 2 (some .int), Cond.methodLink RX3 87 yX3_fault, Cond.instanceMethod yX3_fault, Cond.selects RX3 yX3_fault yX3_fault, Cond.code yX3_fault cX3_fault 4 (some .int), Cond.methodLink RL 51 yX2_write, Cond.instanceMethod yX2_write, Cond.selects RX2 yX2_write yX2_write, Cond.code yX2_write cX2_write 5 (some .int)]
def wsL_law_r10 : List Cond := [Cond.instanceMethod yX1_put, Cond.selects RX1 yX1_put yX1_put, Cond.code yX1_put cX1_put 3 none, Cond.methodLink RX1 33 yX1_asTrackHasIt, Cond.instanceMethod yX1_asTrackHasIt, Cond.selects RX1 yX1_asTrackHasIt yX1_asTrackHasIt, Cond.code yX1_asTrackHasIt cX1_asTrackHasIt 2 (some .int), Cond.constant RX1 43 (65535), Cond.constant RX1 44 (32768), Cond.methodLink RX1 45 Lib.Math.min.name, Cond.static Lib.Math.min.name, Cond.initialized "java/lang/Math", Cond.code Lib.Math.min.name Lib.Math.min.code 2 (some .int), Cond.methodLink RX1 51 Lib.Math.max.name, Cond.static Lib.Math.max.name, Cond.code Lib.Math.max.name Lib.Math.max.code 2 (some .int), Cond.methodLink RL 54 yX3_write, Cond.instanceMethod yX3_write, Cond.selects RX3 yX3_write yX3_write, Cond.code yX3_write cX3_write 4 (some .int), Cond.methodLink RX3 93 yX3_fit, Cond.instanceMethod yX3_fit, Cond.selects RX3 yX3_fit yX3_fit, Cond.code yX3_fit cX3_fit 3 (some .int)]
def wsL_law_r11 : List Cond := [Cond.constant RX3 54 (65535), Cond.constant RX3 55 (32768), Cond.methodLink RL 55 yX2_run, Cond.instanceMethod yX2_run, Cond.selects RX2 yX2_run yX2_run, Cond.code yX2_run cX2_run 3 (some .int), Cond.methodLink RX2 107 yX2_tick, Cond.instanceMethod yX2_tick, Cond.selects RX2 yX2_tick yX2_tick, Cond.code yX2_tick cX2_tick 3 none, Cond.methodLink RX2 135 yX2_moveHead, Cond.instanceMethod yX2_moveHead, Cond.selects RX2 yX2_moveHead yX2_moveHead, Cond.code yX2_moveHead cX2_moveHead 7 (some .int), Cond.methodLink RL 58 yX3_run, Cond.instanceMethod yX3_run, Cond.selects RX3 yX3_run yX3_run, Cond.code yX3_run cX3_run 5 (some .int), Cond.fieldLink RX3 96 "FourTrackDeckModel" "tripStatus" "I", Cond.methodLink RX3 99 yX3_act, Cond.instanceMethod yX3_act, Cond.selects RX3 yX3_act yX3_act, Cond.code yX3_act cX3_act 4 (some .int), Cond.methodLink RL 59 yX2_dub]
def wsL_law_r12 : List Cond := [Cond.instanceMethod yX2_dub, Cond.selects RX2 yX2_dub yX2_dub, Cond.code yX2_dub cX2_dub 11 (some .int), Cond.methodLink RX2 110 yX2_firstFault, Cond.static yX2_firstFault, Cond.code yX2_firstFault cX2_firstFault 2 (some .int), Cond.methodLink RL 63 yX3_dub, Cond.instanceMethod yX3_dub, Cond.selects RX3 yX3_dub yX3_dub, Cond.code yX3_dub cX3_dub 9 (some .int), Cond.methodLink RL 64 yX2_turn, Cond.instanceMethod yX2_turn, Cond.selects RX2 yX2_turn yX2_turn, Cond.code yX2_turn cX2_turn 9 (some .int), Cond.instanceMethod yX1_exchange, Cond.selects RX1 yX1_exchange yX1_exchange, Cond.code yX1_exchange cX1_exchange 4 none, Cond.methodLink RX1 36 yX1_numberAt, Cond.methodLink RX1 39 yX1_put, Cond.methodLink RL 67 yX3_turn, Cond.instanceMethod yX3_turn, Cond.selects RX3 yX3_turn yX3_turn, Cond.code yX3_turn cX3_turn 9 (some .int), Cond.methodLink RL 68 yX2_scan]
def wsL_law_r13 : List Cond := [Cond.instanceMethod yX2_scan, Cond.selects RX2 yX2_scan yX2_scan, Cond.code yX2_scan cX2_scan 7 (some .int), Cond.methodLink RL 71 yX3_scan, Cond.instanceMethod yX3_scan, Cond.selects RX3 yX3_scan yX3_scan, Cond.code yX3_scan cX3_scan 6 (some .int), Cond.methodLink RL 72 yX2_sheet, Cond.instanceMethod yX2_sheet, Cond.selects RX2 yX2_sheet yX2_sheet, Cond.code yX2_sheet cX2_sheet 3 (some .int), Cond.methodLink RX2 116 yJ7_fill_53178, Cond.methodLink RL 75 yX3_sheet, Cond.instanceMethod yX3_sheet, Cond.selects RX3 yX3_sheet yX3_sheet, Cond.code yX3_sheet cX3_sheet 4 (some .int), Cond.methodLink RL 76 yX2_cue, Cond.instanceMethod yX2_cue, Cond.selects RX2 yX2_cue yX2_cue, Cond.code yX2_cue cX2_cue 7 (some .int), Cond.methodLink RX2 122 yX2_faultOfCell, Cond.instanceMethod yX2_faultOfCell, Cond.selects RX2 yX2_faultOfCell yX2_faultOfCell, Cond.code yX2_faultOfCell cX2_faultOfCell 4 (some .int)]
def wsL_law_r14 : List Cond := [Cond.methodLink RX2 125 yX2_indexOfCell, Cond.static yX2_indexOfCell, Cond.code yX2_indexOfCell cX2_indexOfCell 2 (some .int), Cond.methodLink RL 80 yX3_cue, Cond.instanceMethod yX3_cue, Cond.selects RX3 yX3_cue yX3_cue, Cond.code yX3_cue cX3_cue 6 (some .int), Cond.methodLink RX3 102 yX3_cellFault, Cond.instanceMethod yX3_cellFault, Cond.selects RX3 yX3_cellFault yX3_cellFault, Cond.code yX3_cellFault cX3_cellFault 3 (some .int), Cond.methodLink RL 81 yX2_seek, Cond.instanceMethod yX2_seek, Cond.selects RX2 yX2_seek yX2_seek, Cond.code yX2_seek cX2_seek 4 (some .int), Cond.methodLink RL 84 yX3_seek, Cond.instanceMethod yX3_seek, Cond.selects RX3 yX3_seek yX3_seek, Cond.code yX3_seek cX3_seek 4 (some .int), Cond.methodLink RL 85 yX2_trip, Cond.instanceMethod yX2_trip, Cond.selects RX2 yX2_trip yX2_trip, Cond.code yX2_trip cX2_trip 2 (some .int), Cond.methodLink RL 88 yX3_trip]
def wsL_law_r15 : List Cond := [Cond.instanceMethod yX3_trip, Cond.selects RX3 yX3_trip yX3_trip, Cond.code yX3_trip cX3_trip 2 (some .int), Cond.methodLink RL 89 yX2_meter, Cond.instanceMethod yX2_meter, Cond.selects RX2 yX2_meter yX2_meter, Cond.code yX2_meter cX2_meter 2 (some .int), Cond.methodLink RL 92 yX3_meter, Cond.instanceMethod yX3_meter, Cond.selects RX3 yX3_meter yX3_meter, Cond.code yX3_meter cX3_meter 2 (some .int), Cond.methodLink RL 93 yX2_count, Cond.instanceMethod yX2_count, Cond.selects RX2 yX2_count yX2_count, Cond.code yX2_count cX2_count 2 (some .int), Cond.methodLink RX2 128 yX2_tracksThere, Cond.instanceMethod yX2_tracksThere, Cond.selects RX2 yX2_tracksThere yX2_tracksThere, Cond.code yX2_tracksThere cX2_tracksThere 3 (some .int), Cond.instanceMethod yX0_bitsOfTracks, Cond.selects RX0 yX0_bitsOfTracks yX0_bitsOfTracks, Cond.code yX0_bitsOfTracks cX0_bitsOfTracks 3 (some .int), Cond.methodLink RL 96 yX3_count, Cond.instanceMethod yX3_count]
def wsL_law_r16 : List Cond := [Cond.selects RX3 yX3_count yX3_count, Cond.code yX3_count cX3_count 2 (some .int), Cond.methodLink RL 97 yX2_status, Cond.instanceMethod yX2_status, Cond.selects RX2 yX2_status yX2_status, Cond.code yX2_status cX2_status 1 (some .int), Cond.methodLink RL 101 yX3_status, Cond.instanceMethod yX3_status, Cond.selects RX3 yX3_status yX3_status, Cond.code yX3_status cX3_status 1 (some .int)]
def wsL_law : List Cond := (wsL_law_r1 ++ (wsL_law_r2 ++ (wsL_law_r3 ++ (wsL_law_r4 ++ (wsL_law_r5 ++ (wsL_law_r6 ++ (wsL_law_r7 ++ (wsL_law_r8 ++ (wsL_law_r9 ++ (wsL_law_r10 ++ (wsL_law_r11 ++ (wsL_law_r12 ++ (wsL_law_r13 ++ (wsL_law_r14 ++ (wsL_law_r15 ++ wsL_law_r16))))))))))))))) ++ wsX20 ++ wsX30 ++ wsX00 ++ wsX10 ++ ([] : List Cond)
set_option maxRecDepth 20000 in
theorem wsL_law_in : ∀ w ∈ wsL_law, w ∈ lw_tbl := fun w h => (goodIn_p wsL_law [39, 42, 300, 95, 98, 102, 106, 113, 357, 361, 365, 135, 139, 143, 146, 369, 373, 377, 381, 150, 154, 157, 385, 389, 161, 393, 165, 397, 169, 401, 173, 405, 177, 409, 181, 185, 189, 193, 197, 413, 417, 421, 425, 202, 206, 210, 215, 218, 429, 433, 222, 226, 230, 439, 443, 234, 237, 447, 241, 245, 451, 251, 455, 255, 459, 260, 264, 267, 463, 467, 271, 471, 275, 475, 279, 479, 283, 287, 291, 483, 295, 487] (by decide +kernel) (by decide +kernel) w h).1
theorem inlX0 : ∀ w ∈ wsX00, w ∈ wsL_law := fun _ h => List.mem_append_left _ (List.mem_append_left _ (List.mem_append_right _ h))
theorem inX0 : ∀ w ∈ wsX00, w ∈ lw_tbl := fun w h => wsL_law_in w (inlX0 w h)
theorem inlX1 : ∀ w ∈ wsX10, w ∈ wsL_law := fun _ h => List.mem_append_left _ (List.mem_append_right _ h)
theorem inX1 : ∀ w ∈ wsX10, w ∈ lw_tbl := fun w h => wsL_law_in w (inlX1 w h)
theorem inlX2 : ∀ w ∈ wsX20, w ∈ wsL_law := fun _ h => List.mem_append_left _ (List.mem_append_left _ (List.mem_append_left _ (List.mem_append_left _ (List.mem_append_right _ h))))
theorem inX2 : ∀ w ∈ wsX20, w ∈ lw_tbl := fun w h => wsL_law_in w (inlX2 w h)
theorem inlX3 : ∀ w ∈ wsX30, w ∈ wsL_law := fun _ h => List.mem_append_left _ (List.mem_append_left _ (List.mem_append_left _ (List.mem_append_right _ h)))
theorem inX3 : ∀ w ∈ wsX30, w ∈ lw_tbl := fun w h => wsL_law_in w (inlX3 w h)
theorem inJ9 : ∀ w ∈ wsJ90, w ∈ lw_tbl := by decide +kernel
theorem inJ7 : ∀ w ∈ wsJ70, w ∈ lw_tbl := by decide +kernel
set_option maxRecDepth 20000 in
theorem ggX0_init_X1_init : GoodIn wsX0_init wsX1_init := goodIn_r _ [9, 10, 2, 3, 11, 12, 13, 14, 16, 17, 18] (by decide +kernel) (by decide +kernel)
set_option maxRecDepth 20000 in
theorem gX0_init_X1_init_n17 : GoodIn wsX0_init (wsX1_init) := ggX0_init_X1_init
theorem dX0_init_0 : decode cX0_init 0 = .ok (.aload_n 0, 1) := by decide +kernel
theorem dX0_init_1 : decode cX0_init 1 = .ok (.invokespecial 3, 3) := by decide +kernel
theorem dX0_init_4 : decode cX0_init 4 = .ok (.aload_n 0, 1) := by decide +kernel
theorem dX0_init_5 : decode cX0_init 5 = .ok (.iconst 4, 1) := by decide +kernel
theorem dX0_init_6 : decode cX0_init 6 = .ok (.anewarray 9, 3) := by decide +kernel
theorem dX0_init_9 : decode cX0_init 9 = .ok (.putfield 11, 3) := by decide +kernel
theorem dX0_init_12 : decode cX0_init 12 = .ok (.iconst 0, 1) := by decide +kernel
theorem dX0_init_13 : decode cX0_init 13 = .ok (.istore_n 3, 1) := by decide +kernel
theorem dX0_init_14 : decode cX0_init 14 = .ok (.iload_n 3, 1) := by decide +kernel
theorem dX0_init_15 : decode cX0_init 15 = .ok (.iconst 4, 1) := by decide +kernel
theorem dX0_init_16 : decode cX0_init 16 = .ok (.if_icmp .ge 38, 3) := by decide +kernel
theorem dX0_init_19 : decode cX0_init 19 = .ok (.aload_n 0, 1) := by decide +kernel
theorem dX0_init_20 : decode cX0_init 20 = .ok (.getfield 11, 3) := by decide +kernel
theorem dX0_init_23 : decode cX0_init 23 = .ok (.iload_n 3, 1) := by decide +kernel
theorem dX0_init_24 : decode cX0_init 24 = .ok (.new 9, 3) := by decide +kernel
theorem dX0_init_27 : decode cX0_init 27 = .ok (.dup, 1) := by decide +kernel
theorem dX0_init_28 : decode cX0_init 28 = .ok (.iload_n 3, 1) := by decide +kernel
theorem dX0_init_29 : decode cX0_init 29 = .ok (.iload_n 1, 1) := by decide +kernel
theorem dX0_init_30 : decode cX0_init 30 = .ok (.iload_n 2, 1) := by decide +kernel
theorem dX0_init_31 : decode cX0_init 31 = .ok (.iload_n 3, 1) := by decide +kernel
theorem dX0_init_32 : decode cX0_init 32 = .ok (.ishr, 1) := by decide +kernel
theorem dX0_init_33 : decode cX0_init 33 = .ok (.iconst 1, 1) := by decide +kernel
theorem dX0_init_34 : decode cX0_init 34 = .ok (.iand, 1) := by decide +kernel
theorem dX0_init_35 : decode cX0_init 35 = .ok (.iconst 1, 1) := by decide +kernel
theorem dX0_init_36 : decode cX0_init 36 = .ok (.if_icmp .ne 7, 3) := by decide +kernel
theorem dX0_init_39 : decode cX0_init 39 = .ok (.iconst 1, 1) := by decide +kernel
theorem dX0_init_40 : decode cX0_init 40 = .ok (.goto 4, 3) := by decide +kernel
theorem dX0_init_43 : decode cX0_init 43 = .ok (.iconst 0, 1) := by decide +kernel
theorem dX0_init_44 : decode cX0_init 44 = .ok (.invokespecial 17, 3) := by decide +kernel
theorem dX0_init_47 : decode cX0_init 47 = .ok (.aastore, 1) := by decide +kernel
theorem dX0_init_48 : decode cX0_init 48 = .ok (.iinc 3 1, 3) := by decide +kernel
theorem dX0_init_51 : decode cX0_init 51 = .ok (.goto (-37), 3) := by decide +kernel
theorem dX0_init_54 : decode cX0_init 54 = .ok (.return_, 1) := by decide +kernel
theorem dX0_bitsOfTracks_0 : decode cX0_bitsOfTracks 0 = .ok (.iconst 0, 1) := by decide +kernel
theorem dX0_bitsOfTracks_1 : decode cX0_bitsOfTracks 1 = .ok (.istore_n 1, 1) := by decide +kernel
theorem dX0_bitsOfTracks_2 : decode cX0_bitsOfTracks 2 = .ok (.iconst 0, 1) := by decide +kernel
theorem dX0_bitsOfTracks_3 : decode cX0_bitsOfTracks 3 = .ok (.istore_n 2, 1) := by decide +kernel
theorem dX0_bitsOfTracks_4 : decode cX0_bitsOfTracks 4 = .ok (.iload_n 2, 1) := by decide +kernel
theorem dX0_bitsOfTracks_5 : decode cX0_bitsOfTracks 5 = .ok (.iconst 4, 1) := by decide +kernel
theorem dX0_bitsOfTracks_6 : decode cX0_bitsOfTracks 6 = .ok (.if_icmp .ge 27, 3) := by decide +kernel
theorem dX0_bitsOfTracks_9 : decode cX0_bitsOfTracks 9 = .ok (.aload_n 0, 1) := by decide +kernel
theorem dX0_bitsOfTracks_10 : decode cX0_bitsOfTracks 10 = .ok (.getfield 11, 3) := by decide +kernel
theorem dX0_bitsOfTracks_13 : decode cX0_bitsOfTracks 13 = .ok (.iload_n 2, 1) := by decide +kernel
theorem dX0_bitsOfTracks_14 : decode cX0_bitsOfTracks 14 = .ok (.aaload, 1) := by decide +kernel
theorem dX0_bitsOfTracks_15 : decode cX0_bitsOfTracks 15 = .ok (.getfield 20, 3) := by decide +kernel
theorem dX0_bitsOfTracks_18 : decode cX0_bitsOfTracks 18 = .ok (.ifCond .eq 9, 3) := by decide +kernel
theorem dX0_bitsOfTracks_21 : decode cX0_bitsOfTracks 21 = .ok (.iload_n 1, 1) := by decide +kernel
theorem dX0_bitsOfTracks_22 : decode cX0_bitsOfTracks 22 = .ok (.iconst 1, 1) := by decide +kernel
theorem dX0_bitsOfTracks_23 : decode cX0_bitsOfTracks 23 = .ok (.iload_n 2, 1) := by decide +kernel
theorem dX0_bitsOfTracks_24 : decode cX0_bitsOfTracks 24 = .ok (.ishl, 1) := by decide +kernel
theorem dX0_bitsOfTracks_25 : decode cX0_bitsOfTracks 25 = .ok (.ior, 1) := by decide +kernel
theorem dX0_bitsOfTracks_26 : decode cX0_bitsOfTracks 26 = .ok (.istore_n 1, 1) := by decide +kernel
theorem dX0_bitsOfTracks_27 : decode cX0_bitsOfTracks 27 = .ok (.iinc 2 1, 3) := by decide +kernel
theorem dX0_bitsOfTracks_30 : decode cX0_bitsOfTracks 30 = .ok (.goto (-26), 3) := by decide +kernel
theorem dX0_bitsOfTracks_33 : decode cX0_bitsOfTracks 33 = .ok (.iload_n 1, 1) := by decide +kernel
theorem dX0_bitsOfTracks_34 : decode cX0_bitsOfTracks 34 = .ok (.ireturn, 1) := by decide +kernel
theorem dX1_init_0 : decode cX1_init 0 = .ok (.aload_n 0, 1) := by decide +kernel
theorem dX1_init_1 : decode cX1_init 1 = .ok (.invokespecial 3, 3) := by decide +kernel
theorem dX1_init_4 : decode cX1_init 4 = .ok (.aload_n 0, 1) := by decide +kernel
theorem dX1_init_5 : decode cX1_init 5 = .ok (.iload_n 1, 1) := by decide +kernel
theorem dX1_init_6 : decode cX1_init 6 = .ok (.putfield 9, 3) := by decide +kernel
theorem dX1_init_9 : decode cX1_init 9 = .ok (.aload_n 0, 1) := by decide +kernel
theorem dX1_init_10 : decode cX1_init 10 = .ok (.iload_n 2, 1) := by decide +kernel
theorem dX1_init_11 : decode cX1_init 11 = .ok (.newarray .int, 2) := by decide +kernel
theorem dX1_init_13 : decode cX1_init 13 = .ok (.putfield 15, 3) := by decide +kernel
theorem dX1_init_16 : decode cX1_init 16 = .ok (.aload_n 0, 1) := by decide +kernel
theorem dX1_init_17 : decode cX1_init 17 = .ok (.iload_n 3, 1) := by decide +kernel
theorem dX1_init_18 : decode cX1_init 18 = .ok (.putfield 19, 3) := by decide +kernel
theorem dX1_init_21 : decode cX1_init 21 = .ok (.return_, 1) := by decide +kernel
set_option maxRecDepth 20000 in
theorem ggX1_wipe_J7_fill_53178 : GoodIn wsX1_wipe wsJ7_fill_53178 := goodIn_r _ [5] (by decide +kernel) (by decide +kernel)
set_option maxRecDepth 20000 in
theorem gX1_wipe_J7_fill_53178 : GoodIn wsX1_wipe (va_wsS RX1 23 yJ7_fill_53178 wsJ7_fill_53178) := goodIn_app (goodIn_of _ (by decide +kernel)) ggX1_wipe_J7_fill_53178
theorem dX1_wipe_0 : decode cX1_wipe 0 = .ok (.aload_n 0, 1) := by decide +kernel
theorem dX1_wipe_1 : decode cX1_wipe 1 = .ok (.getfield 15, 3) := by decide +kernel
theorem dX1_wipe_4 : decode cX1_wipe 4 = .ok (.iconst 0, 1) := by decide +kernel
theorem dX1_wipe_5 : decode cX1_wipe 5 = .ok (.invokestatic 23, 3) := by decide +kernel
theorem dX1_wipe_8 : decode cX1_wipe 8 = .ok (.return_, 1) := by decide +kernel
theorem dX1_faultAt_0 : decode cX1_faultAt 0 = .ok (.aload_n 0, 1) := by decide +kernel
theorem dX1_faultAt_1 : decode cX1_faultAt 1 = .ok (.getfield 19, 3) := by decide +kernel
theorem dX1_faultAt_4 : decode cX1_faultAt 4 = .ok (.ifCond .ne 5, 3) := by decide +kernel
theorem dX1_faultAt_7 : decode cX1_faultAt 7 = .ok (.iconst 2, 1) := by decide +kernel
theorem dX1_faultAt_8 : decode cX1_faultAt 8 = .ok (.ireturn, 1) := by decide +kernel
theorem dX1_faultAt_9 : decode cX1_faultAt 9 = .ok (.iload_n 1, 1) := by decide +kernel
theorem dX1_faultAt_10 : decode cX1_faultAt 10 = .ok (.ifCond .lt 16, 3) := by decide +kernel
theorem dX1_faultAt_13 : decode cX1_faultAt 13 = .ok (.iload_n 1, 1) := by decide +kernel
theorem dX1_faultAt_14 : decode cX1_faultAt 14 = .ok (.aload_n 0, 1) := by decide +kernel
theorem dX1_faultAt_15 : decode cX1_faultAt 15 = .ok (.getfield 15, 3) := by decide +kernel
theorem dX1_faultAt_18 : decode cX1_faultAt 18 = .ok (.arraylength, 1) := by decide +kernel
theorem dX1_faultAt_19 : decode cX1_faultAt 19 = .ok (.if_icmp .ge 7, 3) := by decide +kernel
theorem dX1_faultAt_22 : decode cX1_faultAt 22 = .ok (.iconst 0, 1) := by decide +kernel
theorem dX1_faultAt_23 : decode cX1_faultAt 23 = .ok (.goto 4, 3) := by decide +kernel
theorem dX1_faultAt_26 : decode cX1_faultAt 26 = .ok (.iconst 3, 1) := by decide +kernel
theorem dX1_faultAt_27 : decode cX1_faultAt 27 = .ok (.ireturn, 1) := by decide +kernel
set_option maxRecDepth 20000 in
theorem ggX1_numberAt_X1_faultAt : GoodIn wsX1_numberAt wsX1_faultAt := goodIn_r _ [6, 7, 1, 8, 9, 10] (by decide +kernel) (by decide +kernel)
set_option maxRecDepth 20000 in
theorem gX1_numberAt_X1_faultAt : GoodIn wsX1_numberAt (wsV RX1 29 RX1 yX1_faultAt wsX1_faultAt) := goodIn_app (goodIn_of _ (by decide +kernel)) ggX1_numberAt_X1_faultAt
theorem dX1_numberAt_0 : decode cX1_numberAt 0 = .ok (.aload_n 0, 1) := by decide +kernel
theorem dX1_numberAt_1 : decode cX1_numberAt 1 = .ok (.iload_n 1, 1) := by decide +kernel
theorem dX1_numberAt_2 : decode cX1_numberAt 2 = .ok (.invokevirtual 29, 3) := by decide +kernel
theorem dX1_numberAt_5 : decode cX1_numberAt 5 = .ok (.ifCond .ne 12, 3) := by decide +kernel
theorem dX1_numberAt_8 : decode cX1_numberAt 8 = .ok (.aload_n 0, 1) := by decide +kernel
theorem dX1_numberAt_9 : decode cX1_numberAt 9 = .ok (.getfield 15, 3) := by decide +kernel
theorem dX1_numberAt_12 : decode cX1_numberAt 12 = .ok (.iload_n 1, 1) := by decide +kernel
theorem dX1_numberAt_13 : decode cX1_numberAt 13 = .ok (.iaload, 1) := by decide +kernel
theorem dX1_numberAt_14 : decode cX1_numberAt 14 = .ok (.goto 4, 3) := by decide +kernel
theorem dX1_numberAt_17 : decode cX1_numberAt 17 = .ok (.iconst 0, 1) := by decide +kernel
theorem dX1_numberAt_18 : decode cX1_numberAt 18 = .ok (.ireturn, 1) := by decide +kernel
set_option maxRecDepth 20000 in
theorem ggX1_put_X1_faultAt : GoodIn wsX1_put wsX1_faultAt := goodIn_r _ [6, 7, 1, 22, 23, 24] (by decide +kernel) (by decide +kernel)
set_option maxRecDepth 20000 in
theorem gX1_put_X1_faultAt : GoodIn wsX1_put (wsV RX1 29 RX1 yX1_faultAt wsX1_faultAt) := goodIn_app (goodIn_of _ (by decide +kernel)) ggX1_put_X1_faultAt
set_option maxRecDepth 20000 in
theorem ggX1_put_X1_asTrackHasIt : GoodIn wsX1_put wsX1_asTrackHasIt := goodIn_r _ [11, 12, 13, 14, 15, 16, 17, 18, 19, 20, 21, 22, 23, 24] (by decide +kernel) (by decide +kernel)
set_option maxRecDepth 20000 in
theorem gX1_put_X1_asTrackHasIt : GoodIn wsX1_put (wsV RX1 33 RX1 yX1_asTrackHasIt wsX1_asTrackHasIt) := goodIn_app (goodIn_of _ (by decide +kernel)) ggX1_put_X1_asTrackHasIt
theorem dX1_put_0 : decode cX1_put 0 = .ok (.aload_n 0, 1) := by decide +kernel
theorem dX1_put_1 : decode cX1_put 1 = .ok (.iload_n 1, 1) := by decide +kernel
theorem dX1_put_2 : decode cX1_put 2 = .ok (.invokevirtual 29, 3) := by decide +kernel
theorem dX1_put_5 : decode cX1_put 5 = .ok (.ifCond .ne 14, 3) := by decide +kernel
theorem dX1_put_8 : decode cX1_put 8 = .ok (.aload_n 0, 1) := by decide +kernel
theorem dX1_put_9 : decode cX1_put 9 = .ok (.getfield 15, 3) := by decide +kernel
theorem dX1_put_12 : decode cX1_put 12 = .ok (.iload_n 1, 1) := by decide +kernel
theorem dX1_put_13 : decode cX1_put 13 = .ok (.aload_n 0, 1) := by decide +kernel
theorem dX1_put_14 : decode cX1_put 14 = .ok (.iload_n 2, 1) := by decide +kernel
theorem dX1_put_15 : decode cX1_put 15 = .ok (.invokevirtual 33, 3) := by decide +kernel
theorem dX1_put_18 : decode cX1_put 18 = .ok (.iastore, 1) := by decide +kernel
theorem dX1_put_19 : decode cX1_put 19 = .ok (.return_, 1) := by decide +kernel
set_option maxRecDepth 20000 in
theorem ggX1_exchange_X1_numberAt : GoodIn wsX1_exchange wsX1_numberAt := goodIn_r _ [5, 6, 7, 8, 9, 4, 10, 11, 30, 31, 32] (by decide +kernel) (by decide +kernel)
set_option maxRecDepth 20000 in
theorem gX1_exchange_X1_numberAt : GoodIn wsX1_exchange (wsV RX1 36 RX1 yX1_numberAt wsX1_numberAt) := goodIn_app (goodIn_of _ (by decide +kernel)) ggX1_exchange_X1_numberAt
set_option maxRecDepth 20000 in
theorem ggX1_exchange_X1_put : GoodIn wsX1_exchange wsX1_put := goodIn_r _ [15, 6, 7, 8, 9, 4, 10, 11, 16, 17, 18, 19, 20, 21, 22, 23, 24, 25, 26, 27, 28, 29, 30, 31, 32] (by decide +kernel) (by decide +kernel)
set_option maxRecDepth 20000 in
theorem gX1_exchange_X1_put : GoodIn wsX1_exchange (wsV RX1 39 RX1 yX1_put wsX1_put) := goodIn_app (goodIn_of _ (by decide +kernel)) ggX1_exchange_X1_put
theorem dX1_exchange_0 : decode cX1_exchange 0 = .ok (.aload_n 0, 1) := by decide +kernel
theorem dX1_exchange_1 : decode cX1_exchange 1 = .ok (.iload_n 1, 1) := by decide +kernel
theorem dX1_exchange_2 : decode cX1_exchange 2 = .ok (.invokevirtual 36, 3) := by decide +kernel
theorem dX1_exchange_5 : decode cX1_exchange 5 = .ok (.istore_n 3, 1) := by decide +kernel
theorem dX1_exchange_6 : decode cX1_exchange 6 = .ok (.aload_n 0, 1) := by decide +kernel
theorem dX1_exchange_7 : decode cX1_exchange 7 = .ok (.iload_n 1, 1) := by decide +kernel
theorem dX1_exchange_8 : decode cX1_exchange 8 = .ok (.aload_n 0, 1) := by decide +kernel
theorem dX1_exchange_9 : decode cX1_exchange 9 = .ok (.iload_n 2, 1) := by decide +kernel
theorem dX1_exchange_10 : decode cX1_exchange 10 = .ok (.invokevirtual 36, 3) := by decide +kernel
theorem dX1_exchange_13 : decode cX1_exchange 13 = .ok (.invokevirtual 39, 3) := by decide +kernel
theorem dX1_exchange_16 : decode cX1_exchange 16 = .ok (.aload_n 0, 1) := by decide +kernel
theorem dX1_exchange_17 : decode cX1_exchange 17 = .ok (.iload_n 2, 1) := by decide +kernel
theorem dX1_exchange_18 : decode cX1_exchange 18 = .ok (.iload_n 3, 1) := by decide +kernel
theorem dX1_exchange_19 : decode cX1_exchange 19 = .ok (.invokevirtual 39, 3) := by decide +kernel
theorem dX1_exchange_22 : decode cX1_exchange 22 = .ok (.return_, 1) := by decide +kernel
theorem dX1_asTrackHasIt_0 : decode cX1_asTrackHasIt 0 = .ok (.aload_n 0, 1) := by decide +kernel
theorem dX1_asTrackHasIt_1 : decode cX1_asTrackHasIt 1 = .ok (.getfield 9, 3) := by decide +kernel
theorem dX1_asTrackHasIt_4 : decode cX1_asTrackHasIt 4 = .ok (.tableswitch 49 0 2 #[28, 33, 36], 28) := by decide +kernel
theorem dX1_asTrackHasIt_32 : decode cX1_asTrackHasIt 32 = .ok (.iload_n 1, 1) := by decide +kernel
theorem dX1_asTrackHasIt_33 : decode cX1_asTrackHasIt 33 = .ok (.ldc 43, 2) := by decide +kernel
theorem dX1_asTrackHasIt_35 : decode cX1_asTrackHasIt 35 = .ok (.iand, 1) := by decide +kernel
theorem dX1_asTrackHasIt_36 : decode cX1_asTrackHasIt 36 = .ok (.ireturn, 1) := by decide +kernel
theorem dX1_asTrackHasIt_37 : decode cX1_asTrackHasIt 37 = .ok (.iload_n 1, 1) := by decide +kernel
theorem dX1_asTrackHasIt_38 : decode cX1_asTrackHasIt 38 = .ok (.i2s, 1) := by decide +kernel
theorem dX1_asTrackHasIt_39 : decode cX1_asTrackHasIt 39 = .ok (.ireturn, 1) := by decide +kernel
theorem dX1_asTrackHasIt_40 : decode cX1_asTrackHasIt 40 = .ok (.sipush (-32768), 3) := by decide +kernel
theorem dX1_asTrackHasIt_43 : decode cX1_asTrackHasIt 43 = .ok (.ldc 44, 2) := by decide +kernel
theorem dX1_asTrackHasIt_45 : decode cX1_asTrackHasIt 45 = .ok (.iload_n 1, 1) := by decide +kernel
theorem dX1_asTrackHasIt_46 : decode cX1_asTrackHasIt 46 = .ok (.invokestatic 45, 3) := by decide +kernel
theorem dX1_asTrackHasIt_49 : decode cX1_asTrackHasIt 49 = .ok (.invokestatic 51, 3) := by decide +kernel
theorem dX1_asTrackHasIt_52 : decode cX1_asTrackHasIt 52 = .ok (.ireturn, 1) := by decide +kernel
theorem dX1_asTrackHasIt_53 : decode cX1_asTrackHasIt 53 = .ok (.iload_n 1, 1) := by decide +kernel
theorem dX1_asTrackHasIt_54 : decode cX1_asTrackHasIt 54 = .ok (.iconst 1, 1) := by decide +kernel
theorem dX1_asTrackHasIt_55 : decode cX1_asTrackHasIt 55 = .ok (.iand, 1) := by decide +kernel
theorem dX1_asTrackHasIt_56 : decode cX1_asTrackHasIt 56 = .ok (.ireturn, 1) := by decide +kernel
theorem dX2_init_0 : decode cX2_init 0 = .ok (.aload_n 0, 1) := by decide +kernel
theorem dX2_init_1 : decode cX2_init 1 = .ok (.invokespecial 1, 3) := by decide +kernel
theorem dX2_init_4 : decode cX2_init 4 = .ok (.aload_n 0, 1) := by decide +kernel
theorem dX2_init_5 : decode cX2_init 5 = .ok (.bipush 8, 2) := by decide +kernel
theorem dX2_init_7 : decode cX2_init 7 = .ok (.anewarray 9, 3) := by decide +kernel
theorem dX2_init_10 : decode cX2_init 10 = .ok (.putfield 11, 3) := by decide +kernel
theorem dX2_init_13 : decode cX2_init 13 = .ok (.aload_n 0, 1) := by decide +kernel
theorem dX2_init_14 : decode cX2_init 14 = .ok (.iconst 0, 1) := by decide +kernel
theorem dX2_init_15 : decode cX2_init 15 = .ok (.putfield 15, 3) := by decide +kernel
theorem dX2_init_18 : decode cX2_init 18 = .ok (.aload_n 0, 1) := by decide +kernel
theorem dX2_init_19 : decode cX2_init 19 = .ok (.iconst (-1), 1) := by decide +kernel
theorem dX2_init_20 : decode cX2_init 20 = .ok (.putfield 19, 3) := by decide +kernel
theorem dX2_init_23 : decode cX2_init 23 = .ok (.aload_n 0, 1) := by decide +kernel
theorem dX2_init_24 : decode cX2_init 24 = .ok (.iconst 0, 1) := by decide +kernel
theorem dX2_init_25 : decode cX2_init 25 = .ok (.putfield 22, 3) := by decide +kernel
theorem dX2_init_28 : decode cX2_init 28 = .ok (.aload_n 0, 1) := by decide +kernel
theorem dX2_init_29 : decode cX2_init 29 = .ok (.iconst 4, 1) := by decide +kernel
theorem dX2_init_30 : decode cX2_init 30 = .ok (.newarray .int, 2) := by decide +kernel
theorem dX2_init_32 : decode cX2_init 32 = .ok (.putfield 25, 3) := by decide +kernel
theorem dX2_init_35 : decode cX2_init 35 = .ok (.aload_n 0, 1) := by decide +kernel
theorem dX2_init_36 : decode cX2_init 36 = .ok (.iconst 4, 1) := by decide +kernel
theorem dX2_init_37 : decode cX2_init 37 = .ok (.newarray .int, 2) := by decide +kernel
theorem dX2_init_39 : decode cX2_init 39 = .ok (.putfield 29, 3) := by decide +kernel
theorem dX2_init_42 : decode cX2_init 42 = .ok (.aload_n 0, 1) := by decide +kernel
theorem dX2_init_43 : decode cX2_init 43 = .ok (.iconst 4, 1) := by decide +kernel
theorem dX2_init_44 : decode cX2_init 44 = .ok (.newarray .int, 2) := by decide +kernel
theorem dX2_init_46 : decode cX2_init 46 = .ok (.putfield 32, 3) := by decide +kernel
theorem dX2_init_49 : decode cX2_init 49 = .ok (.aload_n 0, 1) := by decide +kernel
theorem dX2_init_50 : decode cX2_init 50 = .ok (.iconst 0, 1) := by decide +kernel
theorem dX2_init_51 : decode cX2_init 51 = .ok (.putfield 35, 3) := by decide +kernel
theorem dX2_init_54 : decode cX2_init 54 = .ok (.aload_n 0, 1) := by decide +kernel
theorem dX2_init_55 : decode cX2_init 55 = .ok (.iconst 0, 1) := by decide +kernel
theorem dX2_init_56 : decode cX2_init 56 = .ok (.putfield 38, 3) := by decide +kernel
theorem dX2_init_59 : decode cX2_init 59 = .ok (.aload_n 0, 1) := by decide +kernel
theorem dX2_init_60 : decode cX2_init 60 = .ok (.sipush 256, 3) := by decide +kernel
theorem dX2_init_63 : decode cX2_init 63 = .ok (.newarray .int, 2) := by decide +kernel
theorem dX2_init_65 : decode cX2_init 65 = .ok (.putfield 41, 3) := by decide +kernel
theorem dX2_init_68 : decode cX2_init 68 = .ok (.aload_n 0, 1) := by decide +kernel
theorem dX2_init_69 : decode cX2_init 69 = .ok (.iconst (-1), 1) := by decide +kernel
theorem dX2_init_70 : decode cX2_init 70 = .ok (.putfield 44, 3) := by decide +kernel
theorem dX2_init_73 : decode cX2_init 73 = .ok (.aload_n 0, 1) := by decide +kernel
theorem dX2_init_74 : decode cX2_init 74 = .ok (.iconst (-1), 1) := by decide +kernel
theorem dX2_init_75 : decode cX2_init 75 = .ok (.putfield 47, 3) := by decide +kernel
theorem dX2_init_78 : decode cX2_init 78 = .ok (.aload_n 0, 1) := by decide +kernel
theorem dX2_init_79 : decode cX2_init 79 = .ok (.iconst (-1), 1) := by decide +kernel
theorem dX2_init_80 : decode cX2_init 80 = .ok (.putfield 50, 3) := by decide +kernel
theorem dX2_init_83 : decode cX2_init 83 = .ok (.aload_n 0, 1) := by decide +kernel
theorem dX2_init_84 : decode cX2_init 84 = .ok (.iconst 0, 1) := by decide +kernel
theorem dX2_init_85 : decode cX2_init 85 = .ok (.putfield 53, 3) := by decide +kernel
theorem dX2_init_88 : decode cX2_init 88 = .ok (.aload_n 0, 1) := by decide +kernel
theorem dX2_init_89 : decode cX2_init 89 = .ok (.iconst 0, 1) := by decide +kernel
theorem dX2_init_90 : decode cX2_init 90 = .ok (.putfield 56, 3) := by decide +kernel
theorem dX2_init_93 : decode cX2_init 93 = .ok (.return_, 1) := by decide +kernel
set_option maxRecDepth 20000 in
theorem ggX2_reel_X2_isWithin : GoodIn wsX2_reel wsX2_isWithin := goodIn_r _ [9] (by decide +kernel) (by decide +kernel)
set_option maxRecDepth 20000 in
theorem gX2_reel_X2_isWithin : GoodIn wsX2_reel (va_wsS RX2 59 yX2_isWithin wsX2_isWithin) := goodIn_app (goodIn_of _ (by decide +kernel)) ggX2_reel_X2_isWithin
set_option maxRecDepth 20000 in
theorem ggX2_reel_X2_end : GoodIn wsX2_reel wsX2_end := goodIn_r _ [13, 14, 31, 32, 33, 34, 35, 36, 37, 38, 39, 40, 41, 42, 43, 44, 45] (by decide +kernel) (by decide +kernel)
set_option maxRecDepth 20000 in
theorem gX2_reel_X2_end : GoodIn wsX2_reel (wsV RX2 63 RX2 yX2_end wsX2_end) := goodIn_app (goodIn_of _ (by decide +kernel)) ggX2_reel_X2_end
set_option maxRecDepth 20000 in
theorem ggX2_reel_X0_init : GoodIn wsX2_reel wsX0_init := goodIn_r _ [16, 17, 18, 19, 20, 21, 22, 23, 24, 25, 26, 27, 28, 29, 30, 46, 47, 48, 49] (by decide +kernel) (by decide +kernel)
set_option maxRecDepth 20000 in
theorem gX2_reel_X0_init_n67 : GoodIn wsX2_reel (wsX0_init) := ggX2_reel_X0_init
theorem dX2_reel_0 : decode cX2_reel 0 = .ok (.iload_n 1, 1) := by decide +kernel
theorem dX2_reel_1 : decode cX2_reel 1 = .ok (.iconst 1, 1) := by decide +kernel
theorem dX2_reel_2 : decode cX2_reel 2 = .ok (.bipush 64, 2) := by decide +kernel
theorem dX2_reel_4 : decode cX2_reel 4 = .ok (.invokestatic 59, 3) := by decide +kernel
theorem dX2_reel_7 : decode cX2_reel 7 = .ok (.ifCond .eq 13, 3) := by decide +kernel
theorem dX2_reel_10 : decode cX2_reel 10 = .ok (.iload_n 2, 1) := by decide +kernel
theorem dX2_reel_11 : decode cX2_reel 11 = .ok (.iconst 0, 1) := by decide +kernel
theorem dX2_reel_12 : decode cX2_reel 12 = .ok (.bipush 15, 2) := by decide +kernel
theorem dX2_reel_14 : decode cX2_reel 14 = .ok (.invokestatic 59, 3) := by decide +kernel
theorem dX2_reel_17 : decode cX2_reel 17 = .ok (.ifCond .ne 10, 3) := by decide +kernel
theorem dX2_reel_20 : decode cX2_reel 20 = .ok (.aload_n 0, 1) := by decide +kernel
theorem dX2_reel_21 : decode cX2_reel 21 = .ok (.iconst 1, 1) := by decide +kernel
theorem dX2_reel_22 : decode cX2_reel 22 = .ok (.iconst (-1), 1) := by decide +kernel
theorem dX2_reel_23 : decode cX2_reel 23 = .ok (.invokevirtual 63, 3) := by decide +kernel
theorem dX2_reel_26 : decode cX2_reel 26 = .ok (.ireturn, 1) := by decide +kernel
theorem dX2_reel_27 : decode cX2_reel 27 = .ok (.aload_n 0, 1) := by decide +kernel
theorem dX2_reel_28 : decode cX2_reel 28 = .ok (.getfield 15, 3) := by decide +kernel
theorem dX2_reel_31 : decode cX2_reel 31 = .ok (.aload_n 0, 1) := by decide +kernel
theorem dX2_reel_32 : decode cX2_reel 32 = .ok (.getfield 11, 3) := by decide +kernel
theorem dX2_reel_35 : decode cX2_reel 35 = .ok (.arraylength, 1) := by decide +kernel
theorem dX2_reel_36 : decode cX2_reel 36 = .ok (.if_icmp .lt 10, 3) := by decide +kernel
theorem dX2_reel_39 : decode cX2_reel 39 = .ok (.aload_n 0, 1) := by decide +kernel
theorem dX2_reel_40 : decode cX2_reel 40 = .ok (.iconst 5, 1) := by decide +kernel
theorem dX2_reel_41 : decode cX2_reel 41 = .ok (.iconst (-1), 1) := by decide +kernel
theorem dX2_reel_42 : decode cX2_reel 42 = .ok (.invokevirtual 63, 3) := by decide +kernel
theorem dX2_reel_45 : decode cX2_reel 45 = .ok (.ireturn, 1) := by decide +kernel
theorem dX2_reel_46 : decode cX2_reel 46 = .ok (.aload_n 0, 1) := by decide +kernel
theorem dX2_reel_47 : decode cX2_reel 47 = .ok (.getfield 15, 3) := by decide +kernel
theorem dX2_reel_50 : decode cX2_reel 50 = .ok (.istore_n 3, 1) := by decide +kernel
theorem dX2_reel_51 : decode cX2_reel 51 = .ok (.aload_n 0, 1) := by decide +kernel
theorem dX2_reel_52 : decode cX2_reel 52 = .ok (.getfield 11, 3) := by decide +kernel
theorem dX2_reel_55 : decode cX2_reel 55 = .ok (.iload_n 3, 1) := by decide +kernel
theorem dX2_reel_56 : decode cX2_reel 56 = .ok (.new 9, 3) := by decide +kernel
theorem dX2_reel_59 : decode cX2_reel 59 = .ok (.dup, 1) := by decide +kernel
theorem dX2_reel_60 : decode cX2_reel 60 = .ok (.iload_n 1, 1) := by decide +kernel
theorem dX2_reel_61 : decode cX2_reel 61 = .ok (.iload_n 2, 1) := by decide +kernel
theorem dX2_reel_62 : decode cX2_reel 62 = .ok (.invokespecial 67, 3) := by decide +kernel
theorem dX2_reel_65 : decode cX2_reel 65 = .ok (.aastore, 1) := by decide +kernel
theorem dX2_reel_66 : decode cX2_reel 66 = .ok (.aload_n 0, 1) := by decide +kernel
theorem dX2_reel_67 : decode cX2_reel 67 = .ok (.iload_n 3, 1) := by decide +kernel
theorem dX2_reel_68 : decode cX2_reel 68 = .ok (.iconst 1, 1) := by decide +kernel
theorem dX2_reel_69 : decode cX2_reel 69 = .ok (.iadd, 1) := by decide +kernel
theorem dX2_reel_70 : decode cX2_reel 70 = .ok (.putfield 15, 3) := by decide +kernel
theorem dX2_reel_73 : decode cX2_reel 73 = .ok (.aload_n 0, 1) := by decide +kernel
theorem dX2_reel_74 : decode cX2_reel 74 = .ok (.iconst 0, 1) := by decide +kernel
theorem dX2_reel_75 : decode cX2_reel 75 = .ok (.iload_n 3, 1) := by decide +kernel
theorem dX2_reel_76 : decode cX2_reel 76 = .ok (.invokevirtual 63, 3) := by decide +kernel
theorem dX2_reel_79 : decode cX2_reel 79 = .ok (.ireturn, 1) := by decide +kernel
set_option maxRecDepth 20000 in
theorem ggX2_strip_X2_trackOf : GoodIn wsX2_strip wsX2_trackOf := goodIn_r _ [5, 6, 7, 8, 4, 9, 10, 11, 12, 13, 14, 15, 16, 25, 26, 27, 28, 29, 30, 31, 32, 33, 34, 35, 36, 37, 38, 39, 40] (by decide +kernel) (by decide +kernel)
set_option maxRecDepth 20000 in
theorem gX2_strip_X2_trackOf : GoodIn wsX2_strip (wsV RX2 70 RX2 yX2_trackOf wsX2_trackOf) := goodIn_app (goodIn_of _ (by decide +kernel)) ggX2_strip_X2_trackOf
set_option maxRecDepth 20000 in
theorem ggX2_strip_X2_end : GoodIn wsX2_strip wsX2_end := goodIn_r _ [20, 21, 26, 27, 28, 29, 30, 31, 32, 33, 34, 35, 36, 37, 38, 39, 40] (by decide +kernel) (by decide +kernel)
set_option maxRecDepth 20000 in
theorem gX2_strip_X2_end : GoodIn wsX2_strip (wsV RX2 63 RX2 yX2_end wsX2_end) := goodIn_app (goodIn_of _ (by decide +kernel)) ggX2_strip_X2_end
theorem dX2_strip_0 : decode cX2_strip 0 = .ok (.aload_n 0, 1) := by decide +kernel
theorem dX2_strip_1 : decode cX2_strip 1 = .ok (.iload_n 1, 1) := by decide +kernel
theorem dX2_strip_2 : decode cX2_strip 2 = .ok (.iload_n 2, 1) := by decide +kernel
theorem dX2_strip_3 : decode cX2_strip 3 = .ok (.invokevirtual 70, 3) := by decide +kernel
theorem dX2_strip_6 : decode cX2_strip 6 = .ok (.astore_n 3, 1) := by decide +kernel
theorem dX2_strip_7 : decode cX2_strip 7 = .ok (.aload_n 3, 1) := by decide +kernel
theorem dX2_strip_8 : decode cX2_strip 8 = .ok (.ifnonnull 10, 3) := by decide +kernel
theorem dX2_strip_11 : decode cX2_strip 11 = .ok (.aload_n 0, 1) := by decide +kernel
theorem dX2_strip_12 : decode cX2_strip 12 = .ok (.iconst 1, 1) := by decide +kernel
theorem dX2_strip_13 : decode cX2_strip 13 = .ok (.iconst (-1), 1) := by decide +kernel
theorem dX2_strip_14 : decode cX2_strip 14 = .ok (.invokevirtual 63, 3) := by decide +kernel
theorem dX2_strip_17 : decode cX2_strip 17 = .ok (.ireturn, 1) := by decide +kernel
theorem dX2_strip_18 : decode cX2_strip 18 = .ok (.aload_n 3, 1) := by decide +kernel
theorem dX2_strip_19 : decode cX2_strip 19 = .ok (.getfield 74, 3) := by decide +kernel
theorem dX2_strip_22 : decode cX2_strip 22 = .ok (.ifCond .eq 7, 3) := by decide +kernel
theorem dX2_strip_25 : decode cX2_strip 25 = .ok (.iconst 1, 1) := by decide +kernel
theorem dX2_strip_26 : decode cX2_strip 26 = .ok (.goto 4, 3) := by decide +kernel
theorem dX2_strip_29 : decode cX2_strip 29 = .ok (.iconst 0, 1) := by decide +kernel
theorem dX2_strip_30 : decode cX2_strip 30 = .ok (.istore 4, 2) := by decide +kernel
theorem dX2_strip_32 : decode cX2_strip 32 = .ok (.aload_n 3, 1) := by decide +kernel
theorem dX2_strip_33 : decode cX2_strip 33 = .ok (.iconst 0, 1) := by decide +kernel
theorem dX2_strip_34 : decode cX2_strip 34 = .ok (.putfield 74, 3) := by decide +kernel
theorem dX2_strip_37 : decode cX2_strip 37 = .ok (.aload_n 0, 1) := by decide +kernel
theorem dX2_strip_38 : decode cX2_strip 38 = .ok (.iconst 0, 1) := by decide +kernel
theorem dX2_strip_39 : decode cX2_strip 39 = .ok (.iload 4, 2) := by decide +kernel
theorem dX2_strip_41 : decode cX2_strip 41 = .ok (.invokevirtual 63, 3) := by decide +kernel
theorem dX2_strip_44 : decode cX2_strip 44 = .ok (.ireturn, 1) := by decide +kernel
set_option maxRecDepth 20000 in
theorem ggX2_lay_X2_trackOf : GoodIn wsX2_lay wsX2_trackOf := goodIn_r _ [5, 6, 7, 8, 4, 9, 10, 11, 12, 13, 14, 15, 16, 34, 35, 36, 37, 38, 39, 40, 41, 42, 43, 44, 45, 46, 47, 48, 49] (by decide +kernel) (by decide +kernel)
set_option maxRecDepth 20000 in
theorem gX2_lay_X2_trackOf : GoodIn wsX2_lay (wsV RX2 70 RX2 yX2_trackOf wsX2_trackOf) := goodIn_app (goodIn_of _ (by decide +kernel)) ggX2_lay_X2_trackOf
set_option maxRecDepth 20000 in
theorem ggX2_lay_X2_end : GoodIn wsX2_lay wsX2_end := goodIn_r _ [20, 21, 35, 36, 37, 38, 39, 40, 41, 42, 43, 44, 45, 46, 47, 48, 49] (by decide +kernel) (by decide +kernel)
set_option maxRecDepth 20000 in
theorem gX2_lay_X2_end : GoodIn wsX2_lay (wsV RX2 63 RX2 yX2_end wsX2_end) := goodIn_app (goodIn_of _ (by decide +kernel)) ggX2_lay_X2_end
set_option maxRecDepth 20000 in
theorem ggX2_lay_X1_wipe : GoodIn wsX2_lay wsX1_wipe := goodIn_r _ [25, 26, 27, 28, 29, 30, 31, 32, 33] (by decide +kernel) (by decide +kernel)
set_option maxRecDepth 20000 in
theorem gX2_lay_X1_wipe_n80 : GoodIn wsX2_lay (wsX1_wipe) := ggX2_lay_X1_wipe
theorem dX2_lay_0 : decode cX2_lay 0 = .ok (.aload_n 0, 1) := by decide +kernel
theorem dX2_lay_1 : decode cX2_lay 1 = .ok (.iload_n 1, 1) := by decide +kernel
theorem dX2_lay_2 : decode cX2_lay 2 = .ok (.iload_n 2, 1) := by decide +kernel
theorem dX2_lay_3 : decode cX2_lay 3 = .ok (.invokevirtual 70, 3) := by decide +kernel
theorem dX2_lay_6 : decode cX2_lay 6 = .ok (.astore_n 3, 1) := by decide +kernel
theorem dX2_lay_7 : decode cX2_lay 7 = .ok (.aload_n 3, 1) := by decide +kernel
theorem dX2_lay_8 : decode cX2_lay 8 = .ok (.ifnonnull 10, 3) := by decide +kernel
theorem dX2_lay_11 : decode cX2_lay 11 = .ok (.aload_n 0, 1) := by decide +kernel
theorem dX2_lay_12 : decode cX2_lay 12 = .ok (.iconst 1, 1) := by decide +kernel
theorem dX2_lay_13 : decode cX2_lay 13 = .ok (.iconst (-1), 1) := by decide +kernel
theorem dX2_lay_14 : decode cX2_lay 14 = .ok (.invokevirtual 63, 3) := by decide +kernel
theorem dX2_lay_17 : decode cX2_lay 17 = .ok (.ireturn, 1) := by decide +kernel
theorem dX2_lay_18 : decode cX2_lay 18 = .ok (.aload_n 3, 1) := by decide +kernel
theorem dX2_lay_19 : decode cX2_lay 19 = .ok (.getfield 74, 3) := by decide +kernel
theorem dX2_lay_22 : decode cX2_lay 22 = .ok (.ifCond .eq 7, 3) := by decide +kernel
theorem dX2_lay_25 : decode cX2_lay 25 = .ok (.iconst 0, 1) := by decide +kernel
theorem dX2_lay_26 : decode cX2_lay 26 = .ok (.goto 4, 3) := by decide +kernel
theorem dX2_lay_29 : decode cX2_lay 29 = .ok (.iconst 1, 1) := by decide +kernel
theorem dX2_lay_30 : decode cX2_lay 30 = .ok (.istore 4, 2) := by decide +kernel
theorem dX2_lay_32 : decode cX2_lay 32 = .ok (.aload_n 3, 1) := by decide +kernel
theorem dX2_lay_33 : decode cX2_lay 33 = .ok (.iconst 1, 1) := by decide +kernel
theorem dX2_lay_34 : decode cX2_lay 34 = .ok (.putfield 74, 3) := by decide +kernel
theorem dX2_lay_37 : decode cX2_lay 37 = .ok (.aload_n 3, 1) := by decide +kernel
theorem dX2_lay_38 : decode cX2_lay 38 = .ok (.invokevirtual 80, 3) := by decide +kernel
theorem dX2_lay_41 : decode cX2_lay 41 = .ok (.aload_n 0, 1) := by decide +kernel
theorem dX2_lay_42 : decode cX2_lay 42 = .ok (.iconst 0, 1) := by decide +kernel
theorem dX2_lay_43 : decode cX2_lay 43 = .ok (.iload 4, 2) := by decide +kernel
theorem dX2_lay_45 : decode cX2_lay 45 = .ok (.invokevirtual 63, 3) := by decide +kernel
theorem dX2_lay_48 : decode cX2_lay 48 = .ok (.ireturn, 1) := by decide +kernel
set_option maxRecDepth 20000 in
theorem ggX2_thread_X2_reelOf : GoodIn wsX2_thread wsX2_reelOf := goodIn_r _ [6, 7, 13, 14, 15, 16, 17, 18, 19, 20, 21, 22, 23, 24, 25, 26, 27] (by decide +kernel) (by decide +kernel)
set_option maxRecDepth 20000 in
theorem gX2_thread_X2_reelOf : GoodIn wsX2_thread (wsV RX2 83 RX2 yX2_reelOf wsX2_reelOf) := goodIn_app (goodIn_of _ (by decide +kernel)) ggX2_thread_X2_reelOf
set_option maxRecDepth 20000 in
theorem ggX2_thread_X2_end : GoodIn wsX2_thread wsX2_end := goodIn_r _ [11, 12, 13, 14, 15, 16, 17, 18, 19, 20, 21, 22, 23, 24, 25, 26, 27] (by decide +kernel) (by decide +kernel)
set_option maxRecDepth 20000 in
theorem gX2_thread_X2_end : GoodIn wsX2_thread (wsV RX2 63 RX2 yX2_end wsX2_end) := goodIn_app (goodIn_of _ (by decide +kernel)) ggX2_thread_X2_end
theorem dX2_thread_0 : decode cX2_thread 0 = .ok (.iload_n 1, 1) := by decide +kernel
theorem dX2_thread_1 : decode cX2_thread 1 = .ok (.iconst (-1), 1) := by decide +kernel
theorem dX2_thread_2 : decode cX2_thread 2 = .ok (.if_icmp .eq 18, 3) := by decide +kernel
theorem dX2_thread_5 : decode cX2_thread 5 = .ok (.aload_n 0, 1) := by decide +kernel
theorem dX2_thread_6 : decode cX2_thread 6 = .ok (.iload_n 1, 1) := by decide +kernel
theorem dX2_thread_7 : decode cX2_thread 7 = .ok (.invokevirtual 83, 3) := by decide +kernel
theorem dX2_thread_10 : decode cX2_thread 10 = .ok (.ifnonnull 10, 3) := by decide +kernel
theorem dX2_thread_13 : decode cX2_thread 13 = .ok (.aload_n 0, 1) := by decide +kernel
theorem dX2_thread_14 : decode cX2_thread 14 = .ok (.iconst 1, 1) := by decide +kernel
theorem dX2_thread_15 : decode cX2_thread 15 = .ok (.iconst (-1), 1) := by decide +kernel
theorem dX2_thread_16 : decode cX2_thread 16 = .ok (.invokevirtual 63, 3) := by decide +kernel
theorem dX2_thread_19 : decode cX2_thread 19 = .ok (.ireturn, 1) := by decide +kernel
theorem dX2_thread_20 : decode cX2_thread 20 = .ok (.aload_n 0, 1) := by decide +kernel
theorem dX2_thread_21 : decode cX2_thread 21 = .ok (.getfield 19, 3) := by decide +kernel
theorem dX2_thread_24 : decode cX2_thread 24 = .ok (.istore_n 2, 1) := by decide +kernel
theorem dX2_thread_25 : decode cX2_thread 25 = .ok (.aload_n 0, 1) := by decide +kernel
theorem dX2_thread_26 : decode cX2_thread 26 = .ok (.iload_n 1, 1) := by decide +kernel
theorem dX2_thread_27 : decode cX2_thread 27 = .ok (.putfield 19, 3) := by decide +kernel
theorem dX2_thread_30 : decode cX2_thread 30 = .ok (.aload_n 0, 1) := by decide +kernel
theorem dX2_thread_31 : decode cX2_thread 31 = .ok (.iconst 0, 1) := by decide +kernel
theorem dX2_thread_32 : decode cX2_thread 32 = .ok (.iload_n 2, 1) := by decide +kernel
theorem dX2_thread_33 : decode cX2_thread 33 = .ok (.invokevirtual 63, 3) := by decide +kernel
theorem dX2_thread_36 : decode cX2_thread 36 = .ok (.ireturn, 1) := by decide +kernel
set_option maxRecDepth 20000 in
theorem ggX2_head_X2_isTrack : GoodIn wsX2_head wsX2_isTrack := goodIn_r _ [5, 6, 7, 4, 8] (by decide +kernel) (by decide +kernel)
set_option maxRecDepth 20000 in
theorem gX2_head_X2_isTrack : GoodIn wsX2_head (va_wsS RX2 87 yX2_isTrack wsX2_isTrack) := goodIn_app (goodIn_of _ (by decide +kernel)) ggX2_head_X2_isTrack
set_option maxRecDepth 20000 in
theorem ggX2_head_X2_isWithin : GoodIn wsX2_head wsX2_isWithin := goodIn_r _ [8] (by decide +kernel) (by decide +kernel)
set_option maxRecDepth 20000 in
theorem gX2_head_X2_isWithin : GoodIn wsX2_head (va_wsS RX2 59 yX2_isWithin wsX2_isWithin) := goodIn_app (goodIn_of _ (by decide +kernel)) ggX2_head_X2_isWithin
set_option maxRecDepth 20000 in
theorem ggX2_head_X2_end : GoodIn wsX2_head wsX2_end := goodIn_r _ [12, 13, 14, 15, 16, 17, 18, 19, 20, 21, 22, 23, 24, 25, 26, 27, 28] (by decide +kernel) (by decide +kernel)
set_option maxRecDepth 20000 in
theorem gX2_head_X2_end : GoodIn wsX2_head (wsV RX2 63 RX2 yX2_end wsX2_end) := goodIn_app (goodIn_of _ (by decide +kernel)) ggX2_head_X2_end
theorem dX2_head_0 : decode cX2_head 0 = .ok (.iload_n 1, 1) := by decide +kernel
theorem dX2_head_1 : decode cX2_head 1 = .ok (.invokestatic 87, 3) := by decide +kernel
theorem dX2_head_4 : decode cX2_head 4 = .ok (.ifCond .eq 14, 3) := by decide +kernel
theorem dX2_head_7 : decode cX2_head 7 = .ok (.iload_n 2, 1) := by decide +kernel
theorem dX2_head_8 : decode cX2_head 8 = .ok (.bipush (-8), 2) := by decide +kernel
theorem dX2_head_10 : decode cX2_head 10 = .ok (.bipush 8, 2) := by decide +kernel
theorem dX2_head_12 : decode cX2_head 12 = .ok (.invokestatic 59, 3) := by decide +kernel
theorem dX2_head_15 : decode cX2_head 15 = .ok (.ifCond .ne 10, 3) := by decide +kernel
theorem dX2_head_18 : decode cX2_head 18 = .ok (.aload_n 0, 1) := by decide +kernel
theorem dX2_head_19 : decode cX2_head 19 = .ok (.iconst 1, 1) := by decide +kernel
theorem dX2_head_20 : decode cX2_head 20 = .ok (.iconst 0, 1) := by decide +kernel
theorem dX2_head_21 : decode cX2_head 21 = .ok (.invokevirtual 63, 3) := by decide +kernel
theorem dX2_head_24 : decode cX2_head 24 = .ok (.ireturn, 1) := by decide +kernel
theorem dX2_head_25 : decode cX2_head 25 = .ok (.aload_n 0, 1) := by decide +kernel
theorem dX2_head_26 : decode cX2_head 26 = .ok (.getfield 25, 3) := by decide +kernel
theorem dX2_head_29 : decode cX2_head 29 = .ok (.iload_n 1, 1) := by decide +kernel
theorem dX2_head_30 : decode cX2_head 30 = .ok (.iaload, 1) := by decide +kernel
theorem dX2_head_31 : decode cX2_head 31 = .ok (.istore_n 3, 1) := by decide +kernel
theorem dX2_head_32 : decode cX2_head 32 = .ok (.aload_n 0, 1) := by decide +kernel
theorem dX2_head_33 : decode cX2_head 33 = .ok (.getfield 25, 3) := by decide +kernel
theorem dX2_head_36 : decode cX2_head 36 = .ok (.iload_n 1, 1) := by decide +kernel
theorem dX2_head_37 : decode cX2_head 37 = .ok (.iload_n 2, 1) := by decide +kernel
theorem dX2_head_38 : decode cX2_head 38 = .ok (.iastore, 1) := by decide +kernel
theorem dX2_head_39 : decode cX2_head 39 = .ok (.aload_n 0, 1) := by decide +kernel
theorem dX2_head_40 : decode cX2_head 40 = .ok (.iconst 0, 1) := by decide +kernel
theorem dX2_head_41 : decode cX2_head 41 = .ok (.iload_n 3, 1) := by decide +kernel
theorem dX2_head_42 : decode cX2_head 42 = .ok (.invokevirtual 63, 3) := by decide +kernel
theorem dX2_head_45 : decode cX2_head 45 = .ok (.ireturn, 1) := by decide +kernel
set_option maxRecDepth 20000 in
theorem ggX2_arm_X2_isTrack : GoodIn wsX2_arm wsX2_isTrack := goodIn_r _ [5, 6, 7, 4, 8] (by decide +kernel) (by decide +kernel)
set_option maxRecDepth 20000 in
theorem gX2_arm_X2_isTrack : GoodIn wsX2_arm (va_wsS RX2 87 yX2_isTrack wsX2_isTrack) := goodIn_app (goodIn_of _ (by decide +kernel)) ggX2_arm_X2_isTrack
set_option maxRecDepth 20000 in
theorem ggX2_arm_X2_isWithin : GoodIn wsX2_arm wsX2_isWithin := goodIn_r _ [8] (by decide +kernel) (by decide +kernel)
set_option maxRecDepth 20000 in
theorem gX2_arm_X2_isWithin : GoodIn wsX2_arm (va_wsS RX2 59 yX2_isWithin wsX2_isWithin) := goodIn_app (goodIn_of _ (by decide +kernel)) ggX2_arm_X2_isWithin
set_option maxRecDepth 20000 in
theorem ggX2_arm_X2_end : GoodIn wsX2_arm wsX2_end := goodIn_r _ [12, 13, 14, 15, 16, 17, 18, 19, 20, 21, 22, 23, 24, 25, 26, 27, 28] (by decide +kernel) (by decide +kernel)
set_option maxRecDepth 20000 in
theorem gX2_arm_X2_end : GoodIn wsX2_arm (wsV RX2 63 RX2 yX2_end wsX2_end) := goodIn_app (goodIn_of _ (by decide +kernel)) ggX2_arm_X2_end
theorem dX2_arm_0 : decode cX2_arm 0 = .ok (.iload_n 1, 1) := by decide +kernel
theorem dX2_arm_1 : decode cX2_arm 1 = .ok (.invokestatic 87, 3) := by decide +kernel
theorem dX2_arm_4 : decode cX2_arm 4 = .ok (.ifCond .eq 12, 3) := by decide +kernel
theorem dX2_arm_7 : decode cX2_arm 7 = .ok (.iload_n 2, 1) := by decide +kernel
theorem dX2_arm_8 : decode cX2_arm 8 = .ok (.iconst 0, 1) := by decide +kernel
theorem dX2_arm_9 : decode cX2_arm 9 = .ok (.iconst 3, 1) := by decide +kernel
theorem dX2_arm_10 : decode cX2_arm 10 = .ok (.invokestatic 59, 3) := by decide +kernel
theorem dX2_arm_13 : decode cX2_arm 13 = .ok (.ifCond .ne 10, 3) := by decide +kernel
theorem dX2_arm_16 : decode cX2_arm 16 = .ok (.aload_n 0, 1) := by decide +kernel
theorem dX2_arm_17 : decode cX2_arm 17 = .ok (.iconst 1, 1) := by decide +kernel
theorem dX2_arm_18 : decode cX2_arm 18 = .ok (.iconst 0, 1) := by decide +kernel
theorem dX2_arm_19 : decode cX2_arm 19 = .ok (.invokevirtual 63, 3) := by decide +kernel
theorem dX2_arm_22 : decode cX2_arm 22 = .ok (.ireturn, 1) := by decide +kernel
theorem dX2_arm_23 : decode cX2_arm 23 = .ok (.aload_n 0, 1) := by decide +kernel
theorem dX2_arm_24 : decode cX2_arm 24 = .ok (.getfield 29, 3) := by decide +kernel
theorem dX2_arm_27 : decode cX2_arm 27 = .ok (.iload_n 1, 1) := by decide +kernel
theorem dX2_arm_28 : decode cX2_arm 28 = .ok (.iaload, 1) := by decide +kernel
theorem dX2_arm_29 : decode cX2_arm 29 = .ok (.istore_n 3, 1) := by decide +kernel
theorem dX2_arm_30 : decode cX2_arm 30 = .ok (.aload_n 0, 1) := by decide +kernel
theorem dX2_arm_31 : decode cX2_arm 31 = .ok (.getfield 29, 3) := by decide +kernel
theorem dX2_arm_34 : decode cX2_arm 34 = .ok (.iload_n 1, 1) := by decide +kernel
theorem dX2_arm_35 : decode cX2_arm 35 = .ok (.iload_n 2, 1) := by decide +kernel
theorem dX2_arm_36 : decode cX2_arm 36 = .ok (.iastore, 1) := by decide +kernel
theorem dX2_arm_37 : decode cX2_arm 37 = .ok (.aload_n 0, 1) := by decide +kernel
theorem dX2_arm_38 : decode cX2_arm 38 = .ok (.iconst 0, 1) := by decide +kernel
theorem dX2_arm_39 : decode cX2_arm 39 = .ok (.iload_n 3, 1) := by decide +kernel
theorem dX2_arm_40 : decode cX2_arm 40 = .ok (.invokevirtual 63, 3) := by decide +kernel
theorem dX2_arm_43 : decode cX2_arm 43 = .ok (.ireturn, 1) := by decide +kernel
set_option maxRecDepth 20000 in
theorem ggX2_source_X2_end : GoodIn wsX2_source wsX2_end := goodIn_r _ [7, 8, 9, 10, 11, 12, 13, 14, 15, 16, 17, 18, 19, 20, 21, 22, 23] (by decide +kernel) (by decide +kernel)
set_option maxRecDepth 20000 in
theorem gX2_source_X2_end : GoodIn wsX2_source (wsV RX2 63 RX2 yX2_end wsX2_end) := goodIn_app (goodIn_of _ (by decide +kernel)) ggX2_source_X2_end
theorem dX2_source_0 : decode cX2_source 0 = .ok (.aload_n 0, 1) := by decide +kernel
theorem dX2_source_1 : decode cX2_source 1 = .ok (.getfield 35, 3) := by decide +kernel
theorem dX2_source_4 : decode cX2_source 4 = .ok (.istore_n 3, 1) := by decide +kernel
theorem dX2_source_5 : decode cX2_source 5 = .ok (.aload_n 0, 1) := by decide +kernel
theorem dX2_source_6 : decode cX2_source 6 = .ok (.iload_n 1, 1) := by decide +kernel
theorem dX2_source_7 : decode cX2_source 7 = .ok (.putfield 35, 3) := by decide +kernel
theorem dX2_source_10 : decode cX2_source 10 = .ok (.aload_n 0, 1) := by decide +kernel
theorem dX2_source_11 : decode cX2_source 11 = .ok (.iload_n 2, 1) := by decide +kernel
theorem dX2_source_12 : decode cX2_source 12 = .ok (.putfield 38, 3) := by decide +kernel
theorem dX2_source_15 : decode cX2_source 15 = .ok (.aload_n 0, 1) := by decide +kernel
theorem dX2_source_16 : decode cX2_source 16 = .ok (.iconst 0, 1) := by decide +kernel
theorem dX2_source_17 : decode cX2_source 17 = .ok (.iload_n 3, 1) := by decide +kernel
theorem dX2_source_18 : decode cX2_source 18 = .ok (.invokevirtual 63, 3) := by decide +kernel
theorem dX2_source_21 : decode cX2_source 21 = .ok (.ireturn, 1) := by decide +kernel
set_option maxRecDepth 20000 in
theorem ggX2_wind_X2_isWithin : GoodIn wsX2_wind wsX2_isWithin := goodIn_r _ [5] (by decide +kernel) (by decide +kernel)
set_option maxRecDepth 20000 in
theorem gX2_wind_X2_isWithin : GoodIn wsX2_wind (va_wsS RX2 59 yX2_isWithin wsX2_isWithin) := goodIn_app (goodIn_of _ (by decide +kernel)) ggX2_wind_X2_isWithin
set_option maxRecDepth 20000 in
theorem ggX2_wind_X2_end : GoodIn wsX2_wind wsX2_end := goodIn_r _ [9, 10, 11, 12, 13, 14, 15, 16, 17, 18, 19, 20, 21, 22, 23, 24, 25] (by decide +kernel) (by decide +kernel)
set_option maxRecDepth 20000 in
theorem gX2_wind_X2_end : GoodIn wsX2_wind (wsV RX2 63 RX2 yX2_end wsX2_end) := goodIn_app (goodIn_of _ (by decide +kernel)) ggX2_wind_X2_end
theorem dX2_wind_0 : decode cX2_wind 0 = .ok (.iload_n 1, 1) := by decide +kernel
theorem dX2_wind_1 : decode cX2_wind 1 = .ok (.sipush (-1000), 3) := by decide +kernel
theorem dX2_wind_4 : decode cX2_wind 4 = .ok (.sipush 1000, 3) := by decide +kernel
theorem dX2_wind_7 : decode cX2_wind 7 = .ok (.invokestatic 59, 3) := by decide +kernel
theorem dX2_wind_10 : decode cX2_wind 10 = .ok (.ifCond .ne 13, 3) := by decide +kernel
theorem dX2_wind_13 : decode cX2_wind 13 = .ok (.aload_n 0, 1) := by decide +kernel
theorem dX2_wind_14 : decode cX2_wind 14 = .ok (.iconst 1, 1) := by decide +kernel
theorem dX2_wind_15 : decode cX2_wind 15 = .ok (.aload_n 0, 1) := by decide +kernel
theorem dX2_wind_16 : decode cX2_wind 16 = .ok (.getfield 22, 3) := by decide +kernel
theorem dX2_wind_19 : decode cX2_wind 19 = .ok (.invokevirtual 63, 3) := by decide +kernel
theorem dX2_wind_22 : decode cX2_wind 22 = .ok (.ireturn, 1) := by decide +kernel
theorem dX2_wind_23 : decode cX2_wind 23 = .ok (.aload_n 0, 1) := by decide +kernel
theorem dX2_wind_24 : decode cX2_wind 24 = .ok (.dup, 1) := by decide +kernel
theorem dX2_wind_25 : decode cX2_wind 25 = .ok (.getfield 22, 3) := by decide +kernel
theorem dX2_wind_28 : decode cX2_wind 28 = .ok (.iload_n 1, 1) := by decide +kernel
theorem dX2_wind_29 : decode cX2_wind 29 = .ok (.iadd, 1) := by decide +kernel
theorem dX2_wind_30 : decode cX2_wind 30 = .ok (.putfield 22, 3) := by decide +kernel
theorem dX2_wind_33 : decode cX2_wind 33 = .ok (.aload_n 0, 1) := by decide +kernel
theorem dX2_wind_34 : decode cX2_wind 34 = .ok (.iconst 0, 1) := by decide +kernel
theorem dX2_wind_35 : decode cX2_wind 35 = .ok (.aload_n 0, 1) := by decide +kernel
theorem dX2_wind_36 : decode cX2_wind 36 = .ok (.getfield 22, 3) := by decide +kernel
theorem dX2_wind_39 : decode cX2_wind 39 = .ok (.invokevirtual 63, 3) := by decide +kernel
theorem dX2_wind_42 : decode cX2_wind 42 = .ok (.ireturn, 1) := by decide +kernel
set_option maxRecDepth 20000 in
theorem ggX2_read_X2_trackOf : GoodIn wsX2_read wsX2_trackOf := goodIn_r _ [6, 7, 8, 9, 5, 10, 11, 12, 13, 14, 15, 16, 17, 58, 43, 44, 45, 46, 47, 48, 49, 50, 51, 52, 53, 54, 55, 56, 57] (by decide +kernel) (by decide +kernel)
set_option maxRecDepth 20000 in
theorem gX2_read_X2_trackOf : GoodIn wsX2_read (wsV RX2 70 RX2 yX2_trackOf wsX2_trackOf) := goodIn_app (goodIn_of _ (by decide +kernel)) ggX2_read_X2_trackOf
set_option maxRecDepth 20000 in
theorem ggX2_read_X2_whyNoneUnderHead : GoodIn wsX2_read wsX2_whyNoneUnderHead := goodIn_r _ [21, 12, 13, 5, 14, 15, 16, 17] (by decide +kernel) (by decide +kernel)
set_option maxRecDepth 20000 in
theorem gX2_read_X2_whyNoneUnderHead : GoodIn wsX2_read (wsV RX2 91 RX2 yX2_whyNoneUnderHead wsX2_whyNoneUnderHead) := goodIn_app (goodIn_of _ (by decide +kernel)) ggX2_read_X2_whyNoneUnderHead
set_option maxRecDepth 20000 in
theorem ggX2_read_X2_end : GoodIn wsX2_read wsX2_end := goodIn_r _ [25, 26, 43, 44, 45, 46, 47, 48, 49, 50, 51, 52, 53, 54, 55, 56, 57] (by decide +kernel) (by decide +kernel)
set_option maxRecDepth 20000 in
theorem gX2_read_X2_end : GoodIn wsX2_read (wsV RX2 63 RX2 yX2_end wsX2_end) := goodIn_app (goodIn_of _ (by decide +kernel)) ggX2_read_X2_end
set_option maxRecDepth 20000 in
theorem ggX2_read_X2_placeOfHead : GoodIn wsX2_read wsX2_placeOfHead := goodIn_r _ [30, 31, 32, 12, 13, 5, 14, 15, 16, 17, 43, 44, 45, 46, 47, 48, 49, 50, 51, 52, 53, 54, 55, 56, 57] (by decide +kernel) (by decide +kernel)
set_option maxRecDepth 20000 in
theorem gX2_read_X2_placeOfHead : GoodIn wsX2_read (wsV RX2 95 RX2 yX2_placeOfHead wsX2_placeOfHead) := goodIn_app (goodIn_of _ (by decide +kernel)) ggX2_read_X2_placeOfHead
set_option maxRecDepth 20000 in
theorem ggX2_read_X1_faultAt : GoodIn wsX2_read wsX1_faultAt := goodIn_r _ [36, 37, 38, 59, 60, 61] (by decide +kernel) (by decide +kernel)
set_option maxRecDepth 20000 in
theorem gX2_read_X1_faultAt_n98 : GoodIn wsX2_read (wsX1_faultAt) := ggX2_read_X1_faultAt
set_option maxRecDepth 20000 in
theorem ggX2_read_X1_numberAt : GoodIn wsX2_read wsX1_numberAt := goodIn_r _ [41, 38, 42, 33, 35, 34, 36, 37, 59, 60, 61] (by decide +kernel) (by decide +kernel)
set_option maxRecDepth 20000 in
theorem gX2_read_X1_numberAt_n101 : GoodIn wsX2_read (wsX1_numberAt) := ggX2_read_X1_numberAt
theorem dX2_read_0 : decode cX2_read 0 = .ok (.aload_n 0, 1) := by decide +kernel
theorem dX2_read_1 : decode cX2_read 1 = .ok (.aload_n 0, 1) := by decide +kernel
theorem dX2_read_2 : decode cX2_read 2 = .ok (.getfield 19, 3) := by decide +kernel
theorem dX2_read_5 : decode cX2_read 5 = .ok (.iload_n 1, 1) := by decide +kernel
theorem dX2_read_6 : decode cX2_read 6 = .ok (.invokevirtual 70, 3) := by decide +kernel
theorem dX2_read_9 : decode cX2_read 9 = .ok (.astore_n 2, 1) := by decide +kernel
theorem dX2_read_10 : decode cX2_read 10 = .ok (.aload_n 2, 1) := by decide +kernel
theorem dX2_read_11 : decode cX2_read 11 = .ok (.ifnonnull 14, 3) := by decide +kernel
theorem dX2_read_14 : decode cX2_read 14 = .ok (.aload_n 0, 1) := by decide +kernel
theorem dX2_read_15 : decode cX2_read 15 = .ok (.aload_n 0, 1) := by decide +kernel
theorem dX2_read_16 : decode cX2_read 16 = .ok (.iload_n 1, 1) := by decide +kernel
theorem dX2_read_17 : decode cX2_read 17 = .ok (.invokevirtual 91, 3) := by decide +kernel
theorem dX2_read_20 : decode cX2_read 20 = .ok (.iconst 0, 1) := by decide +kernel
theorem dX2_read_21 : decode cX2_read 21 = .ok (.invokevirtual 63, 3) := by decide +kernel
theorem dX2_read_24 : decode cX2_read 24 = .ok (.ireturn, 1) := by decide +kernel
theorem dX2_read_25 : decode cX2_read 25 = .ok (.aload_n 0, 1) := by decide +kernel
theorem dX2_read_26 : decode cX2_read 26 = .ok (.iload_n 1, 1) := by decide +kernel
theorem dX2_read_27 : decode cX2_read 27 = .ok (.invokevirtual 95, 3) := by decide +kernel
theorem dX2_read_30 : decode cX2_read 30 = .ok (.istore_n 3, 1) := by decide +kernel
theorem dX2_read_31 : decode cX2_read 31 = .ok (.aload_n 0, 1) := by decide +kernel
theorem dX2_read_32 : decode cX2_read 32 = .ok (.aload_n 2, 1) := by decide +kernel
theorem dX2_read_33 : decode cX2_read 33 = .ok (.iload_n 3, 1) := by decide +kernel
theorem dX2_read_34 : decode cX2_read 34 = .ok (.invokevirtual 98, 3) := by decide +kernel
theorem dX2_read_37 : decode cX2_read 37 = .ok (.aload_n 2, 1) := by decide +kernel
theorem dX2_read_38 : decode cX2_read 38 = .ok (.iload_n 3, 1) := by decide +kernel
theorem dX2_read_39 : decode cX2_read 39 = .ok (.invokevirtual 101, 3) := by decide +kernel
theorem dX2_read_42 : decode cX2_read 42 = .ok (.invokevirtual 63, 3) := by decide +kernel
theorem dX2_read_45 : decode cX2_read 45 = .ok (.ireturn, 1) := by decide +kernel
set_option maxRecDepth 20000 in
theorem ggX2_write_X2_trackOf : GoodIn wsX2_write wsX2_trackOf := goodIn_r _ [6, 7, 8, 9, 5, 10, 11, 12, 13, 14, 15, 16, 17, 75, 60, 61, 62, 63, 64, 65, 66, 67, 68, 69, 70, 71, 72, 73, 74] (by decide +kernel) (by decide +kernel)
set_option maxRecDepth 20000 in
theorem gX2_write_X2_trackOf : GoodIn wsX2_write (wsV RX2 70 RX2 yX2_trackOf wsX2_trackOf) := goodIn_app (goodIn_of _ (by decide +kernel)) ggX2_write_X2_trackOf
set_option maxRecDepth 20000 in
theorem ggX2_write_X2_whyNoneUnderHead : GoodIn wsX2_write wsX2_whyNoneUnderHead := goodIn_r _ [21, 12, 13, 5, 14, 15, 16, 17] (by decide +kernel) (by decide +kernel)
set_option maxRecDepth 20000 in
theorem gX2_write_X2_whyNoneUnderHead : GoodIn wsX2_write (wsV RX2 91 RX2 yX2_whyNoneUnderHead wsX2_whyNoneUnderHead) := goodIn_app (goodIn_of _ (by decide +kernel)) ggX2_write_X2_whyNoneUnderHead
set_option maxRecDepth 20000 in
theorem ggX2_write_X2_end : GoodIn wsX2_write wsX2_end := goodIn_r _ [25, 26, 60, 61, 62, 63, 64, 65, 66, 67, 68, 69, 70, 71, 72, 73, 74] (by decide +kernel) (by decide +kernel)
set_option maxRecDepth 20000 in
theorem gX2_write_X2_end : GoodIn wsX2_write (wsV RX2 63 RX2 yX2_end wsX2_end) := goodIn_app (goodIn_of _ (by decide +kernel)) ggX2_write_X2_end
set_option maxRecDepth 20000 in
theorem ggX2_write_X2_placeOfHead : GoodIn wsX2_write wsX2_placeOfHead := goodIn_r _ [30, 31, 32, 12, 13, 5, 14, 15, 16, 17, 60, 61, 62, 63, 64, 65, 66, 67, 68, 69, 70, 71, 72, 73, 74] (by decide +kernel) (by decide +kernel)
set_option maxRecDepth 20000 in
theorem gX2_write_X2_placeOfHead : GoodIn wsX2_write (wsV RX2 95 RX2 yX2_placeOfHead wsX2_placeOfHead) := goodIn_app (goodIn_of _ (by decide +kernel)) ggX2_write_X2_placeOfHead
set_option maxRecDepth 20000 in
theorem ggX2_write_X1_put : GoodIn wsX2_write wsX1_put := goodIn_r _ [36, 37, 38, 39, 40, 34, 41, 42, 43, 44, 45, 46, 47, 48, 49, 50, 51, 52, 53, 54, 55, 56, 76, 77, 78] (by decide +kernel) (by decide +kernel)
set_option maxRecDepth 20000 in
theorem gX2_write_X1_put_n104 : GoodIn wsX2_write (wsX1_put) := ggX2_write_X1_put
set_option maxRecDepth 20000 in
theorem ggX2_write_X1_faultAt : GoodIn wsX2_write wsX1_faultAt := goodIn_r _ [41, 42, 37, 76, 77, 78] (by decide +kernel) (by decide +kernel)
set_option maxRecDepth 20000 in
theorem gX2_write_X1_faultAt_n98 : GoodIn wsX2_write (wsX1_faultAt) := ggX2_write_X1_faultAt
set_option maxRecDepth 20000 in
theorem ggX2_write_X1_numberAt : GoodIn wsX2_write wsX1_numberAt := goodIn_r _ [59, 37, 38, 39, 40, 34, 41, 42, 76, 77, 78] (by decide +kernel) (by decide +kernel)
set_option maxRecDepth 20000 in
theorem gX2_write_X1_numberAt_n101 : GoodIn wsX2_write (wsX1_numberAt) := ggX2_write_X1_numberAt
theorem dX2_write_0 : decode cX2_write 0 = .ok (.aload_n 0, 1) := by decide +kernel
theorem dX2_write_1 : decode cX2_write 1 = .ok (.aload_n 0, 1) := by decide +kernel
theorem dX2_write_2 : decode cX2_write 2 = .ok (.getfield 19, 3) := by decide +kernel
theorem dX2_write_5 : decode cX2_write 5 = .ok (.iload_n 1, 1) := by decide +kernel
theorem dX2_write_6 : decode cX2_write 6 = .ok (.invokevirtual 70, 3) := by decide +kernel
theorem dX2_write_9 : decode cX2_write 9 = .ok (.astore_n 3, 1) := by decide +kernel
theorem dX2_write_10 : decode cX2_write 10 = .ok (.aload_n 3, 1) := by decide +kernel
theorem dX2_write_11 : decode cX2_write 11 = .ok (.ifnonnull 14, 3) := by decide +kernel
theorem dX2_write_14 : decode cX2_write 14 = .ok (.aload_n 0, 1) := by decide +kernel
theorem dX2_write_15 : decode cX2_write 15 = .ok (.aload_n 0, 1) := by decide +kernel
theorem dX2_write_16 : decode cX2_write 16 = .ok (.iload_n 1, 1) := by decide +kernel
theorem dX2_write_17 : decode cX2_write 17 = .ok (.invokevirtual 91, 3) := by decide +kernel
theorem dX2_write_20 : decode cX2_write 20 = .ok (.iconst 0, 1) := by decide +kernel
theorem dX2_write_21 : decode cX2_write 21 = .ok (.invokevirtual 63, 3) := by decide +kernel
theorem dX2_write_24 : decode cX2_write 24 = .ok (.ireturn, 1) := by decide +kernel
theorem dX2_write_25 : decode cX2_write 25 = .ok (.aload_n 0, 1) := by decide +kernel
theorem dX2_write_26 : decode cX2_write 26 = .ok (.iload_n 1, 1) := by decide +kernel
theorem dX2_write_27 : decode cX2_write 27 = .ok (.invokevirtual 95, 3) := by decide +kernel
theorem dX2_write_30 : decode cX2_write 30 = .ok (.istore 4, 2) := by decide +kernel
theorem dX2_write_32 : decode cX2_write 32 = .ok (.aload_n 3, 1) := by decide +kernel
theorem dX2_write_33 : decode cX2_write 33 = .ok (.iload 4, 2) := by decide +kernel
theorem dX2_write_35 : decode cX2_write 35 = .ok (.iload_n 2, 1) := by decide +kernel
theorem dX2_write_36 : decode cX2_write 36 = .ok (.invokevirtual 104, 3) := by decide +kernel
theorem dX2_write_39 : decode cX2_write 39 = .ok (.aload_n 0, 1) := by decide +kernel
theorem dX2_write_40 : decode cX2_write 40 = .ok (.aload_n 3, 1) := by decide +kernel
theorem dX2_write_41 : decode cX2_write 41 = .ok (.iload 4, 2) := by decide +kernel
theorem dX2_write_43 : decode cX2_write 43 = .ok (.invokevirtual 98, 3) := by decide +kernel
theorem dX2_write_46 : decode cX2_write 46 = .ok (.aload_n 3, 1) := by decide +kernel
theorem dX2_write_47 : decode cX2_write 47 = .ok (.iload 4, 2) := by decide +kernel
theorem dX2_write_49 : decode cX2_write 49 = .ok (.invokevirtual 101, 3) := by decide +kernel
theorem dX2_write_52 : decode cX2_write 52 = .ok (.invokevirtual 63, 3) := by decide +kernel
theorem dX2_write_55 : decode cX2_write 55 = .ok (.ireturn, 1) := by decide +kernel
set_option maxRecDepth 20000 in
theorem ggX2_run_X2_isWithin : GoodIn wsX2_run wsX2_isWithin := goodIn_r _ [7] (by decide +kernel) (by decide +kernel)
set_option maxRecDepth 20000 in
theorem gX2_run_X2_isWithin : GoodIn wsX2_run (va_wsS RX2 59 yX2_isWithin wsX2_isWithin) := goodIn_app (goodIn_of _ (by decide +kernel)) ggX2_run_X2_isWithin
set_option maxRecDepth 20000 in
theorem ggX2_run_X2_end : GoodIn wsX2_run wsX2_end := goodIn_r _ [11, 12, 70, 71, 72, 73, 74, 75, 76, 77, 78, 79, 80, 81, 82, 83, 84] (by decide +kernel) (by decide +kernel)
set_option maxRecDepth 20000 in
theorem gX2_run_X2_end : GoodIn wsX2_run (wsV RX2 63 RX2 yX2_end wsX2_end) := goodIn_app (goodIn_of _ (by decide +kernel)) ggX2_run_X2_end
set_option maxRecDepth 20000 in
theorem ggX2_run_X2_tick : GoodIn wsX2_run wsX2_tick := goodIn_r _ [16, 2, 3, 17, 18, 19, 20, 6, 21, 22, 1, 23, 24, 25, 26, 27, 28, 29, 30, 31, 32, 33, 34, 35, 36, 37, 4, 5, 7, 38, 39, 40, 41, 42, 43, 44, 45, 46, 47, 48, 49, 50, 51, 52, 53, 54, 55, 56, 57, 58, 59, 60, 61, 62, 63, 64, 65, 66, 67, 68, 69, 70, 71, 72, 73, 74, 75, 76, 77, 78, 79, 80, 81, 82, 83, 84, 85, 86, 87, 88] (by decide +kernel) (by decide +kernel)
set_option maxRecDepth 20000 in
theorem gX2_run_X2_tick : GoodIn wsX2_run (wsV RX2 107 RX2 yX2_tick wsX2_tick) := goodIn_app (goodIn_of _ (by decide +kernel)) ggX2_run_X2_tick
theorem dX2_run_0 : decode cX2_run 0 = .ok (.iload_n 1, 1) := by decide +kernel
theorem dX2_run_1 : decode cX2_run 1 = .ok (.iconst 1, 1) := by decide +kernel
theorem dX2_run_2 : decode cX2_run 2 = .ok (.bipush 100, 2) := by decide +kernel
theorem dX2_run_4 : decode cX2_run 4 = .ok (.invokestatic 59, 3) := by decide +kernel
theorem dX2_run_7 : decode cX2_run 7 = .ok (.ifCond .ne 10, 3) := by decide +kernel
theorem dX2_run_10 : decode cX2_run 10 = .ok (.aload_n 0, 1) := by decide +kernel
theorem dX2_run_11 : decode cX2_run 11 = .ok (.iconst 1, 1) := by decide +kernel
theorem dX2_run_12 : decode cX2_run 12 = .ok (.iconst 0, 1) := by decide +kernel
theorem dX2_run_13 : decode cX2_run 13 = .ok (.invokevirtual 63, 3) := by decide +kernel
theorem dX2_run_16 : decode cX2_run 16 = .ok (.ireturn, 1) := by decide +kernel
theorem dX2_run_17 : decode cX2_run 17 = .ok (.aload_n 0, 1) := by decide +kernel
theorem dX2_run_18 : decode cX2_run 18 = .ok (.getfield 19, 3) := by decide +kernel
theorem dX2_run_21 : decode cX2_run 21 = .ok (.iconst (-1), 1) := by decide +kernel
theorem dX2_run_22 : decode cX2_run 22 = .ok (.if_icmp .ne 10, 3) := by decide +kernel
theorem dX2_run_25 : decode cX2_run 25 = .ok (.aload_n 0, 1) := by decide +kernel
theorem dX2_run_26 : decode cX2_run 26 = .ok (.iconst 5, 1) := by decide +kernel
theorem dX2_run_27 : decode cX2_run 27 = .ok (.iconst 0, 1) := by decide +kernel
theorem dX2_run_28 : decode cX2_run 28 = .ok (.invokevirtual 63, 3) := by decide +kernel
theorem dX2_run_31 : decode cX2_run 31 = .ok (.ireturn, 1) := by decide +kernel
theorem dX2_run_32 : decode cX2_run 32 = .ok (.aload_n 0, 1) := by decide +kernel
theorem dX2_run_33 : decode cX2_run 33 = .ok (.iconst (-1), 1) := by decide +kernel
theorem dX2_run_34 : decode cX2_run 34 = .ok (.putfield 50, 3) := by decide +kernel
theorem dX2_run_37 : decode cX2_run 37 = .ok (.aload_n 0, 1) := by decide +kernel
theorem dX2_run_38 : decode cX2_run 38 = .ok (.iconst 0, 1) := by decide +kernel
theorem dX2_run_39 : decode cX2_run 39 = .ok (.putfield 53, 3) := by decide +kernel
theorem dX2_run_42 : decode cX2_run 42 = .ok (.iconst 0, 1) := by decide +kernel
theorem dX2_run_43 : decode cX2_run 43 = .ok (.istore_n 2, 1) := by decide +kernel
theorem dX2_run_44 : decode cX2_run 44 = .ok (.iload_n 2, 1) := by decide +kernel
theorem dX2_run_45 : decode cX2_run 45 = .ok (.iload_n 1, 1) := by decide +kernel
theorem dX2_run_46 : decode cX2_run 46 = .ok (.if_icmp .ge 30, 3) := by decide +kernel
theorem dX2_run_49 : decode cX2_run 49 = .ok (.aload_n 0, 1) := by decide +kernel
theorem dX2_run_50 : decode cX2_run 50 = .ok (.invokevirtual 107, 3) := by decide +kernel
theorem dX2_run_53 : decode cX2_run 53 = .ok (.aload_n 0, 1) := by decide +kernel
theorem dX2_run_54 : decode cX2_run 54 = .ok (.getfield 53, 3) := by decide +kernel
theorem dX2_run_57 : decode cX2_run 57 = .ok (.ifCond .eq 13, 3) := by decide +kernel
theorem dX2_run_60 : decode cX2_run 60 = .ok (.aload_n 0, 1) := by decide +kernel
theorem dX2_run_61 : decode cX2_run 61 = .ok (.aload_n 0, 1) := by decide +kernel
theorem dX2_run_62 : decode cX2_run 62 = .ok (.getfield 53, 3) := by decide +kernel
theorem dX2_run_65 : decode cX2_run 65 = .ok (.iload_n 2, 1) := by decide +kernel
theorem dX2_run_66 : decode cX2_run 66 = .ok (.invokevirtual 63, 3) := by decide +kernel
theorem dX2_run_69 : decode cX2_run 69 = .ok (.ireturn, 1) := by decide +kernel
theorem dX2_run_70 : decode cX2_run 70 = .ok (.iinc 2 1, 3) := by decide +kernel
theorem dX2_run_73 : decode cX2_run 73 = .ok (.goto (-29), 3) := by decide +kernel
theorem dX2_run_76 : decode cX2_run 76 = .ok (.aload_n 0, 1) := by decide +kernel
theorem dX2_run_77 : decode cX2_run 77 = .ok (.iconst 0, 1) := by decide +kernel
theorem dX2_run_78 : decode cX2_run 78 = .ok (.iload_n 1, 1) := by decide +kernel
theorem dX2_run_79 : decode cX2_run 79 = .ok (.invokevirtual 63, 3) := by decide +kernel
theorem dX2_run_82 : decode cX2_run 82 = .ok (.ireturn, 1) := by decide +kernel
set_option maxRecDepth 20000 in
theorem ggX2_dub_X2_trackOf : GoodIn wsX2_dub wsX2_trackOf := goodIn_r _ [6, 7, 8, 9, 5, 10, 11, 12, 13, 14, 15, 16, 17, 68, 53, 54, 55, 56, 57, 58, 59, 60, 61, 62, 63, 64, 65, 66, 67] (by decide +kernel) (by decide +kernel)
set_option maxRecDepth 20000 in
theorem gX2_dub_X2_trackOf : GoodIn wsX2_dub (wsV RX2 70 RX2 yX2_trackOf wsX2_trackOf) := goodIn_app (goodIn_of _ (by decide +kernel)) ggX2_dub_X2_trackOf
set_option maxRecDepth 20000 in
theorem ggX2_dub_X2_isWithin : GoodIn wsX2_dub wsX2_isWithin := goodIn_r _ [17] (by decide +kernel) (by decide +kernel)
set_option maxRecDepth 20000 in
theorem gX2_dub_X2_isWithin : GoodIn wsX2_dub (va_wsS RX2 59 yX2_isWithin wsX2_isWithin) := goodIn_app (goodIn_of _ (by decide +kernel)) ggX2_dub_X2_isWithin
set_option maxRecDepth 20000 in
theorem ggX2_dub_X2_end : GoodIn wsX2_dub wsX2_end := goodIn_r _ [21, 22, 53, 54, 55, 56, 57, 58, 59, 60, 61, 62, 63, 64, 65, 66, 67] (by decide +kernel) (by decide +kernel)
set_option maxRecDepth 20000 in
theorem gX2_dub_X2_end : GoodIn wsX2_dub (wsV RX2 63 RX2 yX2_end wsX2_end) := goodIn_app (goodIn_of _ (by decide +kernel)) ggX2_dub_X2_end
set_option maxRecDepth 20000 in
theorem ggX2_dub_X1_faultAt : GoodIn wsX2_dub wsX1_faultAt := goodIn_r _ [26, 27, 28, 69, 70, 71] (by decide +kernel) (by decide +kernel)
set_option maxRecDepth 20000 in
theorem gX2_dub_X1_faultAt_n98 : GoodIn wsX2_dub (wsX1_faultAt) := ggX2_dub_X1_faultAt
set_option maxRecDepth 20000 in
theorem ggX2_dub_X2_firstFault : GoodIn wsX2_dub wsX2_firstFault := goodIn_r _ [31] (by decide +kernel) (by decide +kernel)
set_option maxRecDepth 20000 in
theorem gX2_dub_X2_firstFault : GoodIn wsX2_dub (va_wsS RX2 110 yX2_firstFault wsX2_firstFault) := goodIn_app (goodIn_of _ (by decide +kernel)) ggX2_dub_X2_firstFault
set_option maxRecDepth 20000 in
theorem ggX2_dub_X1_numberAt : GoodIn wsX2_dub wsX1_numberAt := goodIn_r _ [34, 28, 35, 23, 25, 24, 26, 27, 69, 70, 71] (by decide +kernel) (by decide +kernel)
set_option maxRecDepth 20000 in
theorem gX2_dub_X1_numberAt_n101 : GoodIn wsX2_dub (wsX1_numberAt) := ggX2_dub_X1_numberAt
set_option maxRecDepth 20000 in
theorem ggX2_dub_X1_put : GoodIn wsX2_dub wsX1_put := goodIn_r _ [38, 28, 35, 23, 25, 24, 26, 27, 39, 40, 41, 42, 43, 44, 45, 46, 47, 48, 49, 50, 51, 52, 69, 70, 71] (by decide +kernel) (by decide +kernel)
set_option maxRecDepth 20000 in
theorem gX2_dub_X1_put_n104 : GoodIn wsX2_dub (wsX1_put) := ggX2_dub_X1_put
theorem dX2_dub_0 : decode cX2_dub 0 = .ok (.aload_n 0, 1) := by decide +kernel
theorem dX2_dub_1 : decode cX2_dub 1 = .ok (.iload_n 1, 1) := by decide +kernel
theorem dX2_dub_2 : decode cX2_dub 2 = .ok (.iload_n 2, 1) := by decide +kernel
theorem dX2_dub_3 : decode cX2_dub 3 = .ok (.invokevirtual 70, 3) := by decide +kernel
theorem dX2_dub_6 : decode cX2_dub 6 = .ok (.astore 7, 2) := by decide +kernel
theorem dX2_dub_8 : decode cX2_dub 8 = .ok (.aload_n 0, 1) := by decide +kernel
theorem dX2_dub_9 : decode cX2_dub 9 = .ok (.iload 5, 2) := by decide +kernel
theorem dX2_dub_11 : decode cX2_dub 11 = .ok (.iload 6, 2) := by decide +kernel
theorem dX2_dub_13 : decode cX2_dub 13 = .ok (.invokevirtual 70, 3) := by decide +kernel
theorem dX2_dub_16 : decode cX2_dub 16 = .ok (.astore 8, 2) := by decide +kernel
theorem dX2_dub_18 : decode cX2_dub 18 = .ok (.aload 7, 2) := by decide +kernel
theorem dX2_dub_20 : decode cX2_dub 20 = .ok (.ifnull 19, 3) := by decide +kernel
theorem dX2_dub_23 : decode cX2_dub 23 = .ok (.aload 8, 2) := by decide +kernel
theorem dX2_dub_25 : decode cX2_dub 25 = .ok (.ifnull 14, 3) := by decide +kernel
theorem dX2_dub_28 : decode cX2_dub 28 = .ok (.iload 4, 2) := by decide +kernel
theorem dX2_dub_30 : decode cX2_dub 30 = .ok (.iconst 0, 1) := by decide +kernel
theorem dX2_dub_31 : decode cX2_dub 31 = .ok (.bipush 64, 2) := by decide +kernel
theorem dX2_dub_33 : decode cX2_dub 33 = .ok (.invokestatic 59, 3) := by decide +kernel
theorem dX2_dub_36 : decode cX2_dub 36 = .ok (.ifCond .ne 10, 3) := by decide +kernel
theorem dX2_dub_39 : decode cX2_dub 39 = .ok (.aload_n 0, 1) := by decide +kernel
theorem dX2_dub_40 : decode cX2_dub 40 = .ok (.iconst 1, 1) := by decide +kernel
theorem dX2_dub_41 : decode cX2_dub 41 = .ok (.iconst 0, 1) := by decide +kernel
theorem dX2_dub_42 : decode cX2_dub 42 = .ok (.invokevirtual 63, 3) := by decide +kernel
theorem dX2_dub_45 : decode cX2_dub 45 = .ok (.ireturn, 1) := by decide +kernel
theorem dX2_dub_46 : decode cX2_dub 46 = .ok (.iconst 0, 1) := by decide +kernel
theorem dX2_dub_47 : decode cX2_dub 47 = .ok (.istore 9, 2) := by decide +kernel
theorem dX2_dub_49 : decode cX2_dub 49 = .ok (.iload 9, 2) := by decide +kernel
theorem dX2_dub_51 : decode cX2_dub 51 = .ok (.iload 4, 2) := by decide +kernel
theorem dX2_dub_53 : decode cX2_dub 53 = .ok (.if_icmp .ge 70, 3) := by decide +kernel
theorem dX2_dub_56 : decode cX2_dub 56 = .ok (.aload 7, 2) := by decide +kernel
theorem dX2_dub_58 : decode cX2_dub 58 = .ok (.iload_n 3, 1) := by decide +kernel
theorem dX2_dub_59 : decode cX2_dub 59 = .ok (.iload 9, 2) := by decide +kernel
theorem dX2_dub_61 : decode cX2_dub 61 = .ok (.iadd, 1) := by decide +kernel
theorem dX2_dub_62 : decode cX2_dub 62 = .ok (.invokevirtual 98, 3) := by decide +kernel
theorem dX2_dub_65 : decode cX2_dub 65 = .ok (.aload 8, 2) := by decide +kernel
theorem dX2_dub_67 : decode cX2_dub 67 = .ok (.aload_n 0, 1) := by decide +kernel
theorem dX2_dub_68 : decode cX2_dub 68 = .ok (.getfield 22, 3) := by decide +kernel
theorem dX2_dub_71 : decode cX2_dub 71 = .ok (.iload 9, 2) := by decide +kernel
theorem dX2_dub_73 : decode cX2_dub 73 = .ok (.iadd, 1) := by decide +kernel
theorem dX2_dub_74 : decode cX2_dub 74 = .ok (.invokevirtual 98, 3) := by decide +kernel
theorem dX2_dub_77 : decode cX2_dub 77 = .ok (.invokestatic 110, 3) := by decide +kernel
theorem dX2_dub_80 : decode cX2_dub 80 = .ok (.istore 10, 2) := by decide +kernel
theorem dX2_dub_82 : decode cX2_dub 82 = .ok (.iload 10, 2) := by decide +kernel
theorem dX2_dub_84 : decode cX2_dub 84 = .ok (.ifCond .eq 12, 3) := by decide +kernel
theorem dX2_dub_87 : decode cX2_dub 87 = .ok (.aload_n 0, 1) := by decide +kernel
theorem dX2_dub_88 : decode cX2_dub 88 = .ok (.iload 10, 2) := by decide +kernel
theorem dX2_dub_90 : decode cX2_dub 90 = .ok (.iload 9, 2) := by decide +kernel
theorem dX2_dub_92 : decode cX2_dub 92 = .ok (.invokevirtual 63, 3) := by decide +kernel
theorem dX2_dub_95 : decode cX2_dub 95 = .ok (.ireturn, 1) := by decide +kernel
theorem dX2_dub_96 : decode cX2_dub 96 = .ok (.aload 8, 2) := by decide +kernel
theorem dX2_dub_98 : decode cX2_dub 98 = .ok (.aload_n 0, 1) := by decide +kernel
theorem dX2_dub_99 : decode cX2_dub 99 = .ok (.getfield 22, 3) := by decide +kernel
theorem dX2_dub_102 : decode cX2_dub 102 = .ok (.iload 9, 2) := by decide +kernel
theorem dX2_dub_104 : decode cX2_dub 104 = .ok (.iadd, 1) := by decide +kernel
theorem dX2_dub_105 : decode cX2_dub 105 = .ok (.aload 7, 2) := by decide +kernel
theorem dX2_dub_107 : decode cX2_dub 107 = .ok (.iload_n 3, 1) := by decide +kernel
theorem dX2_dub_108 : decode cX2_dub 108 = .ok (.iload 9, 2) := by decide +kernel
theorem dX2_dub_110 : decode cX2_dub 110 = .ok (.iadd, 1) := by decide +kernel
theorem dX2_dub_111 : decode cX2_dub 111 = .ok (.invokevirtual 101, 3) := by decide +kernel
theorem dX2_dub_114 : decode cX2_dub 114 = .ok (.invokevirtual 104, 3) := by decide +kernel
theorem dX2_dub_117 : decode cX2_dub 117 = .ok (.iinc 9 1, 3) := by decide +kernel
theorem dX2_dub_120 : decode cX2_dub 120 = .ok (.goto (-71), 3) := by decide +kernel
theorem dX2_dub_123 : decode cX2_dub 123 = .ok (.aload_n 0, 1) := by decide +kernel
theorem dX2_dub_124 : decode cX2_dub 124 = .ok (.iconst 0, 1) := by decide +kernel
theorem dX2_dub_125 : decode cX2_dub 125 = .ok (.iload 4, 2) := by decide +kernel
theorem dX2_dub_127 : decode cX2_dub 127 = .ok (.invokevirtual 63, 3) := by decide +kernel
theorem dX2_dub_130 : decode cX2_dub 130 = .ok (.ireturn, 1) := by decide +kernel
set_option maxRecDepth 20000 in
theorem ggX2_turn_X2_isWithin : GoodIn wsX2_turn wsX2_isWithin := goodIn_r _ [5] (by decide +kernel) (by decide +kernel)
set_option maxRecDepth 20000 in
theorem gX2_turn_X2_isWithin : GoodIn wsX2_turn (va_wsS RX2 59 yX2_isWithin wsX2_isWithin) := goodIn_app (goodIn_of _ (by decide +kernel)) ggX2_turn_X2_isWithin
set_option maxRecDepth 20000 in
theorem ggX2_turn_X2_end : GoodIn wsX2_turn wsX2_end := goodIn_r _ [9, 10, 68, 69, 70, 71, 72, 73, 74, 75, 76, 77, 78, 79, 80, 81, 82] (by decide +kernel) (by decide +kernel)
set_option maxRecDepth 20000 in
theorem gX2_turn_X2_end : GoodIn wsX2_turn (wsV RX2 63 RX2 yX2_end wsX2_end) := goodIn_app (goodIn_of _ (by decide +kernel)) ggX2_turn_X2_end
set_option maxRecDepth 20000 in
theorem ggX2_turn_X2_trackOf : GoodIn wsX2_turn wsX2_trackOf := goodIn_r _ [14, 15, 16, 17, 4, 18, 19, 20, 21, 22, 2, 3, 5, 83, 68, 69, 70, 71, 72, 73, 74, 75, 76, 77, 78, 79, 80, 81, 82] (by decide +kernel) (by decide +kernel)
set_option maxRecDepth 20000 in
theorem gX2_turn_X2_trackOf : GoodIn wsX2_turn (wsV RX2 70 RX2 yX2_trackOf wsX2_trackOf) := goodIn_app (goodIn_of _ (by decide +kernel)) ggX2_turn_X2_trackOf
set_option maxRecDepth 20000 in
theorem ggX2_turn_X2_whyNoneUnderHead : GoodIn wsX2_turn wsX2_whyNoneUnderHead := goodIn_r _ [26, 20, 21, 4, 22, 2, 3, 5] (by decide +kernel) (by decide +kernel)
set_option maxRecDepth 20000 in
theorem gX2_turn_X2_whyNoneUnderHead : GoodIn wsX2_turn (wsV RX2 91 RX2 yX2_whyNoneUnderHead wsX2_whyNoneUnderHead) := goodIn_app (goodIn_of _ (by decide +kernel)) ggX2_turn_X2_whyNoneUnderHead
set_option maxRecDepth 20000 in
theorem ggX2_turn_X2_placeOfHead : GoodIn wsX2_turn wsX2_placeOfHead := goodIn_r _ [30, 31, 32, 20, 21, 4, 22, 2, 3, 5, 68, 69, 70, 71, 72, 73, 74, 75, 76, 77, 78, 79, 80, 81, 82] (by decide +kernel) (by decide +kernel)
set_option maxRecDepth 20000 in
theorem gX2_turn_X2_placeOfHead : GoodIn wsX2_turn (wsV RX2 95 RX2 yX2_placeOfHead wsX2_placeOfHead) := goodIn_app (goodIn_of _ (by decide +kernel)) ggX2_turn_X2_placeOfHead
set_option maxRecDepth 20000 in
theorem ggX2_turn_X1_faultAt : GoodIn wsX2_turn wsX1_faultAt := goodIn_r _ [36, 37, 38, 84, 85, 86] (by decide +kernel) (by decide +kernel)
set_option maxRecDepth 20000 in
theorem gX2_turn_X1_faultAt_n98 : GoodIn wsX2_turn (wsX1_faultAt) := ggX2_turn_X1_faultAt
set_option maxRecDepth 20000 in
theorem ggX2_turn_X2_firstFault : GoodIn wsX2_turn wsX2_firstFault := goodIn_r _ [41] (by decide +kernel) (by decide +kernel)
set_option maxRecDepth 20000 in
theorem gX2_turn_X2_firstFault : GoodIn wsX2_turn (va_wsS RX2 110 yX2_firstFault wsX2_firstFault) := goodIn_app (goodIn_of _ (by decide +kernel)) ggX2_turn_X2_firstFault
set_option maxRecDepth 20000 in
theorem ggX2_turn_X1_exchange : GoodIn wsX2_turn wsX1_exchange := goodIn_r _ [44, 45, 46, 47, 34, 48, 38, 49, 33, 35, 36, 37, 50, 51, 52, 53, 54, 55, 56, 57, 58, 59, 60, 61, 62, 63, 64, 65, 66, 67, 84, 85, 86] (by decide +kernel) (by decide +kernel)
set_option maxRecDepth 20000 in
theorem gX2_turn_X1_exchange_n113 : GoodIn wsX2_turn (wsX1_exchange) := ggX2_turn_X1_exchange
theorem dX2_turn_0 : decode cX2_turn 0 = .ok (.iload_n 2, 1) := by decide +kernel
theorem dX2_turn_1 : decode cX2_turn 1 = .ok (.iconst 0, 1) := by decide +kernel
theorem dX2_turn_2 : decode cX2_turn 2 = .ok (.bipush 64, 2) := by decide +kernel
theorem dX2_turn_4 : decode cX2_turn 4 = .ok (.invokestatic 59, 3) := by decide +kernel
theorem dX2_turn_7 : decode cX2_turn 7 = .ok (.ifCond .ne 10, 3) := by decide +kernel
theorem dX2_turn_10 : decode cX2_turn 10 = .ok (.aload_n 0, 1) := by decide +kernel
theorem dX2_turn_11 : decode cX2_turn 11 = .ok (.iconst 1, 1) := by decide +kernel
theorem dX2_turn_12 : decode cX2_turn 12 = .ok (.iconst 0, 1) := by decide +kernel
theorem dX2_turn_13 : decode cX2_turn 13 = .ok (.invokevirtual 63, 3) := by decide +kernel
theorem dX2_turn_16 : decode cX2_turn 16 = .ok (.ireturn, 1) := by decide +kernel
theorem dX2_turn_17 : decode cX2_turn 17 = .ok (.aload_n 0, 1) := by decide +kernel
theorem dX2_turn_18 : decode cX2_turn 18 = .ok (.aload_n 0, 1) := by decide +kernel
theorem dX2_turn_19 : decode cX2_turn 19 = .ok (.getfield 19, 3) := by decide +kernel
theorem dX2_turn_22 : decode cX2_turn 22 = .ok (.iload_n 1, 1) := by decide +kernel
theorem dX2_turn_23 : decode cX2_turn 23 = .ok (.invokevirtual 70, 3) := by decide +kernel
theorem dX2_turn_26 : decode cX2_turn 26 = .ok (.astore_n 3, 1) := by decide +kernel
theorem dX2_turn_27 : decode cX2_turn 27 = .ok (.aload_n 3, 1) := by decide +kernel
theorem dX2_turn_28 : decode cX2_turn 28 = .ok (.ifnonnull 14, 3) := by decide +kernel
theorem dX2_turn_31 : decode cX2_turn 31 = .ok (.aload_n 0, 1) := by decide +kernel
theorem dX2_turn_32 : decode cX2_turn 32 = .ok (.aload_n 0, 1) := by decide +kernel
theorem dX2_turn_33 : decode cX2_turn 33 = .ok (.iload_n 1, 1) := by decide +kernel
theorem dX2_turn_34 : decode cX2_turn 34 = .ok (.invokevirtual 91, 3) := by decide +kernel
theorem dX2_turn_37 : decode cX2_turn 37 = .ok (.iconst 0, 1) := by decide +kernel
theorem dX2_turn_38 : decode cX2_turn 38 = .ok (.invokevirtual 63, 3) := by decide +kernel
theorem dX2_turn_41 : decode cX2_turn 41 = .ok (.ireturn, 1) := by decide +kernel
theorem dX2_turn_42 : decode cX2_turn 42 = .ok (.iload_n 2, 1) := by decide +kernel
theorem dX2_turn_43 : decode cX2_turn 43 = .ok (.iconst 2, 1) := by decide +kernel
theorem dX2_turn_44 : decode cX2_turn 44 = .ok (.idiv, 1) := by decide +kernel
theorem dX2_turn_45 : decode cX2_turn 45 = .ok (.istore 4, 2) := by decide +kernel
theorem dX2_turn_47 : decode cX2_turn 47 = .ok (.aload_n 0, 1) := by decide +kernel
theorem dX2_turn_48 : decode cX2_turn 48 = .ok (.iload_n 1, 1) := by decide +kernel
theorem dX2_turn_49 : decode cX2_turn 49 = .ok (.invokevirtual 95, 3) := by decide +kernel
theorem dX2_turn_52 : decode cX2_turn 52 = .ok (.istore 5, 2) := by decide +kernel
theorem dX2_turn_54 : decode cX2_turn 54 = .ok (.iload 5, 2) := by decide +kernel
theorem dX2_turn_56 : decode cX2_turn 56 = .ok (.iload_n 2, 1) := by decide +kernel
theorem dX2_turn_57 : decode cX2_turn 57 = .ok (.iadd, 1) := by decide +kernel
theorem dX2_turn_58 : decode cX2_turn 58 = .ok (.iconst 1, 1) := by decide +kernel
theorem dX2_turn_59 : decode cX2_turn 59 = .ok (.isub, 1) := by decide +kernel
theorem dX2_turn_60 : decode cX2_turn 60 = .ok (.istore 6, 2) := by decide +kernel
theorem dX2_turn_62 : decode cX2_turn 62 = .ok (.iconst 0, 1) := by decide +kernel
theorem dX2_turn_63 : decode cX2_turn 63 = .ok (.istore 7, 2) := by decide +kernel
theorem dX2_turn_65 : decode cX2_turn 65 = .ok (.iload 7, 2) := by decide +kernel
theorem dX2_turn_67 : decode cX2_turn 67 = .ok (.iload 4, 2) := by decide +kernel
theorem dX2_turn_69 : decode cX2_turn 69 = .ok (.if_icmp .ge 60, 3) := by decide +kernel
theorem dX2_turn_72 : decode cX2_turn 72 = .ok (.aload_n 3, 1) := by decide +kernel
theorem dX2_turn_73 : decode cX2_turn 73 = .ok (.iload 5, 2) := by decide +kernel
theorem dX2_turn_75 : decode cX2_turn 75 = .ok (.iload 7, 2) := by decide +kernel
theorem dX2_turn_77 : decode cX2_turn 77 = .ok (.iadd, 1) := by decide +kernel
theorem dX2_turn_78 : decode cX2_turn 78 = .ok (.invokevirtual 98, 3) := by decide +kernel
theorem dX2_turn_81 : decode cX2_turn 81 = .ok (.aload_n 3, 1) := by decide +kernel
theorem dX2_turn_82 : decode cX2_turn 82 = .ok (.iload 6, 2) := by decide +kernel
theorem dX2_turn_84 : decode cX2_turn 84 = .ok (.iload 7, 2) := by decide +kernel
theorem dX2_turn_86 : decode cX2_turn 86 = .ok (.isub, 1) := by decide +kernel
theorem dX2_turn_87 : decode cX2_turn 87 = .ok (.invokevirtual 98, 3) := by decide +kernel
theorem dX2_turn_90 : decode cX2_turn 90 = .ok (.invokestatic 110, 3) := by decide +kernel
theorem dX2_turn_93 : decode cX2_turn 93 = .ok (.istore 8, 2) := by decide +kernel
theorem dX2_turn_95 : decode cX2_turn 95 = .ok (.iload 8, 2) := by decide +kernel
theorem dX2_turn_97 : decode cX2_turn 97 = .ok (.ifCond .eq 12, 3) := by decide +kernel
theorem dX2_turn_100 : decode cX2_turn 100 = .ok (.aload_n 0, 1) := by decide +kernel
theorem dX2_turn_101 : decode cX2_turn 101 = .ok (.iload 8, 2) := by decide +kernel
theorem dX2_turn_103 : decode cX2_turn 103 = .ok (.iload 7, 2) := by decide +kernel
theorem dX2_turn_105 : decode cX2_turn 105 = .ok (.invokevirtual 63, 3) := by decide +kernel
theorem dX2_turn_108 : decode cX2_turn 108 = .ok (.ireturn, 1) := by decide +kernel
theorem dX2_turn_109 : decode cX2_turn 109 = .ok (.aload_n 3, 1) := by decide +kernel
theorem dX2_turn_110 : decode cX2_turn 110 = .ok (.iload 5, 2) := by decide +kernel
theorem dX2_turn_112 : decode cX2_turn 112 = .ok (.iload 7, 2) := by decide +kernel
theorem dX2_turn_114 : decode cX2_turn 114 = .ok (.iadd, 1) := by decide +kernel
theorem dX2_turn_115 : decode cX2_turn 115 = .ok (.iload 6, 2) := by decide +kernel
theorem dX2_turn_117 : decode cX2_turn 117 = .ok (.iload 7, 2) := by decide +kernel
theorem dX2_turn_119 : decode cX2_turn 119 = .ok (.isub, 1) := by decide +kernel
theorem dX2_turn_120 : decode cX2_turn 120 = .ok (.invokevirtual 113, 3) := by decide +kernel
theorem dX2_turn_123 : decode cX2_turn 123 = .ok (.iinc 7 1, 3) := by decide +kernel
theorem dX2_turn_126 : decode cX2_turn 126 = .ok (.goto (-61), 3) := by decide +kernel
theorem dX2_turn_129 : decode cX2_turn 129 = .ok (.aload_n 0, 1) := by decide +kernel
theorem dX2_turn_130 : decode cX2_turn 130 = .ok (.iconst 0, 1) := by decide +kernel
theorem dX2_turn_131 : decode cX2_turn 131 = .ok (.iload 4, 2) := by decide +kernel
theorem dX2_turn_133 : decode cX2_turn 133 = .ok (.invokevirtual 63, 3) := by decide +kernel
theorem dX2_turn_136 : decode cX2_turn 136 = .ok (.ireturn, 1) := by decide +kernel
set_option maxRecDepth 20000 in
theorem ggX2_scan_X2_trackOf : GoodIn wsX2_scan wsX2_trackOf := goodIn_r _ [6, 7, 8, 9, 5, 10, 11, 12, 13, 14, 15, 16, 17, 58, 43, 44, 45, 46, 47, 48, 49, 50, 51, 52, 53, 54, 55, 56, 57] (by decide +kernel) (by decide +kernel)
set_option maxRecDepth 20000 in
theorem gX2_scan_X2_trackOf : GoodIn wsX2_scan (wsV RX2 70 RX2 yX2_trackOf wsX2_trackOf) := goodIn_app (goodIn_of _ (by decide +kernel)) ggX2_scan_X2_trackOf
set_option maxRecDepth 20000 in
theorem ggX2_scan_X2_whyNoneUnderHead : GoodIn wsX2_scan wsX2_whyNoneUnderHead := goodIn_r _ [21, 12, 13, 5, 14, 15, 16, 17] (by decide +kernel) (by decide +kernel)
set_option maxRecDepth 20000 in
theorem gX2_scan_X2_whyNoneUnderHead : GoodIn wsX2_scan (wsV RX2 91 RX2 yX2_whyNoneUnderHead wsX2_whyNoneUnderHead) := goodIn_app (goodIn_of _ (by decide +kernel)) ggX2_scan_X2_whyNoneUnderHead
set_option maxRecDepth 20000 in
theorem ggX2_scan_X2_end : GoodIn wsX2_scan wsX2_end := goodIn_r _ [25, 26, 43, 44, 45, 46, 47, 48, 49, 50, 51, 52, 53, 54, 55, 56, 57] (by decide +kernel) (by decide +kernel)
set_option maxRecDepth 20000 in
theorem gX2_scan_X2_end : GoodIn wsX2_scan (wsV RX2 63 RX2 yX2_end wsX2_end) := goodIn_app (goodIn_of _ (by decide +kernel)) ggX2_scan_X2_end
set_option maxRecDepth 20000 in
theorem ggX2_scan_X2_placeOfHead : GoodIn wsX2_scan wsX2_placeOfHead := goodIn_r _ [30, 31, 32, 12, 13, 5, 14, 15, 16, 17, 43, 44, 45, 46, 47, 48, 49, 50, 51, 52, 53, 54, 55, 56, 57] (by decide +kernel) (by decide +kernel)
set_option maxRecDepth 20000 in
theorem gX2_scan_X2_placeOfHead : GoodIn wsX2_scan (wsV RX2 95 RX2 yX2_placeOfHead wsX2_placeOfHead) := goodIn_app (goodIn_of _ (by decide +kernel)) ggX2_scan_X2_placeOfHead
set_option maxRecDepth 20000 in
theorem ggX2_scan_X1_faultAt : GoodIn wsX2_scan wsX1_faultAt := goodIn_r _ [36, 37, 38, 59, 60, 61] (by decide +kernel) (by decide +kernel)
set_option maxRecDepth 20000 in
theorem gX2_scan_X1_faultAt_n98 : GoodIn wsX2_scan (wsX1_faultAt) := ggX2_scan_X1_faultAt
set_option maxRecDepth 20000 in
theorem ggX2_scan_X1_numberAt : GoodIn wsX2_scan wsX1_numberAt := goodIn_r _ [41, 38, 42, 33, 35, 34, 36, 37, 59, 60, 61] (by decide +kernel) (by decide +kernel)
set_option maxRecDepth 20000 in
theorem gX2_scan_X1_numberAt_n101 : GoodIn wsX2_scan (wsX1_numberAt) := ggX2_scan_X1_numberAt
theorem dX2_scan_0 : decode cX2_scan 0 = .ok (.aload_n 0, 1) := by decide +kernel
theorem dX2_scan_1 : decode cX2_scan 1 = .ok (.aload_n 0, 1) := by decide +kernel
theorem dX2_scan_2 : decode cX2_scan 2 = .ok (.getfield 19, 3) := by decide +kernel
theorem dX2_scan_5 : decode cX2_scan 5 = .ok (.iload_n 1, 1) := by decide +kernel
theorem dX2_scan_6 : decode cX2_scan 6 = .ok (.invokevirtual 70, 3) := by decide +kernel
theorem dX2_scan_9 : decode cX2_scan 9 = .ok (.astore_n 3, 1) := by decide +kernel
theorem dX2_scan_10 : decode cX2_scan 10 = .ok (.aload_n 3, 1) := by decide +kernel
theorem dX2_scan_11 : decode cX2_scan 11 = .ok (.ifnonnull 14, 3) := by decide +kernel
theorem dX2_scan_14 : decode cX2_scan 14 = .ok (.aload_n 0, 1) := by decide +kernel
theorem dX2_scan_15 : decode cX2_scan 15 = .ok (.aload_n 0, 1) := by decide +kernel
theorem dX2_scan_16 : decode cX2_scan 16 = .ok (.iload_n 1, 1) := by decide +kernel
theorem dX2_scan_17 : decode cX2_scan 17 = .ok (.invokevirtual 91, 3) := by decide +kernel
theorem dX2_scan_20 : decode cX2_scan 20 = .ok (.iconst (-1), 1) := by decide +kernel
theorem dX2_scan_21 : decode cX2_scan 21 = .ok (.invokevirtual 63, 3) := by decide +kernel
theorem dX2_scan_24 : decode cX2_scan 24 = .ok (.ireturn, 1) := by decide +kernel
theorem dX2_scan_25 : decode cX2_scan 25 = .ok (.aload_n 0, 1) := by decide +kernel
theorem dX2_scan_26 : decode cX2_scan 26 = .ok (.iload_n 1, 1) := by decide +kernel
theorem dX2_scan_27 : decode cX2_scan 27 = .ok (.invokevirtual 95, 3) := by decide +kernel
theorem dX2_scan_30 : decode cX2_scan 30 = .ok (.istore 4, 2) := by decide +kernel
theorem dX2_scan_32 : decode cX2_scan 32 = .ok (.iconst 0, 1) := by decide +kernel
theorem dX2_scan_33 : decode cX2_scan 33 = .ok (.istore 5, 2) := by decide +kernel
theorem dX2_scan_35 : decode cX2_scan 35 = .ok (.iload 5, 2) := by decide +kernel
theorem dX2_scan_37 : decode cX2_scan 37 = .ok (.bipush 64, 2) := by decide +kernel
theorem dX2_scan_39 : decode cX2_scan 39 = .ok (.if_icmp .ge 54, 3) := by decide +kernel
theorem dX2_scan_42 : decode cX2_scan 42 = .ok (.aload_n 3, 1) := by decide +kernel
theorem dX2_scan_43 : decode cX2_scan 43 = .ok (.iload 4, 2) := by decide +kernel
theorem dX2_scan_45 : decode cX2_scan 45 = .ok (.iload 5, 2) := by decide +kernel
theorem dX2_scan_47 : decode cX2_scan 47 = .ok (.iadd, 1) := by decide +kernel
theorem dX2_scan_48 : decode cX2_scan 48 = .ok (.invokevirtual 98, 3) := by decide +kernel
theorem dX2_scan_51 : decode cX2_scan 51 = .ok (.istore 6, 2) := by decide +kernel
theorem dX2_scan_53 : decode cX2_scan 53 = .ok (.iload 6, 2) := by decide +kernel
theorem dX2_scan_55 : decode cX2_scan 55 = .ok (.ifCond .eq 11, 3) := by decide +kernel
theorem dX2_scan_58 : decode cX2_scan 58 = .ok (.aload_n 0, 1) := by decide +kernel
theorem dX2_scan_59 : decode cX2_scan 59 = .ok (.iload 6, 2) := by decide +kernel
theorem dX2_scan_61 : decode cX2_scan 61 = .ok (.iconst (-1), 1) := by decide +kernel
theorem dX2_scan_62 : decode cX2_scan 62 = .ok (.invokevirtual 63, 3) := by decide +kernel
theorem dX2_scan_65 : decode cX2_scan 65 = .ok (.ireturn, 1) := by decide +kernel
theorem dX2_scan_66 : decode cX2_scan 66 = .ok (.aload_n 3, 1) := by decide +kernel
theorem dX2_scan_67 : decode cX2_scan 67 = .ok (.iload 4, 2) := by decide +kernel
theorem dX2_scan_69 : decode cX2_scan 69 = .ok (.iload 5, 2) := by decide +kernel
theorem dX2_scan_71 : decode cX2_scan 71 = .ok (.iadd, 1) := by decide +kernel
theorem dX2_scan_72 : decode cX2_scan 72 = .ok (.invokevirtual 101, 3) := by decide +kernel
theorem dX2_scan_75 : decode cX2_scan 75 = .ok (.iload_n 2, 1) := by decide +kernel
theorem dX2_scan_76 : decode cX2_scan 76 = .ok (.if_icmp .ne 11, 3) := by decide +kernel
theorem dX2_scan_79 : decode cX2_scan 79 = .ok (.aload_n 0, 1) := by decide +kernel
theorem dX2_scan_80 : decode cX2_scan 80 = .ok (.iconst 0, 1) := by decide +kernel
theorem dX2_scan_81 : decode cX2_scan 81 = .ok (.iload 5, 2) := by decide +kernel
theorem dX2_scan_83 : decode cX2_scan 83 = .ok (.invokevirtual 63, 3) := by decide +kernel
theorem dX2_scan_86 : decode cX2_scan 86 = .ok (.ireturn, 1) := by decide +kernel
theorem dX2_scan_87 : decode cX2_scan 87 = .ok (.iinc 5 1, 3) := by decide +kernel
theorem dX2_scan_90 : decode cX2_scan 90 = .ok (.goto (-55), 3) := by decide +kernel
theorem dX2_scan_93 : decode cX2_scan 93 = .ok (.aload_n 0, 1) := by decide +kernel
theorem dX2_scan_94 : decode cX2_scan 94 = .ok (.iconst 3, 1) := by decide +kernel
theorem dX2_scan_95 : decode cX2_scan 95 = .ok (.iconst (-1), 1) := by decide +kernel
theorem dX2_scan_96 : decode cX2_scan 96 = .ok (.invokevirtual 63, 3) := by decide +kernel
theorem dX2_scan_99 : decode cX2_scan 99 = .ok (.ireturn, 1) := by decide +kernel
set_option maxRecDepth 20000 in
theorem ggX2_sheet_X2_end : GoodIn wsX2_sheet wsX2_end := goodIn_r _ [8, 9, 14, 15, 16, 17, 18, 19, 20, 21, 22, 23, 24, 25, 26, 27, 28] (by decide +kernel) (by decide +kernel)
set_option maxRecDepth 20000 in
theorem gX2_sheet_X2_end : GoodIn wsX2_sheet (wsV RX2 63 RX2 yX2_end wsX2_end) := goodIn_app (goodIn_of _ (by decide +kernel)) ggX2_sheet_X2_end
set_option maxRecDepth 20000 in
theorem ggX2_sheet_J7_fill_53178 : GoodIn wsX2_sheet wsJ7_fill_53178 := goodIn_r _ [13] (by decide +kernel) (by decide +kernel)
set_option maxRecDepth 20000 in
theorem gX2_sheet_J7_fill_53178 : GoodIn wsX2_sheet (va_wsS RX2 116 yJ7_fill_53178 wsJ7_fill_53178) := goodIn_app (goodIn_of _ (by decide +kernel)) ggX2_sheet_J7_fill_53178
theorem dX2_sheet_0 : decode cX2_sheet 0 = .ok (.iload_n 1, 1) := by decide +kernel
theorem dX2_sheet_1 : decode cX2_sheet 1 = .ok (.bipush 16, 2) := by decide +kernel
theorem dX2_sheet_3 : decode cX2_sheet 3 = .ok (.if_icmp .gt 9, 3) := by decide +kernel
theorem dX2_sheet_6 : decode cX2_sheet 6 = .ok (.iload_n 2, 1) := by decide +kernel
theorem dX2_sheet_7 : decode cX2_sheet 7 = .ok (.bipush 16, 2) := by decide +kernel
theorem dX2_sheet_9 : decode cX2_sheet 9 = .ok (.if_icmp .le 10, 3) := by decide +kernel
theorem dX2_sheet_12 : decode cX2_sheet 12 = .ok (.aload_n 0, 1) := by decide +kernel
theorem dX2_sheet_13 : decode cX2_sheet 13 = .ok (.iconst 1, 1) := by decide +kernel
theorem dX2_sheet_14 : decode cX2_sheet 14 = .ok (.iconst (-1), 1) := by decide +kernel
theorem dX2_sheet_15 : decode cX2_sheet 15 = .ok (.invokevirtual 63, 3) := by decide +kernel
theorem dX2_sheet_18 : decode cX2_sheet 18 = .ok (.ireturn, 1) := by decide +kernel
theorem dX2_sheet_19 : decode cX2_sheet 19 = .ok (.iload_n 1, 1) := by decide +kernel
theorem dX2_sheet_20 : decode cX2_sheet 20 = .ok (.ifCond .lt 7, 3) := by decide +kernel
theorem dX2_sheet_23 : decode cX2_sheet 23 = .ok (.iload_n 2, 1) := by decide +kernel
theorem dX2_sheet_24 : decode cX2_sheet 24 = .ok (.ifCond .ge 10, 3) := by decide +kernel
theorem dX2_sheet_27 : decode cX2_sheet 27 = .ok (.aload_n 0, 1) := by decide +kernel
theorem dX2_sheet_28 : decode cX2_sheet 28 = .ok (.iconst 4, 1) := by decide +kernel
theorem dX2_sheet_29 : decode cX2_sheet 29 = .ok (.iconst (-1), 1) := by decide +kernel
theorem dX2_sheet_30 : decode cX2_sheet 30 = .ok (.invokevirtual 63, 3) := by decide +kernel
theorem dX2_sheet_33 : decode cX2_sheet 33 = .ok (.ireturn, 1) := by decide +kernel
theorem dX2_sheet_34 : decode cX2_sheet 34 = .ok (.aload_n 0, 1) := by decide +kernel
theorem dX2_sheet_35 : decode cX2_sheet 35 = .ok (.iload_n 1, 1) := by decide +kernel
theorem dX2_sheet_36 : decode cX2_sheet 36 = .ok (.putfield 44, 3) := by decide +kernel
theorem dX2_sheet_39 : decode cX2_sheet 39 = .ok (.aload_n 0, 1) := by decide +kernel
theorem dX2_sheet_40 : decode cX2_sheet 40 = .ok (.iload_n 2, 1) := by decide +kernel
theorem dX2_sheet_41 : decode cX2_sheet 41 = .ok (.putfield 47, 3) := by decide +kernel
theorem dX2_sheet_44 : decode cX2_sheet 44 = .ok (.aload_n 0, 1) := by decide +kernel
theorem dX2_sheet_45 : decode cX2_sheet 45 = .ok (.getfield 41, 3) := by decide +kernel
theorem dX2_sheet_48 : decode cX2_sheet 48 = .ok (.iconst 0, 1) := by decide +kernel
theorem dX2_sheet_49 : decode cX2_sheet 49 = .ok (.invokestatic 116, 3) := by decide +kernel
theorem dX2_sheet_52 : decode cX2_sheet 52 = .ok (.aload_n 0, 1) := by decide +kernel
theorem dX2_sheet_53 : decode cX2_sheet 53 = .ok (.iconst 0, 1) := by decide +kernel
theorem dX2_sheet_54 : decode cX2_sheet 54 = .ok (.iload_n 1, 1) := by decide +kernel
theorem dX2_sheet_55 : decode cX2_sheet 55 = .ok (.iload_n 2, 1) := by decide +kernel
theorem dX2_sheet_56 : decode cX2_sheet 56 = .ok (.imul, 1) := by decide +kernel
theorem dX2_sheet_57 : decode cX2_sheet 57 = .ok (.invokevirtual 63, 3) := by decide +kernel
theorem dX2_sheet_60 : decode cX2_sheet 60 = .ok (.ireturn, 1) := by decide +kernel
set_option maxRecDepth 20000 in
theorem ggX2_cue_X2_faultOfCell : GoodIn wsX2_cue wsX2_faultOfCell := goodIn_r _ [6, 7, 8, 17, 18, 19, 20, 21, 22, 23, 24, 25, 26, 27, 28, 29, 30, 31] (by decide +kernel) (by decide +kernel)
set_option maxRecDepth 20000 in
theorem gX2_cue_X2_faultOfCell : GoodIn wsX2_cue (wsV RX2 122 RX2 yX2_faultOfCell wsX2_faultOfCell) := goodIn_app (goodIn_of _ (by decide +kernel)) ggX2_cue_X2_faultOfCell
set_option maxRecDepth 20000 in
theorem ggX2_cue_X2_end : GoodIn wsX2_cue wsX2_end := goodIn_r _ [12, 13, 17, 18, 19, 20, 21, 22, 23, 24, 25, 26, 27, 28, 29, 30, 31] (by decide +kernel) (by decide +kernel)
set_option maxRecDepth 20000 in
theorem gX2_cue_X2_end : GoodIn wsX2_cue (wsV RX2 63 RX2 yX2_end wsX2_end) := goodIn_app (goodIn_of _ (by decide +kernel)) ggX2_cue_X2_end
set_option maxRecDepth 20000 in
theorem ggX2_cue_X2_indexOfCell : GoodIn wsX2_cue wsX2_indexOfCell := goodIn_r _ [16] (by decide +kernel) (by decide +kernel)
set_option maxRecDepth 20000 in
theorem gX2_cue_X2_indexOfCell : GoodIn wsX2_cue (va_wsS RX2 125 yX2_indexOfCell wsX2_indexOfCell) := goodIn_app (goodIn_of _ (by decide +kernel)) ggX2_cue_X2_indexOfCell
theorem dX2_cue_0 : decode cX2_cue 0 = .ok (.aload_n 0, 1) := by decide +kernel
theorem dX2_cue_1 : decode cX2_cue 1 = .ok (.iload_n 1, 1) := by decide +kernel
theorem dX2_cue_2 : decode cX2_cue 2 = .ok (.iload_n 2, 1) := by decide +kernel
theorem dX2_cue_3 : decode cX2_cue 3 = .ok (.invokevirtual 122, 3) := by decide +kernel
theorem dX2_cue_6 : decode cX2_cue 6 = .ok (.istore 4, 2) := by decide +kernel
theorem dX2_cue_8 : decode cX2_cue 8 = .ok (.iload 4, 2) := by decide +kernel
theorem dX2_cue_10 : decode cX2_cue 10 = .ok (.ifCond .eq 11, 3) := by decide +kernel
theorem dX2_cue_13 : decode cX2_cue 13 = .ok (.aload_n 0, 1) := by decide +kernel
theorem dX2_cue_14 : decode cX2_cue 14 = .ok (.iload 4, 2) := by decide +kernel
theorem dX2_cue_16 : decode cX2_cue 16 = .ok (.iconst 0, 1) := by decide +kernel
theorem dX2_cue_17 : decode cX2_cue 17 = .ok (.invokevirtual 63, 3) := by decide +kernel
theorem dX2_cue_20 : decode cX2_cue 20 = .ok (.ireturn, 1) := by decide +kernel
theorem dX2_cue_21 : decode cX2_cue 21 = .ok (.iload_n 1, 1) := by decide +kernel
theorem dX2_cue_22 : decode cX2_cue 22 = .ok (.iload_n 2, 1) := by decide +kernel
theorem dX2_cue_23 : decode cX2_cue 23 = .ok (.invokestatic 125, 3) := by decide +kernel
theorem dX2_cue_26 : decode cX2_cue 26 = .ok (.istore 5, 2) := by decide +kernel
theorem dX2_cue_28 : decode cX2_cue 28 = .ok (.aload_n 0, 1) := by decide +kernel
theorem dX2_cue_29 : decode cX2_cue 29 = .ok (.getfield 41, 3) := by decide +kernel
theorem dX2_cue_32 : decode cX2_cue 32 = .ok (.iload 5, 2) := by decide +kernel
theorem dX2_cue_34 : decode cX2_cue 34 = .ok (.iaload, 1) := by decide +kernel
theorem dX2_cue_35 : decode cX2_cue 35 = .ok (.istore 6, 2) := by decide +kernel
theorem dX2_cue_37 : decode cX2_cue 37 = .ok (.aload_n 0, 1) := by decide +kernel
theorem dX2_cue_38 : decode cX2_cue 38 = .ok (.getfield 41, 3) := by decide +kernel
theorem dX2_cue_41 : decode cX2_cue 41 = .ok (.iload 5, 2) := by decide +kernel
theorem dX2_cue_43 : decode cX2_cue 43 = .ok (.iload_n 3, 1) := by decide +kernel
theorem dX2_cue_44 : decode cX2_cue 44 = .ok (.iastore, 1) := by decide +kernel
theorem dX2_cue_45 : decode cX2_cue 45 = .ok (.aload_n 0, 1) := by decide +kernel
theorem dX2_cue_46 : decode cX2_cue 46 = .ok (.iconst 0, 1) := by decide +kernel
theorem dX2_cue_47 : decode cX2_cue 47 = .ok (.iload 6, 2) := by decide +kernel
theorem dX2_cue_49 : decode cX2_cue 49 = .ok (.invokevirtual 63, 3) := by decide +kernel
theorem dX2_cue_52 : decode cX2_cue 52 = .ok (.ireturn, 1) := by decide +kernel
set_option maxRecDepth 20000 in
theorem ggX2_seek_X2_faultOfCell : GoodIn wsX2_seek wsX2_faultOfCell := goodIn_r _ [7, 8, 9, 18, 19, 20, 21, 22, 23, 24, 25, 26, 27, 28, 29, 30, 31, 32] (by decide +kernel) (by decide +kernel)
set_option maxRecDepth 20000 in
theorem gX2_seek_X2_faultOfCell : GoodIn wsX2_seek (wsV RX2 122 RX2 yX2_faultOfCell wsX2_faultOfCell) := goodIn_app (goodIn_of _ (by decide +kernel)) ggX2_seek_X2_faultOfCell
set_option maxRecDepth 20000 in
theorem ggX2_seek_X2_end : GoodIn wsX2_seek wsX2_end := goodIn_r _ [13, 14, 18, 19, 20, 21, 22, 23, 24, 25, 26, 27, 28, 29, 30, 31, 32] (by decide +kernel) (by decide +kernel)
set_option maxRecDepth 20000 in
theorem gX2_seek_X2_end : GoodIn wsX2_seek (wsV RX2 63 RX2 yX2_end wsX2_end) := goodIn_app (goodIn_of _ (by decide +kernel)) ggX2_seek_X2_end
set_option maxRecDepth 20000 in
theorem ggX2_seek_X2_indexOfCell : GoodIn wsX2_seek wsX2_indexOfCell := goodIn_r _ [17] (by decide +kernel) (by decide +kernel)
set_option maxRecDepth 20000 in
theorem gX2_seek_X2_indexOfCell : GoodIn wsX2_seek (va_wsS RX2 125 yX2_indexOfCell wsX2_indexOfCell) := goodIn_app (goodIn_of _ (by decide +kernel)) ggX2_seek_X2_indexOfCell
theorem dX2_seek_0 : decode cX2_seek 0 = .ok (.aload_n 0, 1) := by decide +kernel
theorem dX2_seek_1 : decode cX2_seek 1 = .ok (.iload_n 1, 1) := by decide +kernel
theorem dX2_seek_2 : decode cX2_seek 2 = .ok (.iload_n 2, 1) := by decide +kernel
theorem dX2_seek_3 : decode cX2_seek 3 = .ok (.invokevirtual 122, 3) := by decide +kernel
theorem dX2_seek_6 : decode cX2_seek 6 = .ok (.istore_n 3, 1) := by decide +kernel
theorem dX2_seek_7 : decode cX2_seek 7 = .ok (.iload_n 3, 1) := by decide +kernel
theorem dX2_seek_8 : decode cX2_seek 8 = .ok (.ifCond .eq 13, 3) := by decide +kernel
theorem dX2_seek_11 : decode cX2_seek 11 = .ok (.aload_n 0, 1) := by decide +kernel
theorem dX2_seek_12 : decode cX2_seek 12 = .ok (.iload_n 3, 1) := by decide +kernel
theorem dX2_seek_13 : decode cX2_seek 13 = .ok (.aload_n 0, 1) := by decide +kernel
theorem dX2_seek_14 : decode cX2_seek 14 = .ok (.getfield 22, 3) := by decide +kernel
theorem dX2_seek_17 : decode cX2_seek 17 = .ok (.invokevirtual 63, 3) := by decide +kernel
theorem dX2_seek_20 : decode cX2_seek 20 = .ok (.ireturn, 1) := by decide +kernel
theorem dX2_seek_21 : decode cX2_seek 21 = .ok (.aload_n 0, 1) := by decide +kernel
theorem dX2_seek_22 : decode cX2_seek 22 = .ok (.aload_n 0, 1) := by decide +kernel
theorem dX2_seek_23 : decode cX2_seek 23 = .ok (.getfield 41, 3) := by decide +kernel
theorem dX2_seek_26 : decode cX2_seek 26 = .ok (.iload_n 1, 1) := by decide +kernel
theorem dX2_seek_27 : decode cX2_seek 27 = .ok (.iload_n 2, 1) := by decide +kernel
theorem dX2_seek_28 : decode cX2_seek 28 = .ok (.invokestatic 125, 3) := by decide +kernel
theorem dX2_seek_31 : decode cX2_seek 31 = .ok (.iaload, 1) := by decide +kernel
theorem dX2_seek_32 : decode cX2_seek 32 = .ok (.putfield 22, 3) := by decide +kernel
theorem dX2_seek_35 : decode cX2_seek 35 = .ok (.aload_n 0, 1) := by decide +kernel
theorem dX2_seek_36 : decode cX2_seek 36 = .ok (.iconst 0, 1) := by decide +kernel
theorem dX2_seek_37 : decode cX2_seek 37 = .ok (.aload_n 0, 1) := by decide +kernel
theorem dX2_seek_38 : decode cX2_seek 38 = .ok (.getfield 22, 3) := by decide +kernel
theorem dX2_seek_41 : decode cX2_seek 41 = .ok (.invokevirtual 63, 3) := by decide +kernel
theorem dX2_seek_44 : decode cX2_seek 44 = .ok (.ireturn, 1) := by decide +kernel
theorem dX2_trip_0 : decode cX2_trip 0 = .ok (.iload_n 1, 1) := by decide +kernel
theorem dX2_trip_1 : decode cX2_trip 1 = .ok (.lookupswitch 37 #[(0, 27), (1, 32)], 27) := by decide +kernel
theorem dX2_trip_28 : decode cX2_trip 28 = .ok (.aload_n 0, 1) := by decide +kernel
theorem dX2_trip_29 : decode cX2_trip 29 = .ok (.getfield 50, 3) := by decide +kernel
theorem dX2_trip_32 : decode cX2_trip 32 = .ok (.ireturn, 1) := by decide +kernel
theorem dX2_trip_33 : decode cX2_trip 33 = .ok (.aload_n 0, 1) := by decide +kernel
theorem dX2_trip_34 : decode cX2_trip 34 = .ok (.getfield 53, 3) := by decide +kernel
theorem dX2_trip_37 : decode cX2_trip 37 = .ok (.ireturn, 1) := by decide +kernel
theorem dX2_trip_38 : decode cX2_trip 38 = .ok (.iconst (-1), 1) := by decide +kernel
theorem dX2_trip_39 : decode cX2_trip 39 = .ok (.ireturn, 1) := by decide +kernel
set_option maxRecDepth 20000 in
theorem ggX2_meter_X2_isTrack : GoodIn wsX2_meter wsX2_isTrack := goodIn_r _ [5, 6, 7, 4, 8] (by decide +kernel) (by decide +kernel)
set_option maxRecDepth 20000 in
theorem gX2_meter_X2_isTrack : GoodIn wsX2_meter (va_wsS RX2 87 yX2_isTrack wsX2_isTrack) := goodIn_app (goodIn_of _ (by decide +kernel)) ggX2_meter_X2_isTrack
theorem dX2_meter_0 : decode cX2_meter 0 = .ok (.iload_n 1, 1) := by decide +kernel
theorem dX2_meter_1 : decode cX2_meter 1 = .ok (.invokestatic 87, 3) := by decide +kernel
theorem dX2_meter_4 : decode cX2_meter 4 = .ok (.ifCond .eq 12, 3) := by decide +kernel
theorem dX2_meter_7 : decode cX2_meter 7 = .ok (.aload_n 0, 1) := by decide +kernel
theorem dX2_meter_8 : decode cX2_meter 8 = .ok (.getfield 32, 3) := by decide +kernel
theorem dX2_meter_11 : decode cX2_meter 11 = .ok (.iload_n 1, 1) := by decide +kernel
theorem dX2_meter_12 : decode cX2_meter 12 = .ok (.iaload, 1) := by decide +kernel
theorem dX2_meter_13 : decode cX2_meter 13 = .ok (.goto 4, 3) := by decide +kernel
theorem dX2_meter_16 : decode cX2_meter 16 = .ok (.iconst 0, 1) := by decide +kernel
theorem dX2_meter_17 : decode cX2_meter 17 = .ok (.ireturn, 1) := by decide +kernel
set_option maxRecDepth 20000 in
theorem ggX2_count_X2_tracksThere : GoodIn wsX2_count wsX2_tracksThere := goodIn_r _ [11, 12, 13, 14, 10, 15, 16, 17, 18, 19, 20, 21, 22, 23, 24, 25, 26, 27, 28, 29, 30, 31, 32, 33, 34, 35, 36, 37, 38, 39, 40] (by decide +kernel) (by decide +kernel)
set_option maxRecDepth 20000 in
theorem gX2_count_X2_tracksThere : GoodIn wsX2_count (wsV RX2 128 RX2 yX2_tracksThere wsX2_tracksThere) := goodIn_app (goodIn_of _ (by decide +kernel)) ggX2_count_X2_tracksThere
theorem dX2_count_0 : decode cX2_count 0 = .ok (.iload_n 1, 1) := by decide +kernel
theorem dX2_count_1 : decode cX2_count 1 = .ok (.tableswitch 69 0 5 #[39, 44, 49, 54, 59, 64], 39) := by decide +kernel
theorem dX2_count_40 : decode cX2_count 40 = .ok (.aload_n 0, 1) := by decide +kernel
theorem dX2_count_41 : decode cX2_count 41 = .ok (.getfield 15, 3) := by decide +kernel
theorem dX2_count_44 : decode cX2_count 44 = .ok (.ireturn, 1) := by decide +kernel
theorem dX2_count_45 : decode cX2_count 45 = .ok (.aload_n 0, 1) := by decide +kernel
theorem dX2_count_46 : decode cX2_count 46 = .ok (.getfield 19, 3) := by decide +kernel
theorem dX2_count_49 : decode cX2_count 49 = .ok (.ireturn, 1) := by decide +kernel
theorem dX2_count_50 : decode cX2_count 50 = .ok (.aload_n 0, 1) := by decide +kernel
theorem dX2_count_51 : decode cX2_count 51 = .ok (.getfield 22, 3) := by decide +kernel
theorem dX2_count_54 : decode cX2_count 54 = .ok (.ireturn, 1) := by decide +kernel
theorem dX2_count_55 : decode cX2_count 55 = .ok (.aload_n 0, 1) := by decide +kernel
theorem dX2_count_56 : decode cX2_count 56 = .ok (.getfield 35, 3) := by decide +kernel
theorem dX2_count_59 : decode cX2_count 59 = .ok (.ireturn, 1) := by decide +kernel
theorem dX2_count_60 : decode cX2_count 60 = .ok (.aload_n 0, 1) := by decide +kernel
theorem dX2_count_61 : decode cX2_count 61 = .ok (.getfield 44, 3) := by decide +kernel
theorem dX2_count_64 : decode cX2_count 64 = .ok (.ireturn, 1) := by decide +kernel
theorem dX2_count_65 : decode cX2_count 65 = .ok (.aload_n 0, 1) := by decide +kernel
theorem dX2_count_66 : decode cX2_count 66 = .ok (.getfield 47, 3) := by decide +kernel
theorem dX2_count_69 : decode cX2_count 69 = .ok (.ireturn, 1) := by decide +kernel
theorem dX2_count_70 : decode cX2_count 70 = .ok (.aload_n 0, 1) := by decide +kernel
theorem dX2_count_71 : decode cX2_count 71 = .ok (.iload_n 1, 1) := by decide +kernel
theorem dX2_count_72 : decode cX2_count 72 = .ok (.bipush 10, 2) := by decide +kernel
theorem dX2_count_74 : decode cX2_count 74 = .ok (.isub, 1) := by decide +kernel
theorem dX2_count_75 : decode cX2_count 75 = .ok (.invokevirtual 128, 3) := by decide +kernel
theorem dX2_count_78 : decode cX2_count 78 = .ok (.ireturn, 1) := by decide +kernel
theorem dX2_status_0 : decode cX2_status 0 = .ok (.aload_n 0, 1) := by decide +kernel
theorem dX2_status_1 : decode cX2_status 1 = .ok (.getfield 56, 3) := by decide +kernel
theorem dX2_status_4 : decode cX2_status 4 = .ok (.ireturn, 1) := by decide +kernel
theorem dX2_end_0 : decode cX2_end 0 = .ok (.aload_n 0, 1) := by decide +kernel
theorem dX2_end_1 : decode cX2_end 1 = .ok (.iload_n 1, 1) := by decide +kernel
theorem dX2_end_2 : decode cX2_end 2 = .ok (.putfield 56, 3) := by decide +kernel
theorem dX2_end_5 : decode cX2_end 5 = .ok (.iload_n 2, 1) := by decide +kernel
theorem dX2_end_6 : decode cX2_end 6 = .ok (.ireturn, 1) := by decide +kernel
theorem dX2_isWithin_0 : decode cX2_isWithin 0 = .ok (.iload_n 0, 1) := by decide +kernel
theorem dX2_isWithin_1 : decode cX2_isWithin 1 = .ok (.iload_n 1, 1) := by decide +kernel
theorem dX2_isWithin_2 : decode cX2_isWithin 2 = .ok (.if_icmp .lt 12, 3) := by decide +kernel
theorem dX2_isWithin_5 : decode cX2_isWithin 5 = .ok (.iload_n 0, 1) := by decide +kernel
theorem dX2_isWithin_6 : decode cX2_isWithin 6 = .ok (.iload_n 2, 1) := by decide +kernel
theorem dX2_isWithin_7 : decode cX2_isWithin 7 = .ok (.if_icmp .gt 7, 3) := by decide +kernel
theorem dX2_isWithin_10 : decode cX2_isWithin 10 = .ok (.iconst 1, 1) := by decide +kernel
theorem dX2_isWithin_11 : decode cX2_isWithin 11 = .ok (.goto 4, 3) := by decide +kernel
theorem dX2_isWithin_14 : decode cX2_isWithin 14 = .ok (.iconst 0, 1) := by decide +kernel
theorem dX2_isWithin_15 : decode cX2_isWithin 15 = .ok (.ireturn, 1) := by decide +kernel
set_option maxRecDepth 20000 in
theorem ggX2_isTrack_X2_isWithin : GoodIn wsX2_isTrack wsX2_isWithin := goodIn_r _ [4] (by decide +kernel) (by decide +kernel)
set_option maxRecDepth 20000 in
theorem gX2_isTrack_X2_isWithin : GoodIn wsX2_isTrack (va_wsS RX2 59 yX2_isWithin wsX2_isWithin) := goodIn_app (goodIn_of _ (by decide +kernel)) ggX2_isTrack_X2_isWithin
theorem dX2_isTrack_0 : decode cX2_isTrack 0 = .ok (.iload_n 0, 1) := by decide +kernel
theorem dX2_isTrack_1 : decode cX2_isTrack 1 = .ok (.iconst 0, 1) := by decide +kernel
theorem dX2_isTrack_2 : decode cX2_isTrack 2 = .ok (.iconst 3, 1) := by decide +kernel
theorem dX2_isTrack_3 : decode cX2_isTrack 3 = .ok (.invokestatic 59, 3) := by decide +kernel
theorem dX2_isTrack_6 : decode cX2_isTrack 6 = .ok (.ireturn, 1) := by decide +kernel
theorem dX2_firstFault_0 : decode cX2_firstFault 0 = .ok (.iload_n 0, 1) := by decide +kernel
theorem dX2_firstFault_1 : decode cX2_firstFault 1 = .ok (.ifCond .eq 7, 3) := by decide +kernel
theorem dX2_firstFault_4 : decode cX2_firstFault 4 = .ok (.iload_n 0, 1) := by decide +kernel
theorem dX2_firstFault_5 : decode cX2_firstFault 5 = .ok (.goto 4, 3) := by decide +kernel
theorem dX2_firstFault_8 : decode cX2_firstFault 8 = .ok (.iload_n 1, 1) := by decide +kernel
theorem dX2_firstFault_9 : decode cX2_firstFault 9 = .ok (.ireturn, 1) := by decide +kernel
theorem dX2_reelOf_0 : decode cX2_reelOf 0 = .ok (.iload_n 1, 1) := by decide +kernel
theorem dX2_reelOf_1 : decode cX2_reelOf 1 = .ok (.ifCond .lt 21, 3) := by decide +kernel
theorem dX2_reelOf_4 : decode cX2_reelOf 4 = .ok (.iload_n 1, 1) := by decide +kernel
theorem dX2_reelOf_5 : decode cX2_reelOf 5 = .ok (.aload_n 0, 1) := by decide +kernel
theorem dX2_reelOf_6 : decode cX2_reelOf 6 = .ok (.getfield 11, 3) := by decide +kernel
theorem dX2_reelOf_9 : decode cX2_reelOf 9 = .ok (.arraylength, 1) := by decide +kernel
theorem dX2_reelOf_10 : decode cX2_reelOf 10 = .ok (.if_icmp .ge 12, 3) := by decide +kernel
theorem dX2_reelOf_13 : decode cX2_reelOf 13 = .ok (.aload_n 0, 1) := by decide +kernel
theorem dX2_reelOf_14 : decode cX2_reelOf 14 = .ok (.getfield 11, 3) := by decide +kernel
theorem dX2_reelOf_17 : decode cX2_reelOf 17 = .ok (.iload_n 1, 1) := by decide +kernel
theorem dX2_reelOf_18 : decode cX2_reelOf 18 = .ok (.aaload, 1) := by decide +kernel
theorem dX2_reelOf_19 : decode cX2_reelOf 19 = .ok (.goto 4, 3) := by decide +kernel
theorem dX2_reelOf_22 : decode cX2_reelOf 22 = .ok (.aconst_null, 1) := by decide +kernel
theorem dX2_reelOf_23 : decode cX2_reelOf 23 = .ok (.areturn, 1) := by decide +kernel
set_option maxRecDepth 20000 in
theorem ggX2_trackOf_X2_reelOf : GoodIn wsX2_trackOf wsX2_reelOf := goodIn_r _ [5, 6, 14, 15, 16, 17, 18, 19, 20, 21, 22, 23, 24, 25, 26, 27, 28] (by decide +kernel) (by decide +kernel)
set_option maxRecDepth 20000 in
theorem gX2_trackOf_X2_reelOf : GoodIn wsX2_trackOf (wsV RX2 83 RX2 yX2_reelOf wsX2_reelOf) := goodIn_app (goodIn_of _ (by decide +kernel)) ggX2_trackOf_X2_reelOf
set_option maxRecDepth 20000 in
theorem ggX2_trackOf_X2_isTrack : GoodIn wsX2_trackOf wsX2_isTrack := goodIn_r _ [9, 10, 11, 4, 12] (by decide +kernel) (by decide +kernel)
set_option maxRecDepth 20000 in
theorem gX2_trackOf_X2_isTrack : GoodIn wsX2_trackOf (va_wsS RX2 87 yX2_isTrack wsX2_isTrack) := goodIn_app (goodIn_of _ (by decide +kernel)) ggX2_trackOf_X2_isTrack
theorem dX2_trackOf_0 : decode cX2_trackOf 0 = .ok (.aload_n 0, 1) := by decide +kernel
theorem dX2_trackOf_1 : decode cX2_trackOf 1 = .ok (.iload_n 1, 1) := by decide +kernel
theorem dX2_trackOf_2 : decode cX2_trackOf 2 = .ok (.invokevirtual 83, 3) := by decide +kernel
theorem dX2_trackOf_5 : decode cX2_trackOf 5 = .ok (.astore_n 3, 1) := by decide +kernel
theorem dX2_trackOf_6 : decode cX2_trackOf 6 = .ok (.aload_n 3, 1) := by decide +kernel
theorem dX2_trackOf_7 : decode cX2_trackOf 7 = .ok (.ifnull 10, 3) := by decide +kernel
theorem dX2_trackOf_10 : decode cX2_trackOf 10 = .ok (.iload_n 2, 1) := by decide +kernel
theorem dX2_trackOf_11 : decode cX2_trackOf 11 = .ok (.invokestatic 87, 3) := by decide +kernel
theorem dX2_trackOf_14 : decode cX2_trackOf 14 = .ok (.ifCond .ne 7, 3) := by decide +kernel
theorem dX2_trackOf_17 : decode cX2_trackOf 17 = .ok (.aconst_null, 1) := by decide +kernel
theorem dX2_trackOf_18 : decode cX2_trackOf 18 = .ok (.goto 9, 3) := by decide +kernel
theorem dX2_trackOf_21 : decode cX2_trackOf 21 = .ok (.aload_n 3, 1) := by decide +kernel
theorem dX2_trackOf_22 : decode cX2_trackOf 22 = .ok (.getfield 131, 3) := by decide +kernel
theorem dX2_trackOf_25 : decode cX2_trackOf 25 = .ok (.iload_n 2, 1) := by decide +kernel
theorem dX2_trackOf_26 : decode cX2_trackOf 26 = .ok (.aaload, 1) := by decide +kernel
theorem dX2_trackOf_27 : decode cX2_trackOf 27 = .ok (.areturn, 1) := by decide +kernel
set_option maxRecDepth 20000 in
theorem ggX2_whyNoneUnderHead_X2_isTrack : GoodIn wsX2_whyNoneUnderHead wsX2_isTrack := goodIn_r _ [4, 5, 6, 3, 7] (by decide +kernel) (by decide +kernel)
set_option maxRecDepth 20000 in
theorem gX2_whyNoneUnderHead_X2_isTrack : GoodIn wsX2_whyNoneUnderHead (va_wsS RX2 87 yX2_isTrack wsX2_isTrack) := goodIn_app (goodIn_of _ (by decide +kernel)) ggX2_whyNoneUnderHead_X2_isTrack
theorem dX2_whyNoneUnderHead_0 : decode cX2_whyNoneUnderHead 0 = .ok (.iload_n 1, 1) := by decide +kernel
theorem dX2_whyNoneUnderHead_1 : decode cX2_whyNoneUnderHead 1 = .ok (.invokestatic 87, 3) := by decide +kernel
theorem dX2_whyNoneUnderHead_4 : decode cX2_whyNoneUnderHead 4 = .ok (.ifCond .eq 7, 3) := by decide +kernel
theorem dX2_whyNoneUnderHead_7 : decode cX2_whyNoneUnderHead 7 = .ok (.iconst 5, 1) := by decide +kernel
theorem dX2_whyNoneUnderHead_8 : decode cX2_whyNoneUnderHead 8 = .ok (.goto 4, 3) := by decide +kernel
theorem dX2_whyNoneUnderHead_11 : decode cX2_whyNoneUnderHead 11 = .ok (.iconst 1, 1) := by decide +kernel
theorem dX2_whyNoneUnderHead_12 : decode cX2_whyNoneUnderHead 12 = .ok (.ireturn, 1) := by decide +kernel
set_option maxRecDepth 20000 in
theorem ggX2_placeOfHead_X2_isTrack : GoodIn wsX2_placeOfHead wsX2_isTrack := goodIn_r _ [6, 7, 8, 5, 9] (by decide +kernel) (by decide +kernel)
set_option maxRecDepth 20000 in
theorem gX2_placeOfHead_X2_isTrack : GoodIn wsX2_placeOfHead (va_wsS RX2 87 yX2_isTrack wsX2_isTrack) := goodIn_app (goodIn_of _ (by decide +kernel)) ggX2_placeOfHead_X2_isTrack
theorem dX2_placeOfHead_0 : decode cX2_placeOfHead 0 = .ok (.iload_n 1, 1) := by decide +kernel
theorem dX2_placeOfHead_1 : decode cX2_placeOfHead 1 = .ok (.invokestatic 87, 3) := by decide +kernel
theorem dX2_placeOfHead_4 : decode cX2_placeOfHead 4 = .ok (.ifCond .eq 17, 3) := by decide +kernel
theorem dX2_placeOfHead_7 : decode cX2_placeOfHead 7 = .ok (.aload_n 0, 1) := by decide +kernel
theorem dX2_placeOfHead_8 : decode cX2_placeOfHead 8 = .ok (.getfield 22, 3) := by decide +kernel
theorem dX2_placeOfHead_11 : decode cX2_placeOfHead 11 = .ok (.aload_n 0, 1) := by decide +kernel
theorem dX2_placeOfHead_12 : decode cX2_placeOfHead 12 = .ok (.getfield 25, 3) := by decide +kernel
theorem dX2_placeOfHead_15 : decode cX2_placeOfHead 15 = .ok (.iload_n 1, 1) := by decide +kernel
theorem dX2_placeOfHead_16 : decode cX2_placeOfHead 16 = .ok (.iaload, 1) := by decide +kernel
theorem dX2_placeOfHead_17 : decode cX2_placeOfHead 17 = .ok (.iadd, 1) := by decide +kernel
theorem dX2_placeOfHead_18 : decode cX2_placeOfHead 18 = .ok (.goto 7, 3) := by decide +kernel
theorem dX2_placeOfHead_21 : decode cX2_placeOfHead 21 = .ok (.aload_n 0, 1) := by decide +kernel
theorem dX2_placeOfHead_22 : decode cX2_placeOfHead 22 = .ok (.getfield 22, 3) := by decide +kernel
theorem dX2_placeOfHead_25 : decode cX2_placeOfHead 25 = .ok (.ireturn, 1) := by decide +kernel
set_option maxRecDepth 20000 in
theorem ggX2_tick_X2_moveHead : GoodIn wsX2_tick wsX2_moveHead := goodIn_r _ [8, 9, 10, 11, 12, 13, 14, 15, 16, 7, 17, 18, 19, 20, 21, 22, 23, 24, 25, 26, 27, 28, 29, 30, 31, 32, 3, 33, 34, 35, 36, 37, 38, 39, 40, 41, 42, 43, 44, 45, 46, 47, 48, 49, 50, 51, 52, 53, 54, 55, 56, 57, 58, 59, 60, 61, 62, 63, 64, 65, 66, 67, 68, 69, 70, 71, 72, 73, 74, 75, 76, 77, 78, 79] (by decide +kernel) (by decide +kernel)
set_option maxRecDepth 20000 in
theorem gX2_tick_X2_moveHead : GoodIn wsX2_tick (wsV RX2 135 RX2 yX2_moveHead wsX2_moveHead) := goodIn_app (goodIn_of _ (by decide +kernel)) ggX2_tick_X2_moveHead
theorem dX2_tick_0 : decode cX2_tick 0 = .ok (.iconst 0, 1) := by decide +kernel
theorem dX2_tick_1 : decode cX2_tick 1 = .ok (.istore_n 1, 1) := by decide +kernel
theorem dX2_tick_2 : decode cX2_tick 2 = .ok (.iload_n 1, 1) := by decide +kernel
theorem dX2_tick_3 : decode cX2_tick 3 = .ok (.iconst 4, 1) := by decide +kernel
theorem dX2_tick_4 : decode cX2_tick 4 = .ok (.if_icmp .ge 30, 3) := by decide +kernel
theorem dX2_tick_7 : decode cX2_tick 7 = .ok (.aload_n 0, 1) := by decide +kernel
theorem dX2_tick_8 : decode cX2_tick 8 = .ok (.iload_n 1, 1) := by decide +kernel
theorem dX2_tick_9 : decode cX2_tick 9 = .ok (.invokevirtual 135, 3) := by decide +kernel
theorem dX2_tick_12 : decode cX2_tick 12 = .ok (.istore_n 2, 1) := by decide +kernel
theorem dX2_tick_13 : decode cX2_tick 13 = .ok (.iload_n 2, 1) := by decide +kernel
theorem dX2_tick_14 : decode cX2_tick 14 = .ok (.ifCond .eq 14, 3) := by decide +kernel
theorem dX2_tick_17 : decode cX2_tick 17 = .ok (.aload_n 0, 1) := by decide +kernel
theorem dX2_tick_18 : decode cX2_tick 18 = .ok (.iload_n 1, 1) := by decide +kernel
theorem dX2_tick_19 : decode cX2_tick 19 = .ok (.putfield 50, 3) := by decide +kernel
theorem dX2_tick_22 : decode cX2_tick 22 = .ok (.aload_n 0, 1) := by decide +kernel
theorem dX2_tick_23 : decode cX2_tick 23 = .ok (.iload_n 2, 1) := by decide +kernel
theorem dX2_tick_24 : decode cX2_tick 24 = .ok (.putfield 53, 3) := by decide +kernel
theorem dX2_tick_27 : decode cX2_tick 27 = .ok (.return_, 1) := by decide +kernel
theorem dX2_tick_28 : decode cX2_tick 28 = .ok (.iinc 1 1, 3) := by decide +kernel
theorem dX2_tick_31 : decode cX2_tick 31 = .ok (.goto (-29), 3) := by decide +kernel
theorem dX2_tick_34 : decode cX2_tick 34 = .ok (.aload_n 0, 1) := by decide +kernel
theorem dX2_tick_35 : decode cX2_tick 35 = .ok (.dup, 1) := by decide +kernel
theorem dX2_tick_36 : decode cX2_tick 36 = .ok (.getfield 22, 3) := by decide +kernel
theorem dX2_tick_39 : decode cX2_tick 39 = .ok (.iconst 1, 1) := by decide +kernel
theorem dX2_tick_40 : decode cX2_tick 40 = .ok (.iadd, 1) := by decide +kernel
theorem dX2_tick_41 : decode cX2_tick 41 = .ok (.putfield 22, 3) := by decide +kernel
theorem dX2_tick_44 : decode cX2_tick 44 = .ok (.return_, 1) := by decide +kernel
set_option maxRecDepth 20000 in
theorem ggX2_moveHead_X2_trackOf : GoodIn wsX2_moveHead wsX2_trackOf := goodIn_r _ [10, 11, 12, 13, 9, 14, 15, 16, 17, 18, 19, 20, 21, 70, 55, 56, 57, 58, 59, 60, 61, 62, 63, 64, 65, 66, 67, 68, 69] (by decide +kernel) (by decide +kernel)
set_option maxRecDepth 20000 in
theorem gX2_moveHead_X2_trackOf : GoodIn wsX2_moveHead (wsV RX2 70 RX2 yX2_trackOf wsX2_trackOf) := goodIn_app (goodIn_of _ (by decide +kernel)) ggX2_moveHead_X2_trackOf
set_option maxRecDepth 20000 in
theorem ggX2_moveHead_X2_placeOfHead : GoodIn wsX2_moveHead wsX2_placeOfHead := goodIn_r _ [25, 26, 27, 16, 17, 9, 18, 19, 20, 21, 55, 56, 57, 58, 59, 60, 61, 62, 63, 64, 65, 66, 67, 68, 69] (by decide +kernel) (by decide +kernel)
set_option maxRecDepth 20000 in
theorem gX2_moveHead_X2_placeOfHead : GoodIn wsX2_moveHead (wsV RX2 95 RX2 yX2_placeOfHead wsX2_placeOfHead) := goodIn_app (goodIn_of _ (by decide +kernel)) ggX2_moveHead_X2_placeOfHead
set_option maxRecDepth 20000 in
theorem ggX2_moveHead_X1_faultAt : GoodIn wsX2_moveHead wsX1_faultAt := goodIn_r _ [31, 32, 33, 71, 72, 73] (by decide +kernel) (by decide +kernel)
set_option maxRecDepth 20000 in
theorem gX2_moveHead_X1_faultAt_n98 : GoodIn wsX2_moveHead (wsX1_faultAt) := ggX2_moveHead_X1_faultAt
set_option maxRecDepth 20000 in
theorem ggX2_moveHead_X1_numberAt : GoodIn wsX2_moveHead wsX1_numberAt := goodIn_r _ [36, 33, 37, 28, 30, 29, 31, 32, 71, 72, 73] (by decide +kernel) (by decide +kernel)
set_option maxRecDepth 20000 in
theorem gX2_moveHead_X1_numberAt_n101 : GoodIn wsX2_moveHead (wsX1_numberAt) := ggX2_moveHead_X1_numberAt
set_option maxRecDepth 20000 in
theorem ggX2_moveHead_X1_put : GoodIn wsX2_moveHead wsX1_put := goodIn_r _ [40, 33, 37, 28, 30, 29, 31, 32, 41, 42, 43, 44, 45, 46, 47, 48, 49, 50, 51, 52, 53, 54, 71, 72, 73] (by decide +kernel) (by decide +kernel)
set_option maxRecDepth 20000 in
theorem gX2_moveHead_X1_put_n104 : GoodIn wsX2_moveHead (wsX1_put) := ggX2_moveHead_X1_put
theorem dX2_moveHead_0 : decode cX2_moveHead 0 = .ok (.aload_n 0, 1) := by decide +kernel
theorem dX2_moveHead_1 : decode cX2_moveHead 1 = .ok (.getfield 29, 3) := by decide +kernel
theorem dX2_moveHead_4 : decode cX2_moveHead 4 = .ok (.iload_n 1, 1) := by decide +kernel
theorem dX2_moveHead_5 : decode cX2_moveHead 5 = .ok (.iaload, 1) := by decide +kernel
theorem dX2_moveHead_6 : decode cX2_moveHead 6 = .ok (.istore_n 2, 1) := by decide +kernel
theorem dX2_moveHead_7 : decode cX2_moveHead 7 = .ok (.aload_n 0, 1) := by decide +kernel
theorem dX2_moveHead_8 : decode cX2_moveHead 8 = .ok (.aload_n 0, 1) := by decide +kernel
theorem dX2_moveHead_9 : decode cX2_moveHead 9 = .ok (.getfield 19, 3) := by decide +kernel
theorem dX2_moveHead_12 : decode cX2_moveHead 12 = .ok (.iload_n 1, 1) := by decide +kernel
theorem dX2_moveHead_13 : decode cX2_moveHead 13 = .ok (.invokevirtual 70, 3) := by decide +kernel
theorem dX2_moveHead_16 : decode cX2_moveHead 16 = .ok (.astore_n 3, 1) := by decide +kernel
theorem dX2_moveHead_17 : decode cX2_moveHead 17 = .ok (.iload_n 2, 1) := by decide +kernel
theorem dX2_moveHead_18 : decode cX2_moveHead 18 = .ok (.ifCond .eq 7, 3) := by decide +kernel
theorem dX2_moveHead_21 : decode cX2_moveHead 21 = .ok (.aload_n 3, 1) := by decide +kernel
theorem dX2_moveHead_22 : decode cX2_moveHead 22 = .ok (.ifnonnull 5, 3) := by decide +kernel
theorem dX2_moveHead_25 : decode cX2_moveHead 25 = .ok (.iconst 0, 1) := by decide +kernel
theorem dX2_moveHead_26 : decode cX2_moveHead 26 = .ok (.ireturn, 1) := by decide +kernel
theorem dX2_moveHead_27 : decode cX2_moveHead 27 = .ok (.aload_n 0, 1) := by decide +kernel
theorem dX2_moveHead_28 : decode cX2_moveHead 28 = .ok (.iload_n 1, 1) := by decide +kernel
theorem dX2_moveHead_29 : decode cX2_moveHead 29 = .ok (.invokevirtual 95, 3) := by decide +kernel
theorem dX2_moveHead_32 : decode cX2_moveHead 32 = .ok (.istore 4, 2) := by decide +kernel
theorem dX2_moveHead_34 : decode cX2_moveHead 34 = .ok (.aload_n 3, 1) := by decide +kernel
theorem dX2_moveHead_35 : decode cX2_moveHead 35 = .ok (.iload 4, 2) := by decide +kernel
theorem dX2_moveHead_37 : decode cX2_moveHead 37 = .ok (.invokevirtual 98, 3) := by decide +kernel
theorem dX2_moveHead_40 : decode cX2_moveHead 40 = .ok (.istore 5, 2) := by decide +kernel
theorem dX2_moveHead_42 : decode cX2_moveHead 42 = .ok (.iload 5, 2) := by decide +kernel
theorem dX2_moveHead_44 : decode cX2_moveHead 44 = .ok (.ifCond .eq 6, 3) := by decide +kernel
theorem dX2_moveHead_47 : decode cX2_moveHead 47 = .ok (.iload 5, 2) := by decide +kernel
theorem dX2_moveHead_49 : decode cX2_moveHead 49 = .ok (.ireturn, 1) := by decide +kernel
theorem dX2_moveHead_50 : decode cX2_moveHead 50 = .ok (.aload_n 3, 1) := by decide +kernel
theorem dX2_moveHead_51 : decode cX2_moveHead 51 = .ok (.iload 4, 2) := by decide +kernel
theorem dX2_moveHead_53 : decode cX2_moveHead 53 = .ok (.invokevirtual 101, 3) := by decide +kernel
theorem dX2_moveHead_56 : decode cX2_moveHead 56 = .ok (.istore 6, 2) := by decide +kernel
theorem dX2_moveHead_58 : decode cX2_moveHead 58 = .ok (.iload_n 2, 1) := by decide +kernel
theorem dX2_moveHead_59 : decode cX2_moveHead 59 = .ok (.iconst 1, 1) := by decide +kernel
theorem dX2_moveHead_60 : decode cX2_moveHead 60 = .ok (.if_icmp .ne 16, 3) := by decide +kernel
theorem dX2_moveHead_63 : decode cX2_moveHead 63 = .ok (.aload_n 0, 1) := by decide +kernel
theorem dX2_moveHead_64 : decode cX2_moveHead 64 = .ok (.getfield 32, 3) := by decide +kernel
theorem dX2_moveHead_67 : decode cX2_moveHead 67 = .ok (.iload_n 1, 1) := by decide +kernel
theorem dX2_moveHead_68 : decode cX2_moveHead 68 = .ok (.dup2, 1) := by decide +kernel
theorem dX2_moveHead_69 : decode cX2_moveHead 69 = .ok (.iaload, 1) := by decide +kernel
theorem dX2_moveHead_70 : decode cX2_moveHead 70 = .ok (.iload 6, 2) := by decide +kernel
theorem dX2_moveHead_72 : decode cX2_moveHead 72 = .ok (.iadd, 1) := by decide +kernel
theorem dX2_moveHead_73 : decode cX2_moveHead 73 = .ok (.iastore, 1) := by decide +kernel
theorem dX2_moveHead_74 : decode cX2_moveHead 74 = .ok (.iconst 0, 1) := by decide +kernel
theorem dX2_moveHead_75 : decode cX2_moveHead 75 = .ok (.ireturn, 1) := by decide +kernel
theorem dX2_moveHead_76 : decode cX2_moveHead 76 = .ok (.aload_n 3, 1) := by decide +kernel
theorem dX2_moveHead_77 : decode cX2_moveHead 77 = .ok (.iload 4, 2) := by decide +kernel
theorem dX2_moveHead_79 : decode cX2_moveHead 79 = .ok (.iload_n 2, 1) := by decide +kernel
theorem dX2_moveHead_80 : decode cX2_moveHead 80 = .ok (.iconst 3, 1) := by decide +kernel
theorem dX2_moveHead_81 : decode cX2_moveHead 81 = .ok (.if_icmp .ne 13, 3) := by decide +kernel
theorem dX2_moveHead_84 : decode cX2_moveHead 84 = .ok (.iload 6, 2) := by decide +kernel
theorem dX2_moveHead_86 : decode cX2_moveHead 86 = .ok (.aload_n 0, 1) := by decide +kernel
theorem dX2_moveHead_87 : decode cX2_moveHead 87 = .ok (.getfield 35, 3) := by decide +kernel
theorem dX2_moveHead_90 : decode cX2_moveHead 90 = .ok (.iadd, 1) := by decide +kernel
theorem dX2_moveHead_91 : decode cX2_moveHead 91 = .ok (.goto 7, 3) := by decide +kernel
theorem dX2_moveHead_94 : decode cX2_moveHead 94 = .ok (.aload_n 0, 1) := by decide +kernel
theorem dX2_moveHead_95 : decode cX2_moveHead 95 = .ok (.getfield 35, 3) := by decide +kernel
theorem dX2_moveHead_98 : decode cX2_moveHead 98 = .ok (.invokevirtual 104, 3) := by decide +kernel
theorem dX2_moveHead_101 : decode cX2_moveHead 101 = .ok (.aload_n 0, 1) := by decide +kernel
theorem dX2_moveHead_102 : decode cX2_moveHead 102 = .ok (.dup, 1) := by decide +kernel
theorem dX2_moveHead_103 : decode cX2_moveHead 103 = .ok (.getfield 35, 3) := by decide +kernel
theorem dX2_moveHead_106 : decode cX2_moveHead 106 = .ok (.aload_n 0, 1) := by decide +kernel
theorem dX2_moveHead_107 : decode cX2_moveHead 107 = .ok (.getfield 38, 3) := by decide +kernel
theorem dX2_moveHead_110 : decode cX2_moveHead 110 = .ok (.iadd, 1) := by decide +kernel
theorem dX2_moveHead_111 : decode cX2_moveHead 111 = .ok (.putfield 35, 3) := by decide +kernel
theorem dX2_moveHead_114 : decode cX2_moveHead 114 = .ok (.iconst 0, 1) := by decide +kernel
theorem dX2_moveHead_115 : decode cX2_moveHead 115 = .ok (.ireturn, 1) := by decide +kernel
theorem dX2_faultOfCell_0 : decode cX2_faultOfCell 0 = .ok (.aload_n 0, 1) := by decide +kernel
theorem dX2_faultOfCell_1 : decode cX2_faultOfCell 1 = .ok (.getfield 44, 3) := by decide +kernel
theorem dX2_faultOfCell_4 : decode cX2_faultOfCell 4 = .ok (.iconst (-1), 1) := by decide +kernel
theorem dX2_faultOfCell_5 : decode cX2_faultOfCell 5 = .ok (.if_icmp .ne 5, 3) := by decide +kernel
theorem dX2_faultOfCell_8 : decode cX2_faultOfCell 8 = .ok (.iconst 2, 1) := by decide +kernel
theorem dX2_faultOfCell_9 : decode cX2_faultOfCell 9 = .ok (.ireturn, 1) := by decide +kernel
theorem dX2_faultOfCell_10 : decode cX2_faultOfCell 10 = .ok (.iload_n 1, 1) := by decide +kernel
theorem dX2_faultOfCell_11 : decode cX2_faultOfCell 11 = .ok (.ifCond .lt 27, 3) := by decide +kernel
theorem dX2_faultOfCell_14 : decode cX2_faultOfCell 14 = .ok (.iload_n 1, 1) := by decide +kernel
theorem dX2_faultOfCell_15 : decode cX2_faultOfCell 15 = .ok (.aload_n 0, 1) := by decide +kernel
theorem dX2_faultOfCell_16 : decode cX2_faultOfCell 16 = .ok (.getfield 44, 3) := by decide +kernel
theorem dX2_faultOfCell_19 : decode cX2_faultOfCell 19 = .ok (.if_icmp .ge 19, 3) := by decide +kernel
theorem dX2_faultOfCell_22 : decode cX2_faultOfCell 22 = .ok (.iload_n 2, 1) := by decide +kernel
theorem dX2_faultOfCell_23 : decode cX2_faultOfCell 23 = .ok (.ifCond .lt 15, 3) := by decide +kernel
theorem dX2_faultOfCell_26 : decode cX2_faultOfCell 26 = .ok (.iload_n 2, 1) := by decide +kernel
theorem dX2_faultOfCell_27 : decode cX2_faultOfCell 27 = .ok (.aload_n 0, 1) := by decide +kernel
theorem dX2_faultOfCell_28 : decode cX2_faultOfCell 28 = .ok (.getfield 47, 3) := by decide +kernel
theorem dX2_faultOfCell_31 : decode cX2_faultOfCell 31 = .ok (.if_icmp .ge 7, 3) := by decide +kernel
theorem dX2_faultOfCell_34 : decode cX2_faultOfCell 34 = .ok (.iconst 1, 1) := by decide +kernel
theorem dX2_faultOfCell_35 : decode cX2_faultOfCell 35 = .ok (.goto 4, 3) := by decide +kernel
theorem dX2_faultOfCell_38 : decode cX2_faultOfCell 38 = .ok (.iconst 0, 1) := by decide +kernel
theorem dX2_faultOfCell_39 : decode cX2_faultOfCell 39 = .ok (.istore_n 3, 1) := by decide +kernel
theorem dX2_faultOfCell_40 : decode cX2_faultOfCell 40 = .ok (.iload_n 3, 1) := by decide +kernel
theorem dX2_faultOfCell_41 : decode cX2_faultOfCell 41 = .ok (.ifCond .eq 7, 3) := by decide +kernel
theorem dX2_faultOfCell_44 : decode cX2_faultOfCell 44 = .ok (.iconst 0, 1) := by decide +kernel
theorem dX2_faultOfCell_45 : decode cX2_faultOfCell 45 = .ok (.goto 4, 3) := by decide +kernel
theorem dX2_faultOfCell_48 : decode cX2_faultOfCell 48 = .ok (.iconst 3, 1) := by decide +kernel
theorem dX2_faultOfCell_49 : decode cX2_faultOfCell 49 = .ok (.ireturn, 1) := by decide +kernel
theorem dX2_indexOfCell_0 : decode cX2_indexOfCell 0 = .ok (.iload_n 0, 1) := by decide +kernel
theorem dX2_indexOfCell_1 : decode cX2_indexOfCell 1 = .ok (.bipush 16, 2) := by decide +kernel
theorem dX2_indexOfCell_3 : decode cX2_indexOfCell 3 = .ok (.imul, 1) := by decide +kernel
theorem dX2_indexOfCell_4 : decode cX2_indexOfCell 4 = .ok (.iload_n 1, 1) := by decide +kernel
theorem dX2_indexOfCell_5 : decode cX2_indexOfCell 5 = .ok (.iadd, 1) := by decide +kernel
theorem dX2_indexOfCell_6 : decode cX2_indexOfCell 6 = .ok (.ireturn, 1) := by decide +kernel
set_option maxRecDepth 20000 in
theorem ggX2_tracksThere_X2_reelOf : GoodIn wsX2_tracksThere wsX2_reelOf := goodIn_r _ [5, 6, 12, 13, 14, 15, 16, 17, 18, 19, 20, 21, 22, 23, 24, 25, 26] (by decide +kernel) (by decide +kernel)
set_option maxRecDepth 20000 in
theorem gX2_tracksThere_X2_reelOf : GoodIn wsX2_tracksThere (wsV RX2 83 RX2 yX2_reelOf wsX2_reelOf) := goodIn_app (goodIn_of _ (by decide +kernel)) ggX2_tracksThere_X2_reelOf
set_option maxRecDepth 20000 in
theorem ggX2_tracksThere_X0_bitsOfTracks : GoodIn wsX2_tracksThere wsX0_bitsOfTracks := goodIn_r _ [10, 11, 27, 28, 29, 30] (by decide +kernel) (by decide +kernel)
set_option maxRecDepth 20000 in
theorem gX2_tracksThere_X0_bitsOfTracks_n138 : GoodIn wsX2_tracksThere (wsX0_bitsOfTracks) := ggX2_tracksThere_X0_bitsOfTracks
theorem dX2_tracksThere_0 : decode cX2_tracksThere 0 = .ok (.aload_n 0, 1) := by decide +kernel
theorem dX2_tracksThere_1 : decode cX2_tracksThere 1 = .ok (.iload_n 1, 1) := by decide +kernel
theorem dX2_tracksThere_2 : decode cX2_tracksThere 2 = .ok (.invokevirtual 83, 3) := by decide +kernel
theorem dX2_tracksThere_5 : decode cX2_tracksThere 5 = .ok (.astore_n 2, 1) := by decide +kernel
theorem dX2_tracksThere_6 : decode cX2_tracksThere 6 = .ok (.aload_n 2, 1) := by decide +kernel
theorem dX2_tracksThere_7 : decode cX2_tracksThere 7 = .ok (.ifnonnull 7, 3) := by decide +kernel
theorem dX2_tracksThere_10 : decode cX2_tracksThere 10 = .ok (.iconst (-1), 1) := by decide +kernel
theorem dX2_tracksThere_11 : decode cX2_tracksThere 11 = .ok (.goto 7, 3) := by decide +kernel
theorem dX2_tracksThere_14 : decode cX2_tracksThere 14 = .ok (.aload_n 2, 1) := by decide +kernel
theorem dX2_tracksThere_15 : decode cX2_tracksThere 15 = .ok (.invokevirtual 138, 3) := by decide +kernel
theorem dX2_tracksThere_18 : decode cX2_tracksThere 18 = .ok (.ireturn, 1) := by decide +kernel
end
section
theorem dX3_init_0 : decode cX3_init 0 = .ok (.aload_n 0, 1) := by decide +kernel
theorem dX3_init_1 : decode cX3_init 1 = .ok (.invokespecial 1, 3) := by decide +kernel
theorem dX3_init_4 : decode cX3_init 4 = .ok (.aload_n 0, 1) := by decide +kernel
theorem dX3_init_5 : decode cX3_init 5 = .ok (.bipush 8, 2) := by decide +kernel
theorem dX3_init_7 : decode cX3_init 7 = .ok (.newarray .int, 2) := by decide +kernel
theorem dX3_init_9 : decode cX3_init 9 = .ok (.putfield 7, 3) := by decide +kernel
theorem dX3_init_12 : decode cX3_init 12 = .ok (.aload_n 0, 1) := by decide +kernel
theorem dX3_init_13 : decode cX3_init 13 = .ok (.bipush 8, 2) := by decide +kernel
theorem dX3_init_15 : decode cX3_init 15 = .ok (.newarray .int, 2) := by decide +kernel
theorem dX3_init_17 : decode cX3_init 17 = .ok (.putfield 13, 3) := by decide +kernel
theorem dX3_init_20 : decode cX3_init 20 = .ok (.aload_n 0, 1) := by decide +kernel
theorem dX3_init_21 : decode cX3_init 21 = .ok (.sipush 2048, 3) := by decide +kernel
theorem dX3_init_24 : decode cX3_init 24 = .ok (.newarray .int, 2) := by decide +kernel
theorem dX3_init_26 : decode cX3_init 26 = .ok (.putfield 16, 3) := by decide +kernel
theorem dX3_init_29 : decode cX3_init 29 = .ok (.aload_n 0, 1) := by decide +kernel
theorem dX3_init_30 : decode cX3_init 30 = .ok (.iconst (-1), 1) := by decide +kernel
theorem dX3_init_31 : decode cX3_init 31 = .ok (.putfield 19, 3) := by decide +kernel
theorem dX3_init_34 : decode cX3_init 34 = .ok (.aload_n 0, 1) := by decide +kernel
theorem dX3_init_35 : decode cX3_init 35 = .ok (.iconst 4, 1) := by decide +kernel
theorem dX3_init_36 : decode cX3_init 36 = .ok (.newarray .int, 2) := by decide +kernel
theorem dX3_init_38 : decode cX3_init 38 = .ok (.putfield 23, 3) := by decide +kernel
theorem dX3_init_41 : decode cX3_init 41 = .ok (.aload_n 0, 1) := by decide +kernel
theorem dX3_init_42 : decode cX3_init 42 = .ok (.iconst 4, 1) := by decide +kernel
theorem dX3_init_43 : decode cX3_init 43 = .ok (.newarray .int, 2) := by decide +kernel
theorem dX3_init_45 : decode cX3_init 45 = .ok (.putfield 26, 3) := by decide +kernel
theorem dX3_init_48 : decode cX3_init 48 = .ok (.aload_n 0, 1) := by decide +kernel
theorem dX3_init_49 : decode cX3_init 49 = .ok (.iconst 4, 1) := by decide +kernel
theorem dX3_init_50 : decode cX3_init 50 = .ok (.newarray .int, 2) := by decide +kernel
theorem dX3_init_52 : decode cX3_init 52 = .ok (.putfield 29, 3) := by decide +kernel
theorem dX3_init_55 : decode cX3_init 55 = .ok (.aload_n 0, 1) := by decide +kernel
theorem dX3_init_56 : decode cX3_init 56 = .ok (.iconst (-1), 1) := by decide +kernel
theorem dX3_init_57 : decode cX3_init 57 = .ok (.putfield 32, 3) := by decide +kernel
theorem dX3_init_60 : decode cX3_init 60 = .ok (.aload_n 0, 1) := by decide +kernel
theorem dX3_init_61 : decode cX3_init 61 = .ok (.iconst (-1), 1) := by decide +kernel
theorem dX3_init_62 : decode cX3_init 62 = .ok (.putfield 35, 3) := by decide +kernel
theorem dX3_init_65 : decode cX3_init 65 = .ok (.aload_n 0, 1) := by decide +kernel
theorem dX3_init_66 : decode cX3_init 66 = .ok (.iconst (-1), 1) := by decide +kernel
theorem dX3_init_67 : decode cX3_init 67 = .ok (.putfield 38, 3) := by decide +kernel
theorem dX3_init_70 : decode cX3_init 70 = .ok (.aload_n 0, 1) := by decide +kernel
theorem dX3_init_71 : decode cX3_init 71 = .ok (.sipush 256, 3) := by decide +kernel
theorem dX3_init_74 : decode cX3_init 74 = .ok (.newarray .int, 2) := by decide +kernel
theorem dX3_init_76 : decode cX3_init 76 = .ok (.putfield 41, 3) := by decide +kernel
theorem dX3_init_79 : decode cX3_init 79 = .ok (.return_, 1) := by decide +kernel
theorem dX3_done_0 : decode cX3_done 0 = .ok (.aload_n 0, 1) := by decide +kernel
theorem dX3_done_1 : decode cX3_done 1 = .ok (.iconst 0, 1) := by decide +kernel
theorem dX3_done_2 : decode cX3_done 2 = .ok (.putfield 44, 3) := by decide +kernel
theorem dX3_done_5 : decode cX3_done 5 = .ok (.iload_n 1, 1) := by decide +kernel
theorem dX3_done_6 : decode cX3_done 6 = .ok (.ireturn, 1) := by decide +kernel
theorem dX3_fails_0 : decode cX3_fails 0 = .ok (.aload_n 0, 1) := by decide +kernel
theorem dX3_fails_1 : decode cX3_fails 1 = .ok (.iload_n 1, 1) := by decide +kernel
theorem dX3_fails_2 : decode cX3_fails 2 = .ok (.putfield 44, 3) := by decide +kernel
theorem dX3_fails_5 : decode cX3_fails 5 = .ok (.iload_n 2, 1) := by decide +kernel
theorem dX3_fails_6 : decode cX3_fails 6 = .ok (.ireturn, 1) := by decide +kernel
theorem dX3_isReel_0 : decode cX3_isReel 0 = .ok (.iload_n 1, 1) := by decide +kernel
theorem dX3_isReel_1 : decode cX3_isReel 1 = .ok (.ifCond .lt 15, 3) := by decide +kernel
theorem dX3_isReel_4 : decode cX3_isReel 4 = .ok (.iload_n 1, 1) := by decide +kernel
theorem dX3_isReel_5 : decode cX3_isReel 5 = .ok (.aload_n 0, 1) := by decide +kernel
theorem dX3_isReel_6 : decode cX3_isReel 6 = .ok (.getfield 47, 3) := by decide +kernel
theorem dX3_isReel_9 : decode cX3_isReel 9 = .ok (.if_icmp .ge 7, 3) := by decide +kernel
theorem dX3_isReel_12 : decode cX3_isReel 12 = .ok (.iconst 1, 1) := by decide +kernel
theorem dX3_isReel_13 : decode cX3_isReel 13 = .ok (.goto 4, 3) := by decide +kernel
theorem dX3_isReel_16 : decode cX3_isReel 16 = .ok (.iconst 0, 1) := by decide +kernel
theorem dX3_isReel_17 : decode cX3_isReel 17 = .ok (.ireturn, 1) := by decide +kernel
theorem dX3_isTrack_0 : decode cX3_isTrack 0 = .ok (.iload_n 1, 1) := by decide +kernel
theorem dX3_isTrack_1 : decode cX3_isTrack 1 = .ok (.ifCond .lt 12, 3) := by decide +kernel
theorem dX3_isTrack_4 : decode cX3_isTrack 4 = .ok (.iload_n 1, 1) := by decide +kernel
theorem dX3_isTrack_5 : decode cX3_isTrack 5 = .ok (.iconst 4, 1) := by decide +kernel
theorem dX3_isTrack_6 : decode cX3_isTrack 6 = .ok (.if_icmp .ge 7, 3) := by decide +kernel
theorem dX3_isTrack_9 : decode cX3_isTrack 9 = .ok (.iconst 1, 1) := by decide +kernel
theorem dX3_isTrack_10 : decode cX3_isTrack 10 = .ok (.goto 4, 3) := by decide +kernel
theorem dX3_isTrack_13 : decode cX3_isTrack 13 = .ok (.iconst 0, 1) := by decide +kernel
theorem dX3_isTrack_14 : decode cX3_isTrack 14 = .ok (.ireturn, 1) := by decide +kernel
theorem dX3_isThere_0 : decode cX3_isThere 0 = .ok (.aload_n 0, 1) := by decide +kernel
theorem dX3_isThere_1 : decode cX3_isThere 1 = .ok (.getfield 13, 3) := by decide +kernel
theorem dX3_isThere_4 : decode cX3_isThere 4 = .ok (.iload_n 1, 1) := by decide +kernel
theorem dX3_isThere_5 : decode cX3_isThere 5 = .ok (.iaload, 1) := by decide +kernel
theorem dX3_isThere_6 : decode cX3_isThere 6 = .ok (.iload_n 2, 1) := by decide +kernel
theorem dX3_isThere_7 : decode cX3_isThere 7 = .ok (.ishr, 1) := by decide +kernel
theorem dX3_isThere_8 : decode cX3_isThere 8 = .ok (.iconst 1, 1) := by decide +kernel
theorem dX3_isThere_9 : decode cX3_isThere 9 = .ok (.iand, 1) := by decide +kernel
theorem dX3_isThere_10 : decode cX3_isThere 10 = .ok (.iconst 1, 1) := by decide +kernel
theorem dX3_isThere_11 : decode cX3_isThere 11 = .ok (.if_icmp .ne 7, 3) := by decide +kernel
theorem dX3_isThere_14 : decode cX3_isThere 14 = .ok (.iconst 1, 1) := by decide +kernel
theorem dX3_isThere_15 : decode cX3_isThere 15 = .ok (.goto 4, 3) := by decide +kernel
theorem dX3_isThere_18 : decode cX3_isThere 18 = .ok (.iconst 0, 1) := by decide +kernel
theorem dX3_isThere_19 : decode cX3_isThere 19 = .ok (.ireturn, 1) := by decide +kernel
theorem dX3_at_0 : decode cX3_at 0 = .ok (.iconst 4, 1) := by decide +kernel
theorem dX3_at_1 : decode cX3_at 1 = .ok (.iload_n 1, 1) := by decide +kernel
theorem dX3_at_2 : decode cX3_at 2 = .ok (.imul, 1) := by decide +kernel
theorem dX3_at_3 : decode cX3_at 3 = .ok (.iload_n 2, 1) := by decide +kernel
theorem dX3_at_4 : decode cX3_at 4 = .ok (.iadd, 1) := by decide +kernel
theorem dX3_at_5 : decode cX3_at 5 = .ok (.bipush 64, 2) := by decide +kernel
theorem dX3_at_7 : decode cX3_at 7 = .ok (.imul, 1) := by decide +kernel
theorem dX3_at_8 : decode cX3_at 8 = .ok (.iload_n 3, 1) := by decide +kernel
theorem dX3_at_9 : decode cX3_at 9 = .ok (.iadd, 1) := by decide +kernel
theorem dX3_at_10 : decode cX3_at 10 = .ok (.ireturn, 1) := by decide +kernel
set_option maxRecDepth 20000 in
theorem ggX3_fault_X3_isThere : GoodIn wsX3_fault wsX3_isThere := goodIn_r _ [6, 7, 8, 9, 10, 11, 12, 13, 14, 15, 16, 17, 18, 19, 20, 21, 22, 23, 24] (by decide +kernel) (by decide +kernel)
set_option maxRecDepth 20000 in
theorem gX3_fault_X3_isThere : GoodIn wsX3_fault (wsV RX3 50 RX3 yX3_isThere wsX3_isThere) := goodIn_app (goodIn_of _ (by decide +kernel)) ggX3_fault_X3_isThere
theorem dX3_fault_0 : decode cX3_fault 0 = .ok (.aload_n 0, 1) := by decide +kernel
theorem dX3_fault_1 : decode cX3_fault 1 = .ok (.iload_n 1, 1) := by decide +kernel
theorem dX3_fault_2 : decode cX3_fault 2 = .ok (.iload_n 2, 1) := by decide +kernel
theorem dX3_fault_3 : decode cX3_fault 3 = .ok (.invokevirtual 50, 3) := by decide +kernel
theorem dX3_fault_6 : decode cX3_fault 6 = .ok (.ifCond .ne 5, 3) := by decide +kernel
theorem dX3_fault_9 : decode cX3_fault 9 = .ok (.iconst 2, 1) := by decide +kernel
theorem dX3_fault_10 : decode cX3_fault 10 = .ok (.ireturn, 1) := by decide +kernel
theorem dX3_fault_11 : decode cX3_fault 11 = .ok (.iload_n 3, 1) := by decide +kernel
theorem dX3_fault_12 : decode cX3_fault 12 = .ok (.ifCond .lt 13, 3) := by decide +kernel
theorem dX3_fault_15 : decode cX3_fault 15 = .ok (.iload_n 3, 1) := by decide +kernel
theorem dX3_fault_16 : decode cX3_fault 16 = .ok (.aload_n 0, 1) := by decide +kernel
theorem dX3_fault_17 : decode cX3_fault 17 = .ok (.getfield 7, 3) := by decide +kernel
theorem dX3_fault_20 : decode cX3_fault 20 = .ok (.iload_n 1, 1) := by decide +kernel
theorem dX3_fault_21 : decode cX3_fault 21 = .ok (.iaload, 1) := by decide +kernel
theorem dX3_fault_22 : decode cX3_fault 22 = .ok (.if_icmp .lt 7, 3) := by decide +kernel
theorem dX3_fault_25 : decode cX3_fault 25 = .ok (.iconst 3, 1) := by decide +kernel
theorem dX3_fault_26 : decode cX3_fault 26 = .ok (.goto 4, 3) := by decide +kernel
theorem dX3_fault_29 : decode cX3_fault 29 = .ok (.iconst 0, 1) := by decide +kernel
theorem dX3_fault_30 : decode cX3_fault 30 = .ok (.ireturn, 1) := by decide +kernel
theorem dX3_fit_0 : decode cX3_fit 0 = .ok (.iload_n 1, 1) := by decide +kernel
theorem dX3_fit_1 : decode cX3_fit 1 = .ok (.ifCond .ne 8, 3) := by decide +kernel
theorem dX3_fit_4 : decode cX3_fit 4 = .ok (.iload_n 2, 1) := by decide +kernel
theorem dX3_fit_5 : decode cX3_fit 5 = .ok (.ldc 54, 2) := by decide +kernel
theorem dX3_fit_7 : decode cX3_fit 7 = .ok (.iand, 1) := by decide +kernel
theorem dX3_fit_8 : decode cX3_fit 8 = .ok (.ireturn, 1) := by decide +kernel
theorem dX3_fit_9 : decode cX3_fit 9 = .ok (.iload_n 1, 1) := by decide +kernel
theorem dX3_fit_10 : decode cX3_fit 10 = .ok (.iconst 1, 1) := by decide +kernel
theorem dX3_fit_11 : decode cX3_fit 11 = .ok (.if_icmp .ne 14, 3) := by decide +kernel
theorem dX3_fit_14 : decode cX3_fit 14 = .ok (.iload_n 2, 1) := by decide +kernel
theorem dX3_fit_15 : decode cX3_fit 15 = .ok (.ldc 54, 2) := by decide +kernel
theorem dX3_fit_17 : decode cX3_fit 17 = .ok (.iand, 1) := by decide +kernel
theorem dX3_fit_18 : decode cX3_fit 18 = .ok (.ldc 55, 2) := by decide +kernel
theorem dX3_fit_20 : decode cX3_fit 20 = .ok (.ixor, 1) := by decide +kernel
theorem dX3_fit_21 : decode cX3_fit 21 = .ok (.ldc 55, 2) := by decide +kernel
theorem dX3_fit_23 : decode cX3_fit 23 = .ok (.isub, 1) := by decide +kernel
theorem dX3_fit_24 : decode cX3_fit 24 = .ok (.ireturn, 1) := by decide +kernel
theorem dX3_fit_25 : decode cX3_fit 25 = .ok (.iload_n 1, 1) := by decide +kernel
theorem dX3_fit_26 : decode cX3_fit 26 = .ok (.iconst 2, 1) := by decide +kernel
theorem dX3_fit_27 : decode cX3_fit 27 = .ok (.if_icmp .ne 29, 3) := by decide +kernel
theorem dX3_fit_30 : decode cX3_fit 30 = .ok (.iload_n 2, 1) := by decide +kernel
theorem dX3_fit_31 : decode cX3_fit 31 = .ok (.sipush (-32768), 3) := by decide +kernel
theorem dX3_fit_34 : decode cX3_fit 34 = .ok (.if_icmp .ge 9, 3) := by decide +kernel
theorem dX3_fit_37 : decode cX3_fit 37 = .ok (.sipush (-32768), 3) := by decide +kernel
theorem dX3_fit_40 : decode cX3_fit 40 = .ok (.goto 15, 3) := by decide +kernel
theorem dX3_fit_43 : decode cX3_fit 43 = .ok (.iload_n 2, 1) := by decide +kernel
theorem dX3_fit_44 : decode cX3_fit 44 = .ok (.ldc 55, 2) := by decide +kernel
theorem dX3_fit_46 : decode cX3_fit 46 = .ok (.if_icmp .le 8, 3) := by decide +kernel
theorem dX3_fit_49 : decode cX3_fit 49 = .ok (.ldc 55, 2) := by decide +kernel
theorem dX3_fit_51 : decode cX3_fit 51 = .ok (.goto 4, 3) := by decide +kernel
theorem dX3_fit_54 : decode cX3_fit 54 = .ok (.iload_n 2, 1) := by decide +kernel
theorem dX3_fit_55 : decode cX3_fit 55 = .ok (.ireturn, 1) := by decide +kernel
theorem dX3_fit_56 : decode cX3_fit 56 = .ok (.iload_n 2, 1) := by decide +kernel
theorem dX3_fit_57 : decode cX3_fit 57 = .ok (.iconst 1, 1) := by decide +kernel
theorem dX3_fit_58 : decode cX3_fit 58 = .ok (.iand, 1) := by decide +kernel
theorem dX3_fit_59 : decode cX3_fit 59 = .ok (.ireturn, 1) := by decide +kernel
theorem dX3_place_0 : decode cX3_place 0 = .ok (.aload_n 0, 1) := by decide +kernel
theorem dX3_place_1 : decode cX3_place 1 = .ok (.getfield 56, 3) := by decide +kernel
theorem dX3_place_4 : decode cX3_place 4 = .ok (.aload_n 0, 1) := by decide +kernel
theorem dX3_place_5 : decode cX3_place 5 = .ok (.getfield 23, 3) := by decide +kernel
theorem dX3_place_8 : decode cX3_place 8 = .ok (.iload_n 1, 1) := by decide +kernel
theorem dX3_place_9 : decode cX3_place 9 = .ok (.iaload, 1) := by decide +kernel
theorem dX3_place_10 : decode cX3_place 10 = .ok (.iadd, 1) := by decide +kernel
theorem dX3_place_11 : decode cX3_place 11 = .ok (.ireturn, 1) := by decide +kernel
set_option maxRecDepth 20000 in
theorem ggX3_reel_X3_fails : GoodIn wsX3_reel wsX3_fails := goodIn_r _ [8, 9, 14, 15, 16, 17, 18, 19, 20, 21, 22, 23, 24, 25, 26, 27, 28, 29, 30] (by decide +kernel) (by decide +kernel)
set_option maxRecDepth 20000 in
theorem gX3_reel_X3_fails : GoodIn wsX3_reel (wsV RX3 59 RX3 yX3_fails wsX3_fails) := goodIn_app (goodIn_of _ (by decide +kernel)) ggX3_reel_X3_fails
set_option maxRecDepth 20000 in
theorem ggX3_reel_X3_done : GoodIn wsX3_reel wsX3_done := goodIn_r _ [13, 9, 14, 15, 16, 17, 18, 19, 20, 21, 22, 23, 24, 25, 26, 27, 28, 29, 30] (by decide +kernel) (by decide +kernel)
set_option maxRecDepth 20000 in
theorem gX3_reel_X3_done : GoodIn wsX3_reel (wsV RX3 63 RX3 yX3_done wsX3_done) := goodIn_app (goodIn_of _ (by decide +kernel)) ggX3_reel_X3_done
theorem dX3_reel_0 : decode cX3_reel 0 = .ok (.iload_n 1, 1) := by decide +kernel
theorem dX3_reel_1 : decode cX3_reel 1 = .ok (.iconst 1, 1) := by decide +kernel
theorem dX3_reel_2 : decode cX3_reel 2 = .ok (.if_icmp .lt 19, 3) := by decide +kernel
theorem dX3_reel_5 : decode cX3_reel 5 = .ok (.iload_n 1, 1) := by decide +kernel
theorem dX3_reel_6 : decode cX3_reel 6 = .ok (.bipush 64, 2) := by decide +kernel
theorem dX3_reel_8 : decode cX3_reel 8 = .ok (.if_icmp .gt 13, 3) := by decide +kernel
theorem dX3_reel_11 : decode cX3_reel 11 = .ok (.iload_n 2, 1) := by decide +kernel
theorem dX3_reel_12 : decode cX3_reel 12 = .ok (.ifCond .lt 9, 3) := by decide +kernel
theorem dX3_reel_15 : decode cX3_reel 15 = .ok (.iload_n 2, 1) := by decide +kernel
theorem dX3_reel_16 : decode cX3_reel 16 = .ok (.bipush 15, 2) := by decide +kernel
theorem dX3_reel_18 : decode cX3_reel 18 = .ok (.if_icmp .le 10, 3) := by decide +kernel
theorem dX3_reel_21 : decode cX3_reel 21 = .ok (.aload_n 0, 1) := by decide +kernel
theorem dX3_reel_22 : decode cX3_reel 22 = .ok (.iconst 1, 1) := by decide +kernel
theorem dX3_reel_23 : decode cX3_reel 23 = .ok (.iconst (-1), 1) := by decide +kernel
theorem dX3_reel_24 : decode cX3_reel 24 = .ok (.invokevirtual 59, 3) := by decide +kernel
theorem dX3_reel_27 : decode cX3_reel 27 = .ok (.ireturn, 1) := by decide +kernel
theorem dX3_reel_28 : decode cX3_reel 28 = .ok (.aload_n 0, 1) := by decide +kernel
theorem dX3_reel_29 : decode cX3_reel 29 = .ok (.getfield 47, 3) := by decide +kernel
theorem dX3_reel_32 : decode cX3_reel 32 = .ok (.bipush 8, 2) := by decide +kernel
theorem dX3_reel_34 : decode cX3_reel 34 = .ok (.if_icmp .ne 10, 3) := by decide +kernel
theorem dX3_reel_37 : decode cX3_reel 37 = .ok (.aload_n 0, 1) := by decide +kernel
theorem dX3_reel_38 : decode cX3_reel 38 = .ok (.iconst 5, 1) := by decide +kernel
theorem dX3_reel_39 : decode cX3_reel 39 = .ok (.iconst (-1), 1) := by decide +kernel
theorem dX3_reel_40 : decode cX3_reel 40 = .ok (.invokevirtual 59, 3) := by decide +kernel
theorem dX3_reel_43 : decode cX3_reel 43 = .ok (.ireturn, 1) := by decide +kernel
theorem dX3_reel_44 : decode cX3_reel 44 = .ok (.aload_n 0, 1) := by decide +kernel
theorem dX3_reel_45 : decode cX3_reel 45 = .ok (.getfield 7, 3) := by decide +kernel
theorem dX3_reel_48 : decode cX3_reel 48 = .ok (.aload_n 0, 1) := by decide +kernel
theorem dX3_reel_49 : decode cX3_reel 49 = .ok (.getfield 47, 3) := by decide +kernel
theorem dX3_reel_52 : decode cX3_reel 52 = .ok (.iload_n 1, 1) := by decide +kernel
theorem dX3_reel_53 : decode cX3_reel 53 = .ok (.iastore, 1) := by decide +kernel
theorem dX3_reel_54 : decode cX3_reel 54 = .ok (.aload_n 0, 1) := by decide +kernel
theorem dX3_reel_55 : decode cX3_reel 55 = .ok (.getfield 13, 3) := by decide +kernel
theorem dX3_reel_58 : decode cX3_reel 58 = .ok (.aload_n 0, 1) := by decide +kernel
theorem dX3_reel_59 : decode cX3_reel 59 = .ok (.getfield 47, 3) := by decide +kernel
theorem dX3_reel_62 : decode cX3_reel 62 = .ok (.iload_n 2, 1) := by decide +kernel
theorem dX3_reel_63 : decode cX3_reel 63 = .ok (.iastore, 1) := by decide +kernel
theorem dX3_reel_64 : decode cX3_reel 64 = .ok (.aload_n 0, 1) := by decide +kernel
theorem dX3_reel_65 : decode cX3_reel 65 = .ok (.dup, 1) := by decide +kernel
theorem dX3_reel_66 : decode cX3_reel 66 = .ok (.getfield 47, 3) := by decide +kernel
theorem dX3_reel_69 : decode cX3_reel 69 = .ok (.iconst 1, 1) := by decide +kernel
theorem dX3_reel_70 : decode cX3_reel 70 = .ok (.iadd, 1) := by decide +kernel
theorem dX3_reel_71 : decode cX3_reel 71 = .ok (.putfield 47, 3) := by decide +kernel
theorem dX3_reel_74 : decode cX3_reel 74 = .ok (.aload_n 0, 1) := by decide +kernel
theorem dX3_reel_75 : decode cX3_reel 75 = .ok (.aload_n 0, 1) := by decide +kernel
theorem dX3_reel_76 : decode cX3_reel 76 = .ok (.getfield 47, 3) := by decide +kernel
theorem dX3_reel_79 : decode cX3_reel 79 = .ok (.iconst 1, 1) := by decide +kernel
theorem dX3_reel_80 : decode cX3_reel 80 = .ok (.isub, 1) := by decide +kernel
theorem dX3_reel_81 : decode cX3_reel 81 = .ok (.invokevirtual 63, 3) := by decide +kernel
theorem dX3_reel_84 : decode cX3_reel 84 = .ok (.ireturn, 1) := by decide +kernel
set_option maxRecDepth 20000 in
theorem ggX3_strip_X3_isReel : GoodIn wsX3_strip wsX3_isReel := goodIn_r _ [6, 7, 25, 26, 27, 28, 29, 30, 31, 32, 33, 34, 35, 36, 37, 38, 39, 40, 41] (by decide +kernel) (by decide +kernel)
set_option maxRecDepth 20000 in
theorem gX3_strip_X3_isReel : GoodIn wsX3_strip (wsV RX3 67 RX3 yX3_isReel wsX3_isReel) := goodIn_app (goodIn_of _ (by decide +kernel)) ggX3_strip_X3_isReel
set_option maxRecDepth 20000 in
theorem ggX3_strip_X3_isTrack : GoodIn wsX3_strip wsX3_isTrack := goodIn_r _ [11] (by decide +kernel) (by decide +kernel)
set_option maxRecDepth 20000 in
theorem gX3_strip_X3_isTrack : GoodIn wsX3_strip (wsV RX3 71 RX3 yX3_isTrack wsX3_isTrack) := goodIn_app (goodIn_of _ (by decide +kernel)) ggX3_strip_X3_isTrack
set_option maxRecDepth 20000 in
theorem ggX3_strip_X3_fails : GoodIn wsX3_strip wsX3_fails := goodIn_r _ [15, 16, 25, 26, 27, 28, 29, 30, 31, 32, 33, 34, 35, 36, 37, 38, 39, 40, 41] (by decide +kernel) (by decide +kernel)
set_option maxRecDepth 20000 in
theorem gX3_strip_X3_fails : GoodIn wsX3_strip (wsV RX3 59 RX3 yX3_fails wsX3_fails) := goodIn_app (goodIn_of _ (by decide +kernel)) ggX3_strip_X3_fails
set_option maxRecDepth 20000 in
theorem ggX3_strip_X3_isThere : GoodIn wsX3_strip wsX3_isThere := goodIn_r _ [20, 1, 25, 26, 27, 28, 29, 30, 31, 32, 33, 34, 35, 36, 37, 38, 39, 40, 41] (by decide +kernel) (by decide +kernel)
set_option maxRecDepth 20000 in
theorem gX3_strip_X3_isThere : GoodIn wsX3_strip (wsV RX3 50 RX3 yX3_isThere wsX3_isThere) := goodIn_app (goodIn_of _ (by decide +kernel)) ggX3_strip_X3_isThere
set_option maxRecDepth 20000 in
theorem ggX3_strip_X3_done : GoodIn wsX3_strip wsX3_done := goodIn_r _ [24, 16, 25, 26, 27, 28, 29, 30, 31, 32, 33, 34, 35, 36, 37, 38, 39, 40, 41] (by decide +kernel) (by decide +kernel)
set_option maxRecDepth 20000 in
theorem gX3_strip_X3_done : GoodIn wsX3_strip (wsV RX3 63 RX3 yX3_done wsX3_done) := goodIn_app (goodIn_of _ (by decide +kernel)) ggX3_strip_X3_done
theorem dX3_strip_0 : decode cX3_strip 0 = .ok (.aload_n 0, 1) := by decide +kernel
theorem dX3_strip_1 : decode cX3_strip 1 = .ok (.iload_n 1, 1) := by decide +kernel
theorem dX3_strip_2 : decode cX3_strip 2 = .ok (.invokevirtual 67, 3) := by decide +kernel
theorem dX3_strip_5 : decode cX3_strip 5 = .ok (.ifCond .eq 11, 3) := by decide +kernel
theorem dX3_strip_8 : decode cX3_strip 8 = .ok (.aload_n 0, 1) := by decide +kernel
theorem dX3_strip_9 : decode cX3_strip 9 = .ok (.iload_n 2, 1) := by decide +kernel
theorem dX3_strip_10 : decode cX3_strip 10 = .ok (.invokevirtual 71, 3) := by decide +kernel
theorem dX3_strip_13 : decode cX3_strip 13 = .ok (.ifCond .ne 10, 3) := by decide +kernel
theorem dX3_strip_16 : decode cX3_strip 16 = .ok (.aload_n 0, 1) := by decide +kernel
theorem dX3_strip_17 : decode cX3_strip 17 = .ok (.iconst 1, 1) := by decide +kernel
theorem dX3_strip_18 : decode cX3_strip 18 = .ok (.iconst (-1), 1) := by decide +kernel
theorem dX3_strip_19 : decode cX3_strip 19 = .ok (.invokevirtual 59, 3) := by decide +kernel
theorem dX3_strip_22 : decode cX3_strip 22 = .ok (.ireturn, 1) := by decide +kernel
theorem dX3_strip_23 : decode cX3_strip 23 = .ok (.aload_n 0, 1) := by decide +kernel
theorem dX3_strip_24 : decode cX3_strip 24 = .ok (.iload_n 1, 1) := by decide +kernel
theorem dX3_strip_25 : decode cX3_strip 25 = .ok (.iload_n 2, 1) := by decide +kernel
theorem dX3_strip_26 : decode cX3_strip 26 = .ok (.invokevirtual 50, 3) := by decide +kernel
theorem dX3_strip_29 : decode cX3_strip 29 = .ok (.ifCond .eq 7, 3) := by decide +kernel
theorem dX3_strip_32 : decode cX3_strip 32 = .ok (.iconst 1, 1) := by decide +kernel
theorem dX3_strip_33 : decode cX3_strip 33 = .ok (.goto 4, 3) := by decide +kernel
theorem dX3_strip_36 : decode cX3_strip 36 = .ok (.iconst 0, 1) := by decide +kernel
theorem dX3_strip_37 : decode cX3_strip 37 = .ok (.istore_n 3, 1) := by decide +kernel
theorem dX3_strip_38 : decode cX3_strip 38 = .ok (.aload_n 0, 1) := by decide +kernel
theorem dX3_strip_39 : decode cX3_strip 39 = .ok (.getfield 13, 3) := by decide +kernel
theorem dX3_strip_42 : decode cX3_strip 42 = .ok (.iload_n 1, 1) := by decide +kernel
theorem dX3_strip_43 : decode cX3_strip 43 = .ok (.aload_n 0, 1) := by decide +kernel
theorem dX3_strip_44 : decode cX3_strip 44 = .ok (.getfield 13, 3) := by decide +kernel
theorem dX3_strip_47 : decode cX3_strip 47 = .ok (.iload_n 1, 1) := by decide +kernel
theorem dX3_strip_48 : decode cX3_strip 48 = .ok (.iaload, 1) := by decide +kernel
theorem dX3_strip_49 : decode cX3_strip 49 = .ok (.iconst 1, 1) := by decide +kernel
theorem dX3_strip_50 : decode cX3_strip 50 = .ok (.iload_n 2, 1) := by decide +kernel
theorem dX3_strip_51 : decode cX3_strip 51 = .ok (.ishl, 1) := by decide +kernel
theorem dX3_strip_52 : decode cX3_strip 52 = .ok (.iconst (-1), 1) := by decide +kernel
theorem dX3_strip_53 : decode cX3_strip 53 = .ok (.ixor, 1) := by decide +kernel
theorem dX3_strip_54 : decode cX3_strip 54 = .ok (.iand, 1) := by decide +kernel
theorem dX3_strip_55 : decode cX3_strip 55 = .ok (.iastore, 1) := by decide +kernel
theorem dX3_strip_56 : decode cX3_strip 56 = .ok (.aload_n 0, 1) := by decide +kernel
theorem dX3_strip_57 : decode cX3_strip 57 = .ok (.iload_n 3, 1) := by decide +kernel
theorem dX3_strip_58 : decode cX3_strip 58 = .ok (.invokevirtual 63, 3) := by decide +kernel
theorem dX3_strip_61 : decode cX3_strip 61 = .ok (.ireturn, 1) := by decide +kernel
set_option maxRecDepth 20000 in
theorem ggX3_lay_X3_isReel : GoodIn wsX3_lay wsX3_isReel := goodIn_r _ [7, 8, 30, 31, 32, 33, 34, 35, 36, 37, 38, 39, 40, 41, 42, 43, 44, 45, 46] (by decide +kernel) (by decide +kernel)
set_option maxRecDepth 20000 in
theorem gX3_lay_X3_isReel : GoodIn wsX3_lay (wsV RX3 67 RX3 yX3_isReel wsX3_isReel) := goodIn_app (goodIn_of _ (by decide +kernel)) ggX3_lay_X3_isReel
set_option maxRecDepth 20000 in
theorem ggX3_lay_X3_isTrack : GoodIn wsX3_lay wsX3_isTrack := goodIn_r _ [12] (by decide +kernel) (by decide +kernel)
set_option maxRecDepth 20000 in
theorem gX3_lay_X3_isTrack : GoodIn wsX3_lay (wsV RX3 71 RX3 yX3_isTrack wsX3_isTrack) := goodIn_app (goodIn_of _ (by decide +kernel)) ggX3_lay_X3_isTrack
set_option maxRecDepth 20000 in
theorem ggX3_lay_X3_fails : GoodIn wsX3_lay wsX3_fails := goodIn_r _ [16, 17, 30, 31, 32, 33, 34, 35, 36, 37, 38, 39, 40, 41, 42, 43, 44, 45, 46] (by decide +kernel) (by decide +kernel)
set_option maxRecDepth 20000 in
theorem gX3_lay_X3_fails : GoodIn wsX3_lay (wsV RX3 59 RX3 yX3_fails wsX3_fails) := goodIn_app (goodIn_of _ (by decide +kernel)) ggX3_lay_X3_fails
set_option maxRecDepth 20000 in
theorem ggX3_lay_X3_isThere : GoodIn wsX3_lay wsX3_isThere := goodIn_r _ [21, 1, 30, 31, 32, 33, 34, 35, 36, 37, 38, 39, 40, 41, 42, 43, 44, 45, 46] (by decide +kernel) (by decide +kernel)
set_option maxRecDepth 20000 in
theorem gX3_lay_X3_isThere : GoodIn wsX3_lay (wsV RX3 50 RX3 yX3_isThere wsX3_isThere) := goodIn_app (goodIn_of _ (by decide +kernel)) ggX3_lay_X3_isThere
set_option maxRecDepth 20000 in
theorem ggX3_lay_X3_at : GoodIn wsX3_lay wsX3_at := goodIn_r _ [25] (by decide +kernel) (by decide +kernel)
set_option maxRecDepth 20000 in
theorem gX3_lay_X3_at : GoodIn wsX3_lay (wsV RX3 74 RX3 yX3_at wsX3_at) := goodIn_app (goodIn_of _ (by decide +kernel)) ggX3_lay_X3_at
set_option maxRecDepth 20000 in
theorem ggX3_lay_X3_done : GoodIn wsX3_lay wsX3_done := goodIn_r _ [29, 17, 30, 31, 32, 33, 34, 35, 36, 37, 38, 39, 40, 41, 42, 43, 44, 45, 46] (by decide +kernel) (by decide +kernel)
set_option maxRecDepth 20000 in
theorem gX3_lay_X3_done : GoodIn wsX3_lay (wsV RX3 63 RX3 yX3_done wsX3_done) := goodIn_app (goodIn_of _ (by decide +kernel)) ggX3_lay_X3_done
theorem dX3_lay_0 : decode cX3_lay 0 = .ok (.aload_n 0, 1) := by decide +kernel
theorem dX3_lay_1 : decode cX3_lay 1 = .ok (.iload_n 1, 1) := by decide +kernel
theorem dX3_lay_2 : decode cX3_lay 2 = .ok (.invokevirtual 67, 3) := by decide +kernel
theorem dX3_lay_5 : decode cX3_lay 5 = .ok (.ifCond .eq 11, 3) := by decide +kernel
theorem dX3_lay_8 : decode cX3_lay 8 = .ok (.aload_n 0, 1) := by decide +kernel
theorem dX3_lay_9 : decode cX3_lay 9 = .ok (.iload_n 2, 1) := by decide +kernel
theorem dX3_lay_10 : decode cX3_lay 10 = .ok (.invokevirtual 71, 3) := by decide +kernel
theorem dX3_lay_13 : decode cX3_lay 13 = .ok (.ifCond .ne 10, 3) := by decide +kernel
theorem dX3_lay_16 : decode cX3_lay 16 = .ok (.aload_n 0, 1) := by decide +kernel
theorem dX3_lay_17 : decode cX3_lay 17 = .ok (.iconst 1, 1) := by decide +kernel
theorem dX3_lay_18 : decode cX3_lay 18 = .ok (.iconst (-1), 1) := by decide +kernel
theorem dX3_lay_19 : decode cX3_lay 19 = .ok (.invokevirtual 59, 3) := by decide +kernel
theorem dX3_lay_22 : decode cX3_lay 22 = .ok (.ireturn, 1) := by decide +kernel
theorem dX3_lay_23 : decode cX3_lay 23 = .ok (.aload_n 0, 1) := by decide +kernel
theorem dX3_lay_24 : decode cX3_lay 24 = .ok (.iload_n 1, 1) := by decide +kernel
theorem dX3_lay_25 : decode cX3_lay 25 = .ok (.iload_n 2, 1) := by decide +kernel
theorem dX3_lay_26 : decode cX3_lay 26 = .ok (.invokevirtual 50, 3) := by decide +kernel
theorem dX3_lay_29 : decode cX3_lay 29 = .ok (.ifCond .eq 7, 3) := by decide +kernel
theorem dX3_lay_32 : decode cX3_lay 32 = .ok (.iconst 0, 1) := by decide +kernel
theorem dX3_lay_33 : decode cX3_lay 33 = .ok (.goto 4, 3) := by decide +kernel
theorem dX3_lay_36 : decode cX3_lay 36 = .ok (.iconst 1, 1) := by decide +kernel
theorem dX3_lay_37 : decode cX3_lay 37 = .ok (.istore_n 3, 1) := by decide +kernel
theorem dX3_lay_38 : decode cX3_lay 38 = .ok (.aload_n 0, 1) := by decide +kernel
theorem dX3_lay_39 : decode cX3_lay 39 = .ok (.getfield 13, 3) := by decide +kernel
theorem dX3_lay_42 : decode cX3_lay 42 = .ok (.iload_n 1, 1) := by decide +kernel
theorem dX3_lay_43 : decode cX3_lay 43 = .ok (.aload_n 0, 1) := by decide +kernel
theorem dX3_lay_44 : decode cX3_lay 44 = .ok (.getfield 13, 3) := by decide +kernel
theorem dX3_lay_47 : decode cX3_lay 47 = .ok (.iload_n 1, 1) := by decide +kernel
theorem dX3_lay_48 : decode cX3_lay 48 = .ok (.iaload, 1) := by decide +kernel
theorem dX3_lay_49 : decode cX3_lay 49 = .ok (.iconst 1, 1) := by decide +kernel
theorem dX3_lay_50 : decode cX3_lay 50 = .ok (.iload_n 2, 1) := by decide +kernel
theorem dX3_lay_51 : decode cX3_lay 51 = .ok (.ishl, 1) := by decide +kernel
theorem dX3_lay_52 : decode cX3_lay 52 = .ok (.ior, 1) := by decide +kernel
theorem dX3_lay_53 : decode cX3_lay 53 = .ok (.iastore, 1) := by decide +kernel
theorem dX3_lay_54 : decode cX3_lay 54 = .ok (.iconst 0, 1) := by decide +kernel
theorem dX3_lay_55 : decode cX3_lay 55 = .ok (.istore 4, 2) := by decide +kernel
theorem dX3_lay_57 : decode cX3_lay 57 = .ok (.iload 4, 2) := by decide +kernel
theorem dX3_lay_59 : decode cX3_lay 59 = .ok (.bipush 64, 2) := by decide +kernel
theorem dX3_lay_61 : decode cX3_lay 61 = .ok (.if_icmp .ge 23, 3) := by decide +kernel
theorem dX3_lay_64 : decode cX3_lay 64 = .ok (.aload_n 0, 1) := by decide +kernel
theorem dX3_lay_65 : decode cX3_lay 65 = .ok (.getfield 16, 3) := by decide +kernel
theorem dX3_lay_68 : decode cX3_lay 68 = .ok (.aload_n 0, 1) := by decide +kernel
theorem dX3_lay_69 : decode cX3_lay 69 = .ok (.iload_n 1, 1) := by decide +kernel
theorem dX3_lay_70 : decode cX3_lay 70 = .ok (.iload_n 2, 1) := by decide +kernel
theorem dX3_lay_71 : decode cX3_lay 71 = .ok (.iload 4, 2) := by decide +kernel
theorem dX3_lay_73 : decode cX3_lay 73 = .ok (.invokevirtual 74, 3) := by decide +kernel
theorem dX3_lay_76 : decode cX3_lay 76 = .ok (.iconst 0, 1) := by decide +kernel
theorem dX3_lay_77 : decode cX3_lay 77 = .ok (.iastore, 1) := by decide +kernel
theorem dX3_lay_78 : decode cX3_lay 78 = .ok (.iinc 4 1, 3) := by decide +kernel
theorem dX3_lay_81 : decode cX3_lay 81 = .ok (.goto (-24), 3) := by decide +kernel
theorem dX3_lay_84 : decode cX3_lay 84 = .ok (.aload_n 0, 1) := by decide +kernel
theorem dX3_lay_85 : decode cX3_lay 85 = .ok (.iload_n 3, 1) := by decide +kernel
theorem dX3_lay_86 : decode cX3_lay 86 = .ok (.invokevirtual 63, 3) := by decide +kernel
theorem dX3_lay_89 : decode cX3_lay 89 = .ok (.ireturn, 1) := by decide +kernel
set_option maxRecDepth 20000 in
theorem ggX3_thread_X3_isReel : GoodIn wsX3_thread wsX3_isReel := goodIn_r _ [6, 7, 17, 18, 19, 20, 21, 22, 23, 24, 25, 26, 27, 28, 29, 30, 31, 32, 33] (by decide +kernel) (by decide +kernel)
set_option maxRecDepth 20000 in
theorem gX3_thread_X3_isReel : GoodIn wsX3_thread (wsV RX3 67 RX3 yX3_isReel wsX3_isReel) := goodIn_app (goodIn_of _ (by decide +kernel)) ggX3_thread_X3_isReel
set_option maxRecDepth 20000 in
theorem ggX3_thread_X3_fails : GoodIn wsX3_thread wsX3_fails := goodIn_r _ [11, 12, 17, 18, 19, 20, 21, 22, 23, 24, 25, 26, 27, 28, 29, 30, 31, 32, 33] (by decide +kernel) (by decide +kernel)
set_option maxRecDepth 20000 in
theorem gX3_thread_X3_fails : GoodIn wsX3_thread (wsV RX3 59 RX3 yX3_fails wsX3_fails) := goodIn_app (goodIn_of _ (by decide +kernel)) ggX3_thread_X3_fails
set_option maxRecDepth 20000 in
theorem ggX3_thread_X3_done : GoodIn wsX3_thread wsX3_done := goodIn_r _ [16, 12, 17, 18, 19, 20, 21, 22, 23, 24, 25, 26, 27, 28, 29, 30, 31, 32, 33] (by decide +kernel) (by decide +kernel)
set_option maxRecDepth 20000 in
theorem gX3_thread_X3_done : GoodIn wsX3_thread (wsV RX3 63 RX3 yX3_done wsX3_done) := goodIn_app (goodIn_of _ (by decide +kernel)) ggX3_thread_X3_done
theorem dX3_thread_0 : decode cX3_thread 0 = .ok (.iload_n 1, 1) := by decide +kernel
theorem dX3_thread_1 : decode cX3_thread 1 = .ok (.iconst (-1), 1) := by decide +kernel
theorem dX3_thread_2 : decode cX3_thread 2 = .ok (.if_icmp .eq 18, 3) := by decide +kernel
theorem dX3_thread_5 : decode cX3_thread 5 = .ok (.aload_n 0, 1) := by decide +kernel
theorem dX3_thread_6 : decode cX3_thread 6 = .ok (.iload_n 1, 1) := by decide +kernel
theorem dX3_thread_7 : decode cX3_thread 7 = .ok (.invokevirtual 67, 3) := by decide +kernel
theorem dX3_thread_10 : decode cX3_thread 10 = .ok (.ifCond .ne 10, 3) := by decide +kernel
theorem dX3_thread_13 : decode cX3_thread 13 = .ok (.aload_n 0, 1) := by decide +kernel
theorem dX3_thread_14 : decode cX3_thread 14 = .ok (.iconst 1, 1) := by decide +kernel
theorem dX3_thread_15 : decode cX3_thread 15 = .ok (.iconst (-1), 1) := by decide +kernel
theorem dX3_thread_16 : decode cX3_thread 16 = .ok (.invokevirtual 59, 3) := by decide +kernel
theorem dX3_thread_19 : decode cX3_thread 19 = .ok (.ireturn, 1) := by decide +kernel
theorem dX3_thread_20 : decode cX3_thread 20 = .ok (.aload_n 0, 1) := by decide +kernel
theorem dX3_thread_21 : decode cX3_thread 21 = .ok (.getfield 19, 3) := by decide +kernel
theorem dX3_thread_24 : decode cX3_thread 24 = .ok (.istore_n 2, 1) := by decide +kernel
theorem dX3_thread_25 : decode cX3_thread 25 = .ok (.aload_n 0, 1) := by decide +kernel
theorem dX3_thread_26 : decode cX3_thread 26 = .ok (.iload_n 1, 1) := by decide +kernel
theorem dX3_thread_27 : decode cX3_thread 27 = .ok (.putfield 19, 3) := by decide +kernel
theorem dX3_thread_30 : decode cX3_thread 30 = .ok (.aload_n 0, 1) := by decide +kernel
theorem dX3_thread_31 : decode cX3_thread 31 = .ok (.iload_n 2, 1) := by decide +kernel
theorem dX3_thread_32 : decode cX3_thread 32 = .ok (.invokevirtual 63, 3) := by decide +kernel
theorem dX3_thread_35 : decode cX3_thread 35 = .ok (.ireturn, 1) := by decide +kernel
set_option maxRecDepth 20000 in
theorem ggX3_head_X3_isTrack : GoodIn wsX3_head wsX3_isTrack := goodIn_r _ [6] (by decide +kernel) (by decide +kernel)
set_option maxRecDepth 20000 in
theorem gX3_head_X3_isTrack : GoodIn wsX3_head (wsV RX3 71 RX3 yX3_isTrack wsX3_isTrack) := goodIn_app (goodIn_of _ (by decide +kernel)) ggX3_head_X3_isTrack
set_option maxRecDepth 20000 in
theorem ggX3_head_X3_fails : GoodIn wsX3_head wsX3_fails := goodIn_r _ [10, 11, 16, 17, 18, 19, 20, 21, 22, 23, 24, 25, 26, 27, 28, 29, 30, 31, 32] (by decide +kernel) (by decide +kernel)
set_option maxRecDepth 20000 in
theorem gX3_head_X3_fails : GoodIn wsX3_head (wsV RX3 59 RX3 yX3_fails wsX3_fails) := goodIn_app (goodIn_of _ (by decide +kernel)) ggX3_head_X3_fails
set_option maxRecDepth 20000 in
theorem ggX3_head_X3_done : GoodIn wsX3_head wsX3_done := goodIn_r _ [15, 11, 16, 17, 18, 19, 20, 21, 22, 23, 24, 25, 26, 27, 28, 29, 30, 31, 32] (by decide +kernel) (by decide +kernel)
set_option maxRecDepth 20000 in
theorem gX3_head_X3_done : GoodIn wsX3_head (wsV RX3 63 RX3 yX3_done wsX3_done) := goodIn_app (goodIn_of _ (by decide +kernel)) ggX3_head_X3_done
theorem dX3_head_0 : decode cX3_head 0 = .ok (.aload_n 0, 1) := by decide +kernel
theorem dX3_head_1 : decode cX3_head 1 = .ok (.iload_n 1, 1) := by decide +kernel
theorem dX3_head_2 : decode cX3_head 2 = .ok (.invokevirtual 71, 3) := by decide +kernel
theorem dX3_head_5 : decode cX3_head 5 = .ok (.ifCond .eq 15, 3) := by decide +kernel
theorem dX3_head_8 : decode cX3_head 8 = .ok (.iload_n 2, 1) := by decide +kernel
theorem dX3_head_9 : decode cX3_head 9 = .ok (.bipush (-8), 2) := by decide +kernel
theorem dX3_head_11 : decode cX3_head 11 = .ok (.if_icmp .lt 9, 3) := by decide +kernel
theorem dX3_head_14 : decode cX3_head 14 = .ok (.iload_n 2, 1) := by decide +kernel
theorem dX3_head_15 : decode cX3_head 15 = .ok (.bipush 8, 2) := by decide +kernel
theorem dX3_head_17 : decode cX3_head 17 = .ok (.if_icmp .le 10, 3) := by decide +kernel
theorem dX3_head_20 : decode cX3_head 20 = .ok (.aload_n 0, 1) := by decide +kernel
theorem dX3_head_21 : decode cX3_head 21 = .ok (.iconst 1, 1) := by decide +kernel
theorem dX3_head_22 : decode cX3_head 22 = .ok (.iconst 0, 1) := by decide +kernel
theorem dX3_head_23 : decode cX3_head 23 = .ok (.invokevirtual 59, 3) := by decide +kernel
theorem dX3_head_26 : decode cX3_head 26 = .ok (.ireturn, 1) := by decide +kernel
theorem dX3_head_27 : decode cX3_head 27 = .ok (.aload_n 0, 1) := by decide +kernel
theorem dX3_head_28 : decode cX3_head 28 = .ok (.getfield 23, 3) := by decide +kernel
theorem dX3_head_31 : decode cX3_head 31 = .ok (.iload_n 1, 1) := by decide +kernel
theorem dX3_head_32 : decode cX3_head 32 = .ok (.iaload, 1) := by decide +kernel
theorem dX3_head_33 : decode cX3_head 33 = .ok (.istore_n 3, 1) := by decide +kernel
theorem dX3_head_34 : decode cX3_head 34 = .ok (.aload_n 0, 1) := by decide +kernel
theorem dX3_head_35 : decode cX3_head 35 = .ok (.getfield 23, 3) := by decide +kernel
theorem dX3_head_38 : decode cX3_head 38 = .ok (.iload_n 1, 1) := by decide +kernel
theorem dX3_head_39 : decode cX3_head 39 = .ok (.iload_n 2, 1) := by decide +kernel
theorem dX3_head_40 : decode cX3_head 40 = .ok (.iastore, 1) := by decide +kernel
theorem dX3_head_41 : decode cX3_head 41 = .ok (.aload_n 0, 1) := by decide +kernel
theorem dX3_head_42 : decode cX3_head 42 = .ok (.iload_n 3, 1) := by decide +kernel
theorem dX3_head_43 : decode cX3_head 43 = .ok (.invokevirtual 63, 3) := by decide +kernel
theorem dX3_head_46 : decode cX3_head 46 = .ok (.ireturn, 1) := by decide +kernel
set_option maxRecDepth 20000 in
theorem ggX3_arm_X3_isTrack : GoodIn wsX3_arm wsX3_isTrack := goodIn_r _ [6] (by decide +kernel) (by decide +kernel)
set_option maxRecDepth 20000 in
theorem gX3_arm_X3_isTrack : GoodIn wsX3_arm (wsV RX3 71 RX3 yX3_isTrack wsX3_isTrack) := goodIn_app (goodIn_of _ (by decide +kernel)) ggX3_arm_X3_isTrack
set_option maxRecDepth 20000 in
theorem ggX3_arm_X3_fails : GoodIn wsX3_arm wsX3_fails := goodIn_r _ [10, 11, 16, 17, 18, 19, 20, 21, 22, 23, 24, 25, 26, 27, 28, 29, 30, 31, 32] (by decide +kernel) (by decide +kernel)
set_option maxRecDepth 20000 in
theorem gX3_arm_X3_fails : GoodIn wsX3_arm (wsV RX3 59 RX3 yX3_fails wsX3_fails) := goodIn_app (goodIn_of _ (by decide +kernel)) ggX3_arm_X3_fails
set_option maxRecDepth 20000 in
theorem ggX3_arm_X3_done : GoodIn wsX3_arm wsX3_done := goodIn_r _ [15, 11, 16, 17, 18, 19, 20, 21, 22, 23, 24, 25, 26, 27, 28, 29, 30, 31, 32] (by decide +kernel) (by decide +kernel)
set_option maxRecDepth 20000 in
theorem gX3_arm_X3_done : GoodIn wsX3_arm (wsV RX3 63 RX3 yX3_done wsX3_done) := goodIn_app (goodIn_of _ (by decide +kernel)) ggX3_arm_X3_done
theorem dX3_arm_0 : decode cX3_arm 0 = .ok (.aload_n 0, 1) := by decide +kernel
theorem dX3_arm_1 : decode cX3_arm 1 = .ok (.iload_n 1, 1) := by decide +kernel
theorem dX3_arm_2 : decode cX3_arm 2 = .ok (.invokevirtual 71, 3) := by decide +kernel
theorem dX3_arm_5 : decode cX3_arm 5 = .ok (.ifCond .eq 12, 3) := by decide +kernel
theorem dX3_arm_8 : decode cX3_arm 8 = .ok (.iload_n 2, 1) := by decide +kernel
theorem dX3_arm_9 : decode cX3_arm 9 = .ok (.ifCond .lt 8, 3) := by decide +kernel
theorem dX3_arm_12 : decode cX3_arm 12 = .ok (.iload_n 2, 1) := by decide +kernel
theorem dX3_arm_13 : decode cX3_arm 13 = .ok (.iconst 3, 1) := by decide +kernel
theorem dX3_arm_14 : decode cX3_arm 14 = .ok (.if_icmp .le 10, 3) := by decide +kernel
theorem dX3_arm_17 : decode cX3_arm 17 = .ok (.aload_n 0, 1) := by decide +kernel
theorem dX3_arm_18 : decode cX3_arm 18 = .ok (.iconst 1, 1) := by decide +kernel
theorem dX3_arm_19 : decode cX3_arm 19 = .ok (.iconst 0, 1) := by decide +kernel
theorem dX3_arm_20 : decode cX3_arm 20 = .ok (.invokevirtual 59, 3) := by decide +kernel
theorem dX3_arm_23 : decode cX3_arm 23 = .ok (.ireturn, 1) := by decide +kernel
theorem dX3_arm_24 : decode cX3_arm 24 = .ok (.aload_n 0, 1) := by decide +kernel
theorem dX3_arm_25 : decode cX3_arm 25 = .ok (.getfield 26, 3) := by decide +kernel
theorem dX3_arm_28 : decode cX3_arm 28 = .ok (.iload_n 1, 1) := by decide +kernel
theorem dX3_arm_29 : decode cX3_arm 29 = .ok (.iaload, 1) := by decide +kernel
theorem dX3_arm_30 : decode cX3_arm 30 = .ok (.istore_n 3, 1) := by decide +kernel
theorem dX3_arm_31 : decode cX3_arm 31 = .ok (.aload_n 0, 1) := by decide +kernel
theorem dX3_arm_32 : decode cX3_arm 32 = .ok (.getfield 26, 3) := by decide +kernel
theorem dX3_arm_35 : decode cX3_arm 35 = .ok (.iload_n 1, 1) := by decide +kernel
theorem dX3_arm_36 : decode cX3_arm 36 = .ok (.iload_n 2, 1) := by decide +kernel
theorem dX3_arm_37 : decode cX3_arm 37 = .ok (.iastore, 1) := by decide +kernel
theorem dX3_arm_38 : decode cX3_arm 38 = .ok (.aload_n 0, 1) := by decide +kernel
theorem dX3_arm_39 : decode cX3_arm 39 = .ok (.iload_n 3, 1) := by decide +kernel
theorem dX3_arm_40 : decode cX3_arm 40 = .ok (.invokevirtual 63, 3) := by decide +kernel
theorem dX3_arm_43 : decode cX3_arm 43 = .ok (.ireturn, 1) := by decide +kernel
set_option maxRecDepth 20000 in
theorem ggX3_source_X3_done : GoodIn wsX3_source wsX3_done := goodIn_r _ [7, 8, 9, 10, 11, 12, 13, 14, 15, 16, 17, 18, 19, 20, 21, 22, 23, 24, 25] (by decide +kernel) (by decide +kernel)
set_option maxRecDepth 20000 in
theorem gX3_source_X3_done : GoodIn wsX3_source (wsV RX3 63 RX3 yX3_done wsX3_done) := goodIn_app (goodIn_of _ (by decide +kernel)) ggX3_source_X3_done
theorem dX3_source_0 : decode cX3_source 0 = .ok (.aload_n 0, 1) := by decide +kernel
theorem dX3_source_1 : decode cX3_source 1 = .ok (.getfield 78, 3) := by decide +kernel
theorem dX3_source_4 : decode cX3_source 4 = .ok (.istore_n 3, 1) := by decide +kernel
theorem dX3_source_5 : decode cX3_source 5 = .ok (.aload_n 0, 1) := by decide +kernel
theorem dX3_source_6 : decode cX3_source 6 = .ok (.iload_n 1, 1) := by decide +kernel
theorem dX3_source_7 : decode cX3_source 7 = .ok (.putfield 78, 3) := by decide +kernel
theorem dX3_source_10 : decode cX3_source 10 = .ok (.aload_n 0, 1) := by decide +kernel
theorem dX3_source_11 : decode cX3_source 11 = .ok (.iload_n 2, 1) := by decide +kernel
theorem dX3_source_12 : decode cX3_source 12 = .ok (.putfield 81, 3) := by decide +kernel
theorem dX3_source_15 : decode cX3_source 15 = .ok (.aload_n 0, 1) := by decide +kernel
theorem dX3_source_16 : decode cX3_source 16 = .ok (.iload_n 3, 1) := by decide +kernel
theorem dX3_source_17 : decode cX3_source 17 = .ok (.invokevirtual 63, 3) := by decide +kernel
theorem dX3_source_20 : decode cX3_source 20 = .ok (.ireturn, 1) := by decide +kernel
set_option maxRecDepth 20000 in
theorem ggX3_wind_X3_fails : GoodIn wsX3_wind wsX3_fails := goodIn_r _ [6, 7, 12, 13, 14, 15, 16, 17, 18, 19, 20, 21, 22, 23, 24, 25, 26, 27, 28] (by decide +kernel) (by decide +kernel)
set_option maxRecDepth 20000 in
theorem gX3_wind_X3_fails : GoodIn wsX3_wind (wsV RX3 59 RX3 yX3_fails wsX3_fails) := goodIn_app (goodIn_of _ (by decide +kernel)) ggX3_wind_X3_fails
set_option maxRecDepth 20000 in
theorem ggX3_wind_X3_done : GoodIn wsX3_wind wsX3_done := goodIn_r _ [11, 7, 12, 13, 14, 15, 16, 17, 18, 19, 20, 21, 22, 23, 24, 25, 26, 27, 28] (by decide +kernel) (by decide +kernel)
set_option maxRecDepth 20000 in
theorem gX3_wind_X3_done : GoodIn wsX3_wind (wsV RX3 63 RX3 yX3_done wsX3_done) := goodIn_app (goodIn_of _ (by decide +kernel)) ggX3_wind_X3_done
theorem dX3_wind_0 : decode cX3_wind 0 = .ok (.iload_n 1, 1) := by decide +kernel
theorem dX3_wind_1 : decode cX3_wind 1 = .ok (.sipush (-1000), 3) := by decide +kernel
theorem dX3_wind_4 : decode cX3_wind 4 = .ok (.if_icmp .lt 10, 3) := by decide +kernel
theorem dX3_wind_7 : decode cX3_wind 7 = .ok (.iload_n 1, 1) := by decide +kernel
theorem dX3_wind_8 : decode cX3_wind 8 = .ok (.sipush 1000, 3) := by decide +kernel
theorem dX3_wind_11 : decode cX3_wind 11 = .ok (.if_icmp .le 13, 3) := by decide +kernel
theorem dX3_wind_14 : decode cX3_wind 14 = .ok (.aload_n 0, 1) := by decide +kernel
theorem dX3_wind_15 : decode cX3_wind 15 = .ok (.iconst 1, 1) := by decide +kernel
theorem dX3_wind_16 : decode cX3_wind 16 = .ok (.aload_n 0, 1) := by decide +kernel
theorem dX3_wind_17 : decode cX3_wind 17 = .ok (.getfield 56, 3) := by decide +kernel
theorem dX3_wind_20 : decode cX3_wind 20 = .ok (.invokevirtual 59, 3) := by decide +kernel
theorem dX3_wind_23 : decode cX3_wind 23 = .ok (.ireturn, 1) := by decide +kernel
theorem dX3_wind_24 : decode cX3_wind 24 = .ok (.aload_n 0, 1) := by decide +kernel
theorem dX3_wind_25 : decode cX3_wind 25 = .ok (.dup, 1) := by decide +kernel
theorem dX3_wind_26 : decode cX3_wind 26 = .ok (.getfield 56, 3) := by decide +kernel
theorem dX3_wind_29 : decode cX3_wind 29 = .ok (.iload_n 1, 1) := by decide +kernel
theorem dX3_wind_30 : decode cX3_wind 30 = .ok (.iadd, 1) := by decide +kernel
theorem dX3_wind_31 : decode cX3_wind 31 = .ok (.putfield 56, 3) := by decide +kernel
theorem dX3_wind_34 : decode cX3_wind 34 = .ok (.aload_n 0, 1) := by decide +kernel
theorem dX3_wind_35 : decode cX3_wind 35 = .ok (.aload_n 0, 1) := by decide +kernel
theorem dX3_wind_36 : decode cX3_wind 36 = .ok (.getfield 56, 3) := by decide +kernel
theorem dX3_wind_39 : decode cX3_wind 39 = .ok (.invokevirtual 63, 3) := by decide +kernel
theorem dX3_wind_42 : decode cX3_wind 42 = .ok (.ireturn, 1) := by decide +kernel
set_option maxRecDepth 20000 in
theorem ggX3_headFault_X3_isTrack : GoodIn wsX3_headFault wsX3_isTrack := goodIn_r _ [6] (by decide +kernel) (by decide +kernel)
set_option maxRecDepth 20000 in
theorem gX3_headFault_X3_isTrack : GoodIn wsX3_headFault (wsV RX3 71 RX3 yX3_isTrack wsX3_isTrack) := goodIn_app (goodIn_of _ (by decide +kernel)) ggX3_headFault_X3_isTrack
set_option maxRecDepth 20000 in
theorem ggX3_headFault_X3_place : GoodIn wsX3_headFault wsX3_place := goodIn_r _ [10, 11, 12, 23, 24, 25, 26, 27, 28, 29, 30, 31, 32, 33, 34, 35, 36, 37, 38, 39] (by decide +kernel) (by decide +kernel)
set_option maxRecDepth 20000 in
theorem gX3_headFault_X3_place : GoodIn wsX3_headFault (wsV RX3 84 RX3 yX3_place wsX3_place) := goodIn_app (goodIn_of _ (by decide +kernel)) ggX3_headFault_X3_place
set_option maxRecDepth 20000 in
theorem ggX3_headFault_X3_fault : GoodIn wsX3_headFault wsX3_fault := goodIn_r _ [16, 17, 18, 19, 20, 5, 21, 22, 23, 24, 25, 26, 27, 28, 29, 30, 31, 32, 33, 34, 35, 36, 37, 38, 39] (by decide +kernel) (by decide +kernel)
set_option maxRecDepth 20000 in
theorem gX3_headFault_X3_fault : GoodIn wsX3_headFault (wsV RX3 87 RX3 yX3_fault wsX3_fault) := goodIn_app (goodIn_of _ (by decide +kernel)) ggX3_headFault_X3_fault
theorem dX3_headFault_0 : decode cX3_headFault 0 = .ok (.aload_n 0, 1) := by decide +kernel
theorem dX3_headFault_1 : decode cX3_headFault 1 = .ok (.iload_n 1, 1) := by decide +kernel
theorem dX3_headFault_2 : decode cX3_headFault 2 = .ok (.invokevirtual 71, 3) := by decide +kernel
theorem dX3_headFault_5 : decode cX3_headFault 5 = .ok (.ifCond .ne 5, 3) := by decide +kernel
theorem dX3_headFault_8 : decode cX3_headFault 8 = .ok (.iconst 1, 1) := by decide +kernel
theorem dX3_headFault_9 : decode cX3_headFault 9 = .ok (.ireturn, 1) := by decide +kernel
theorem dX3_headFault_10 : decode cX3_headFault 10 = .ok (.aload_n 0, 1) := by decide +kernel
theorem dX3_headFault_11 : decode cX3_headFault 11 = .ok (.getfield 19, 3) := by decide +kernel
theorem dX3_headFault_14 : decode cX3_headFault 14 = .ok (.iconst (-1), 1) := by decide +kernel
theorem dX3_headFault_15 : decode cX3_headFault 15 = .ok (.if_icmp .ne 7, 3) := by decide +kernel
theorem dX3_headFault_18 : decode cX3_headFault 18 = .ok (.iconst 5, 1) := by decide +kernel
theorem dX3_headFault_19 : decode cX3_headFault 19 = .ok (.goto 17, 3) := by decide +kernel
theorem dX3_headFault_22 : decode cX3_headFault 22 = .ok (.aload_n 0, 1) := by decide +kernel
theorem dX3_headFault_23 : decode cX3_headFault 23 = .ok (.aload_n 0, 1) := by decide +kernel
theorem dX3_headFault_24 : decode cX3_headFault 24 = .ok (.getfield 19, 3) := by decide +kernel
theorem dX3_headFault_27 : decode cX3_headFault 27 = .ok (.iload_n 1, 1) := by decide +kernel
theorem dX3_headFault_28 : decode cX3_headFault 28 = .ok (.aload_n 0, 1) := by decide +kernel
theorem dX3_headFault_29 : decode cX3_headFault 29 = .ok (.iload_n 1, 1) := by decide +kernel
theorem dX3_headFault_30 : decode cX3_headFault 30 = .ok (.invokevirtual 84, 3) := by decide +kernel
theorem dX3_headFault_33 : decode cX3_headFault 33 = .ok (.invokevirtual 87, 3) := by decide +kernel
theorem dX3_headFault_36 : decode cX3_headFault 36 = .ok (.ireturn, 1) := by decide +kernel
set_option maxRecDepth 20000 in
theorem ggX3_read_X3_headFault : GoodIn wsX3_read wsX3_headFault := goodIn_r _ [7, 2, 8, 9, 10, 6, 11, 12, 13, 14, 15, 16, 17, 18, 19, 20, 21, 22, 23, 24, 25, 26, 27, 41, 42, 43, 44, 45, 46, 47, 48, 49, 50, 51, 52, 53, 54, 55, 56, 57] (by decide +kernel) (by decide +kernel)
set_option maxRecDepth 20000 in
theorem gX3_read_X3_headFault : GoodIn wsX3_read (wsV RX3 90 RX3 yX3_headFault wsX3_headFault) := goodIn_app (goodIn_of _ (by decide +kernel)) ggX3_read_X3_headFault
set_option maxRecDepth 20000 in
theorem ggX3_read_X3_fails : GoodIn wsX3_read wsX3_fails := goodIn_r _ [31, 32, 41, 42, 43, 44, 45, 46, 47, 48, 49, 50, 51, 52, 53, 54, 55, 56, 57] (by decide +kernel) (by decide +kernel)
set_option maxRecDepth 20000 in
theorem gX3_read_X3_fails : GoodIn wsX3_read (wsV RX3 59 RX3 yX3_fails wsX3_fails) := goodIn_app (goodIn_of _ (by decide +kernel)) ggX3_read_X3_fails
set_option maxRecDepth 20000 in
theorem ggX3_read_X3_place : GoodIn wsX3_read wsX3_place := goodIn_r _ [15, 16, 17, 41, 42, 43, 44, 45, 46, 47, 48, 49, 50, 51, 52, 53, 54, 55, 56, 57] (by decide +kernel) (by decide +kernel)
set_option maxRecDepth 20000 in
theorem gX3_read_X3_place : GoodIn wsX3_read (wsV RX3 84 RX3 yX3_place wsX3_place) := goodIn_app (goodIn_of _ (by decide +kernel)) ggX3_read_X3_place
set_option maxRecDepth 20000 in
theorem ggX3_read_X3_at : GoodIn wsX3_read wsX3_at := goodIn_r _ [36] (by decide +kernel) (by decide +kernel)
set_option maxRecDepth 20000 in
theorem gX3_read_X3_at : GoodIn wsX3_read (wsV RX3 74 RX3 yX3_at wsX3_at) := goodIn_app (goodIn_of _ (by decide +kernel)) ggX3_read_X3_at
set_option maxRecDepth 20000 in
theorem ggX3_read_X3_done : GoodIn wsX3_read wsX3_done := goodIn_r _ [40, 32, 41, 42, 43, 44, 45, 46, 47, 48, 49, 50, 51, 52, 53, 54, 55, 56, 57] (by decide +kernel) (by decide +kernel)
set_option maxRecDepth 20000 in
theorem gX3_read_X3_done : GoodIn wsX3_read (wsV RX3 63 RX3 yX3_done wsX3_done) := goodIn_app (goodIn_of _ (by decide +kernel)) ggX3_read_X3_done
theorem dX3_read_0 : decode cX3_read 0 = .ok (.aload_n 0, 1) := by decide +kernel
theorem dX3_read_1 : decode cX3_read 1 = .ok (.iload_n 1, 1) := by decide +kernel
theorem dX3_read_2 : decode cX3_read 2 = .ok (.invokevirtual 90, 3) := by decide +kernel
theorem dX3_read_5 : decode cX3_read 5 = .ok (.istore_n 2, 1) := by decide +kernel
theorem dX3_read_6 : decode cX3_read 6 = .ok (.iload_n 2, 1) := by decide +kernel
theorem dX3_read_7 : decode cX3_read 7 = .ok (.ifCond .eq 10, 3) := by decide +kernel
theorem dX3_read_10 : decode cX3_read 10 = .ok (.aload_n 0, 1) := by decide +kernel
theorem dX3_read_11 : decode cX3_read 11 = .ok (.iload_n 2, 1) := by decide +kernel
theorem dX3_read_12 : decode cX3_read 12 = .ok (.iconst 0, 1) := by decide +kernel
theorem dX3_read_13 : decode cX3_read 13 = .ok (.invokevirtual 59, 3) := by decide +kernel
theorem dX3_read_16 : decode cX3_read 16 = .ok (.ireturn, 1) := by decide +kernel
theorem dX3_read_17 : decode cX3_read 17 = .ok (.aload_n 0, 1) := by decide +kernel
theorem dX3_read_18 : decode cX3_read 18 = .ok (.aload_n 0, 1) := by decide +kernel
theorem dX3_read_19 : decode cX3_read 19 = .ok (.getfield 16, 3) := by decide +kernel
theorem dX3_read_22 : decode cX3_read 22 = .ok (.aload_n 0, 1) := by decide +kernel
theorem dX3_read_23 : decode cX3_read 23 = .ok (.aload_n 0, 1) := by decide +kernel
theorem dX3_read_24 : decode cX3_read 24 = .ok (.getfield 19, 3) := by decide +kernel
theorem dX3_read_27 : decode cX3_read 27 = .ok (.iload_n 1, 1) := by decide +kernel
theorem dX3_read_28 : decode cX3_read 28 = .ok (.aload_n 0, 1) := by decide +kernel
theorem dX3_read_29 : decode cX3_read 29 = .ok (.iload_n 1, 1) := by decide +kernel
theorem dX3_read_30 : decode cX3_read 30 = .ok (.invokevirtual 84, 3) := by decide +kernel
theorem dX3_read_33 : decode cX3_read 33 = .ok (.invokevirtual 74, 3) := by decide +kernel
theorem dX3_read_36 : decode cX3_read 36 = .ok (.iaload, 1) := by decide +kernel
theorem dX3_read_37 : decode cX3_read 37 = .ok (.invokevirtual 63, 3) := by decide +kernel
theorem dX3_read_40 : decode cX3_read 40 = .ok (.ireturn, 1) := by decide +kernel
set_option maxRecDepth 20000 in
theorem ggX3_write_X3_headFault : GoodIn wsX3_write wsX3_headFault := goodIn_r _ [7, 2, 8, 9, 10, 6, 11, 12, 13, 14, 15, 16, 17, 18, 19, 20, 21, 22, 23, 24, 25, 26, 27, 47, 48, 49, 50, 51, 52, 53, 54, 55, 56, 57, 58, 59, 60, 61, 62, 63] (by decide +kernel) (by decide +kernel)
set_option maxRecDepth 20000 in
theorem gX3_write_X3_headFault : GoodIn wsX3_write (wsV RX3 90 RX3 yX3_headFault wsX3_headFault) := goodIn_app (goodIn_of _ (by decide +kernel)) ggX3_write_X3_headFault
set_option maxRecDepth 20000 in
theorem ggX3_write_X3_fails : GoodIn wsX3_write wsX3_fails := goodIn_r _ [31, 32, 47, 48, 49, 50, 51, 52, 53, 54, 55, 56, 57, 58, 59, 60, 61, 62, 63] (by decide +kernel) (by decide +kernel)
set_option maxRecDepth 20000 in
theorem gX3_write_X3_fails : GoodIn wsX3_write (wsV RX3 59 RX3 yX3_fails wsX3_fails) := goodIn_app (goodIn_of _ (by decide +kernel)) ggX3_write_X3_fails
set_option maxRecDepth 20000 in
theorem ggX3_write_X3_place : GoodIn wsX3_write wsX3_place := goodIn_r _ [15, 16, 17, 47, 48, 49, 50, 51, 52, 53, 54, 55, 56, 57, 58, 59, 60, 61, 62, 63] (by decide +kernel) (by decide +kernel)
set_option maxRecDepth 20000 in
theorem gX3_write_X3_place : GoodIn wsX3_write (wsV RX3 84 RX3 yX3_place wsX3_place) := goodIn_app (goodIn_of _ (by decide +kernel)) ggX3_write_X3_place
set_option maxRecDepth 20000 in
theorem ggX3_write_X3_at : GoodIn wsX3_write wsX3_at := goodIn_r _ [36] (by decide +kernel) (by decide +kernel)
set_option maxRecDepth 20000 in
theorem gX3_write_X3_at : GoodIn wsX3_write (wsV RX3 74 RX3 yX3_at wsX3_at) := goodIn_app (goodIn_of _ (by decide +kernel)) ggX3_write_X3_at
set_option maxRecDepth 20000 in
theorem ggX3_write_X3_fit : GoodIn wsX3_write wsX3_fit := goodIn_r _ [40, 41, 42] (by decide +kernel) (by decide +kernel)
set_option maxRecDepth 20000 in
theorem gX3_write_X3_fit : GoodIn wsX3_write (wsV RX3 93 RX3 yX3_fit wsX3_fit) := goodIn_app (goodIn_of _ (by decide +kernel)) ggX3_write_X3_fit
set_option maxRecDepth 20000 in
theorem ggX3_write_X3_done : GoodIn wsX3_write wsX3_done := goodIn_r _ [46, 32, 47, 48, 49, 50, 51, 52, 53, 54, 55, 56, 57, 58, 59, 60, 61, 62, 63] (by decide +kernel) (by decide +kernel)
set_option maxRecDepth 20000 in
theorem gX3_write_X3_done : GoodIn wsX3_write (wsV RX3 63 RX3 yX3_done wsX3_done) := goodIn_app (goodIn_of _ (by decide +kernel)) ggX3_write_X3_done
theorem dX3_write_0 : decode cX3_write 0 = .ok (.aload_n 0, 1) := by decide +kernel
theorem dX3_write_1 : decode cX3_write 1 = .ok (.iload_n 1, 1) := by decide +kernel
theorem dX3_write_2 : decode cX3_write 2 = .ok (.invokevirtual 90, 3) := by decide +kernel
theorem dX3_write_5 : decode cX3_write 5 = .ok (.istore_n 3, 1) := by decide +kernel
theorem dX3_write_6 : decode cX3_write 6 = .ok (.iload_n 3, 1) := by decide +kernel
theorem dX3_write_7 : decode cX3_write 7 = .ok (.ifCond .eq 10, 3) := by decide +kernel
theorem dX3_write_10 : decode cX3_write 10 = .ok (.aload_n 0, 1) := by decide +kernel
theorem dX3_write_11 : decode cX3_write 11 = .ok (.iload_n 3, 1) := by decide +kernel
theorem dX3_write_12 : decode cX3_write 12 = .ok (.iconst 0, 1) := by decide +kernel
theorem dX3_write_13 : decode cX3_write 13 = .ok (.invokevirtual 59, 3) := by decide +kernel
theorem dX3_write_16 : decode cX3_write 16 = .ok (.ireturn, 1) := by decide +kernel
theorem dX3_write_17 : decode cX3_write 17 = .ok (.aload_n 0, 1) := by decide +kernel
theorem dX3_write_18 : decode cX3_write 18 = .ok (.getfield 16, 3) := by decide +kernel
theorem dX3_write_21 : decode cX3_write 21 = .ok (.aload_n 0, 1) := by decide +kernel
theorem dX3_write_22 : decode cX3_write 22 = .ok (.aload_n 0, 1) := by decide +kernel
theorem dX3_write_23 : decode cX3_write 23 = .ok (.getfield 19, 3) := by decide +kernel
theorem dX3_write_26 : decode cX3_write 26 = .ok (.iload_n 1, 1) := by decide +kernel
theorem dX3_write_27 : decode cX3_write 27 = .ok (.aload_n 0, 1) := by decide +kernel
theorem dX3_write_28 : decode cX3_write 28 = .ok (.iload_n 1, 1) := by decide +kernel
theorem dX3_write_29 : decode cX3_write 29 = .ok (.invokevirtual 84, 3) := by decide +kernel
theorem dX3_write_32 : decode cX3_write 32 = .ok (.invokevirtual 74, 3) := by decide +kernel
theorem dX3_write_35 : decode cX3_write 35 = .ok (.aload_n 0, 1) := by decide +kernel
theorem dX3_write_36 : decode cX3_write 36 = .ok (.iload_n 1, 1) := by decide +kernel
theorem dX3_write_37 : decode cX3_write 37 = .ok (.iload_n 2, 1) := by decide +kernel
theorem dX3_write_38 : decode cX3_write 38 = .ok (.invokevirtual 93, 3) := by decide +kernel
theorem dX3_write_41 : decode cX3_write 41 = .ok (.iastore, 1) := by decide +kernel
theorem dX3_write_42 : decode cX3_write 42 = .ok (.aload_n 0, 1) := by decide +kernel
theorem dX3_write_43 : decode cX3_write 43 = .ok (.aload_n 0, 1) := by decide +kernel
theorem dX3_write_44 : decode cX3_write 44 = .ok (.iload_n 1, 1) := by decide +kernel
theorem dX3_write_45 : decode cX3_write 45 = .ok (.iload_n 2, 1) := by decide +kernel
theorem dX3_write_46 : decode cX3_write 46 = .ok (.invokevirtual 93, 3) := by decide +kernel
theorem dX3_write_49 : decode cX3_write 49 = .ok (.invokevirtual 63, 3) := by decide +kernel
theorem dX3_write_52 : decode cX3_write 52 = .ok (.ireturn, 1) := by decide +kernel
set_option maxRecDepth 20000 in
theorem ggX3_act_X3_place : GoodIn wsX3_act wsX3_place := goodIn_r _ [11, 12, 13, 34, 35, 36, 37, 38, 39, 40, 41, 42, 43, 44, 45, 46, 47, 48, 49, 50] (by decide +kernel) (by decide +kernel)
set_option maxRecDepth 20000 in
theorem gX3_act_X3_place : GoodIn wsX3_act (wsV RX3 84 RX3 yX3_place wsX3_place) := goodIn_app (goodIn_of _ (by decide +kernel)) ggX3_act_X3_place
set_option maxRecDepth 20000 in
theorem ggX3_act_X3_fault : GoodIn wsX3_act wsX3_fault := goodIn_r _ [17, 18, 19, 20, 21, 10, 22, 23, 34, 35, 36, 37, 38, 39, 40, 41, 42, 43, 44, 45, 46, 47, 48, 49, 50] (by decide +kernel) (by decide +kernel)
set_option maxRecDepth 20000 in
theorem gX3_act_X3_fault : GoodIn wsX3_act (wsV RX3 87 RX3 yX3_fault wsX3_fault) := goodIn_app (goodIn_of _ (by decide +kernel)) ggX3_act_X3_fault
set_option maxRecDepth 20000 in
theorem ggX3_act_X3_at : GoodIn wsX3_act wsX3_at := goodIn_r _ [27] (by decide +kernel) (by decide +kernel)
set_option maxRecDepth 20000 in
theorem gX3_act_X3_at : GoodIn wsX3_act (wsV RX3 74 RX3 yX3_at wsX3_at) := goodIn_app (goodIn_of _ (by decide +kernel)) ggX3_act_X3_at
set_option maxRecDepth 20000 in
theorem ggX3_act_X3_fit : GoodIn wsX3_act wsX3_fit := goodIn_r _ [31, 32, 33] (by decide +kernel) (by decide +kernel)
set_option maxRecDepth 20000 in
theorem gX3_act_X3_fit : GoodIn wsX3_act (wsV RX3 93 RX3 yX3_fit wsX3_fit) := goodIn_app (goodIn_of _ (by decide +kernel)) ggX3_act_X3_fit
theorem dX3_act_0 : decode cX3_act 0 = .ok (.aload_n 0, 1) := by decide +kernel
theorem dX3_act_1 : decode cX3_act 1 = .ok (.getfield 26, 3) := by decide +kernel
theorem dX3_act_4 : decode cX3_act 4 = .ok (.iload_n 1, 1) := by decide +kernel
theorem dX3_act_5 : decode cX3_act 5 = .ok (.iaload, 1) := by decide +kernel
theorem dX3_act_6 : decode cX3_act 6 = .ok (.ifCond .ne 5, 3) := by decide +kernel
theorem dX3_act_9 : decode cX3_act 9 = .ok (.iconst 0, 1) := by decide +kernel
theorem dX3_act_10 : decode cX3_act 10 = .ok (.ireturn, 1) := by decide +kernel
theorem dX3_act_11 : decode cX3_act 11 = .ok (.aload_n 0, 1) := by decide +kernel
theorem dX3_act_12 : decode cX3_act 12 = .ok (.aload_n 0, 1) := by decide +kernel
theorem dX3_act_13 : decode cX3_act 13 = .ok (.getfield 19, 3) := by decide +kernel
theorem dX3_act_16 : decode cX3_act 16 = .ok (.iload_n 1, 1) := by decide +kernel
theorem dX3_act_17 : decode cX3_act 17 = .ok (.aload_n 0, 1) := by decide +kernel
theorem dX3_act_18 : decode cX3_act 18 = .ok (.iload_n 1, 1) := by decide +kernel
theorem dX3_act_19 : decode cX3_act 19 = .ok (.invokevirtual 84, 3) := by decide +kernel
theorem dX3_act_22 : decode cX3_act 22 = .ok (.invokevirtual 87, 3) := by decide +kernel
theorem dX3_act_25 : decode cX3_act 25 = .ok (.istore_n 2, 1) := by decide +kernel
theorem dX3_act_26 : decode cX3_act 26 = .ok (.iload_n 2, 1) := by decide +kernel
theorem dX3_act_27 : decode cX3_act 27 = .ok (.ifCond .eq 5, 3) := by decide +kernel
theorem dX3_act_30 : decode cX3_act 30 = .ok (.iload_n 2, 1) := by decide +kernel
theorem dX3_act_31 : decode cX3_act 31 = .ok (.ireturn, 1) := by decide +kernel
theorem dX3_act_32 : decode cX3_act 32 = .ok (.aload_n 0, 1) := by decide +kernel
theorem dX3_act_33 : decode cX3_act 33 = .ok (.aload_n 0, 1) := by decide +kernel
theorem dX3_act_34 : decode cX3_act 34 = .ok (.getfield 19, 3) := by decide +kernel
theorem dX3_act_37 : decode cX3_act 37 = .ok (.iload_n 1, 1) := by decide +kernel
theorem dX3_act_38 : decode cX3_act 38 = .ok (.aload_n 0, 1) := by decide +kernel
theorem dX3_act_39 : decode cX3_act 39 = .ok (.iload_n 1, 1) := by decide +kernel
theorem dX3_act_40 : decode cX3_act 40 = .ok (.invokevirtual 84, 3) := by decide +kernel
theorem dX3_act_43 : decode cX3_act 43 = .ok (.invokevirtual 74, 3) := by decide +kernel
theorem dX3_act_46 : decode cX3_act 46 = .ok (.istore_n 3, 1) := by decide +kernel
theorem dX3_act_47 : decode cX3_act 47 = .ok (.aload_n 0, 1) := by decide +kernel
theorem dX3_act_48 : decode cX3_act 48 = .ok (.getfield 26, 3) := by decide +kernel
theorem dX3_act_51 : decode cX3_act 51 = .ok (.iload_n 1, 1) := by decide +kernel
theorem dX3_act_52 : decode cX3_act 52 = .ok (.iaload, 1) := by decide +kernel
theorem dX3_act_53 : decode cX3_act 53 = .ok (.iconst 1, 1) := by decide +kernel
theorem dX3_act_54 : decode cX3_act 54 = .ok (.if_icmp .ne 20, 3) := by decide +kernel
theorem dX3_act_57 : decode cX3_act 57 = .ok (.aload_n 0, 1) := by decide +kernel
theorem dX3_act_58 : decode cX3_act 58 = .ok (.getfield 29, 3) := by decide +kernel
theorem dX3_act_61 : decode cX3_act 61 = .ok (.iload_n 1, 1) := by decide +kernel
theorem dX3_act_62 : decode cX3_act 62 = .ok (.dup2, 1) := by decide +kernel
theorem dX3_act_63 : decode cX3_act 63 = .ok (.iaload, 1) := by decide +kernel
theorem dX3_act_64 : decode cX3_act 64 = .ok (.aload_n 0, 1) := by decide +kernel
theorem dX3_act_65 : decode cX3_act 65 = .ok (.getfield 16, 3) := by decide +kernel
theorem dX3_act_68 : decode cX3_act 68 = .ok (.iload_n 3, 1) := by decide +kernel
theorem dX3_act_69 : decode cX3_act 69 = .ok (.iaload, 1) := by decide +kernel
theorem dX3_act_70 : decode cX3_act 70 = .ok (.iadd, 1) := by decide +kernel
theorem dX3_act_71 : decode cX3_act 71 = .ok (.iastore, 1) := by decide +kernel
theorem dX3_act_72 : decode cX3_act 72 = .ok (.iconst 0, 1) := by decide +kernel
theorem dX3_act_73 : decode cX3_act 73 = .ok (.ireturn, 1) := by decide +kernel
theorem dX3_act_74 : decode cX3_act 74 = .ok (.aload_n 0, 1) := by decide +kernel
theorem dX3_act_75 : decode cX3_act 75 = .ok (.getfield 16, 3) := by decide +kernel
theorem dX3_act_78 : decode cX3_act 78 = .ok (.iload_n 3, 1) := by decide +kernel
theorem dX3_act_79 : decode cX3_act 79 = .ok (.aload_n 0, 1) := by decide +kernel
theorem dX3_act_80 : decode cX3_act 80 = .ok (.iload_n 1, 1) := by decide +kernel
theorem dX3_act_81 : decode cX3_act 81 = .ok (.aload_n 0, 1) := by decide +kernel
theorem dX3_act_82 : decode cX3_act 82 = .ok (.getfield 26, 3) := by decide +kernel
theorem dX3_act_85 : decode cX3_act 85 = .ok (.iload_n 1, 1) := by decide +kernel
theorem dX3_act_86 : decode cX3_act 86 = .ok (.iaload, 1) := by decide +kernel
theorem dX3_act_87 : decode cX3_act 87 = .ok (.iconst 2, 1) := by decide +kernel
theorem dX3_act_88 : decode cX3_act 88 = .ok (.if_icmp .ne 10, 3) := by decide +kernel
theorem dX3_act_91 : decode cX3_act 91 = .ok (.aload_n 0, 1) := by decide +kernel
theorem dX3_act_92 : decode cX3_act 92 = .ok (.getfield 78, 3) := by decide +kernel
theorem dX3_act_95 : decode cX3_act 95 = .ok (.goto 14, 3) := by decide +kernel
theorem dX3_act_98 : decode cX3_act 98 = .ok (.aload_n 0, 1) := by decide +kernel
theorem dX3_act_99 : decode cX3_act 99 = .ok (.getfield 16, 3) := by decide +kernel
theorem dX3_act_102 : decode cX3_act 102 = .ok (.iload_n 3, 1) := by decide +kernel
theorem dX3_act_103 : decode cX3_act 103 = .ok (.iaload, 1) := by decide +kernel
theorem dX3_act_104 : decode cX3_act 104 = .ok (.aload_n 0, 1) := by decide +kernel
theorem dX3_act_105 : decode cX3_act 105 = .ok (.getfield 78, 3) := by decide +kernel
theorem dX3_act_108 : decode cX3_act 108 = .ok (.iadd, 1) := by decide +kernel
theorem dX3_act_109 : decode cX3_act 109 = .ok (.invokevirtual 93, 3) := by decide +kernel
theorem dX3_act_112 : decode cX3_act 112 = .ok (.iastore, 1) := by decide +kernel
theorem dX3_act_113 : decode cX3_act 113 = .ok (.aload_n 0, 1) := by decide +kernel
theorem dX3_act_114 : decode cX3_act 114 = .ok (.dup, 1) := by decide +kernel
theorem dX3_act_115 : decode cX3_act 115 = .ok (.getfield 78, 3) := by decide +kernel
theorem dX3_act_118 : decode cX3_act 118 = .ok (.aload_n 0, 1) := by decide +kernel
theorem dX3_act_119 : decode cX3_act 119 = .ok (.getfield 81, 3) := by decide +kernel
theorem dX3_act_122 : decode cX3_act 122 = .ok (.iadd, 1) := by decide +kernel
theorem dX3_act_123 : decode cX3_act 123 = .ok (.putfield 78, 3) := by decide +kernel
theorem dX3_act_126 : decode cX3_act 126 = .ok (.iconst 0, 1) := by decide +kernel
theorem dX3_act_127 : decode cX3_act 127 = .ok (.ireturn, 1) := by decide +kernel
set_option maxRecDepth 20000 in
theorem ggX3_run_X3_fails : GoodIn wsX3_run wsX3_fails := goodIn_r _ [9, 10, 49, 50, 51, 52, 53, 54, 55, 56, 57, 58, 59, 60, 61, 62, 63, 64, 65] (by decide +kernel) (by decide +kernel)
set_option maxRecDepth 20000 in
theorem gX3_run_X3_fails : GoodIn wsX3_run (wsV RX3 59 RX3 yX3_fails wsX3_fails) := goodIn_app (goodIn_of _ (by decide +kernel)) ggX3_run_X3_fails
set_option maxRecDepth 20000 in
theorem ggX3_run_X3_act : GoodIn wsX3_run wsX3_act := goodIn_r _ [14, 15, 1, 16, 17, 18, 19, 20, 21, 22, 8, 23, 4, 24, 25, 26, 27, 28, 29, 30, 31, 32, 33, 34, 35, 36, 37, 38, 39, 40, 41, 42, 43, 44, 49, 50, 51, 52, 53, 54, 55, 56, 57, 58, 59, 60, 61, 62, 63, 64, 65] (by decide +kernel) (by decide +kernel)
set_option maxRecDepth 20000 in
theorem gX3_run_X3_act : GoodIn wsX3_run (wsV RX3 99 RX3 yX3_act wsX3_act) := goodIn_app (goodIn_of _ (by decide +kernel)) ggX3_run_X3_act
set_option maxRecDepth 20000 in
theorem ggX3_run_X3_done : GoodIn wsX3_run wsX3_done := goodIn_r _ [48, 10, 49, 50, 51, 52, 53, 54, 55, 56, 57, 58, 59, 60, 61, 62, 63, 64, 65] (by decide +kernel) (by decide +kernel)
set_option maxRecDepth 20000 in
theorem gX3_run_X3_done : GoodIn wsX3_run (wsV RX3 63 RX3 yX3_done wsX3_done) := goodIn_app (goodIn_of _ (by decide +kernel)) ggX3_run_X3_done
theorem dX3_run_0 : decode cX3_run 0 = .ok (.iload_n 1, 1) := by decide +kernel
theorem dX3_run_1 : decode cX3_run 1 = .ok (.iconst 1, 1) := by decide +kernel
theorem dX3_run_2 : decode cX3_run 2 = .ok (.if_icmp .lt 9, 3) := by decide +kernel
theorem dX3_run_5 : decode cX3_run 5 = .ok (.iload_n 1, 1) := by decide +kernel
theorem dX3_run_6 : decode cX3_run 6 = .ok (.bipush 100, 2) := by decide +kernel
theorem dX3_run_8 : decode cX3_run 8 = .ok (.if_icmp .le 10, 3) := by decide +kernel
theorem dX3_run_11 : decode cX3_run 11 = .ok (.aload_n 0, 1) := by decide +kernel
theorem dX3_run_12 : decode cX3_run 12 = .ok (.iconst 1, 1) := by decide +kernel
theorem dX3_run_13 : decode cX3_run 13 = .ok (.iconst 0, 1) := by decide +kernel
theorem dX3_run_14 : decode cX3_run 14 = .ok (.invokevirtual 59, 3) := by decide +kernel
theorem dX3_run_17 : decode cX3_run 17 = .ok (.ireturn, 1) := by decide +kernel
theorem dX3_run_18 : decode cX3_run 18 = .ok (.aload_n 0, 1) := by decide +kernel
theorem dX3_run_19 : decode cX3_run 19 = .ok (.getfield 19, 3) := by decide +kernel
theorem dX3_run_22 : decode cX3_run 22 = .ok (.iconst (-1), 1) := by decide +kernel
theorem dX3_run_23 : decode cX3_run 23 = .ok (.if_icmp .ne 10, 3) := by decide +kernel
theorem dX3_run_26 : decode cX3_run 26 = .ok (.aload_n 0, 1) := by decide +kernel
theorem dX3_run_27 : decode cX3_run 27 = .ok (.iconst 5, 1) := by decide +kernel
theorem dX3_run_28 : decode cX3_run 28 = .ok (.iconst 0, 1) := by decide +kernel
theorem dX3_run_29 : decode cX3_run 29 = .ok (.invokevirtual 59, 3) := by decide +kernel
theorem dX3_run_32 : decode cX3_run 32 = .ok (.ireturn, 1) := by decide +kernel
theorem dX3_run_33 : decode cX3_run 33 = .ok (.aload_n 0, 1) := by decide +kernel
theorem dX3_run_34 : decode cX3_run 34 = .ok (.iconst (-1), 1) := by decide +kernel
theorem dX3_run_35 : decode cX3_run 35 = .ok (.putfield 32, 3) := by decide +kernel
theorem dX3_run_38 : decode cX3_run 38 = .ok (.aload_n 0, 1) := by decide +kernel
theorem dX3_run_39 : decode cX3_run 39 = .ok (.iconst 0, 1) := by decide +kernel
theorem dX3_run_40 : decode cX3_run 40 = .ok (.putfield 96, 3) := by decide +kernel
theorem dX3_run_43 : decode cX3_run 43 = .ok (.iconst 0, 1) := by decide +kernel
theorem dX3_run_44 : decode cX3_run 44 = .ok (.istore_n 2, 1) := by decide +kernel
theorem dX3_run_45 : decode cX3_run 45 = .ok (.iload_n 2, 1) := by decide +kernel
theorem dX3_run_46 : decode cX3_run 46 = .ok (.iload_n 1, 1) := by decide +kernel
theorem dX3_run_47 : decode cX3_run 47 = .ok (.if_icmp .ge 66, 3) := by decide +kernel
theorem dX3_run_50 : decode cX3_run 50 = .ok (.iconst 0, 1) := by decide +kernel
theorem dX3_run_51 : decode cX3_run 51 = .ok (.istore_n 3, 1) := by decide +kernel
theorem dX3_run_52 : decode cX3_run 52 = .ok (.iload_n 3, 1) := by decide +kernel
theorem dX3_run_53 : decode cX3_run 53 = .ok (.iconst 4, 1) := by decide +kernel
theorem dX3_run_54 : decode cX3_run 54 = .ok (.if_icmp .ge 43, 3) := by decide +kernel
theorem dX3_run_57 : decode cX3_run 57 = .ok (.aload_n 0, 1) := by decide +kernel
theorem dX3_run_58 : decode cX3_run 58 = .ok (.iload_n 3, 1) := by decide +kernel
theorem dX3_run_59 : decode cX3_run 59 = .ok (.invokevirtual 99, 3) := by decide +kernel
theorem dX3_run_62 : decode cX3_run 62 = .ok (.istore 4, 2) := by decide +kernel
theorem dX3_run_64 : decode cX3_run 64 = .ok (.iload 4, 2) := by decide +kernel
theorem dX3_run_66 : decode cX3_run 66 = .ok (.ifCond .ne 6, 3) := by decide +kernel
theorem dX3_run_69 : decode cX3_run 69 = .ok (.goto 22, 3) := by decide +kernel
theorem dX3_run_72 : decode cX3_run 72 = .ok (.aload_n 0, 1) := by decide +kernel
theorem dX3_run_73 : decode cX3_run 73 = .ok (.iload_n 3, 1) := by decide +kernel
theorem dX3_run_74 : decode cX3_run 74 = .ok (.putfield 32, 3) := by decide +kernel
theorem dX3_run_77 : decode cX3_run 77 = .ok (.aload_n 0, 1) := by decide +kernel
theorem dX3_run_78 : decode cX3_run 78 = .ok (.iload 4, 2) := by decide +kernel
theorem dX3_run_80 : decode cX3_run 80 = .ok (.putfield 96, 3) := by decide +kernel
theorem dX3_run_83 : decode cX3_run 83 = .ok (.aload_n 0, 1) := by decide +kernel
theorem dX3_run_84 : decode cX3_run 84 = .ok (.iload 4, 2) := by decide +kernel
theorem dX3_run_86 : decode cX3_run 86 = .ok (.iload_n 2, 1) := by decide +kernel
theorem dX3_run_87 : decode cX3_run 87 = .ok (.invokevirtual 59, 3) := by decide +kernel
theorem dX3_run_90 : decode cX3_run 90 = .ok (.ireturn, 1) := by decide +kernel
theorem dX3_run_91 : decode cX3_run 91 = .ok (.iinc 3 1, 3) := by decide +kernel
theorem dX3_run_94 : decode cX3_run 94 = .ok (.goto (-42), 3) := by decide +kernel
theorem dX3_run_97 : decode cX3_run 97 = .ok (.aload_n 0, 1) := by decide +kernel
theorem dX3_run_98 : decode cX3_run 98 = .ok (.dup, 1) := by decide +kernel
theorem dX3_run_99 : decode cX3_run 99 = .ok (.getfield 56, 3) := by decide +kernel
theorem dX3_run_102 : decode cX3_run 102 = .ok (.iconst 1, 1) := by decide +kernel
theorem dX3_run_103 : decode cX3_run 103 = .ok (.iadd, 1) := by decide +kernel
theorem dX3_run_104 : decode cX3_run 104 = .ok (.putfield 56, 3) := by decide +kernel
theorem dX3_run_107 : decode cX3_run 107 = .ok (.iinc 2 1, 3) := by decide +kernel
theorem dX3_run_110 : decode cX3_run 110 = .ok (.goto (-65), 3) := by decide +kernel
theorem dX3_run_113 : decode cX3_run 113 = .ok (.aload_n 0, 1) := by decide +kernel
theorem dX3_run_114 : decode cX3_run 114 = .ok (.iload_n 1, 1) := by decide +kernel
theorem dX3_run_115 : decode cX3_run 115 = .ok (.invokevirtual 63, 3) := by decide +kernel
theorem dX3_run_118 : decode cX3_run 118 = .ok (.ireturn, 1) := by decide +kernel
set_option maxRecDepth 20000 in
theorem ggX3_dub_X3_isReel : GoodIn wsX3_dub wsX3_isReel := goodIn_r _ [7, 8, 42, 43, 44, 45, 46, 47, 48, 49, 50, 51, 52, 53, 54, 55, 56, 57, 58] (by decide +kernel) (by decide +kernel)
set_option maxRecDepth 20000 in
theorem gX3_dub_X3_isReel : GoodIn wsX3_dub (wsV RX3 67 RX3 yX3_isReel wsX3_isReel) := goodIn_app (goodIn_of _ (by decide +kernel)) ggX3_dub_X3_isReel
set_option maxRecDepth 20000 in
theorem ggX3_dub_X3_isTrack : GoodIn wsX3_dub wsX3_isTrack := goodIn_r _ [12] (by decide +kernel) (by decide +kernel)
set_option maxRecDepth 20000 in
theorem gX3_dub_X3_isTrack : GoodIn wsX3_dub (wsV RX3 71 RX3 yX3_isTrack wsX3_isTrack) := goodIn_app (goodIn_of _ (by decide +kernel)) ggX3_dub_X3_isTrack
set_option maxRecDepth 20000 in
theorem ggX3_dub_X3_fails : GoodIn wsX3_dub wsX3_fails := goodIn_r _ [16, 17, 42, 43, 44, 45, 46, 47, 48, 49, 50, 51, 52, 53, 54, 55, 56, 57, 58] (by decide +kernel) (by decide +kernel)
set_option maxRecDepth 20000 in
theorem gX3_dub_X3_fails : GoodIn wsX3_dub (wsV RX3 59 RX3 yX3_fails wsX3_fails) := goodIn_app (goodIn_of _ (by decide +kernel)) ggX3_dub_X3_fails
set_option maxRecDepth 20000 in
theorem ggX3_dub_X3_fault : GoodIn wsX3_dub wsX3_fault := goodIn_r _ [21, 22, 23, 24, 25, 6, 26, 27, 42, 43, 44, 45, 46, 47, 48, 49, 50, 51, 52, 53, 54, 55, 56, 57, 58] (by decide +kernel) (by decide +kernel)
set_option maxRecDepth 20000 in
theorem gX3_dub_X3_fault : GoodIn wsX3_dub (wsV RX3 87 RX3 yX3_fault wsX3_fault) := goodIn_app (goodIn_of _ (by decide +kernel)) ggX3_dub_X3_fault
set_option maxRecDepth 20000 in
theorem ggX3_dub_X3_at : GoodIn wsX3_dub wsX3_at := goodIn_r _ [31] (by decide +kernel) (by decide +kernel)
set_option maxRecDepth 20000 in
theorem gX3_dub_X3_at : GoodIn wsX3_dub (wsV RX3 74 RX3 yX3_at wsX3_at) := goodIn_app (goodIn_of _ (by decide +kernel)) ggX3_dub_X3_at
set_option maxRecDepth 20000 in
theorem ggX3_dub_X3_fit : GoodIn wsX3_dub wsX3_fit := goodIn_r _ [35, 36, 37] (by decide +kernel) (by decide +kernel)
set_option maxRecDepth 20000 in
theorem gX3_dub_X3_fit : GoodIn wsX3_dub (wsV RX3 93 RX3 yX3_fit wsX3_fit) := goodIn_app (goodIn_of _ (by decide +kernel)) ggX3_dub_X3_fit
set_option maxRecDepth 20000 in
theorem ggX3_dub_X3_done : GoodIn wsX3_dub wsX3_done := goodIn_r _ [41, 17, 42, 43, 44, 45, 46, 47, 48, 49, 50, 51, 52, 53, 54, 55, 56, 57, 58] (by decide +kernel) (by decide +kernel)
set_option maxRecDepth 20000 in
theorem gX3_dub_X3_done : GoodIn wsX3_dub (wsV RX3 63 RX3 yX3_done wsX3_done) := goodIn_app (goodIn_of _ (by decide +kernel)) ggX3_dub_X3_done
theorem dX3_dub_0 : decode cX3_dub 0 = .ok (.aload_n 0, 1) := by decide +kernel
theorem dX3_dub_1 : decode cX3_dub 1 = .ok (.iload_n 1, 1) := by decide +kernel
theorem dX3_dub_2 : decode cX3_dub 2 = .ok (.invokevirtual 67, 3) := by decide +kernel
theorem dX3_dub_5 : decode cX3_dub 5 = .ok (.ifCond .eq 41, 3) := by decide +kernel
theorem dX3_dub_8 : decode cX3_dub 8 = .ok (.aload_n 0, 1) := by decide +kernel
theorem dX3_dub_9 : decode cX3_dub 9 = .ok (.iload_n 2, 1) := by decide +kernel
theorem dX3_dub_10 : decode cX3_dub 10 = .ok (.invokevirtual 71, 3) := by decide +kernel
theorem dX3_dub_13 : decode cX3_dub 13 = .ok (.ifCond .eq 33, 3) := by decide +kernel
theorem dX3_dub_16 : decode cX3_dub 16 = .ok (.iload 4, 2) := by decide +kernel
theorem dX3_dub_18 : decode cX3_dub 18 = .ok (.ifCond .lt 28, 3) := by decide +kernel
theorem dX3_dub_21 : decode cX3_dub 21 = .ok (.iload 4, 2) := by decide +kernel
theorem dX3_dub_23 : decode cX3_dub 23 = .ok (.bipush 64, 2) := by decide +kernel
theorem dX3_dub_25 : decode cX3_dub 25 = .ok (.if_icmp .gt 21, 3) := by decide +kernel
theorem dX3_dub_28 : decode cX3_dub 28 = .ok (.aload_n 0, 1) := by decide +kernel
theorem dX3_dub_29 : decode cX3_dub 29 = .ok (.iload 5, 2) := by decide +kernel
theorem dX3_dub_31 : decode cX3_dub 31 = .ok (.invokevirtual 67, 3) := by decide +kernel
theorem dX3_dub_34 : decode cX3_dub 34 = .ok (.ifCond .eq 12, 3) := by decide +kernel
theorem dX3_dub_37 : decode cX3_dub 37 = .ok (.aload_n 0, 1) := by decide +kernel
theorem dX3_dub_38 : decode cX3_dub 38 = .ok (.iload 6, 2) := by decide +kernel
theorem dX3_dub_40 : decode cX3_dub 40 = .ok (.invokevirtual 71, 3) := by decide +kernel
theorem dX3_dub_43 : decode cX3_dub 43 = .ok (.ifCond .ne 10, 3) := by decide +kernel
theorem dX3_dub_46 : decode cX3_dub 46 = .ok (.aload_n 0, 1) := by decide +kernel
theorem dX3_dub_47 : decode cX3_dub 47 = .ok (.iconst 1, 1) := by decide +kernel
theorem dX3_dub_48 : decode cX3_dub 48 = .ok (.iconst 0, 1) := by decide +kernel
theorem dX3_dub_49 : decode cX3_dub 49 = .ok (.invokevirtual 59, 3) := by decide +kernel
theorem dX3_dub_52 : decode cX3_dub 52 = .ok (.ireturn, 1) := by decide +kernel
theorem dX3_dub_53 : decode cX3_dub 53 = .ok (.iconst 0, 1) := by decide +kernel
theorem dX3_dub_54 : decode cX3_dub 54 = .ok (.istore 7, 2) := by decide +kernel
theorem dX3_dub_56 : decode cX3_dub 56 = .ok (.iload 7, 2) := by decide +kernel
theorem dX3_dub_58 : decode cX3_dub 58 = .ok (.iload 4, 2) := by decide +kernel
theorem dX3_dub_60 : decode cX3_dub 60 = .ok (.if_icmp .ge 98, 3) := by decide +kernel
theorem dX3_dub_63 : decode cX3_dub 63 = .ok (.aload_n 0, 1) := by decide +kernel
theorem dX3_dub_64 : decode cX3_dub 64 = .ok (.iload_n 1, 1) := by decide +kernel
theorem dX3_dub_65 : decode cX3_dub 65 = .ok (.iload_n 2, 1) := by decide +kernel
theorem dX3_dub_66 : decode cX3_dub 66 = .ok (.iload_n 3, 1) := by decide +kernel
theorem dX3_dub_67 : decode cX3_dub 67 = .ok (.iload 7, 2) := by decide +kernel
theorem dX3_dub_69 : decode cX3_dub 69 = .ok (.iadd, 1) := by decide +kernel
theorem dX3_dub_70 : decode cX3_dub 70 = .ok (.invokevirtual 87, 3) := by decide +kernel
theorem dX3_dub_73 : decode cX3_dub 73 = .ok (.istore 8, 2) := by decide +kernel
theorem dX3_dub_75 : decode cX3_dub 75 = .ok (.iload 8, 2) := by decide +kernel
theorem dX3_dub_77 : decode cX3_dub 77 = .ok (.ifCond .ne 20, 3) := by decide +kernel
theorem dX3_dub_80 : decode cX3_dub 80 = .ok (.aload_n 0, 1) := by decide +kernel
theorem dX3_dub_81 : decode cX3_dub 81 = .ok (.iload 5, 2) := by decide +kernel
theorem dX3_dub_83 : decode cX3_dub 83 = .ok (.iload 6, 2) := by decide +kernel
theorem dX3_dub_85 : decode cX3_dub 85 = .ok (.aload_n 0, 1) := by decide +kernel
theorem dX3_dub_86 : decode cX3_dub 86 = .ok (.getfield 56, 3) := by decide +kernel
theorem dX3_dub_89 : decode cX3_dub 89 = .ok (.iload 7, 2) := by decide +kernel
theorem dX3_dub_91 : decode cX3_dub 91 = .ok (.iadd, 1) := by decide +kernel
theorem dX3_dub_92 : decode cX3_dub 92 = .ok (.invokevirtual 87, 3) := by decide +kernel
theorem dX3_dub_95 : decode cX3_dub 95 = .ok (.istore 8, 2) := by decide +kernel
theorem dX3_dub_97 : decode cX3_dub 97 = .ok (.iload 8, 2) := by decide +kernel
theorem dX3_dub_99 : decode cX3_dub 99 = .ok (.ifCond .eq 12, 3) := by decide +kernel
theorem dX3_dub_102 : decode cX3_dub 102 = .ok (.aload_n 0, 1) := by decide +kernel
theorem dX3_dub_103 : decode cX3_dub 103 = .ok (.iload 8, 2) := by decide +kernel
theorem dX3_dub_105 : decode cX3_dub 105 = .ok (.iload 7, 2) := by decide +kernel
theorem dX3_dub_107 : decode cX3_dub 107 = .ok (.invokevirtual 59, 3) := by decide +kernel
theorem dX3_dub_110 : decode cX3_dub 110 = .ok (.ireturn, 1) := by decide +kernel
theorem dX3_dub_111 : decode cX3_dub 111 = .ok (.aload_n 0, 1) := by decide +kernel
theorem dX3_dub_112 : decode cX3_dub 112 = .ok (.getfield 16, 3) := by decide +kernel
theorem dX3_dub_115 : decode cX3_dub 115 = .ok (.aload_n 0, 1) := by decide +kernel
theorem dX3_dub_116 : decode cX3_dub 116 = .ok (.iload 5, 2) := by decide +kernel
theorem dX3_dub_118 : decode cX3_dub 118 = .ok (.iload 6, 2) := by decide +kernel
theorem dX3_dub_120 : decode cX3_dub 120 = .ok (.aload_n 0, 1) := by decide +kernel
theorem dX3_dub_121 : decode cX3_dub 121 = .ok (.getfield 56, 3) := by decide +kernel
theorem dX3_dub_124 : decode cX3_dub 124 = .ok (.iload 7, 2) := by decide +kernel
theorem dX3_dub_126 : decode cX3_dub 126 = .ok (.iadd, 1) := by decide +kernel
theorem dX3_dub_127 : decode cX3_dub 127 = .ok (.invokevirtual 74, 3) := by decide +kernel
theorem dX3_dub_130 : decode cX3_dub 130 = .ok (.aload_n 0, 1) := by decide +kernel
theorem dX3_dub_131 : decode cX3_dub 131 = .ok (.iload 6, 2) := by decide +kernel
theorem dX3_dub_133 : decode cX3_dub 133 = .ok (.aload_n 0, 1) := by decide +kernel
theorem dX3_dub_134 : decode cX3_dub 134 = .ok (.getfield 16, 3) := by decide +kernel
theorem dX3_dub_137 : decode cX3_dub 137 = .ok (.aload_n 0, 1) := by decide +kernel
theorem dX3_dub_138 : decode cX3_dub 138 = .ok (.iload_n 1, 1) := by decide +kernel
theorem dX3_dub_139 : decode cX3_dub 139 = .ok (.iload_n 2, 1) := by decide +kernel
theorem dX3_dub_140 : decode cX3_dub 140 = .ok (.iload_n 3, 1) := by decide +kernel
theorem dX3_dub_141 : decode cX3_dub 141 = .ok (.iload 7, 2) := by decide +kernel
theorem dX3_dub_143 : decode cX3_dub 143 = .ok (.iadd, 1) := by decide +kernel
theorem dX3_dub_144 : decode cX3_dub 144 = .ok (.invokevirtual 74, 3) := by decide +kernel
theorem dX3_dub_147 : decode cX3_dub 147 = .ok (.iaload, 1) := by decide +kernel
theorem dX3_dub_148 : decode cX3_dub 148 = .ok (.invokevirtual 93, 3) := by decide +kernel
theorem dX3_dub_151 : decode cX3_dub 151 = .ok (.iastore, 1) := by decide +kernel
theorem dX3_dub_152 : decode cX3_dub 152 = .ok (.iinc 7 1, 3) := by decide +kernel
theorem dX3_dub_155 : decode cX3_dub 155 = .ok (.goto (-99), 3) := by decide +kernel
theorem dX3_dub_158 : decode cX3_dub 158 = .ok (.aload_n 0, 1) := by decide +kernel
theorem dX3_dub_159 : decode cX3_dub 159 = .ok (.iload 4, 2) := by decide +kernel
theorem dX3_dub_161 : decode cX3_dub 161 = .ok (.invokevirtual 63, 3) := by decide +kernel
theorem dX3_dub_164 : decode cX3_dub 164 = .ok (.ireturn, 1) := by decide +kernel
set_option maxRecDepth 20000 in
theorem ggX3_turn_X3_isTrack : GoodIn wsX3_turn wsX3_isTrack := goodIn_r _ [7] (by decide +kernel) (by decide +kernel)
set_option maxRecDepth 20000 in
theorem gX3_turn_X3_isTrack : GoodIn wsX3_turn (wsV RX3 71 RX3 yX3_isTrack wsX3_isTrack) := goodIn_app (goodIn_of _ (by decide +kernel)) ggX3_turn_X3_isTrack
set_option maxRecDepth 20000 in
theorem ggX3_turn_X3_fails : GoodIn wsX3_turn wsX3_fails := goodIn_r _ [11, 12, 37, 38, 39, 40, 41, 42, 43, 44, 45, 46, 47, 48, 49, 50, 51, 52, 53] (by decide +kernel) (by decide +kernel)
set_option maxRecDepth 20000 in
theorem gX3_turn_X3_fails : GoodIn wsX3_turn (wsV RX3 59 RX3 yX3_fails wsX3_fails) := goodIn_app (goodIn_of _ (by decide +kernel)) ggX3_turn_X3_fails
set_option maxRecDepth 20000 in
theorem ggX3_turn_X3_place : GoodIn wsX3_turn wsX3_place := goodIn_r _ [16, 17, 18, 37, 38, 39, 40, 41, 42, 43, 44, 45, 46, 47, 48, 49, 50, 51, 52, 53] (by decide +kernel) (by decide +kernel)
set_option maxRecDepth 20000 in
theorem gX3_turn_X3_place : GoodIn wsX3_turn (wsV RX3 84 RX3 yX3_place wsX3_place) := goodIn_app (goodIn_of _ (by decide +kernel)) ggX3_turn_X3_place
set_option maxRecDepth 20000 in
theorem ggX3_turn_X3_fault : GoodIn wsX3_turn wsX3_fault := goodIn_r _ [22, 23, 24, 25, 26, 6, 27, 28, 37, 38, 39, 40, 41, 42, 43, 44, 45, 46, 47, 48, 49, 50, 51, 52, 53] (by decide +kernel) (by decide +kernel)
set_option maxRecDepth 20000 in
theorem gX3_turn_X3_fault : GoodIn wsX3_turn (wsV RX3 87 RX3 yX3_fault wsX3_fault) := goodIn_app (goodIn_of _ (by decide +kernel)) ggX3_turn_X3_fault
set_option maxRecDepth 20000 in
theorem ggX3_turn_X3_at : GoodIn wsX3_turn wsX3_at := goodIn_r _ [32] (by decide +kernel) (by decide +kernel)
set_option maxRecDepth 20000 in
theorem gX3_turn_X3_at : GoodIn wsX3_turn (wsV RX3 74 RX3 yX3_at wsX3_at) := goodIn_app (goodIn_of _ (by decide +kernel)) ggX3_turn_X3_at
set_option maxRecDepth 20000 in
theorem ggX3_turn_X3_done : GoodIn wsX3_turn wsX3_done := goodIn_r _ [36, 12, 37, 38, 39, 40, 41, 42, 43, 44, 45, 46, 47, 48, 49, 50, 51, 52, 53] (by decide +kernel) (by decide +kernel)
set_option maxRecDepth 20000 in
theorem gX3_turn_X3_done : GoodIn wsX3_turn (wsV RX3 63 RX3 yX3_done wsX3_done) := goodIn_app (goodIn_of _ (by decide +kernel)) ggX3_turn_X3_done
theorem dX3_turn_0 : decode cX3_turn 0 = .ok (.aload_n 0, 1) := by decide +kernel
theorem dX3_turn_1 : decode cX3_turn 1 = .ok (.iload_n 1, 1) := by decide +kernel
theorem dX3_turn_2 : decode cX3_turn 2 = .ok (.invokevirtual 71, 3) := by decide +kernel
theorem dX3_turn_5 : decode cX3_turn 5 = .ok (.ifCond .eq 13, 3) := by decide +kernel
theorem dX3_turn_8 : decode cX3_turn 8 = .ok (.iload_n 2, 1) := by decide +kernel
theorem dX3_turn_9 : decode cX3_turn 9 = .ok (.ifCond .lt 9, 3) := by decide +kernel
theorem dX3_turn_12 : decode cX3_turn 12 = .ok (.iload_n 2, 1) := by decide +kernel
theorem dX3_turn_13 : decode cX3_turn 13 = .ok (.bipush 64, 2) := by decide +kernel
theorem dX3_turn_15 : decode cX3_turn 15 = .ok (.if_icmp .le 10, 3) := by decide +kernel
theorem dX3_turn_18 : decode cX3_turn 18 = .ok (.aload_n 0, 1) := by decide +kernel
theorem dX3_turn_19 : decode cX3_turn 19 = .ok (.iconst 1, 1) := by decide +kernel
theorem dX3_turn_20 : decode cX3_turn 20 = .ok (.iconst 0, 1) := by decide +kernel
theorem dX3_turn_21 : decode cX3_turn 21 = .ok (.invokevirtual 59, 3) := by decide +kernel
theorem dX3_turn_24 : decode cX3_turn 24 = .ok (.ireturn, 1) := by decide +kernel
theorem dX3_turn_25 : decode cX3_turn 25 = .ok (.aload_n 0, 1) := by decide +kernel
theorem dX3_turn_26 : decode cX3_turn 26 = .ok (.getfield 19, 3) := by decide +kernel
theorem dX3_turn_29 : decode cX3_turn 29 = .ok (.iconst (-1), 1) := by decide +kernel
theorem dX3_turn_30 : decode cX3_turn 30 = .ok (.if_icmp .ne 10, 3) := by decide +kernel
theorem dX3_turn_33 : decode cX3_turn 33 = .ok (.aload_n 0, 1) := by decide +kernel
theorem dX3_turn_34 : decode cX3_turn 34 = .ok (.iconst 5, 1) := by decide +kernel
theorem dX3_turn_35 : decode cX3_turn 35 = .ok (.iconst 0, 1) := by decide +kernel
theorem dX3_turn_36 : decode cX3_turn 36 = .ok (.invokevirtual 59, 3) := by decide +kernel
theorem dX3_turn_39 : decode cX3_turn 39 = .ok (.ireturn, 1) := by decide +kernel
theorem dX3_turn_40 : decode cX3_turn 40 = .ok (.aload_n 0, 1) := by decide +kernel
theorem dX3_turn_41 : decode cX3_turn 41 = .ok (.iload_n 1, 1) := by decide +kernel
theorem dX3_turn_42 : decode cX3_turn 42 = .ok (.invokevirtual 84, 3) := by decide +kernel
theorem dX3_turn_45 : decode cX3_turn 45 = .ok (.istore_n 3, 1) := by decide +kernel
theorem dX3_turn_46 : decode cX3_turn 46 = .ok (.iconst 0, 1) := by decide +kernel
theorem dX3_turn_47 : decode cX3_turn 47 = .ok (.istore 4, 2) := by decide +kernel
theorem dX3_turn_49 : decode cX3_turn 49 = .ok (.iload 4, 2) := by decide +kernel
theorem dX3_turn_51 : decode cX3_turn 51 = .ok (.iload_n 2, 1) := by decide +kernel
theorem dX3_turn_52 : decode cX3_turn 52 = .ok (.iconst 2, 1) := by decide +kernel
theorem dX3_turn_53 : decode cX3_turn 53 = .ok (.idiv, 1) := by decide +kernel
theorem dX3_turn_54 : decode cX3_turn 54 = .ok (.if_icmp .ge 128, 3) := by decide +kernel
theorem dX3_turn_57 : decode cX3_turn 57 = .ok (.aload_n 0, 1) := by decide +kernel
theorem dX3_turn_58 : decode cX3_turn 58 = .ok (.aload_n 0, 1) := by decide +kernel
theorem dX3_turn_59 : decode cX3_turn 59 = .ok (.getfield 19, 3) := by decide +kernel
theorem dX3_turn_62 : decode cX3_turn 62 = .ok (.iload_n 1, 1) := by decide +kernel
theorem dX3_turn_63 : decode cX3_turn 63 = .ok (.iload_n 3, 1) := by decide +kernel
theorem dX3_turn_64 : decode cX3_turn 64 = .ok (.iload 4, 2) := by decide +kernel
theorem dX3_turn_66 : decode cX3_turn 66 = .ok (.iadd, 1) := by decide +kernel
theorem dX3_turn_67 : decode cX3_turn 67 = .ok (.invokevirtual 87, 3) := by decide +kernel
theorem dX3_turn_70 : decode cX3_turn 70 = .ok (.istore 5, 2) := by decide +kernel
theorem dX3_turn_72 : decode cX3_turn 72 = .ok (.iload 5, 2) := by decide +kernel
theorem dX3_turn_74 : decode cX3_turn 74 = .ok (.ifCond .ne 22, 3) := by decide +kernel
theorem dX3_turn_77 : decode cX3_turn 77 = .ok (.aload_n 0, 1) := by decide +kernel
theorem dX3_turn_78 : decode cX3_turn 78 = .ok (.aload_n 0, 1) := by decide +kernel
theorem dX3_turn_79 : decode cX3_turn 79 = .ok (.getfield 19, 3) := by decide +kernel
theorem dX3_turn_82 : decode cX3_turn 82 = .ok (.iload_n 1, 1) := by decide +kernel
theorem dX3_turn_83 : decode cX3_turn 83 = .ok (.iload_n 3, 1) := by decide +kernel
theorem dX3_turn_84 : decode cX3_turn 84 = .ok (.iload_n 2, 1) := by decide +kernel
theorem dX3_turn_85 : decode cX3_turn 85 = .ok (.iadd, 1) := by decide +kernel
theorem dX3_turn_86 : decode cX3_turn 86 = .ok (.iconst 1, 1) := by decide +kernel
theorem dX3_turn_87 : decode cX3_turn 87 = .ok (.isub, 1) := by decide +kernel
theorem dX3_turn_88 : decode cX3_turn 88 = .ok (.iload 4, 2) := by decide +kernel
theorem dX3_turn_90 : decode cX3_turn 90 = .ok (.isub, 1) := by decide +kernel
theorem dX3_turn_91 : decode cX3_turn 91 = .ok (.invokevirtual 87, 3) := by decide +kernel
theorem dX3_turn_94 : decode cX3_turn 94 = .ok (.istore 5, 2) := by decide +kernel
theorem dX3_turn_96 : decode cX3_turn 96 = .ok (.iload 5, 2) := by decide +kernel
theorem dX3_turn_98 : decode cX3_turn 98 = .ok (.ifCond .eq 12, 3) := by decide +kernel
theorem dX3_turn_101 : decode cX3_turn 101 = .ok (.aload_n 0, 1) := by decide +kernel
theorem dX3_turn_102 : decode cX3_turn 102 = .ok (.iload 5, 2) := by decide +kernel
theorem dX3_turn_104 : decode cX3_turn 104 = .ok (.iload 4, 2) := by decide +kernel
theorem dX3_turn_106 : decode cX3_turn 106 = .ok (.invokevirtual 59, 3) := by decide +kernel
theorem dX3_turn_109 : decode cX3_turn 109 = .ok (.ireturn, 1) := by decide +kernel
theorem dX3_turn_110 : decode cX3_turn 110 = .ok (.aload_n 0, 1) := by decide +kernel
theorem dX3_turn_111 : decode cX3_turn 111 = .ok (.aload_n 0, 1) := by decide +kernel
theorem dX3_turn_112 : decode cX3_turn 112 = .ok (.getfield 19, 3) := by decide +kernel
theorem dX3_turn_115 : decode cX3_turn 115 = .ok (.iload_n 1, 1) := by decide +kernel
theorem dX3_turn_116 : decode cX3_turn 116 = .ok (.iload_n 3, 1) := by decide +kernel
theorem dX3_turn_117 : decode cX3_turn 117 = .ok (.iload 4, 2) := by decide +kernel
theorem dX3_turn_119 : decode cX3_turn 119 = .ok (.iadd, 1) := by decide +kernel
theorem dX3_turn_120 : decode cX3_turn 120 = .ok (.invokevirtual 74, 3) := by decide +kernel
theorem dX3_turn_123 : decode cX3_turn 123 = .ok (.istore 6, 2) := by decide +kernel
theorem dX3_turn_125 : decode cX3_turn 125 = .ok (.aload_n 0, 1) := by decide +kernel
theorem dX3_turn_126 : decode cX3_turn 126 = .ok (.aload_n 0, 1) := by decide +kernel
theorem dX3_turn_127 : decode cX3_turn 127 = .ok (.getfield 19, 3) := by decide +kernel
theorem dX3_turn_130 : decode cX3_turn 130 = .ok (.iload_n 1, 1) := by decide +kernel
theorem dX3_turn_131 : decode cX3_turn 131 = .ok (.iload_n 3, 1) := by decide +kernel
theorem dX3_turn_132 : decode cX3_turn 132 = .ok (.iload_n 2, 1) := by decide +kernel
theorem dX3_turn_133 : decode cX3_turn 133 = .ok (.iadd, 1) := by decide +kernel
theorem dX3_turn_134 : decode cX3_turn 134 = .ok (.iconst 1, 1) := by decide +kernel
theorem dX3_turn_135 : decode cX3_turn 135 = .ok (.isub, 1) := by decide +kernel
theorem dX3_turn_136 : decode cX3_turn 136 = .ok (.iload 4, 2) := by decide +kernel
theorem dX3_turn_138 : decode cX3_turn 138 = .ok (.isub, 1) := by decide +kernel
theorem dX3_turn_139 : decode cX3_turn 139 = .ok (.invokevirtual 74, 3) := by decide +kernel
theorem dX3_turn_142 : decode cX3_turn 142 = .ok (.istore 7, 2) := by decide +kernel
theorem dX3_turn_144 : decode cX3_turn 144 = .ok (.aload_n 0, 1) := by decide +kernel
theorem dX3_turn_145 : decode cX3_turn 145 = .ok (.getfield 16, 3) := by decide +kernel
theorem dX3_turn_148 : decode cX3_turn 148 = .ok (.iload 6, 2) := by decide +kernel
theorem dX3_turn_150 : decode cX3_turn 150 = .ok (.iaload, 1) := by decide +kernel
theorem dX3_turn_151 : decode cX3_turn 151 = .ok (.istore 8, 2) := by decide +kernel
theorem dX3_turn_153 : decode cX3_turn 153 = .ok (.aload_n 0, 1) := by decide +kernel
theorem dX3_turn_154 : decode cX3_turn 154 = .ok (.getfield 16, 3) := by decide +kernel
theorem dX3_turn_157 : decode cX3_turn 157 = .ok (.iload 6, 2) := by decide +kernel
theorem dX3_turn_159 : decode cX3_turn 159 = .ok (.aload_n 0, 1) := by decide +kernel
theorem dX3_turn_160 : decode cX3_turn 160 = .ok (.getfield 16, 3) := by decide +kernel
theorem dX3_turn_163 : decode cX3_turn 163 = .ok (.iload 7, 2) := by decide +kernel
theorem dX3_turn_165 : decode cX3_turn 165 = .ok (.iaload, 1) := by decide +kernel
theorem dX3_turn_166 : decode cX3_turn 166 = .ok (.iastore, 1) := by decide +kernel
theorem dX3_turn_167 : decode cX3_turn 167 = .ok (.aload_n 0, 1) := by decide +kernel
theorem dX3_turn_168 : decode cX3_turn 168 = .ok (.getfield 16, 3) := by decide +kernel
theorem dX3_turn_171 : decode cX3_turn 171 = .ok (.iload 7, 2) := by decide +kernel
theorem dX3_turn_173 : decode cX3_turn 173 = .ok (.iload 8, 2) := by decide +kernel
theorem dX3_turn_175 : decode cX3_turn 175 = .ok (.iastore, 1) := by decide +kernel
theorem dX3_turn_176 : decode cX3_turn 176 = .ok (.iinc 4 1, 3) := by decide +kernel
theorem dX3_turn_179 : decode cX3_turn 179 = .ok (.goto (-130), 3) := by decide +kernel
theorem dX3_turn_182 : decode cX3_turn 182 = .ok (.aload_n 0, 1) := by decide +kernel
theorem dX3_turn_183 : decode cX3_turn 183 = .ok (.iload_n 2, 1) := by decide +kernel
theorem dX3_turn_184 : decode cX3_turn 184 = .ok (.iconst 2, 1) := by decide +kernel
theorem dX3_turn_185 : decode cX3_turn 185 = .ok (.idiv, 1) := by decide +kernel
theorem dX3_turn_186 : decode cX3_turn 186 = .ok (.invokevirtual 63, 3) := by decide +kernel
theorem dX3_turn_189 : decode cX3_turn 189 = .ok (.ireturn, 1) := by decide +kernel
set_option maxRecDepth 20000 in
theorem ggX3_scan_X3_headFault : GoodIn wsX3_scan wsX3_headFault := goodIn_r _ [8, 2, 9, 10, 11, 7, 12, 13, 14, 15, 16, 17, 18, 19, 20, 21, 22, 1, 23, 24, 25, 26, 27, 41, 42, 43, 44, 45, 46, 47, 48, 49, 50, 51, 52, 53, 54, 55, 56, 57] (by decide +kernel) (by decide +kernel)
set_option maxRecDepth 20000 in
theorem gX3_scan_X3_headFault : GoodIn wsX3_scan (wsV RX3 90 RX3 yX3_headFault wsX3_headFault) := goodIn_app (goodIn_of _ (by decide +kernel)) ggX3_scan_X3_headFault
set_option maxRecDepth 20000 in
theorem ggX3_scan_X3_fails : GoodIn wsX3_scan wsX3_fails := goodIn_r _ [31, 32, 41, 42, 43, 44, 45, 46, 47, 48, 49, 50, 51, 52, 53, 54, 55, 56, 57] (by decide +kernel) (by decide +kernel)
set_option maxRecDepth 20000 in
theorem gX3_scan_X3_fails : GoodIn wsX3_scan (wsV RX3 59 RX3 yX3_fails wsX3_fails) := goodIn_app (goodIn_of _ (by decide +kernel)) ggX3_scan_X3_fails
set_option maxRecDepth 20000 in
theorem ggX3_scan_X3_place : GoodIn wsX3_scan wsX3_place := goodIn_r _ [16, 17, 18, 41, 42, 43, 44, 45, 46, 47, 48, 49, 50, 51, 52, 53, 54, 55, 56, 57] (by decide +kernel) (by decide +kernel)
set_option maxRecDepth 20000 in
theorem gX3_scan_X3_place : GoodIn wsX3_scan (wsV RX3 84 RX3 yX3_place wsX3_place) := goodIn_app (goodIn_of _ (by decide +kernel)) ggX3_scan_X3_place
set_option maxRecDepth 20000 in
theorem ggX3_scan_X3_at : GoodIn wsX3_scan wsX3_at := goodIn_r _ [36] (by decide +kernel) (by decide +kernel)
set_option maxRecDepth 20000 in
theorem gX3_scan_X3_at : GoodIn wsX3_scan (wsV RX3 74 RX3 yX3_at wsX3_at) := goodIn_app (goodIn_of _ (by decide +kernel)) ggX3_scan_X3_at
set_option maxRecDepth 20000 in
theorem ggX3_scan_X3_done : GoodIn wsX3_scan wsX3_done := goodIn_r _ [40, 32, 41, 42, 43, 44, 45, 46, 47, 48, 49, 50, 51, 52, 53, 54, 55, 56, 57] (by decide +kernel) (by decide +kernel)
set_option maxRecDepth 20000 in
theorem gX3_scan_X3_done : GoodIn wsX3_scan (wsV RX3 63 RX3 yX3_done wsX3_done) := goodIn_app (goodIn_of _ (by decide +kernel)) ggX3_scan_X3_done
theorem dX3_scan_0 : decode cX3_scan 0 = .ok (.aload_n 0, 1) := by decide +kernel
theorem dX3_scan_1 : decode cX3_scan 1 = .ok (.iload_n 1, 1) := by decide +kernel
theorem dX3_scan_2 : decode cX3_scan 2 = .ok (.invokevirtual 90, 3) := by decide +kernel
theorem dX3_scan_5 : decode cX3_scan 5 = .ok (.istore_n 3, 1) := by decide +kernel
theorem dX3_scan_6 : decode cX3_scan 6 = .ok (.iload_n 3, 1) := by decide +kernel
theorem dX3_scan_7 : decode cX3_scan 7 = .ok (.ifCond .eq 10, 3) := by decide +kernel
theorem dX3_scan_10 : decode cX3_scan 10 = .ok (.aload_n 0, 1) := by decide +kernel
theorem dX3_scan_11 : decode cX3_scan 11 = .ok (.iload_n 3, 1) := by decide +kernel
theorem dX3_scan_12 : decode cX3_scan 12 = .ok (.iconst (-1), 1) := by decide +kernel
theorem dX3_scan_13 : decode cX3_scan 13 = .ok (.invokevirtual 59, 3) := by decide +kernel
theorem dX3_scan_16 : decode cX3_scan 16 = .ok (.ireturn, 1) := by decide +kernel
theorem dX3_scan_17 : decode cX3_scan 17 = .ok (.aload_n 0, 1) := by decide +kernel
theorem dX3_scan_18 : decode cX3_scan 18 = .ok (.iload_n 1, 1) := by decide +kernel
theorem dX3_scan_19 : decode cX3_scan 19 = .ok (.invokevirtual 84, 3) := by decide +kernel
theorem dX3_scan_22 : decode cX3_scan 22 = .ok (.istore 4, 2) := by decide +kernel
theorem dX3_scan_24 : decode cX3_scan 24 = .ok (.iload 4, 2) := by decide +kernel
theorem dX3_scan_26 : decode cX3_scan 26 = .ok (.istore 5, 2) := by decide +kernel
theorem dX3_scan_28 : decode cX3_scan 28 = .ok (.iload 5, 2) := by decide +kernel
theorem dX3_scan_30 : decode cX3_scan 30 = .ok (.aload_n 0, 1) := by decide +kernel
theorem dX3_scan_31 : decode cX3_scan 31 = .ok (.getfield 7, 3) := by decide +kernel
theorem dX3_scan_34 : decode cX3_scan 34 = .ok (.aload_n 0, 1) := by decide +kernel
theorem dX3_scan_35 : decode cX3_scan 35 = .ok (.getfield 19, 3) := by decide +kernel
theorem dX3_scan_38 : decode cX3_scan 38 = .ok (.iaload, 1) := by decide +kernel
theorem dX3_scan_39 : decode cX3_scan 39 = .ok (.if_icmp .ge 39, 3) := by decide +kernel
theorem dX3_scan_42 : decode cX3_scan 42 = .ok (.aload_n 0, 1) := by decide +kernel
theorem dX3_scan_43 : decode cX3_scan 43 = .ok (.getfield 16, 3) := by decide +kernel
theorem dX3_scan_46 : decode cX3_scan 46 = .ok (.aload_n 0, 1) := by decide +kernel
theorem dX3_scan_47 : decode cX3_scan 47 = .ok (.aload_n 0, 1) := by decide +kernel
theorem dX3_scan_48 : decode cX3_scan 48 = .ok (.getfield 19, 3) := by decide +kernel
theorem dX3_scan_51 : decode cX3_scan 51 = .ok (.iload_n 1, 1) := by decide +kernel
theorem dX3_scan_52 : decode cX3_scan 52 = .ok (.iload 5, 2) := by decide +kernel
theorem dX3_scan_54 : decode cX3_scan 54 = .ok (.invokevirtual 74, 3) := by decide +kernel
theorem dX3_scan_57 : decode cX3_scan 57 = .ok (.iaload, 1) := by decide +kernel
theorem dX3_scan_58 : decode cX3_scan 58 = .ok (.iload_n 2, 1) := by decide +kernel
theorem dX3_scan_59 : decode cX3_scan 59 = .ok (.if_icmp .ne 13, 3) := by decide +kernel
theorem dX3_scan_62 : decode cX3_scan 62 = .ok (.aload_n 0, 1) := by decide +kernel
theorem dX3_scan_63 : decode cX3_scan 63 = .ok (.iload 5, 2) := by decide +kernel
theorem dX3_scan_65 : decode cX3_scan 65 = .ok (.iload 4, 2) := by decide +kernel
theorem dX3_scan_67 : decode cX3_scan 67 = .ok (.isub, 1) := by decide +kernel
theorem dX3_scan_68 : decode cX3_scan 68 = .ok (.invokevirtual 63, 3) := by decide +kernel
theorem dX3_scan_71 : decode cX3_scan 71 = .ok (.ireturn, 1) := by decide +kernel
theorem dX3_scan_72 : decode cX3_scan 72 = .ok (.iinc 5 1, 3) := by decide +kernel
theorem dX3_scan_75 : decode cX3_scan 75 = .ok (.goto (-47), 3) := by decide +kernel
theorem dX3_scan_78 : decode cX3_scan 78 = .ok (.aload_n 0, 1) := by decide +kernel
theorem dX3_scan_79 : decode cX3_scan 79 = .ok (.iconst 3, 1) := by decide +kernel
theorem dX3_scan_80 : decode cX3_scan 80 = .ok (.iconst (-1), 1) := by decide +kernel
theorem dX3_scan_81 : decode cX3_scan 81 = .ok (.invokevirtual 59, 3) := by decide +kernel
theorem dX3_scan_84 : decode cX3_scan 84 = .ok (.ireturn, 1) := by decide +kernel
set_option maxRecDepth 20000 in
theorem ggX3_sheet_X3_fails : GoodIn wsX3_sheet wsX3_fails := goodIn_r _ [8, 9, 14, 15, 16, 17, 18, 19, 20, 21, 22, 23, 24, 25, 26, 27, 28, 29, 30] (by decide +kernel) (by decide +kernel)
set_option maxRecDepth 20000 in
theorem gX3_sheet_X3_fails : GoodIn wsX3_sheet (wsV RX3 59 RX3 yX3_fails wsX3_fails) := goodIn_app (goodIn_of _ (by decide +kernel)) ggX3_sheet_X3_fails
set_option maxRecDepth 20000 in
theorem ggX3_sheet_X3_done : GoodIn wsX3_sheet wsX3_done := goodIn_r _ [13, 9, 14, 15, 16, 17, 18, 19, 20, 21, 22, 23, 24, 25, 26, 27, 28, 29, 30] (by decide +kernel) (by decide +kernel)
set_option maxRecDepth 20000 in
theorem gX3_sheet_X3_done : GoodIn wsX3_sheet (wsV RX3 63 RX3 yX3_done wsX3_done) := goodIn_app (goodIn_of _ (by decide +kernel)) ggX3_sheet_X3_done
theorem dX3_sheet_0 : decode cX3_sheet 0 = .ok (.iload_n 1, 1) := by decide +kernel
theorem dX3_sheet_1 : decode cX3_sheet 1 = .ok (.bipush 16, 2) := by decide +kernel
theorem dX3_sheet_3 : decode cX3_sheet 3 = .ok (.if_icmp .gt 9, 3) := by decide +kernel
theorem dX3_sheet_6 : decode cX3_sheet 6 = .ok (.iload_n 2, 1) := by decide +kernel
theorem dX3_sheet_7 : decode cX3_sheet 7 = .ok (.bipush 16, 2) := by decide +kernel
theorem dX3_sheet_9 : decode cX3_sheet 9 = .ok (.if_icmp .le 10, 3) := by decide +kernel
theorem dX3_sheet_12 : decode cX3_sheet 12 = .ok (.aload_n 0, 1) := by decide +kernel
theorem dX3_sheet_13 : decode cX3_sheet 13 = .ok (.iconst 1, 1) := by decide +kernel
theorem dX3_sheet_14 : decode cX3_sheet 14 = .ok (.iconst (-1), 1) := by decide +kernel
theorem dX3_sheet_15 : decode cX3_sheet 15 = .ok (.invokevirtual 59, 3) := by decide +kernel
theorem dX3_sheet_18 : decode cX3_sheet 18 = .ok (.ireturn, 1) := by decide +kernel
theorem dX3_sheet_19 : decode cX3_sheet 19 = .ok (.iload_n 1, 1) := by decide +kernel
theorem dX3_sheet_20 : decode cX3_sheet 20 = .ok (.ifCond .lt 7, 3) := by decide +kernel
theorem dX3_sheet_23 : decode cX3_sheet 23 = .ok (.iload_n 2, 1) := by decide +kernel
theorem dX3_sheet_24 : decode cX3_sheet 24 = .ok (.ifCond .ge 10, 3) := by decide +kernel
theorem dX3_sheet_27 : decode cX3_sheet 27 = .ok (.aload_n 0, 1) := by decide +kernel
theorem dX3_sheet_28 : decode cX3_sheet 28 = .ok (.iconst 4, 1) := by decide +kernel
theorem dX3_sheet_29 : decode cX3_sheet 29 = .ok (.iconst (-1), 1) := by decide +kernel
theorem dX3_sheet_30 : decode cX3_sheet 30 = .ok (.invokevirtual 59, 3) := by decide +kernel
theorem dX3_sheet_33 : decode cX3_sheet 33 = .ok (.ireturn, 1) := by decide +kernel
theorem dX3_sheet_34 : decode cX3_sheet 34 = .ok (.aload_n 0, 1) := by decide +kernel
theorem dX3_sheet_35 : decode cX3_sheet 35 = .ok (.iload_n 1, 1) := by decide +kernel
theorem dX3_sheet_36 : decode cX3_sheet 36 = .ok (.putfield 35, 3) := by decide +kernel
theorem dX3_sheet_39 : decode cX3_sheet 39 = .ok (.aload_n 0, 1) := by decide +kernel
theorem dX3_sheet_40 : decode cX3_sheet 40 = .ok (.iload_n 2, 1) := by decide +kernel
theorem dX3_sheet_41 : decode cX3_sheet 41 = .ok (.putfield 38, 3) := by decide +kernel
theorem dX3_sheet_44 : decode cX3_sheet 44 = .ok (.iconst 0, 1) := by decide +kernel
theorem dX3_sheet_45 : decode cX3_sheet 45 = .ok (.istore_n 3, 1) := by decide +kernel
theorem dX3_sheet_46 : decode cX3_sheet 46 = .ok (.iload_n 3, 1) := by decide +kernel
theorem dX3_sheet_47 : decode cX3_sheet 47 = .ok (.sipush 256, 3) := by decide +kernel
theorem dX3_sheet_50 : decode cX3_sheet 50 = .ok (.if_icmp .ge 16, 3) := by decide +kernel
theorem dX3_sheet_53 : decode cX3_sheet 53 = .ok (.aload_n 0, 1) := by decide +kernel
theorem dX3_sheet_54 : decode cX3_sheet 54 = .ok (.getfield 41, 3) := by decide +kernel
theorem dX3_sheet_57 : decode cX3_sheet 57 = .ok (.iload_n 3, 1) := by decide +kernel
theorem dX3_sheet_58 : decode cX3_sheet 58 = .ok (.iconst 0, 1) := by decide +kernel
theorem dX3_sheet_59 : decode cX3_sheet 59 = .ok (.iastore, 1) := by decide +kernel
theorem dX3_sheet_60 : decode cX3_sheet 60 = .ok (.iinc 3 1, 3) := by decide +kernel
theorem dX3_sheet_63 : decode cX3_sheet 63 = .ok (.goto (-17), 3) := by decide +kernel
theorem dX3_sheet_66 : decode cX3_sheet 66 = .ok (.aload_n 0, 1) := by decide +kernel
theorem dX3_sheet_67 : decode cX3_sheet 67 = .ok (.iload_n 1, 1) := by decide +kernel
theorem dX3_sheet_68 : decode cX3_sheet 68 = .ok (.iload_n 2, 1) := by decide +kernel
theorem dX3_sheet_69 : decode cX3_sheet 69 = .ok (.imul, 1) := by decide +kernel
theorem dX3_sheet_70 : decode cX3_sheet 70 = .ok (.invokevirtual 63, 3) := by decide +kernel
theorem dX3_sheet_73 : decode cX3_sheet 73 = .ok (.ireturn, 1) := by decide +kernel
theorem dX3_cellFault_0 : decode cX3_cellFault 0 = .ok (.aload_n 0, 1) := by decide +kernel
theorem dX3_cellFault_1 : decode cX3_cellFault 1 = .ok (.getfield 35, 3) := by decide +kernel
theorem dX3_cellFault_4 : decode cX3_cellFault 4 = .ok (.iconst (-1), 1) := by decide +kernel
theorem dX3_cellFault_5 : decode cX3_cellFault 5 = .ok (.if_icmp .ne 5, 3) := by decide +kernel
theorem dX3_cellFault_8 : decode cX3_cellFault 8 = .ok (.iconst 2, 1) := by decide +kernel
theorem dX3_cellFault_9 : decode cX3_cellFault 9 = .ok (.ireturn, 1) := by decide +kernel
theorem dX3_cellFault_10 : decode cX3_cellFault 10 = .ok (.iload_n 1, 1) := by decide +kernel
theorem dX3_cellFault_11 : decode cX3_cellFault 11 = .ok (.ifCond .lt 23, 3) := by decide +kernel
theorem dX3_cellFault_14 : decode cX3_cellFault 14 = .ok (.iload_n 1, 1) := by decide +kernel
theorem dX3_cellFault_15 : decode cX3_cellFault 15 = .ok (.aload_n 0, 1) := by decide +kernel
theorem dX3_cellFault_16 : decode cX3_cellFault 16 = .ok (.getfield 35, 3) := by decide +kernel
theorem dX3_cellFault_19 : decode cX3_cellFault 19 = .ok (.if_icmp .ge 15, 3) := by decide +kernel
theorem dX3_cellFault_22 : decode cX3_cellFault 22 = .ok (.iload_n 2, 1) := by decide +kernel
theorem dX3_cellFault_23 : decode cX3_cellFault 23 = .ok (.ifCond .lt 11, 3) := by decide +kernel
theorem dX3_cellFault_26 : decode cX3_cellFault 26 = .ok (.iload_n 2, 1) := by decide +kernel
theorem dX3_cellFault_27 : decode cX3_cellFault 27 = .ok (.aload_n 0, 1) := by decide +kernel
theorem dX3_cellFault_28 : decode cX3_cellFault 28 = .ok (.getfield 38, 3) := by decide +kernel
theorem dX3_cellFault_31 : decode cX3_cellFault 31 = .ok (.if_icmp .lt 7, 3) := by decide +kernel
theorem dX3_cellFault_34 : decode cX3_cellFault 34 = .ok (.iconst 3, 1) := by decide +kernel
theorem dX3_cellFault_35 : decode cX3_cellFault 35 = .ok (.goto 4, 3) := by decide +kernel
theorem dX3_cellFault_38 : decode cX3_cellFault 38 = .ok (.iconst 0, 1) := by decide +kernel
theorem dX3_cellFault_39 : decode cX3_cellFault 39 = .ok (.ireturn, 1) := by decide +kernel
set_option maxRecDepth 20000 in
theorem ggX3_cue_X3_cellFault : GoodIn wsX3_cue wsX3_cellFault := goodIn_r _ [6, 7, 8, 18, 19, 20, 21, 22, 23, 24, 25, 26, 27, 28, 29, 30, 31, 32, 33, 34] (by decide +kernel) (by decide +kernel)
set_option maxRecDepth 20000 in
theorem gX3_cue_X3_cellFault : GoodIn wsX3_cue (wsV RX3 102 RX3 yX3_cellFault wsX3_cellFault) := goodIn_app (goodIn_of _ (by decide +kernel)) ggX3_cue_X3_cellFault
set_option maxRecDepth 20000 in
theorem ggX3_cue_X3_fails : GoodIn wsX3_cue wsX3_fails := goodIn_r _ [12, 13, 18, 19, 20, 21, 22, 23, 24, 25, 26, 27, 28, 29, 30, 31, 32, 33, 34] (by decide +kernel) (by decide +kernel)
set_option maxRecDepth 20000 in
theorem gX3_cue_X3_fails : GoodIn wsX3_cue (wsV RX3 59 RX3 yX3_fails wsX3_fails) := goodIn_app (goodIn_of _ (by decide +kernel)) ggX3_cue_X3_fails
set_option maxRecDepth 20000 in
theorem ggX3_cue_X3_done : GoodIn wsX3_cue wsX3_done := goodIn_r _ [17, 13, 18, 19, 20, 21, 22, 23, 24, 25, 26, 27, 28, 29, 30, 31, 32, 33, 34] (by decide +kernel) (by decide +kernel)
set_option maxRecDepth 20000 in
theorem gX3_cue_X3_done : GoodIn wsX3_cue (wsV RX3 63 RX3 yX3_done wsX3_done) := goodIn_app (goodIn_of _ (by decide +kernel)) ggX3_cue_X3_done
theorem dX3_cue_0 : decode cX3_cue 0 = .ok (.aload_n 0, 1) := by decide +kernel
theorem dX3_cue_1 : decode cX3_cue 1 = .ok (.iload_n 1, 1) := by decide +kernel
theorem dX3_cue_2 : decode cX3_cue 2 = .ok (.iload_n 2, 1) := by decide +kernel
theorem dX3_cue_3 : decode cX3_cue 3 = .ok (.invokevirtual 102, 3) := by decide +kernel
theorem dX3_cue_6 : decode cX3_cue 6 = .ok (.istore 4, 2) := by decide +kernel
theorem dX3_cue_8 : decode cX3_cue 8 = .ok (.iload 4, 2) := by decide +kernel
theorem dX3_cue_10 : decode cX3_cue 10 = .ok (.ifCond .eq 11, 3) := by decide +kernel
theorem dX3_cue_13 : decode cX3_cue 13 = .ok (.aload_n 0, 1) := by decide +kernel
theorem dX3_cue_14 : decode cX3_cue 14 = .ok (.iload 4, 2) := by decide +kernel
theorem dX3_cue_16 : decode cX3_cue 16 = .ok (.iconst 0, 1) := by decide +kernel
theorem dX3_cue_17 : decode cX3_cue 17 = .ok (.invokevirtual 59, 3) := by decide +kernel
theorem dX3_cue_20 : decode cX3_cue 20 = .ok (.ireturn, 1) := by decide +kernel
theorem dX3_cue_21 : decode cX3_cue 21 = .ok (.aload_n 0, 1) := by decide +kernel
theorem dX3_cue_22 : decode cX3_cue 22 = .ok (.getfield 41, 3) := by decide +kernel
theorem dX3_cue_25 : decode cX3_cue 25 = .ok (.bipush 16, 2) := by decide +kernel
theorem dX3_cue_27 : decode cX3_cue 27 = .ok (.iload_n 1, 1) := by decide +kernel
theorem dX3_cue_28 : decode cX3_cue 28 = .ok (.imul, 1) := by decide +kernel
theorem dX3_cue_29 : decode cX3_cue 29 = .ok (.iload_n 2, 1) := by decide +kernel
theorem dX3_cue_30 : decode cX3_cue 30 = .ok (.iadd, 1) := by decide +kernel
theorem dX3_cue_31 : decode cX3_cue 31 = .ok (.iaload, 1) := by decide +kernel
theorem dX3_cue_32 : decode cX3_cue 32 = .ok (.istore 5, 2) := by decide +kernel
theorem dX3_cue_34 : decode cX3_cue 34 = .ok (.aload_n 0, 1) := by decide +kernel
theorem dX3_cue_35 : decode cX3_cue 35 = .ok (.getfield 41, 3) := by decide +kernel
theorem dX3_cue_38 : decode cX3_cue 38 = .ok (.bipush 16, 2) := by decide +kernel
theorem dX3_cue_40 : decode cX3_cue 40 = .ok (.iload_n 1, 1) := by decide +kernel
theorem dX3_cue_41 : decode cX3_cue 41 = .ok (.imul, 1) := by decide +kernel
theorem dX3_cue_42 : decode cX3_cue 42 = .ok (.iload_n 2, 1) := by decide +kernel
theorem dX3_cue_43 : decode cX3_cue 43 = .ok (.iadd, 1) := by decide +kernel
theorem dX3_cue_44 : decode cX3_cue 44 = .ok (.iload_n 3, 1) := by decide +kernel
theorem dX3_cue_45 : decode cX3_cue 45 = .ok (.iastore, 1) := by decide +kernel
theorem dX3_cue_46 : decode cX3_cue 46 = .ok (.aload_n 0, 1) := by decide +kernel
theorem dX3_cue_47 : decode cX3_cue 47 = .ok (.iload 5, 2) := by decide +kernel
theorem dX3_cue_49 : decode cX3_cue 49 = .ok (.invokevirtual 63, 3) := by decide +kernel
theorem dX3_cue_52 : decode cX3_cue 52 = .ok (.ireturn, 1) := by decide +kernel
set_option maxRecDepth 20000 in
theorem ggX3_seek_X3_cellFault : GoodIn wsX3_seek wsX3_cellFault := goodIn_r _ [7, 8, 9, 19, 20, 21, 22, 23, 24, 25, 26, 27, 28, 29, 30, 31, 32, 33, 34, 35] (by decide +kernel) (by decide +kernel)
set_option maxRecDepth 20000 in
theorem gX3_seek_X3_cellFault : GoodIn wsX3_seek (wsV RX3 102 RX3 yX3_cellFault wsX3_cellFault) := goodIn_app (goodIn_of _ (by decide +kernel)) ggX3_seek_X3_cellFault
set_option maxRecDepth 20000 in
theorem ggX3_seek_X3_fails : GoodIn wsX3_seek wsX3_fails := goodIn_r _ [13, 14, 19, 20, 21, 22, 23, 24, 25, 26, 27, 28, 29, 30, 31, 32, 33, 34, 35] (by decide +kernel) (by decide +kernel)
set_option maxRecDepth 20000 in
theorem gX3_seek_X3_fails : GoodIn wsX3_seek (wsV RX3 59 RX3 yX3_fails wsX3_fails) := goodIn_app (goodIn_of _ (by decide +kernel)) ggX3_seek_X3_fails
set_option maxRecDepth 20000 in
theorem ggX3_seek_X3_done : GoodIn wsX3_seek wsX3_done := goodIn_r _ [18, 14, 19, 20, 21, 22, 23, 24, 25, 26, 27, 28, 29, 30, 31, 32, 33, 34, 35] (by decide +kernel) (by decide +kernel)
set_option maxRecDepth 20000 in
theorem gX3_seek_X3_done : GoodIn wsX3_seek (wsV RX3 63 RX3 yX3_done wsX3_done) := goodIn_app (goodIn_of _ (by decide +kernel)) ggX3_seek_X3_done
theorem dX3_seek_0 : decode cX3_seek 0 = .ok (.aload_n 0, 1) := by decide +kernel
theorem dX3_seek_1 : decode cX3_seek 1 = .ok (.iload_n 1, 1) := by decide +kernel
theorem dX3_seek_2 : decode cX3_seek 2 = .ok (.iload_n 2, 1) := by decide +kernel
theorem dX3_seek_3 : decode cX3_seek 3 = .ok (.invokevirtual 102, 3) := by decide +kernel
theorem dX3_seek_6 : decode cX3_seek 6 = .ok (.istore_n 3, 1) := by decide +kernel
theorem dX3_seek_7 : decode cX3_seek 7 = .ok (.iload_n 3, 1) := by decide +kernel
theorem dX3_seek_8 : decode cX3_seek 8 = .ok (.ifCond .eq 13, 3) := by decide +kernel
theorem dX3_seek_11 : decode cX3_seek 11 = .ok (.aload_n 0, 1) := by decide +kernel
theorem dX3_seek_12 : decode cX3_seek 12 = .ok (.iload_n 3, 1) := by decide +kernel
theorem dX3_seek_13 : decode cX3_seek 13 = .ok (.aload_n 0, 1) := by decide +kernel
theorem dX3_seek_14 : decode cX3_seek 14 = .ok (.getfield 56, 3) := by decide +kernel
theorem dX3_seek_17 : decode cX3_seek 17 = .ok (.invokevirtual 59, 3) := by decide +kernel
theorem dX3_seek_20 : decode cX3_seek 20 = .ok (.ireturn, 1) := by decide +kernel
theorem dX3_seek_21 : decode cX3_seek 21 = .ok (.aload_n 0, 1) := by decide +kernel
theorem dX3_seek_22 : decode cX3_seek 22 = .ok (.aload_n 0, 1) := by decide +kernel
theorem dX3_seek_23 : decode cX3_seek 23 = .ok (.getfield 41, 3) := by decide +kernel
theorem dX3_seek_26 : decode cX3_seek 26 = .ok (.bipush 16, 2) := by decide +kernel
theorem dX3_seek_28 : decode cX3_seek 28 = .ok (.iload_n 1, 1) := by decide +kernel
theorem dX3_seek_29 : decode cX3_seek 29 = .ok (.imul, 1) := by decide +kernel
theorem dX3_seek_30 : decode cX3_seek 30 = .ok (.iload_n 2, 1) := by decide +kernel
theorem dX3_seek_31 : decode cX3_seek 31 = .ok (.iadd, 1) := by decide +kernel
theorem dX3_seek_32 : decode cX3_seek 32 = .ok (.iaload, 1) := by decide +kernel
theorem dX3_seek_33 : decode cX3_seek 33 = .ok (.putfield 56, 3) := by decide +kernel
theorem dX3_seek_36 : decode cX3_seek 36 = .ok (.aload_n 0, 1) := by decide +kernel
theorem dX3_seek_37 : decode cX3_seek 37 = .ok (.aload_n 0, 1) := by decide +kernel
theorem dX3_seek_38 : decode cX3_seek 38 = .ok (.getfield 56, 3) := by decide +kernel
theorem dX3_seek_41 : decode cX3_seek 41 = .ok (.invokevirtual 63, 3) := by decide +kernel
theorem dX3_seek_44 : decode cX3_seek 44 = .ok (.ireturn, 1) := by decide +kernel
theorem dX3_trip_0 : decode cX3_trip 0 = .ok (.iload_n 1, 1) := by decide +kernel
theorem dX3_trip_1 : decode cX3_trip 1 = .ok (.ifCond .ne 10, 3) := by decide +kernel
theorem dX3_trip_4 : decode cX3_trip 4 = .ok (.aload_n 0, 1) := by decide +kernel
theorem dX3_trip_5 : decode cX3_trip 5 = .ok (.getfield 32, 3) := by decide +kernel
theorem dX3_trip_8 : decode cX3_trip 8 = .ok (.goto 16, 3) := by decide +kernel
theorem dX3_trip_11 : decode cX3_trip 11 = .ok (.iload_n 1, 1) := by decide +kernel
theorem dX3_trip_12 : decode cX3_trip 12 = .ok (.iconst 1, 1) := by decide +kernel
theorem dX3_trip_13 : decode cX3_trip 13 = .ok (.if_icmp .ne 10, 3) := by decide +kernel
theorem dX3_trip_16 : decode cX3_trip 16 = .ok (.aload_n 0, 1) := by decide +kernel
theorem dX3_trip_17 : decode cX3_trip 17 = .ok (.getfield 96, 3) := by decide +kernel
theorem dX3_trip_20 : decode cX3_trip 20 = .ok (.goto 4, 3) := by decide +kernel
theorem dX3_trip_23 : decode cX3_trip 23 = .ok (.iconst (-1), 1) := by decide +kernel
theorem dX3_trip_24 : decode cX3_trip 24 = .ok (.ireturn, 1) := by decide +kernel
set_option maxRecDepth 20000 in
theorem ggX3_meter_X3_isTrack : GoodIn wsX3_meter wsX3_isTrack := goodIn_r _ [6] (by decide +kernel) (by decide +kernel)
set_option maxRecDepth 20000 in
theorem gX3_meter_X3_isTrack : GoodIn wsX3_meter (wsV RX3 71 RX3 yX3_isTrack wsX3_isTrack) := goodIn_app (goodIn_of _ (by decide +kernel)) ggX3_meter_X3_isTrack
theorem dX3_meter_0 : decode cX3_meter 0 = .ok (.aload_n 0, 1) := by decide +kernel
theorem dX3_meter_1 : decode cX3_meter 1 = .ok (.iload_n 1, 1) := by decide +kernel
theorem dX3_meter_2 : decode cX3_meter 2 = .ok (.invokevirtual 71, 3) := by decide +kernel
theorem dX3_meter_5 : decode cX3_meter 5 = .ok (.ifCond .eq 12, 3) := by decide +kernel
theorem dX3_meter_8 : decode cX3_meter 8 = .ok (.aload_n 0, 1) := by decide +kernel
theorem dX3_meter_9 : decode cX3_meter 9 = .ok (.getfield 29, 3) := by decide +kernel
theorem dX3_meter_12 : decode cX3_meter 12 = .ok (.iload_n 1, 1) := by decide +kernel
theorem dX3_meter_13 : decode cX3_meter 13 = .ok (.iaload, 1) := by decide +kernel
theorem dX3_meter_14 : decode cX3_meter 14 = .ok (.goto 4, 3) := by decide +kernel
theorem dX3_meter_17 : decode cX3_meter 17 = .ok (.iconst 0, 1) := by decide +kernel
theorem dX3_meter_18 : decode cX3_meter 18 = .ok (.ireturn, 1) := by decide +kernel
set_option maxRecDepth 20000 in
theorem ggX3_count_X3_isReel : GoodIn wsX3_count wsX3_isReel := goodIn_r _ [12, 2, 13, 14, 15, 16, 17, 18, 19, 20, 21, 22, 23, 24, 25, 26, 27, 28, 29] (by decide +kernel) (by decide +kernel)
set_option maxRecDepth 20000 in
theorem gX3_count_X3_isReel : GoodIn wsX3_count (wsV RX3 67 RX3 yX3_isReel wsX3_isReel) := goodIn_app (goodIn_of _ (by decide +kernel)) ggX3_count_X3_isReel
theorem dX3_count_0 : decode cX3_count 0 = .ok (.iload_n 1, 1) := by decide +kernel
theorem dX3_count_1 : decode cX3_count 1 = .ok (.bipush 10, 2) := by decide +kernel
theorem dX3_count_3 : decode cX3_count 3 = .ok (.if_icmp .lt 34, 3) := by decide +kernel
theorem dX3_count_6 : decode cX3_count 6 = .ok (.iload_n 1, 1) := by decide +kernel
theorem dX3_count_7 : decode cX3_count 7 = .ok (.bipush 17, 2) := by decide +kernel
theorem dX3_count_9 : decode cX3_count 9 = .ok (.if_icmp .gt 28, 3) := by decide +kernel
theorem dX3_count_12 : decode cX3_count 12 = .ok (.aload_n 0, 1) := by decide +kernel
theorem dX3_count_13 : decode cX3_count 13 = .ok (.iload_n 1, 1) := by decide +kernel
theorem dX3_count_14 : decode cX3_count 14 = .ok (.bipush 10, 2) := by decide +kernel
theorem dX3_count_16 : decode cX3_count 16 = .ok (.isub, 1) := by decide +kernel
theorem dX3_count_17 : decode cX3_count 17 = .ok (.invokevirtual 67, 3) := by decide +kernel
theorem dX3_count_20 : decode cX3_count 20 = .ok (.ifCond .eq 15, 3) := by decide +kernel
theorem dX3_count_23 : decode cX3_count 23 = .ok (.aload_n 0, 1) := by decide +kernel
theorem dX3_count_24 : decode cX3_count 24 = .ok (.getfield 13, 3) := by decide +kernel
theorem dX3_count_27 : decode cX3_count 27 = .ok (.iload_n 1, 1) := by decide +kernel
theorem dX3_count_28 : decode cX3_count 28 = .ok (.bipush 10, 2) := by decide +kernel
theorem dX3_count_30 : decode cX3_count 30 = .ok (.isub, 1) := by decide +kernel
theorem dX3_count_31 : decode cX3_count 31 = .ok (.iaload, 1) := by decide +kernel
theorem dX3_count_32 : decode cX3_count 32 = .ok (.goto 4, 3) := by decide +kernel
theorem dX3_count_35 : decode cX3_count 35 = .ok (.iconst (-1), 1) := by decide +kernel
theorem dX3_count_36 : decode cX3_count 36 = .ok (.ireturn, 1) := by decide +kernel
theorem dX3_count_37 : decode cX3_count 37 = .ok (.iload_n 1, 1) := by decide +kernel
theorem dX3_count_38 : decode cX3_count 38 = .ok (.tableswitch 68 0 5 #[38, 43, 48, 53, 58, 63], 38) := by decide +kernel
theorem dX3_count_76 : decode cX3_count 76 = .ok (.aload_n 0, 1) := by decide +kernel
theorem dX3_count_77 : decode cX3_count 77 = .ok (.getfield 47, 3) := by decide +kernel
theorem dX3_count_80 : decode cX3_count 80 = .ok (.ireturn, 1) := by decide +kernel
theorem dX3_count_81 : decode cX3_count 81 = .ok (.aload_n 0, 1) := by decide +kernel
theorem dX3_count_82 : decode cX3_count 82 = .ok (.getfield 19, 3) := by decide +kernel
theorem dX3_count_85 : decode cX3_count 85 = .ok (.ireturn, 1) := by decide +kernel
theorem dX3_count_86 : decode cX3_count 86 = .ok (.aload_n 0, 1) := by decide +kernel
theorem dX3_count_87 : decode cX3_count 87 = .ok (.getfield 56, 3) := by decide +kernel
theorem dX3_count_90 : decode cX3_count 90 = .ok (.ireturn, 1) := by decide +kernel
theorem dX3_count_91 : decode cX3_count 91 = .ok (.aload_n 0, 1) := by decide +kernel
theorem dX3_count_92 : decode cX3_count 92 = .ok (.getfield 78, 3) := by decide +kernel
theorem dX3_count_95 : decode cX3_count 95 = .ok (.ireturn, 1) := by decide +kernel
theorem dX3_count_96 : decode cX3_count 96 = .ok (.aload_n 0, 1) := by decide +kernel
theorem dX3_count_97 : decode cX3_count 97 = .ok (.getfield 35, 3) := by decide +kernel
theorem dX3_count_100 : decode cX3_count 100 = .ok (.ireturn, 1) := by decide +kernel
theorem dX3_count_101 : decode cX3_count 101 = .ok (.aload_n 0, 1) := by decide +kernel
theorem dX3_count_102 : decode cX3_count 102 = .ok (.getfield 38, 3) := by decide +kernel
theorem dX3_count_105 : decode cX3_count 105 = .ok (.ireturn, 1) := by decide +kernel
theorem dX3_count_106 : decode cX3_count 106 = .ok (.iconst (-1), 1) := by decide +kernel
theorem dX3_count_107 : decode cX3_count 107 = .ok (.ireturn, 1) := by decide +kernel
theorem dX3_status_0 : decode cX3_status 0 = .ok (.aload_n 0, 1) := by decide +kernel
theorem dX3_status_1 : decode cX3_status 1 = .ok (.getfield 44, 3) := by decide +kernel
theorem dX3_status_4 : decode cX3_status 4 = .ok (.ireturn, 1) := by decide +kernel
end
section
theorem dJ9_max_7cf53_0 : decode cJ9_max_7cf53 0 = .ok (.iload_n 0, 1) := by decide +kernel
theorem dJ9_max_7cf53_1 : decode cJ9_max_7cf53 1 = .ok (.iload_n 1, 1) := by decide +kernel
theorem dJ9_max_7cf53_2 : decode cJ9_max_7cf53 2 = .ok (.if_icmp .lt 7, 3) := by decide +kernel
theorem dJ9_max_7cf53_5 : decode cJ9_max_7cf53 5 = .ok (.iload_n 0, 1) := by decide +kernel
theorem dJ9_max_7cf53_6 : decode cJ9_max_7cf53 6 = .ok (.goto 4, 3) := by decide +kernel
theorem dJ9_max_7cf53_9 : decode cJ9_max_7cf53 9 = .ok (.iload_n 1, 1) := by decide +kernel
theorem dJ9_max_7cf53_10 : decode cJ9_max_7cf53 10 = .ok (.ireturn, 1) := by decide +kernel
theorem dJ9_min_7cf53_0 : decode cJ9_min_7cf53 0 = .ok (.iload_n 0, 1) := by decide +kernel
theorem dJ9_min_7cf53_1 : decode cJ9_min_7cf53 1 = .ok (.iload_n 1, 1) := by decide +kernel
theorem dJ9_min_7cf53_2 : decode cJ9_min_7cf53 2 = .ok (.if_icmp .gt 7, 3) := by decide +kernel
theorem dJ9_min_7cf53_5 : decode cJ9_min_7cf53 5 = .ok (.iload_n 0, 1) := by decide +kernel
theorem dJ9_min_7cf53_6 : decode cJ9_min_7cf53 6 = .ok (.goto 4, 3) := by decide +kernel
theorem dJ9_min_7cf53_9 : decode cJ9_min_7cf53 9 = .ok (.iload_n 1, 1) := by decide +kernel
theorem dJ9_min_7cf53_10 : decode cJ9_min_7cf53 10 = .ok (.ireturn, 1) := by decide +kernel
theorem dJ7_fill_53178_0 : decode cJ7_fill_53178 0 = .ok (.iconst 0, 1) := by decide +kernel
theorem dJ7_fill_53178_1 : decode cJ7_fill_53178 1 = .ok (.istore_n 2, 1) := by decide +kernel
theorem dJ7_fill_53178_2 : decode cJ7_fill_53178 2 = .ok (.aload_n 0, 1) := by decide +kernel
theorem dJ7_fill_53178_3 : decode cJ7_fill_53178 3 = .ok (.arraylength, 1) := by decide +kernel
theorem dJ7_fill_53178_4 : decode cJ7_fill_53178 4 = .ok (.istore_n 3, 1) := by decide +kernel
theorem dJ7_fill_53178_5 : decode cJ7_fill_53178 5 = .ok (.iload_n 2, 1) := by decide +kernel
theorem dJ7_fill_53178_6 : decode cJ7_fill_53178 6 = .ok (.iload_n 3, 1) := by decide +kernel
theorem dJ7_fill_53178_7 : decode cJ7_fill_53178 7 = .ok (.if_icmp .ge 13, 3) := by decide +kernel
theorem dJ7_fill_53178_10 : decode cJ7_fill_53178 10 = .ok (.aload_n 0, 1) := by decide +kernel
theorem dJ7_fill_53178_11 : decode cJ7_fill_53178 11 = .ok (.iload_n 2, 1) := by decide +kernel
theorem dJ7_fill_53178_12 : decode cJ7_fill_53178 12 = .ok (.iload_n 1, 1) := by decide +kernel
theorem dJ7_fill_53178_13 : decode cJ7_fill_53178 13 = .ok (.iastore, 1) := by decide +kernel
theorem dJ7_fill_53178_14 : decode cJ7_fill_53178 14 = .ok (.iinc 2 1, 3) := by decide +kernel
theorem dJ7_fill_53178_17 : decode cJ7_fill_53178 17 = .ok (.goto (-12), 3) := by decide +kernel
theorem dJ7_fill_53178_20 : decode cJ7_fill_53178 20 = .ok (.return_, 1) := by decide +kernel
set_option maxRecDepth 20000 in
theorem ggL_law_X2_init : GoodIn wsL_law wsX2_init := goodIn_r _ [8, 9, 10, 11, 12, 13, 14, 15, 16, 17, 18, 19, 20, 21, 22, 23, 24, 25, 26, 27, 28, 370, 371, 372, 373, 374, 375, 376, 377, 378, 379, 380, 381, 382, 383, 384] (by decide +kernel) (by decide +kernel)
set_option maxRecDepth 20000 in
theorem gL_law_X2_init : GoodIn wsL_law (wsX2_init) := ggL_law_X2_init
set_option maxRecDepth 20000 in
theorem ggL_law_X3_init : GoodIn wsL_law wsX3_init := goodIn_r _ [31, 32, 10, 11, 17, 33, 34, 35, 36, 37, 38, 39, 40, 41, 42, 43, 385, 386, 387, 388, 389, 390, 391, 392, 393, 394, 395, 396, 397, 398, 399, 400, 401] (by decide +kernel) (by decide +kernel)
set_option maxRecDepth 20000 in
theorem gL_law_X3_init : GoodIn wsL_law (wsX3_init) := ggL_law_X3_init
set_option maxRecDepth 20000 in
theorem ggL_law_X2_reel : GoodIn wsL_law wsX2_reel := goodIn_r _ [47, 14, 13, 12, 48, 49, 50, 51, 2, 52, 53, 54, 55, 56, 28, 57, 58, 59, 10, 11, 60, 61, 62, 63, 64, 65, 66, 67, 17, 68, 69, 370, 371, 372, 373, 374, 375, 376, 377, 378, 379, 380, 381, 382, 383, 384, 402, 403, 404, 405] (by decide +kernel) (by decide +kernel)
set_option maxRecDepth 20000 in
theorem gL_law_X2_reel : GoodIn wsL_law (wsV RL 13 RX2 yX2_reel wsX2_reel) := goodIn_app (goodIn_of _ (by decide +kernel)) ggL_law_X2_reel
set_option maxRecDepth 20000 in
theorem ggL_law_X3_reel : GoodIn wsL_law wsX3_reel := goodIn_r _ [73, 74, 33, 34, 75, 76, 77, 5, 78, 79, 80, 81, 82, 83, 385, 386, 387, 388, 389, 390, 391, 392, 393, 394, 395, 396, 397, 398, 399, 400, 401] (by decide +kernel) (by decide +kernel)
set_option maxRecDepth 20000 in
theorem gL_law_X3_reel : GoodIn wsL_law (wsV RL 17 RX3 yX3_reel wsX3_reel) := goodIn_app (goodIn_of _ (by decide +kernel)) ggL_law_X3_reel
set_option maxRecDepth 20000 in
theorem ggL_law_X2_strip : GoodIn wsL_law wsX2_strip := goodIn_r _ [87, 88, 89, 90, 2, 91, 92, 93, 94, 95, 13, 96, 97, 98, 50, 51, 52, 53, 54, 55, 56, 28, 403, 404, 405, 402, 370, 371, 372, 373, 374, 375, 376, 377, 378, 379, 380, 381, 382, 383, 384] (by decide +kernel) (by decide +kernel)
set_option maxRecDepth 20000 in
theorem gL_law_X2_strip : GoodIn wsL_law (wsV RL 18 RX2 yX2_strip wsX2_strip) := goodIn_app (goodIn_of _ (by decide +kernel)) ggL_law_X2_strip
set_option maxRecDepth 20000 in
theorem ggL_law_X3_strip : GoodIn wsL_law wsX3_strip := goodIn_r _ [102, 34, 103, 104, 105, 5, 106, 74, 107, 108, 109, 110, 75, 76, 77, 78, 79, 111, 112, 113, 114, 80, 81, 82, 83, 385, 386, 387, 388, 389, 390, 391, 392, 393, 394, 395, 396, 397, 398, 399, 400, 401] (by decide +kernel) (by decide +kernel)
set_option maxRecDepth 20000 in
theorem gL_law_X3_strip : GoodIn wsL_law (wsV RL 21 RX3 yX3_strip wsX3_strip) := goodIn_app (goodIn_of _ (by decide +kernel)) ggL_law_X3_strip
set_option maxRecDepth 20000 in
theorem ggL_law_X2_lay : GoodIn wsL_law wsX2_lay := goodIn_r _ [118, 88, 89, 90, 2, 91, 92, 93, 94, 95, 13, 96, 97, 98, 50, 51, 52, 53, 54, 55, 56, 28, 119, 63, 120, 121, 68, 122, 123, 124, 125, 403, 404, 405, 402, 370, 371, 372, 373, 374, 375, 376, 377, 378, 379, 380, 381, 382, 383, 384] (by decide +kernel) (by decide +kernel)
set_option maxRecDepth 20000 in
theorem gL_law_X2_lay : GoodIn wsL_law (wsV RL 22 RX2 yX2_lay wsX2_lay) := goodIn_app (goodIn_of _ (by decide +kernel)) ggL_law_X2_lay
set_option maxRecDepth 20000 in
theorem ggL_law_X3_lay : GoodIn wsL_law wsX3_lay := goodIn_r _ [129, 34, 35, 103, 104, 105, 5, 106, 74, 107, 108, 109, 110, 75, 76, 77, 78, 79, 111, 112, 113, 114, 130, 131, 132, 133, 80, 81, 82, 83, 385, 386, 387, 388, 389, 390, 391, 392, 393, 394, 395, 396, 397, 398, 399, 400, 401] (by decide +kernel) (by decide +kernel)
set_option maxRecDepth 20000 in
theorem gL_law_X3_lay : GoodIn wsL_law (wsV RL 25 RX3 yX3_lay wsX3_lay) := goodIn_app (goodIn_of _ (by decide +kernel)) ggL_law_X3_lay
set_option maxRecDepth 20000 in
theorem ggL_law_X2_thread : GoodIn wsL_law wsX2_thread := goodIn_r _ [137, 15, 92, 93, 94, 2, 95, 13, 53, 54, 55, 56, 28, 370, 371, 372, 373, 374, 375, 376, 377, 378, 379, 380, 381, 382, 383, 384] (by decide +kernel) (by decide +kernel)
set_option maxRecDepth 20000 in
theorem gL_law_X2_thread : GoodIn wsL_law (wsV RL 26 RX2 yX2_thread wsX2_thread) := goodIn_app (goodIn_of _ (by decide +kernel)) ggL_law_X2_thread
set_option maxRecDepth 20000 in
theorem ggL_law_X3_thread : GoodIn wsL_law wsX3_thread := goodIn_r _ [141, 36, 103, 104, 105, 5, 106, 74, 75, 76, 77, 78, 79, 80, 81, 82, 83, 385, 386, 387, 388, 389, 390, 391, 392, 393, 394, 395, 396, 397, 398, 399, 400, 401] (by decide +kernel) (by decide +kernel)
set_option maxRecDepth 20000 in
theorem gL_law_X3_thread : GoodIn wsL_law (wsV RL 30 RX3 yX3_thread wsX3_thread) := goodIn_app (goodIn_of _ (by decide +kernel)) ggL_law_X3_thread
set_option maxRecDepth 20000 in
theorem ggL_law_X2_head : GoodIn wsL_law wsX2_head := goodIn_r _ [145, 18, 96, 97, 2, 98, 50, 51, 52, 53, 54, 55, 56, 28, 370, 371, 372, 373, 374, 375, 376, 377, 378, 379, 380, 381, 382, 383, 384] (by decide +kernel) (by decide +kernel)
set_option maxRecDepth 20000 in
theorem gL_law_X2_head : GoodIn wsL_law (wsV RL 31 RX2 yX2_head wsX2_head) := goodIn_app (goodIn_of _ (by decide +kernel)) ggL_law_X2_head
set_option maxRecDepth 20000 in
theorem ggL_law_X3_head : GoodIn wsL_law wsX3_head := goodIn_r _ [149, 37, 107, 108, 109, 5, 110, 75, 76, 77, 78, 79, 80, 81, 82, 83, 385, 386, 387, 388, 389, 390, 391, 392, 393, 394, 395, 396, 397, 398, 399, 400, 401] (by decide +kernel) (by decide +kernel)
set_option maxRecDepth 20000 in
theorem gL_law_X3_head : GoodIn wsL_law (wsV RL 34 RX3 yX3_head wsX3_head) := goodIn_app (goodIn_of _ (by decide +kernel)) ggL_law_X3_head
set_option maxRecDepth 20000 in
theorem ggL_law_X2_arm : GoodIn wsL_law wsX2_arm := goodIn_r _ [153, 19, 96, 97, 2, 98, 50, 51, 52, 53, 54, 55, 56, 28, 370, 371, 372, 373, 374, 375, 376, 377, 378, 379, 380, 381, 382, 383, 384] (by decide +kernel) (by decide +kernel)
set_option maxRecDepth 20000 in
theorem gL_law_X2_arm : GoodIn wsL_law (wsV RL 35 RX2 yX2_arm wsX2_arm) := goodIn_app (goodIn_of _ (by decide +kernel)) ggL_law_X2_arm
set_option maxRecDepth 20000 in
theorem ggL_law_X3_arm : GoodIn wsL_law wsX3_arm := goodIn_r _ [157, 38, 107, 108, 109, 5, 110, 75, 76, 77, 78, 79, 80, 81, 82, 83, 385, 386, 387, 388, 389, 390, 391, 392, 393, 394, 395, 396, 397, 398, 399, 400, 401] (by decide +kernel) (by decide +kernel)
set_option maxRecDepth 20000 in
theorem gL_law_X3_arm : GoodIn wsL_law (wsV RL 38 RX3 yX3_arm wsX3_arm) := goodIn_app (goodIn_of _ (by decide +kernel)) ggL_law_X3_arm
set_option maxRecDepth 20000 in
theorem ggL_law_X2_source : GoodIn wsL_law wsX2_source := goodIn_r _ [161, 21, 22, 53, 54, 55, 2, 56, 28, 370, 371, 372, 373, 374, 375, 376, 377, 378, 379, 380, 381, 382, 383, 384] (by decide +kernel) (by decide +kernel)
set_option maxRecDepth 20000 in
theorem gL_law_X2_source : GoodIn wsL_law (wsV RL 39 RX2 yX2_source wsX2_source) := goodIn_app (goodIn_of _ (by decide +kernel)) ggL_law_X2_source
set_option maxRecDepth 20000 in
theorem ggL_law_X3_source : GoodIn wsL_law wsX3_source := goodIn_r _ [165, 166, 167, 80, 81, 82, 5, 83, 79, 385, 386, 387, 388, 389, 390, 391, 392, 393, 394, 395, 396, 397, 398, 399, 400, 401] (by decide +kernel) (by decide +kernel)
set_option maxRecDepth 20000 in
theorem gL_law_X3_source : GoodIn wsL_law (wsV RL 42 RX3 yX3_source wsX3_source) := goodIn_app (goodIn_of _ (by decide +kernel)) ggL_law_X3_source
set_option maxRecDepth 20000 in
theorem ggL_law_X2_wind : GoodIn wsL_law wsX2_wind := goodIn_r _ [171, 16, 50, 51, 2, 52, 53, 54, 55, 56, 28, 370, 371, 372, 373, 374, 375, 376, 377, 378, 379, 380, 381, 382, 383, 384] (by decide +kernel) (by decide +kernel)
set_option maxRecDepth 20000 in
theorem gL_law_X2_wind : GoodIn wsL_law (wsV RL 43 RX2 yX2_wind wsX2_wind) := goodIn_app (goodIn_of _ (by decide +kernel)) ggL_law_X2_wind
set_option maxRecDepth 20000 in
theorem ggL_law_X3_wind : GoodIn wsL_law wsX3_wind := goodIn_r _ [175, 176, 75, 76, 77, 5, 78, 79, 80, 81, 82, 83, 385, 386, 387, 388, 389, 390, 391, 392, 393, 394, 395, 396, 397, 398, 399, 400, 401] (by decide +kernel) (by decide +kernel)
set_option maxRecDepth 20000 in
theorem gL_law_X3_wind : GoodIn wsL_law (wsV RL 46 RX3 yX3_wind wsX3_wind) := goodIn_app (goodIn_of _ (by decide +kernel)) ggL_law_X3_wind
set_option maxRecDepth 20000 in
theorem ggL_law_X2_read : GoodIn wsL_law wsX2_read := goodIn_r _ [180, 15, 88, 89, 90, 2, 91, 92, 93, 94, 95, 13, 96, 97, 98, 50, 51, 52, 181, 182, 183, 184, 53, 54, 55, 56, 28, 185, 186, 187, 188, 16, 18, 189, 63, 190, 191, 69, 68, 192, 193, 194, 195, 370, 371, 372, 373, 374, 375, 376, 377, 378, 379, 380, 381, 382, 383, 384, 402, 403, 404, 405] (by decide +kernel) (by decide +kernel)
set_option maxRecDepth 20000 in
theorem gL_law_X2_read : GoodIn wsL_law (wsV RL 47 RX2 yX2_read wsX2_read) := goodIn_app (goodIn_of _ (by decide +kernel)) ggL_law_X2_read
set_option maxRecDepth 20000 in
theorem ggL_law_X3_read : GoodIn wsL_law wsX3_read := goodIn_r _ [199, 35, 36, 200, 201, 202, 5, 203, 107, 108, 109, 110, 204, 205, 206, 207, 176, 37, 208, 209, 210, 211, 33, 111, 112, 113, 114, 34, 75, 76, 77, 78, 79, 130, 131, 132, 133, 80, 81, 82, 83, 385, 386, 387, 388, 389, 390, 391, 392, 393, 394, 395, 396, 397, 398, 399, 400, 401] (by decide +kernel) (by decide +kernel)
set_option maxRecDepth 20000 in
theorem gL_law_X3_read : GoodIn wsL_law (wsV RL 50 RX3 yX3_read wsX3_read) := goodIn_app (goodIn_of _ (by decide +kernel)) ggL_law_X3_read
set_option maxRecDepth 20000 in
theorem ggL_law_X2_write : GoodIn wsL_law wsX2_write := goodIn_r _ [215, 15, 88, 89, 90, 2, 91, 92, 93, 94, 95, 13, 96, 97, 98, 50, 51, 52, 181, 182, 183, 184, 53, 54, 55, 56, 28, 185, 186, 187, 188, 16, 18, 216, 63, 217, 218, 68, 195, 189, 190, 191, 69, 219, 220, 221, 222, 67, 223, 224, 225, 226, 227, 228, 229, 230, 231, 192, 193, 194, 370, 371, 372, 373, 374, 375, 376, 377, 378, 379, 380, 381, 382, 383, 384, 402, 403, 404, 405] (by decide +kernel) (by decide +kernel)
set_option maxRecDepth 20000 in
theorem gL_law_X2_write : GoodIn wsL_law (wsV RL 51 RX2 yX2_write wsX2_write) := goodIn_app (goodIn_of _ (by decide +kernel)) ggL_law_X2_write
set_option maxRecDepth 20000 in
theorem ggL_law_X3_write : GoodIn wsL_law wsX3_write := goodIn_r _ [235, 35, 36, 200, 201, 202, 5, 203, 107, 108, 109, 110, 204, 205, 206, 207, 176, 37, 208, 209, 210, 211, 33, 111, 112, 113, 114, 34, 75, 76, 77, 78, 79, 130, 131, 132, 133, 236, 237, 238, 239, 240, 241, 80, 81, 82, 83, 385, 386, 387, 388, 389, 390, 391, 392, 393, 394, 395, 396, 397, 398, 399, 400, 401] (by decide +kernel) (by decide +kernel)
set_option maxRecDepth 20000 in
theorem gL_law_X3_write : GoodIn wsL_law (wsV RL 54 RX3 yX3_write wsX3_write) := goodIn_app (goodIn_of _ (by decide +kernel)) ggL_law_X3_write
set_option maxRecDepth 20000 in
theorem ggL_law_X2_run : GoodIn wsL_law wsX2_run := goodIn_r _ [245, 15, 26, 27, 50, 51, 2, 52, 53, 54, 55, 56, 28, 246, 247, 248, 249, 16, 250, 251, 252, 253, 19, 20, 21, 22, 88, 89, 90, 91, 92, 93, 94, 95, 13, 96, 97, 98, 185, 186, 187, 188, 18, 189, 63, 190, 191, 69, 68, 192, 193, 194, 195, 216, 217, 218, 219, 220, 221, 222, 67, 223, 224, 225, 226, 227, 228, 229, 230, 231, 370, 371, 372, 373, 374, 375, 376, 377, 378, 379, 380, 381, 382, 383, 384, 402, 403, 404, 405] (by decide +kernel) (by decide +kernel)
set_option maxRecDepth 20000 in
theorem gL_law_X2_run : GoodIn wsL_law (wsV RL 55 RX2 yX2_run wsX2_run) := goodIn_app (goodIn_of _ (by decide +kernel)) ggL_law_X2_run
set_option maxRecDepth 20000 in
theorem ggL_law_X3_run : GoodIn wsL_law wsX3_run := goodIn_r _ [257, 36, 40, 258, 176, 75, 76, 77, 5, 78, 79, 259, 260, 261, 262, 38, 39, 35, 166, 167, 204, 205, 206, 207, 37, 208, 209, 210, 211, 33, 111, 112, 113, 114, 34, 130, 131, 132, 133, 236, 237, 238, 239, 240, 241, 80, 81, 82, 83, 385, 386, 387, 388, 389, 390, 391, 392, 393, 394, 395, 396, 397, 398, 399, 400, 401] (by decide +kernel) (by decide +kernel)
set_option maxRecDepth 20000 in
theorem gL_law_X3_run : GoodIn wsL_law (wsV RL 58 RX3 yX3_run wsX3_run) := goodIn_app (goodIn_of _ (by decide +kernel)) ggL_law_X3_run
set_option maxRecDepth 20000 in
theorem ggL_law_X2_dub : GoodIn wsL_law wsX2_dub := goodIn_r _ [266, 16, 88, 89, 90, 2, 91, 92, 93, 94, 95, 13, 96, 97, 98, 50, 51, 52, 53, 54, 55, 56, 28, 189, 63, 190, 191, 69, 68, 267, 268, 269, 192, 193, 194, 195, 216, 217, 218, 219, 220, 221, 222, 67, 223, 224, 225, 226, 227, 228, 229, 230, 231, 370, 371, 372, 373, 374, 375, 376, 377, 378, 379, 380, 381, 382, 383, 384, 402, 403, 404, 405] (by decide +kernel) (by decide +kernel)
set_option maxRecDepth 20000 in
theorem gL_law_X2_dub : GoodIn wsL_law (wsV RL 59 RX2 yX2_dub wsX2_dub) := goodIn_app (goodIn_of _ (by decide +kernel)) ggL_law_X2_dub
set_option maxRecDepth 20000 in
theorem ggL_law_X3_dub : GoodIn wsL_law wsX3_dub := goodIn_r _ [273, 176, 35, 103, 104, 105, 5, 106, 74, 107, 108, 109, 110, 75, 76, 77, 78, 79, 208, 209, 210, 211, 33, 111, 112, 113, 114, 34, 130, 131, 132, 133, 236, 237, 238, 239, 240, 241, 80, 81, 82, 83, 385, 386, 387, 388, 389, 390, 391, 392, 393, 394, 395, 396, 397, 398, 399, 400, 401] (by decide +kernel) (by decide +kernel)
set_option maxRecDepth 20000 in
theorem gL_law_X3_dub : GoodIn wsL_law (wsV RL 63 RX3 yX3_dub wsX3_dub) := goodIn_app (goodIn_of _ (by decide +kernel)) ggL_law_X3_dub
set_option maxRecDepth 20000 in
theorem ggL_law_X2_turn : GoodIn wsL_law wsX2_turn := goodIn_r _ [277, 15, 50, 51, 2, 52, 53, 54, 55, 56, 28, 88, 89, 90, 91, 92, 93, 94, 95, 13, 96, 97, 98, 181, 182, 183, 184, 185, 186, 187, 188, 16, 18, 189, 63, 190, 191, 69, 68, 267, 268, 269, 278, 279, 280, 281, 192, 193, 194, 195, 282, 216, 217, 218, 219, 220, 221, 222, 67, 223, 224, 225, 226, 227, 228, 229, 230, 231, 370, 371, 372, 373, 374, 375, 376, 377, 378, 379, 380, 381, 382, 383, 384, 402, 403, 404, 405] (by decide +kernel) (by decide +kernel)
set_option maxRecDepth 20000 in
theorem gL_law_X2_turn : GoodIn wsL_law (wsV RL 64 RX2 yX2_turn wsX2_turn) := goodIn_app (goodIn_of _ (by decide +kernel)) ggL_law_X2_turn
set_option maxRecDepth 20000 in
theorem ggL_law_X3_turn : GoodIn wsL_law wsX3_turn := goodIn_r _ [286, 36, 35, 107, 108, 109, 5, 110, 75, 76, 77, 78, 79, 204, 205, 206, 207, 176, 37, 208, 209, 210, 211, 33, 111, 112, 113, 114, 34, 130, 131, 132, 133, 80, 81, 82, 83, 385, 386, 387, 388, 389, 390, 391, 392, 393, 394, 395, 396, 397, 398, 399, 400, 401] (by decide +kernel) (by decide +kernel)
set_option maxRecDepth 20000 in
theorem gL_law_X3_turn : GoodIn wsL_law (wsV RL 67 RX3 yX3_turn wsX3_turn) := goodIn_app (goodIn_of _ (by decide +kernel)) ggL_law_X3_turn
set_option maxRecDepth 20000 in
theorem ggL_law_X2_scan : GoodIn wsL_law wsX2_scan := goodIn_r _ [290, 15, 88, 89, 90, 2, 91, 92, 93, 94, 95, 13, 96, 97, 98, 50, 51, 52, 181, 182, 183, 184, 53, 54, 55, 56, 28, 185, 186, 187, 188, 16, 18, 189, 63, 190, 191, 69, 68, 192, 193, 194, 195, 370, 371, 372, 373, 374, 375, 376, 377, 378, 379, 380, 381, 382, 383, 384, 402, 403, 404, 405] (by decide +kernel) (by decide +kernel)
set_option maxRecDepth 20000 in
theorem gL_law_X2_scan : GoodIn wsL_law (wsV RL 68 RX2 yX2_scan wsX2_scan) := goodIn_app (goodIn_of _ (by decide +kernel)) ggL_law_X2_scan
set_option maxRecDepth 20000 in
theorem ggL_law_X3_scan : GoodIn wsL_law wsX3_scan := goodIn_r _ [294, 33, 36, 35, 200, 201, 202, 5, 203, 107, 108, 109, 110, 204, 205, 206, 207, 176, 37, 208, 209, 210, 211, 111, 112, 113, 114, 34, 75, 76, 77, 78, 79, 130, 131, 132, 133, 80, 81, 82, 83, 385, 386, 387, 388, 389, 390, 391, 392, 393, 394, 395, 396, 397, 398, 399, 400, 401] (by decide +kernel) (by decide +kernel)
set_option maxRecDepth 20000 in
theorem gL_law_X3_scan : GoodIn wsL_law (wsV RL 71 RX3 yX3_scan wsX3_scan) := goodIn_app (goodIn_of _ (by decide +kernel)) ggL_law_X3_scan
set_option maxRecDepth 20000 in
theorem ggL_law_X2_sheet : GoodIn wsL_law wsX2_sheet := goodIn_r _ [298, 24, 25, 23, 53, 54, 55, 2, 56, 28, 299, 123, 124, 125, 370, 371, 372, 373, 374, 375, 376, 377, 378, 379, 380, 381, 382, 383, 384] (by decide +kernel) (by decide +kernel)
set_option maxRecDepth 20000 in
theorem gL_law_X2_sheet : GoodIn wsL_law (wsV RL 72 RX2 yX2_sheet wsX2_sheet) := goodIn_app (goodIn_of _ (by decide +kernel)) ggL_law_X2_sheet
set_option maxRecDepth 20000 in
theorem ggL_law_X3_sheet : GoodIn wsL_law wsX3_sheet := goodIn_r _ [303, 41, 42, 43, 75, 76, 77, 5, 78, 79, 80, 81, 82, 83, 385, 386, 387, 388, 389, 390, 391, 392, 393, 394, 395, 396, 397, 398, 399, 400, 401] (by decide +kernel) (by decide +kernel)
set_option maxRecDepth 20000 in
theorem gL_law_X3_sheet : GoodIn wsL_law (wsV RL 75 RX3 yX3_sheet wsX3_sheet) := goodIn_app (goodIn_of _ (by decide +kernel)) ggL_law_X3_sheet
set_option maxRecDepth 20000 in
theorem ggL_law_X2_cue : GoodIn wsL_law wsX2_cue := goodIn_r _ [307, 23, 308, 309, 310, 2, 311, 24, 25, 53, 54, 55, 56, 28, 312, 313, 314, 370, 371, 372, 373, 374, 375, 376, 377, 378, 379, 380, 381, 382, 383, 384] (by decide +kernel) (by decide +kernel)
set_option maxRecDepth 20000 in
theorem gL_law_X2_cue : GoodIn wsL_law (wsV RL 76 RX2 yX2_cue wsX2_cue) := goodIn_app (goodIn_of _ (by decide +kernel)) ggL_law_X2_cue
set_option maxRecDepth 20000 in
theorem ggL_law_X3_cue : GoodIn wsL_law wsX3_cue := goodIn_r _ [318, 43, 319, 320, 321, 5, 322, 41, 42, 75, 76, 77, 78, 79, 80, 81, 82, 83, 385, 386, 387, 388, 389, 390, 391, 392, 393, 394, 395, 396, 397, 398, 399, 400, 401] (by decide +kernel) (by decide +kernel)
set_option maxRecDepth 20000 in
theorem gL_law_X3_cue : GoodIn wsL_law (wsV RL 80 RX3 yX3_cue wsX3_cue) := goodIn_app (goodIn_of _ (by decide +kernel)) ggL_law_X3_cue
set_option maxRecDepth 20000 in
theorem ggL_law_X2_seek : GoodIn wsL_law wsX2_seek := goodIn_r _ [326, 16, 23, 308, 309, 310, 2, 311, 24, 25, 53, 54, 55, 56, 28, 312, 313, 314, 370, 371, 372, 373, 374, 375, 376, 377, 378, 379, 380, 381, 382, 383, 384] (by decide +kernel) (by decide +kernel)
set_option maxRecDepth 20000 in
theorem gL_law_X2_seek : GoodIn wsL_law (wsV RL 81 RX2 yX2_seek wsX2_seek) := goodIn_app (goodIn_of _ (by decide +kernel)) ggL_law_X2_seek
set_option maxRecDepth 20000 in
theorem ggL_law_X3_seek : GoodIn wsL_law wsX3_seek := goodIn_r _ [330, 176, 43, 319, 320, 321, 5, 322, 41, 42, 75, 76, 77, 78, 79, 80, 81, 82, 83, 385, 386, 387, 388, 389, 390, 391, 392, 393, 394, 395, 396, 397, 398, 399, 400, 401] (by decide +kernel) (by decide +kernel)
set_option maxRecDepth 20000 in
theorem gL_law_X3_seek : GoodIn wsL_law (wsV RL 84 RX3 yX3_seek wsX3_seek) := goodIn_app (goodIn_of _ (by decide +kernel)) ggL_law_X3_seek
set_option maxRecDepth 20000 in
theorem ggL_law_X2_trip : GoodIn wsL_law wsX2_trip := goodIn_r _ [334, 26, 27, 370, 371, 372, 373, 374, 375, 376, 377, 378, 379, 380, 381, 382, 383, 384] (by decide +kernel) (by decide +kernel)
set_option maxRecDepth 20000 in
theorem gL_law_X2_trip : GoodIn wsL_law (wsV RL 85 RX2 yX2_trip wsX2_trip) := goodIn_app (goodIn_of _ (by decide +kernel)) ggL_law_X2_trip
set_option maxRecDepth 20000 in
theorem ggL_law_X3_trip : GoodIn wsL_law wsX3_trip := goodIn_r _ [338, 40, 258, 385, 386, 387, 388, 389, 390, 391, 392, 393, 394, 395, 396, 397, 398, 399, 400, 401] (by decide +kernel) (by decide +kernel)
set_option maxRecDepth 20000 in
theorem gL_law_X3_trip : GoodIn wsL_law (wsV RL 88 RX3 yX3_trip wsX3_trip) := goodIn_app (goodIn_of _ (by decide +kernel)) ggL_law_X3_trip
set_option maxRecDepth 20000 in
theorem ggL_law_X2_meter : GoodIn wsL_law wsX2_meter := goodIn_r _ [342, 20, 96, 97, 2, 98, 50, 51, 52, 370, 371, 372, 373, 374, 375, 376, 377, 378, 379, 380, 381, 382, 383, 384] (by decide +kernel) (by decide +kernel)
set_option maxRecDepth 20000 in
theorem gL_law_X2_meter : GoodIn wsL_law (wsV RL 89 RX2 yX2_meter wsX2_meter) := goodIn_app (goodIn_of _ (by decide +kernel)) ggL_law_X2_meter
set_option maxRecDepth 20000 in
theorem ggL_law_X3_meter : GoodIn wsL_law wsX3_meter := goodIn_r _ [346, 39, 107, 108, 109, 5, 110, 385, 386, 387, 388, 389, 390, 391, 392, 393, 394, 395, 396, 397, 398, 399, 400, 401] (by decide +kernel) (by decide +kernel)
set_option maxRecDepth 20000 in
theorem gL_law_X3_meter : GoodIn wsL_law (wsV RL 92 RX3 yX3_meter wsX3_meter) := goodIn_app (goodIn_of _ (by decide +kernel)) ggL_law_X3_meter
set_option maxRecDepth 20000 in
theorem ggL_law_X2_count : GoodIn wsL_law wsX2_count := goodIn_r _ [350, 14, 15, 16, 21, 24, 25, 351, 352, 353, 2, 354, 92, 93, 94, 95, 13, 355, 49, 356, 357, 61, 370, 371, 372, 373, 374, 375, 376, 377, 378, 379, 380, 381, 382, 383, 384, 402, 403, 404, 405] (by decide +kernel) (by decide +kernel)
set_option maxRecDepth 20000 in
theorem gL_law_X2_count : GoodIn wsL_law (wsV RL 93 RX2 yX2_count wsX2_count) := goodIn_app (goodIn_of _ (by decide +kernel)) ggL_law_X2_count
set_option maxRecDepth 20000 in
theorem ggL_law_X3_count : GoodIn wsL_law wsX3_count := goodIn_r _ [361, 34, 74, 36, 176, 166, 41, 42, 103, 104, 105, 5, 106, 385, 386, 387, 388, 389, 390, 391, 392, 393, 394, 395, 396, 397, 398, 399, 400, 401] (by decide +kernel) (by decide +kernel)
set_option maxRecDepth 20000 in
theorem gL_law_X3_count : GoodIn wsL_law (wsV RL 96 RX3 yX3_count wsX3_count) := goodIn_app (goodIn_of _ (by decide +kernel)) ggL_law_X3_count
set_option maxRecDepth 20000 in
theorem ggL_law_X2_status : GoodIn wsL_law wsX2_status := goodIn_r _ [365, 28, 370, 371, 372, 373, 374, 375, 376, 377, 378, 379, 380, 381, 382, 383, 384] (by decide +kernel) (by decide +kernel)
set_option maxRecDepth 20000 in
theorem gL_law_X2_status : GoodIn wsL_law (wsV RL 97 RX2 yX2_status wsX2_status) := goodIn_app (goodIn_of _ (by decide +kernel)) ggL_law_X2_status
set_option maxRecDepth 20000 in
theorem ggL_law_X3_status : GoodIn wsL_law wsX3_status := goodIn_r _ [369, 79, 385, 386, 387, 388, 389, 390, 391, 392, 393, 394, 395, 396, 397, 398, 399, 400, 401] (by decide +kernel) (by decide +kernel)
set_option maxRecDepth 20000 in
theorem gL_law_X3_status : GoodIn wsL_law (wsV RL 101 RX3 yX3_status wsX3_status) := goodIn_app (goodIn_of _ (by decide +kernel)) ggL_law_X3_status
theorem dL_law_0 : decode cL_law 0 = .ok (.new 7, 3) := by decide +kernel
theorem dL_law_3 : decode cL_law 3 = .ok (.dup, 1) := by decide +kernel
theorem dL_law_4 : decode cL_law 4 = .ok (.invokespecial 9, 3) := by decide +kernel
theorem dL_law_7 : decode cL_law 7 = .ok (.astore_n 1, 1) := by decide +kernel
theorem dL_law_8 : decode cL_law 8 = .ok (.new 10, 3) := by decide +kernel
theorem dL_law_11 : decode cL_law 11 = .ok (.dup, 1) := by decide +kernel
theorem dL_law_12 : decode cL_law 12 = .ok (.invokespecial 12, 3) := by decide +kernel
theorem dL_law_15 : decode cL_law 15 = .ok (.astore_n 2, 1) := by decide +kernel
theorem dL_law_16 : decode cL_law 16 = .ok (.iconst 0, 1) := by decide +kernel
theorem dL_law_17 : decode cL_law 17 = .ok (.istore_n 3, 1) := by decide +kernel
theorem dL_law_18 : decode cL_law 18 = .ok (.iload_n 3, 1) := by decide +kernel
theorem dL_law_19 : decode cL_law 19 = .ok (.aload_n 0, 1) := by decide +kernel
theorem dL_law_20 : decode cL_law 20 = .ok (.arraylength, 1) := by decide +kernel
theorem dL_law_21 : decode cL_law 21 = .ok (.bipush 7, 2) := by decide +kernel
theorem dL_law_23 : decode cL_law 23 = .ok (.isub, 1) := by decide +kernel
theorem dL_law_24 : decode cL_law 24 = .ok (.if_icmp .gt 769, 3) := by decide +kernel
theorem dL_law_27 : decode cL_law 27 = .ok (.aload_n 0, 1) := by decide +kernel
theorem dL_law_28 : decode cL_law 28 = .ok (.iload_n 3, 1) := by decide +kernel
theorem dL_law_29 : decode cL_law 29 = .ok (.iaload, 1) := by decide +kernel
theorem dL_law_30 : decode cL_law 30 = .ok (.bipush 31, 2) := by decide +kernel
theorem dL_law_32 : decode cL_law 32 = .ok (.iand, 1) := by decide +kernel
theorem dL_law_33 : decode cL_law 33 = .ok (.tableswitch 754 0 20 #[99, 132, 165, 198, 221, 254, 287, 320, 343, 366, 399, 422, 497, 530, 563, 596, 639, 672, 695, 718, 741], 99) := by decide +kernel
theorem dL_law_132 : decode cL_law 132 = .ok (.aload_n 1, 1) := by decide +kernel
theorem dL_law_133 : decode cL_law 133 = .ok (.aload_n 0, 1) := by decide +kernel
theorem dL_law_134 : decode cL_law 134 = .ok (.iload_n 3, 1) := by decide +kernel
theorem dL_law_135 : decode cL_law 135 = .ok (.iconst 1, 1) := by decide +kernel
theorem dL_law_136 : decode cL_law 136 = .ok (.iadd, 1) := by decide +kernel
theorem dL_law_137 : decode cL_law 137 = .ok (.iaload, 1) := by decide +kernel
theorem dL_law_138 : decode cL_law 138 = .ok (.aload_n 0, 1) := by decide +kernel
theorem dL_law_139 : decode cL_law 139 = .ok (.iload_n 3, 1) := by decide +kernel
theorem dL_law_140 : decode cL_law 140 = .ok (.iconst 2, 1) := by decide +kernel
theorem dL_law_141 : decode cL_law 141 = .ok (.iadd, 1) := by decide +kernel
theorem dL_law_142 : decode cL_law 142 = .ok (.iaload, 1) := by decide +kernel
theorem dL_law_143 : decode cL_law 143 = .ok (.invokevirtual 13, 3) := by decide +kernel
theorem dL_law_146 : decode cL_law 146 = .ok (.aload_n 2, 1) := by decide +kernel
theorem dL_law_147 : decode cL_law 147 = .ok (.aload_n 0, 1) := by decide +kernel
theorem dL_law_148 : decode cL_law 148 = .ok (.iload_n 3, 1) := by decide +kernel
theorem dL_law_149 : decode cL_law 149 = .ok (.iconst 1, 1) := by decide +kernel
theorem dL_law_150 : decode cL_law 150 = .ok (.iadd, 1) := by decide +kernel
theorem dL_law_151 : decode cL_law 151 = .ok (.iaload, 1) := by decide +kernel
theorem dL_law_152 : decode cL_law 152 = .ok (.aload_n 0, 1) := by decide +kernel
theorem dL_law_153 : decode cL_law 153 = .ok (.iload_n 3, 1) := by decide +kernel
theorem dL_law_154 : decode cL_law 154 = .ok (.iconst 2, 1) := by decide +kernel
theorem dL_law_155 : decode cL_law 155 = .ok (.iadd, 1) := by decide +kernel
theorem dL_law_156 : decode cL_law 156 = .ok (.iaload, 1) := by decide +kernel
theorem dL_law_157 : decode cL_law 157 = .ok (.invokevirtual 17, 3) := by decide +kernel
theorem dL_law_160 : decode cL_law 160 = .ok (.if_icmp .eq 627, 3) := by decide +kernel
theorem dL_law_163 : decode cL_law 163 = .ok (.iconst 0, 1) := by decide +kernel
theorem dL_law_164 : decode cL_law 164 = .ok (.ireturn, 1) := by decide +kernel
theorem dL_law_165 : decode cL_law 165 = .ok (.aload_n 1, 1) := by decide +kernel
theorem dL_law_166 : decode cL_law 166 = .ok (.aload_n 0, 1) := by decide +kernel
theorem dL_law_167 : decode cL_law 167 = .ok (.iload_n 3, 1) := by decide +kernel
theorem dL_law_168 : decode cL_law 168 = .ok (.iconst 1, 1) := by decide +kernel
theorem dL_law_169 : decode cL_law 169 = .ok (.iadd, 1) := by decide +kernel
theorem dL_law_170 : decode cL_law 170 = .ok (.iaload, 1) := by decide +kernel
theorem dL_law_171 : decode cL_law 171 = .ok (.aload_n 0, 1) := by decide +kernel
theorem dL_law_172 : decode cL_law 172 = .ok (.iload_n 3, 1) := by decide +kernel
theorem dL_law_173 : decode cL_law 173 = .ok (.iconst 2, 1) := by decide +kernel
theorem dL_law_174 : decode cL_law 174 = .ok (.iadd, 1) := by decide +kernel
theorem dL_law_175 : decode cL_law 175 = .ok (.iaload, 1) := by decide +kernel
theorem dL_law_176 : decode cL_law 176 = .ok (.invokevirtual 18, 3) := by decide +kernel
theorem dL_law_179 : decode cL_law 179 = .ok (.aload_n 2, 1) := by decide +kernel
theorem dL_law_180 : decode cL_law 180 = .ok (.aload_n 0, 1) := by decide +kernel
theorem dL_law_181 : decode cL_law 181 = .ok (.iload_n 3, 1) := by decide +kernel
theorem dL_law_182 : decode cL_law 182 = .ok (.iconst 1, 1) := by decide +kernel
theorem dL_law_183 : decode cL_law 183 = .ok (.iadd, 1) := by decide +kernel
theorem dL_law_184 : decode cL_law 184 = .ok (.iaload, 1) := by decide +kernel
theorem dL_law_185 : decode cL_law 185 = .ok (.aload_n 0, 1) := by decide +kernel
theorem dL_law_186 : decode cL_law 186 = .ok (.iload_n 3, 1) := by decide +kernel
theorem dL_law_187 : decode cL_law 187 = .ok (.iconst 2, 1) := by decide +kernel
theorem dL_law_188 : decode cL_law 188 = .ok (.iadd, 1) := by decide +kernel
theorem dL_law_189 : decode cL_law 189 = .ok (.iaload, 1) := by decide +kernel
theorem dL_law_190 : decode cL_law 190 = .ok (.invokevirtual 21, 3) := by decide +kernel
theorem dL_law_193 : decode cL_law 193 = .ok (.if_icmp .eq 594, 3) := by decide +kernel
theorem dL_law_196 : decode cL_law 196 = .ok (.iconst 0, 1) := by decide +kernel
theorem dL_law_197 : decode cL_law 197 = .ok (.ireturn, 1) := by decide +kernel
theorem dL_law_198 : decode cL_law 198 = .ok (.aload_n 1, 1) := by decide +kernel
theorem dL_law_199 : decode cL_law 199 = .ok (.aload_n 0, 1) := by decide +kernel
theorem dL_law_200 : decode cL_law 200 = .ok (.iload_n 3, 1) := by decide +kernel
theorem dL_law_201 : decode cL_law 201 = .ok (.iconst 1, 1) := by decide +kernel
theorem dL_law_202 : decode cL_law 202 = .ok (.iadd, 1) := by decide +kernel
theorem dL_law_203 : decode cL_law 203 = .ok (.iaload, 1) := by decide +kernel
theorem dL_law_204 : decode cL_law 204 = .ok (.aload_n 0, 1) := by decide +kernel
theorem dL_law_205 : decode cL_law 205 = .ok (.iload_n 3, 1) := by decide +kernel
theorem dL_law_206 : decode cL_law 206 = .ok (.iconst 2, 1) := by decide +kernel
theorem dL_law_207 : decode cL_law 207 = .ok (.iadd, 1) := by decide +kernel
theorem dL_law_208 : decode cL_law 208 = .ok (.iaload, 1) := by decide +kernel
theorem dL_law_209 : decode cL_law 209 = .ok (.invokevirtual 22, 3) := by decide +kernel
theorem dL_law_212 : decode cL_law 212 = .ok (.aload_n 2, 1) := by decide +kernel
theorem dL_law_213 : decode cL_law 213 = .ok (.aload_n 0, 1) := by decide +kernel
theorem dL_law_214 : decode cL_law 214 = .ok (.iload_n 3, 1) := by decide +kernel
theorem dL_law_215 : decode cL_law 215 = .ok (.iconst 1, 1) := by decide +kernel
theorem dL_law_216 : decode cL_law 216 = .ok (.iadd, 1) := by decide +kernel
theorem dL_law_217 : decode cL_law 217 = .ok (.iaload, 1) := by decide +kernel
theorem dL_law_218 : decode cL_law 218 = .ok (.aload_n 0, 1) := by decide +kernel
theorem dL_law_219 : decode cL_law 219 = .ok (.iload_n 3, 1) := by decide +kernel
theorem dL_law_220 : decode cL_law 220 = .ok (.iconst 2, 1) := by decide +kernel
theorem dL_law_221 : decode cL_law 221 = .ok (.iadd, 1) := by decide +kernel
theorem dL_law_222 : decode cL_law 222 = .ok (.iaload, 1) := by decide +kernel
theorem dL_law_223 : decode cL_law 223 = .ok (.invokevirtual 25, 3) := by decide +kernel
theorem dL_law_226 : decode cL_law 226 = .ok (.if_icmp .eq 561, 3) := by decide +kernel
theorem dL_law_229 : decode cL_law 229 = .ok (.iconst 0, 1) := by decide +kernel
theorem dL_law_230 : decode cL_law 230 = .ok (.ireturn, 1) := by decide +kernel
theorem dL_law_231 : decode cL_law 231 = .ok (.aload_n 1, 1) := by decide +kernel
theorem dL_law_232 : decode cL_law 232 = .ok (.aload_n 0, 1) := by decide +kernel
theorem dL_law_233 : decode cL_law 233 = .ok (.iload_n 3, 1) := by decide +kernel
theorem dL_law_234 : decode cL_law 234 = .ok (.iconst 1, 1) := by decide +kernel
theorem dL_law_235 : decode cL_law 235 = .ok (.iadd, 1) := by decide +kernel
theorem dL_law_236 : decode cL_law 236 = .ok (.iaload, 1) := by decide +kernel
theorem dL_law_237 : decode cL_law 237 = .ok (.invokevirtual 26, 3) := by decide +kernel
theorem dL_law_240 : decode cL_law 240 = .ok (.aload_n 2, 1) := by decide +kernel
theorem dL_law_241 : decode cL_law 241 = .ok (.aload_n 0, 1) := by decide +kernel
theorem dL_law_242 : decode cL_law 242 = .ok (.iload_n 3, 1) := by decide +kernel
theorem dL_law_243 : decode cL_law 243 = .ok (.iconst 1, 1) := by decide +kernel
theorem dL_law_244 : decode cL_law 244 = .ok (.iadd, 1) := by decide +kernel
theorem dL_law_245 : decode cL_law 245 = .ok (.iaload, 1) := by decide +kernel
theorem dL_law_246 : decode cL_law 246 = .ok (.invokevirtual 30, 3) := by decide +kernel
theorem dL_law_249 : decode cL_law 249 = .ok (.if_icmp .eq 538, 3) := by decide +kernel
theorem dL_law_252 : decode cL_law 252 = .ok (.iconst 0, 1) := by decide +kernel
theorem dL_law_253 : decode cL_law 253 = .ok (.ireturn, 1) := by decide +kernel
theorem dL_law_254 : decode cL_law 254 = .ok (.aload_n 1, 1) := by decide +kernel
theorem dL_law_255 : decode cL_law 255 = .ok (.aload_n 0, 1) := by decide +kernel
theorem dL_law_256 : decode cL_law 256 = .ok (.iload_n 3, 1) := by decide +kernel
theorem dL_law_257 : decode cL_law 257 = .ok (.iconst 1, 1) := by decide +kernel
theorem dL_law_258 : decode cL_law 258 = .ok (.iadd, 1) := by decide +kernel
theorem dL_law_259 : decode cL_law 259 = .ok (.iaload, 1) := by decide +kernel
theorem dL_law_260 : decode cL_law 260 = .ok (.aload_n 0, 1) := by decide +kernel
theorem dL_law_261 : decode cL_law 261 = .ok (.iload_n 3, 1) := by decide +kernel
theorem dL_law_262 : decode cL_law 262 = .ok (.iconst 2, 1) := by decide +kernel
theorem dL_law_263 : decode cL_law 263 = .ok (.iadd, 1) := by decide +kernel
theorem dL_law_264 : decode cL_law 264 = .ok (.iaload, 1) := by decide +kernel
theorem dL_law_265 : decode cL_law 265 = .ok (.invokevirtual 31, 3) := by decide +kernel
theorem dL_law_268 : decode cL_law 268 = .ok (.aload_n 2, 1) := by decide +kernel
theorem dL_law_269 : decode cL_law 269 = .ok (.aload_n 0, 1) := by decide +kernel
theorem dL_law_270 : decode cL_law 270 = .ok (.iload_n 3, 1) := by decide +kernel
theorem dL_law_271 : decode cL_law 271 = .ok (.iconst 1, 1) := by decide +kernel
theorem dL_law_272 : decode cL_law 272 = .ok (.iadd, 1) := by decide +kernel
theorem dL_law_273 : decode cL_law 273 = .ok (.iaload, 1) := by decide +kernel
theorem dL_law_274 : decode cL_law 274 = .ok (.aload_n 0, 1) := by decide +kernel
theorem dL_law_275 : decode cL_law 275 = .ok (.iload_n 3, 1) := by decide +kernel
theorem dL_law_276 : decode cL_law 276 = .ok (.iconst 2, 1) := by decide +kernel
theorem dL_law_277 : decode cL_law 277 = .ok (.iadd, 1) := by decide +kernel
theorem dL_law_278 : decode cL_law 278 = .ok (.iaload, 1) := by decide +kernel
theorem dL_law_279 : decode cL_law 279 = .ok (.invokevirtual 34, 3) := by decide +kernel
theorem dL_law_282 : decode cL_law 282 = .ok (.if_icmp .eq 505, 3) := by decide +kernel
theorem dL_law_285 : decode cL_law 285 = .ok (.iconst 0, 1) := by decide +kernel
theorem dL_law_286 : decode cL_law 286 = .ok (.ireturn, 1) := by decide +kernel
theorem dL_law_287 : decode cL_law 287 = .ok (.aload_n 1, 1) := by decide +kernel
theorem dL_law_288 : decode cL_law 288 = .ok (.aload_n 0, 1) := by decide +kernel
theorem dL_law_289 : decode cL_law 289 = .ok (.iload_n 3, 1) := by decide +kernel
theorem dL_law_290 : decode cL_law 290 = .ok (.iconst 1, 1) := by decide +kernel
theorem dL_law_291 : decode cL_law 291 = .ok (.iadd, 1) := by decide +kernel
theorem dL_law_292 : decode cL_law 292 = .ok (.iaload, 1) := by decide +kernel
theorem dL_law_293 : decode cL_law 293 = .ok (.aload_n 0, 1) := by decide +kernel
theorem dL_law_294 : decode cL_law 294 = .ok (.iload_n 3, 1) := by decide +kernel
theorem dL_law_295 : decode cL_law 295 = .ok (.iconst 2, 1) := by decide +kernel
theorem dL_law_296 : decode cL_law 296 = .ok (.iadd, 1) := by decide +kernel
theorem dL_law_297 : decode cL_law 297 = .ok (.iaload, 1) := by decide +kernel
theorem dL_law_298 : decode cL_law 298 = .ok (.invokevirtual 35, 3) := by decide +kernel
theorem dL_law_301 : decode cL_law 301 = .ok (.aload_n 2, 1) := by decide +kernel
theorem dL_law_302 : decode cL_law 302 = .ok (.aload_n 0, 1) := by decide +kernel
theorem dL_law_303 : decode cL_law 303 = .ok (.iload_n 3, 1) := by decide +kernel
theorem dL_law_304 : decode cL_law 304 = .ok (.iconst 1, 1) := by decide +kernel
theorem dL_law_305 : decode cL_law 305 = .ok (.iadd, 1) := by decide +kernel
theorem dL_law_306 : decode cL_law 306 = .ok (.iaload, 1) := by decide +kernel
theorem dL_law_307 : decode cL_law 307 = .ok (.aload_n 0, 1) := by decide +kernel
theorem dL_law_308 : decode cL_law 308 = .ok (.iload_n 3, 1) := by decide +kernel
theorem dL_law_309 : decode cL_law 309 = .ok (.iconst 2, 1) := by decide +kernel
theorem dL_law_310 : decode cL_law 310 = .ok (.iadd, 1) := by decide +kernel
theorem dL_law_311 : decode cL_law 311 = .ok (.iaload, 1) := by decide +kernel
theorem dL_law_312 : decode cL_law 312 = .ok (.invokevirtual 38, 3) := by decide +kernel
theorem dL_law_315 : decode cL_law 315 = .ok (.if_icmp .eq 472, 3) := by decide +kernel
theorem dL_law_318 : decode cL_law 318 = .ok (.iconst 0, 1) := by decide +kernel
theorem dL_law_319 : decode cL_law 319 = .ok (.ireturn, 1) := by decide +kernel
theorem dL_law_320 : decode cL_law 320 = .ok (.aload_n 1, 1) := by decide +kernel
theorem dL_law_321 : decode cL_law 321 = .ok (.aload_n 0, 1) := by decide +kernel
theorem dL_law_322 : decode cL_law 322 = .ok (.iload_n 3, 1) := by decide +kernel
theorem dL_law_323 : decode cL_law 323 = .ok (.iconst 1, 1) := by decide +kernel
theorem dL_law_324 : decode cL_law 324 = .ok (.iadd, 1) := by decide +kernel
theorem dL_law_325 : decode cL_law 325 = .ok (.iaload, 1) := by decide +kernel
theorem dL_law_326 : decode cL_law 326 = .ok (.aload_n 0, 1) := by decide +kernel
theorem dL_law_327 : decode cL_law 327 = .ok (.iload_n 3, 1) := by decide +kernel
theorem dL_law_328 : decode cL_law 328 = .ok (.iconst 2, 1) := by decide +kernel
theorem dL_law_329 : decode cL_law 329 = .ok (.iadd, 1) := by decide +kernel
theorem dL_law_330 : decode cL_law 330 = .ok (.iaload, 1) := by decide +kernel
theorem dL_law_331 : decode cL_law 331 = .ok (.invokevirtual 39, 3) := by decide +kernel
theorem dL_law_334 : decode cL_law 334 = .ok (.aload_n 2, 1) := by decide +kernel
theorem dL_law_335 : decode cL_law 335 = .ok (.aload_n 0, 1) := by decide +kernel
theorem dL_law_336 : decode cL_law 336 = .ok (.iload_n 3, 1) := by decide +kernel
theorem dL_law_337 : decode cL_law 337 = .ok (.iconst 1, 1) := by decide +kernel
theorem dL_law_338 : decode cL_law 338 = .ok (.iadd, 1) := by decide +kernel
theorem dL_law_339 : decode cL_law 339 = .ok (.iaload, 1) := by decide +kernel
theorem dL_law_340 : decode cL_law 340 = .ok (.aload_n 0, 1) := by decide +kernel
theorem dL_law_341 : decode cL_law 341 = .ok (.iload_n 3, 1) := by decide +kernel
theorem dL_law_342 : decode cL_law 342 = .ok (.iconst 2, 1) := by decide +kernel
theorem dL_law_343 : decode cL_law 343 = .ok (.iadd, 1) := by decide +kernel
theorem dL_law_344 : decode cL_law 344 = .ok (.iaload, 1) := by decide +kernel
theorem dL_law_345 : decode cL_law 345 = .ok (.invokevirtual 42, 3) := by decide +kernel
theorem dL_law_348 : decode cL_law 348 = .ok (.if_icmp .eq 439, 3) := by decide +kernel
theorem dL_law_351 : decode cL_law 351 = .ok (.iconst 0, 1) := by decide +kernel
theorem dL_law_352 : decode cL_law 352 = .ok (.ireturn, 1) := by decide +kernel
theorem dL_law_353 : decode cL_law 353 = .ok (.aload_n 1, 1) := by decide +kernel
theorem dL_law_354 : decode cL_law 354 = .ok (.aload_n 0, 1) := by decide +kernel
theorem dL_law_355 : decode cL_law 355 = .ok (.iload_n 3, 1) := by decide +kernel
theorem dL_law_356 : decode cL_law 356 = .ok (.iconst 1, 1) := by decide +kernel
theorem dL_law_357 : decode cL_law 357 = .ok (.iadd, 1) := by decide +kernel
theorem dL_law_358 : decode cL_law 358 = .ok (.iaload, 1) := by decide +kernel
theorem dL_law_359 : decode cL_law 359 = .ok (.invokevirtual 43, 3) := by decide +kernel
theorem dL_law_362 : decode cL_law 362 = .ok (.aload_n 2, 1) := by decide +kernel
theorem dL_law_363 : decode cL_law 363 = .ok (.aload_n 0, 1) := by decide +kernel
theorem dL_law_364 : decode cL_law 364 = .ok (.iload_n 3, 1) := by decide +kernel
theorem dL_law_365 : decode cL_law 365 = .ok (.iconst 1, 1) := by decide +kernel
theorem dL_law_366 : decode cL_law 366 = .ok (.iadd, 1) := by decide +kernel
theorem dL_law_367 : decode cL_law 367 = .ok (.iaload, 1) := by decide +kernel
theorem dL_law_368 : decode cL_law 368 = .ok (.invokevirtual 46, 3) := by decide +kernel
theorem dL_law_371 : decode cL_law 371 = .ok (.if_icmp .eq 416, 3) := by decide +kernel
theorem dL_law_374 : decode cL_law 374 = .ok (.iconst 0, 1) := by decide +kernel
theorem dL_law_375 : decode cL_law 375 = .ok (.ireturn, 1) := by decide +kernel
theorem dL_law_376 : decode cL_law 376 = .ok (.aload_n 1, 1) := by decide +kernel
theorem dL_law_377 : decode cL_law 377 = .ok (.aload_n 0, 1) := by decide +kernel
theorem dL_law_378 : decode cL_law 378 = .ok (.iload_n 3, 1) := by decide +kernel
theorem dL_law_379 : decode cL_law 379 = .ok (.iconst 1, 1) := by decide +kernel
theorem dL_law_380 : decode cL_law 380 = .ok (.iadd, 1) := by decide +kernel
theorem dL_law_381 : decode cL_law 381 = .ok (.iaload, 1) := by decide +kernel
theorem dL_law_382 : decode cL_law 382 = .ok (.invokevirtual 47, 3) := by decide +kernel
theorem dL_law_385 : decode cL_law 385 = .ok (.aload_n 2, 1) := by decide +kernel
theorem dL_law_386 : decode cL_law 386 = .ok (.aload_n 0, 1) := by decide +kernel
theorem dL_law_387 : decode cL_law 387 = .ok (.iload_n 3, 1) := by decide +kernel
theorem dL_law_388 : decode cL_law 388 = .ok (.iconst 1, 1) := by decide +kernel
theorem dL_law_389 : decode cL_law 389 = .ok (.iadd, 1) := by decide +kernel
theorem dL_law_390 : decode cL_law 390 = .ok (.iaload, 1) := by decide +kernel
theorem dL_law_391 : decode cL_law 391 = .ok (.invokevirtual 50, 3) := by decide +kernel
theorem dL_law_394 : decode cL_law 394 = .ok (.if_icmp .eq 393, 3) := by decide +kernel
theorem dL_law_397 : decode cL_law 397 = .ok (.iconst 0, 1) := by decide +kernel
theorem dL_law_398 : decode cL_law 398 = .ok (.ireturn, 1) := by decide +kernel
theorem dL_law_399 : decode cL_law 399 = .ok (.aload_n 1, 1) := by decide +kernel
theorem dL_law_400 : decode cL_law 400 = .ok (.aload_n 0, 1) := by decide +kernel
theorem dL_law_401 : decode cL_law 401 = .ok (.iload_n 3, 1) := by decide +kernel
theorem dL_law_402 : decode cL_law 402 = .ok (.iconst 1, 1) := by decide +kernel
theorem dL_law_403 : decode cL_law 403 = .ok (.iadd, 1) := by decide +kernel
theorem dL_law_404 : decode cL_law 404 = .ok (.iaload, 1) := by decide +kernel
theorem dL_law_405 : decode cL_law 405 = .ok (.aload_n 0, 1) := by decide +kernel
theorem dL_law_406 : decode cL_law 406 = .ok (.iload_n 3, 1) := by decide +kernel
theorem dL_law_407 : decode cL_law 407 = .ok (.iconst 2, 1) := by decide +kernel
theorem dL_law_408 : decode cL_law 408 = .ok (.iadd, 1) := by decide +kernel
theorem dL_law_409 : decode cL_law 409 = .ok (.iaload, 1) := by decide +kernel
theorem dL_law_410 : decode cL_law 410 = .ok (.invokevirtual 51, 3) := by decide +kernel
theorem dL_law_413 : decode cL_law 413 = .ok (.aload_n 2, 1) := by decide +kernel
theorem dL_law_414 : decode cL_law 414 = .ok (.aload_n 0, 1) := by decide +kernel
theorem dL_law_415 : decode cL_law 415 = .ok (.iload_n 3, 1) := by decide +kernel
theorem dL_law_416 : decode cL_law 416 = .ok (.iconst 1, 1) := by decide +kernel
theorem dL_law_417 : decode cL_law 417 = .ok (.iadd, 1) := by decide +kernel
theorem dL_law_418 : decode cL_law 418 = .ok (.iaload, 1) := by decide +kernel
theorem dL_law_419 : decode cL_law 419 = .ok (.aload_n 0, 1) := by decide +kernel
theorem dL_law_420 : decode cL_law 420 = .ok (.iload_n 3, 1) := by decide +kernel
theorem dL_law_421 : decode cL_law 421 = .ok (.iconst 2, 1) := by decide +kernel
theorem dL_law_422 : decode cL_law 422 = .ok (.iadd, 1) := by decide +kernel
theorem dL_law_423 : decode cL_law 423 = .ok (.iaload, 1) := by decide +kernel
theorem dL_law_424 : decode cL_law 424 = .ok (.invokevirtual 54, 3) := by decide +kernel
theorem dL_law_427 : decode cL_law 427 = .ok (.if_icmp .eq 360, 3) := by decide +kernel
theorem dL_law_430 : decode cL_law 430 = .ok (.iconst 0, 1) := by decide +kernel
theorem dL_law_431 : decode cL_law 431 = .ok (.ireturn, 1) := by decide +kernel
theorem dL_law_432 : decode cL_law 432 = .ok (.aload_n 1, 1) := by decide +kernel
theorem dL_law_433 : decode cL_law 433 = .ok (.aload_n 0, 1) := by decide +kernel
theorem dL_law_434 : decode cL_law 434 = .ok (.iload_n 3, 1) := by decide +kernel
theorem dL_law_435 : decode cL_law 435 = .ok (.iconst 1, 1) := by decide +kernel
theorem dL_law_436 : decode cL_law 436 = .ok (.iadd, 1) := by decide +kernel
theorem dL_law_437 : decode cL_law 437 = .ok (.iaload, 1) := by decide +kernel
theorem dL_law_438 : decode cL_law 438 = .ok (.invokevirtual 55, 3) := by decide +kernel
theorem dL_law_441 : decode cL_law 441 = .ok (.aload_n 2, 1) := by decide +kernel
theorem dL_law_442 : decode cL_law 442 = .ok (.aload_n 0, 1) := by decide +kernel
theorem dL_law_443 : decode cL_law 443 = .ok (.iload_n 3, 1) := by decide +kernel
theorem dL_law_444 : decode cL_law 444 = .ok (.iconst 1, 1) := by decide +kernel
theorem dL_law_445 : decode cL_law 445 = .ok (.iadd, 1) := by decide +kernel
theorem dL_law_446 : decode cL_law 446 = .ok (.iaload, 1) := by decide +kernel
theorem dL_law_447 : decode cL_law 447 = .ok (.invokevirtual 58, 3) := by decide +kernel
theorem dL_law_450 : decode cL_law 450 = .ok (.if_icmp .eq 337, 3) := by decide +kernel
theorem dL_law_453 : decode cL_law 453 = .ok (.iconst 0, 1) := by decide +kernel
theorem dL_law_454 : decode cL_law 454 = .ok (.ireturn, 1) := by decide +kernel
theorem dL_law_455 : decode cL_law 455 = .ok (.aload_n 1, 1) := by decide +kernel
theorem dL_law_456 : decode cL_law 456 = .ok (.aload_n 0, 1) := by decide +kernel
theorem dL_law_457 : decode cL_law 457 = .ok (.iload_n 3, 1) := by decide +kernel
theorem dL_law_458 : decode cL_law 458 = .ok (.iconst 1, 1) := by decide +kernel
theorem dL_law_459 : decode cL_law 459 = .ok (.iadd, 1) := by decide +kernel
theorem dL_law_460 : decode cL_law 460 = .ok (.iaload, 1) := by decide +kernel
theorem dL_law_461 : decode cL_law 461 = .ok (.aload_n 0, 1) := by decide +kernel
theorem dL_law_462 : decode cL_law 462 = .ok (.iload_n 3, 1) := by decide +kernel
theorem dL_law_463 : decode cL_law 463 = .ok (.iconst 2, 1) := by decide +kernel
theorem dL_law_464 : decode cL_law 464 = .ok (.iadd, 1) := by decide +kernel
theorem dL_law_465 : decode cL_law 465 = .ok (.iaload, 1) := by decide +kernel
theorem dL_law_466 : decode cL_law 466 = .ok (.aload_n 0, 1) := by decide +kernel
theorem dL_law_467 : decode cL_law 467 = .ok (.iload_n 3, 1) := by decide +kernel
theorem dL_law_468 : decode cL_law 468 = .ok (.iconst 3, 1) := by decide +kernel
theorem dL_law_469 : decode cL_law 469 = .ok (.iadd, 1) := by decide +kernel
theorem dL_law_470 : decode cL_law 470 = .ok (.iaload, 1) := by decide +kernel
theorem dL_law_471 : decode cL_law 471 = .ok (.aload_n 0, 1) := by decide +kernel
theorem dL_law_472 : decode cL_law 472 = .ok (.iload_n 3, 1) := by decide +kernel
theorem dL_law_473 : decode cL_law 473 = .ok (.iconst 4, 1) := by decide +kernel
theorem dL_law_474 : decode cL_law 474 = .ok (.iadd, 1) := by decide +kernel
theorem dL_law_475 : decode cL_law 475 = .ok (.iaload, 1) := by decide +kernel
theorem dL_law_476 : decode cL_law 476 = .ok (.aload_n 0, 1) := by decide +kernel
theorem dL_law_477 : decode cL_law 477 = .ok (.iload_n 3, 1) := by decide +kernel
theorem dL_law_478 : decode cL_law 478 = .ok (.iconst 5, 1) := by decide +kernel
theorem dL_law_479 : decode cL_law 479 = .ok (.iadd, 1) := by decide +kernel
theorem dL_law_480 : decode cL_law 480 = .ok (.iaload, 1) := by decide +kernel
theorem dL_law_481 : decode cL_law 481 = .ok (.aload_n 0, 1) := by decide +kernel
theorem dL_law_482 : decode cL_law 482 = .ok (.iload_n 3, 1) := by decide +kernel
theorem dL_law_483 : decode cL_law 483 = .ok (.bipush 6, 2) := by decide +kernel
theorem dL_law_485 : decode cL_law 485 = .ok (.iadd, 1) := by decide +kernel
theorem dL_law_486 : decode cL_law 486 = .ok (.iaload, 1) := by decide +kernel
theorem dL_law_487 : decode cL_law 487 = .ok (.invokevirtual 59, 3) := by decide +kernel
theorem dL_law_490 : decode cL_law 490 = .ok (.aload_n 2, 1) := by decide +kernel
theorem dL_law_491 : decode cL_law 491 = .ok (.aload_n 0, 1) := by decide +kernel
theorem dL_law_492 : decode cL_law 492 = .ok (.iload_n 3, 1) := by decide +kernel
theorem dL_law_493 : decode cL_law 493 = .ok (.iconst 1, 1) := by decide +kernel
theorem dL_law_494 : decode cL_law 494 = .ok (.iadd, 1) := by decide +kernel
theorem dL_law_495 : decode cL_law 495 = .ok (.iaload, 1) := by decide +kernel
theorem dL_law_496 : decode cL_law 496 = .ok (.aload_n 0, 1) := by decide +kernel
theorem dL_law_497 : decode cL_law 497 = .ok (.iload_n 3, 1) := by decide +kernel
theorem dL_law_498 : decode cL_law 498 = .ok (.iconst 2, 1) := by decide +kernel
theorem dL_law_499 : decode cL_law 499 = .ok (.iadd, 1) := by decide +kernel
theorem dL_law_500 : decode cL_law 500 = .ok (.iaload, 1) := by decide +kernel
theorem dL_law_501 : decode cL_law 501 = .ok (.aload_n 0, 1) := by decide +kernel
theorem dL_law_502 : decode cL_law 502 = .ok (.iload_n 3, 1) := by decide +kernel
theorem dL_law_503 : decode cL_law 503 = .ok (.iconst 3, 1) := by decide +kernel
theorem dL_law_504 : decode cL_law 504 = .ok (.iadd, 1) := by decide +kernel
theorem dL_law_505 : decode cL_law 505 = .ok (.iaload, 1) := by decide +kernel
theorem dL_law_506 : decode cL_law 506 = .ok (.aload_n 0, 1) := by decide +kernel
theorem dL_law_507 : decode cL_law 507 = .ok (.iload_n 3, 1) := by decide +kernel
theorem dL_law_508 : decode cL_law 508 = .ok (.iconst 4, 1) := by decide +kernel
theorem dL_law_509 : decode cL_law 509 = .ok (.iadd, 1) := by decide +kernel
theorem dL_law_510 : decode cL_law 510 = .ok (.iaload, 1) := by decide +kernel
theorem dL_law_511 : decode cL_law 511 = .ok (.aload_n 0, 1) := by decide +kernel
theorem dL_law_512 : decode cL_law 512 = .ok (.iload_n 3, 1) := by decide +kernel
theorem dL_law_513 : decode cL_law 513 = .ok (.iconst 5, 1) := by decide +kernel
theorem dL_law_514 : decode cL_law 514 = .ok (.iadd, 1) := by decide +kernel
theorem dL_law_515 : decode cL_law 515 = .ok (.iaload, 1) := by decide +kernel
theorem dL_law_516 : decode cL_law 516 = .ok (.aload_n 0, 1) := by decide +kernel
theorem dL_law_517 : decode cL_law 517 = .ok (.iload_n 3, 1) := by decide +kernel
theorem dL_law_518 : decode cL_law 518 = .ok (.bipush 6, 2) := by decide +kernel
theorem dL_law_520 : decode cL_law 520 = .ok (.iadd, 1) := by decide +kernel
theorem dL_law_521 : decode cL_law 521 = .ok (.iaload, 1) := by decide +kernel
theorem dL_law_522 : decode cL_law 522 = .ok (.invokevirtual 63, 3) := by decide +kernel
theorem dL_law_525 : decode cL_law 525 = .ok (.if_icmp .eq 262, 3) := by decide +kernel
theorem dL_law_528 : decode cL_law 528 = .ok (.iconst 0, 1) := by decide +kernel
theorem dL_law_529 : decode cL_law 529 = .ok (.ireturn, 1) := by decide +kernel
theorem dL_law_530 : decode cL_law 530 = .ok (.aload_n 1, 1) := by decide +kernel
theorem dL_law_531 : decode cL_law 531 = .ok (.aload_n 0, 1) := by decide +kernel
theorem dL_law_532 : decode cL_law 532 = .ok (.iload_n 3, 1) := by decide +kernel
theorem dL_law_533 : decode cL_law 533 = .ok (.iconst 1, 1) := by decide +kernel
theorem dL_law_534 : decode cL_law 534 = .ok (.iadd, 1) := by decide +kernel
theorem dL_law_535 : decode cL_law 535 = .ok (.iaload, 1) := by decide +kernel
theorem dL_law_536 : decode cL_law 536 = .ok (.aload_n 0, 1) := by decide +kernel
theorem dL_law_537 : decode cL_law 537 = .ok (.iload_n 3, 1) := by decide +kernel
theorem dL_law_538 : decode cL_law 538 = .ok (.iconst 2, 1) := by decide +kernel
theorem dL_law_539 : decode cL_law 539 = .ok (.iadd, 1) := by decide +kernel
theorem dL_law_540 : decode cL_law 540 = .ok (.iaload, 1) := by decide +kernel
theorem dL_law_541 : decode cL_law 541 = .ok (.invokevirtual 64, 3) := by decide +kernel
theorem dL_law_544 : decode cL_law 544 = .ok (.aload_n 2, 1) := by decide +kernel
theorem dL_law_545 : decode cL_law 545 = .ok (.aload_n 0, 1) := by decide +kernel
theorem dL_law_546 : decode cL_law 546 = .ok (.iload_n 3, 1) := by decide +kernel
theorem dL_law_547 : decode cL_law 547 = .ok (.iconst 1, 1) := by decide +kernel
theorem dL_law_548 : decode cL_law 548 = .ok (.iadd, 1) := by decide +kernel
theorem dL_law_549 : decode cL_law 549 = .ok (.iaload, 1) := by decide +kernel
theorem dL_law_550 : decode cL_law 550 = .ok (.aload_n 0, 1) := by decide +kernel
theorem dL_law_551 : decode cL_law 551 = .ok (.iload_n 3, 1) := by decide +kernel
theorem dL_law_552 : decode cL_law 552 = .ok (.iconst 2, 1) := by decide +kernel
theorem dL_law_553 : decode cL_law 553 = .ok (.iadd, 1) := by decide +kernel
theorem dL_law_554 : decode cL_law 554 = .ok (.iaload, 1) := by decide +kernel
theorem dL_law_555 : decode cL_law 555 = .ok (.invokevirtual 67, 3) := by decide +kernel
theorem dL_law_558 : decode cL_law 558 = .ok (.if_icmp .eq 229, 3) := by decide +kernel
theorem dL_law_561 : decode cL_law 561 = .ok (.iconst 0, 1) := by decide +kernel
theorem dL_law_562 : decode cL_law 562 = .ok (.ireturn, 1) := by decide +kernel
theorem dL_law_563 : decode cL_law 563 = .ok (.aload_n 1, 1) := by decide +kernel
theorem dL_law_564 : decode cL_law 564 = .ok (.aload_n 0, 1) := by decide +kernel
theorem dL_law_565 : decode cL_law 565 = .ok (.iload_n 3, 1) := by decide +kernel
theorem dL_law_566 : decode cL_law 566 = .ok (.iconst 1, 1) := by decide +kernel
theorem dL_law_567 : decode cL_law 567 = .ok (.iadd, 1) := by decide +kernel
theorem dL_law_568 : decode cL_law 568 = .ok (.iaload, 1) := by decide +kernel
theorem dL_law_569 : decode cL_law 569 = .ok (.aload_n 0, 1) := by decide +kernel
theorem dL_law_570 : decode cL_law 570 = .ok (.iload_n 3, 1) := by decide +kernel
theorem dL_law_571 : decode cL_law 571 = .ok (.iconst 2, 1) := by decide +kernel
theorem dL_law_572 : decode cL_law 572 = .ok (.iadd, 1) := by decide +kernel
theorem dL_law_573 : decode cL_law 573 = .ok (.iaload, 1) := by decide +kernel
theorem dL_law_574 : decode cL_law 574 = .ok (.invokevirtual 68, 3) := by decide +kernel
theorem dL_law_577 : decode cL_law 577 = .ok (.aload_n 2, 1) := by decide +kernel
theorem dL_law_578 : decode cL_law 578 = .ok (.aload_n 0, 1) := by decide +kernel
theorem dL_law_579 : decode cL_law 579 = .ok (.iload_n 3, 1) := by decide +kernel
theorem dL_law_580 : decode cL_law 580 = .ok (.iconst 1, 1) := by decide +kernel
theorem dL_law_581 : decode cL_law 581 = .ok (.iadd, 1) := by decide +kernel
theorem dL_law_582 : decode cL_law 582 = .ok (.iaload, 1) := by decide +kernel
theorem dL_law_583 : decode cL_law 583 = .ok (.aload_n 0, 1) := by decide +kernel
theorem dL_law_584 : decode cL_law 584 = .ok (.iload_n 3, 1) := by decide +kernel
theorem dL_law_585 : decode cL_law 585 = .ok (.iconst 2, 1) := by decide +kernel
theorem dL_law_586 : decode cL_law 586 = .ok (.iadd, 1) := by decide +kernel
theorem dL_law_587 : decode cL_law 587 = .ok (.iaload, 1) := by decide +kernel
theorem dL_law_588 : decode cL_law 588 = .ok (.invokevirtual 71, 3) := by decide +kernel
theorem dL_law_591 : decode cL_law 591 = .ok (.if_icmp .eq 196, 3) := by decide +kernel
theorem dL_law_594 : decode cL_law 594 = .ok (.iconst 0, 1) := by decide +kernel
theorem dL_law_595 : decode cL_law 595 = .ok (.ireturn, 1) := by decide +kernel
theorem dL_law_596 : decode cL_law 596 = .ok (.aload_n 1, 1) := by decide +kernel
theorem dL_law_597 : decode cL_law 597 = .ok (.aload_n 0, 1) := by decide +kernel
theorem dL_law_598 : decode cL_law 598 = .ok (.iload_n 3, 1) := by decide +kernel
theorem dL_law_599 : decode cL_law 599 = .ok (.iconst 1, 1) := by decide +kernel
theorem dL_law_600 : decode cL_law 600 = .ok (.iadd, 1) := by decide +kernel
theorem dL_law_601 : decode cL_law 601 = .ok (.iaload, 1) := by decide +kernel
theorem dL_law_602 : decode cL_law 602 = .ok (.aload_n 0, 1) := by decide +kernel
theorem dL_law_603 : decode cL_law 603 = .ok (.iload_n 3, 1) := by decide +kernel
theorem dL_law_604 : decode cL_law 604 = .ok (.iconst 2, 1) := by decide +kernel
theorem dL_law_605 : decode cL_law 605 = .ok (.iadd, 1) := by decide +kernel
theorem dL_law_606 : decode cL_law 606 = .ok (.iaload, 1) := by decide +kernel
theorem dL_law_607 : decode cL_law 607 = .ok (.invokevirtual 72, 3) := by decide +kernel
theorem dL_law_610 : decode cL_law 610 = .ok (.aload_n 2, 1) := by decide +kernel
theorem dL_law_611 : decode cL_law 611 = .ok (.aload_n 0, 1) := by decide +kernel
theorem dL_law_612 : decode cL_law 612 = .ok (.iload_n 3, 1) := by decide +kernel
theorem dL_law_613 : decode cL_law 613 = .ok (.iconst 1, 1) := by decide +kernel
theorem dL_law_614 : decode cL_law 614 = .ok (.iadd, 1) := by decide +kernel
theorem dL_law_615 : decode cL_law 615 = .ok (.iaload, 1) := by decide +kernel
theorem dL_law_616 : decode cL_law 616 = .ok (.aload_n 0, 1) := by decide +kernel
theorem dL_law_617 : decode cL_law 617 = .ok (.iload_n 3, 1) := by decide +kernel
theorem dL_law_618 : decode cL_law 618 = .ok (.iconst 2, 1) := by decide +kernel
theorem dL_law_619 : decode cL_law 619 = .ok (.iadd, 1) := by decide +kernel
theorem dL_law_620 : decode cL_law 620 = .ok (.iaload, 1) := by decide +kernel
theorem dL_law_621 : decode cL_law 621 = .ok (.invokevirtual 75, 3) := by decide +kernel
theorem dL_law_624 : decode cL_law 624 = .ok (.if_icmp .eq 163, 3) := by decide +kernel
theorem dL_law_627 : decode cL_law 627 = .ok (.iconst 0, 1) := by decide +kernel
theorem dL_law_628 : decode cL_law 628 = .ok (.ireturn, 1) := by decide +kernel
theorem dL_law_629 : decode cL_law 629 = .ok (.aload_n 1, 1) := by decide +kernel
theorem dL_law_630 : decode cL_law 630 = .ok (.aload_n 0, 1) := by decide +kernel
theorem dL_law_631 : decode cL_law 631 = .ok (.iload_n 3, 1) := by decide +kernel
theorem dL_law_632 : decode cL_law 632 = .ok (.iconst 1, 1) := by decide +kernel
theorem dL_law_633 : decode cL_law 633 = .ok (.iadd, 1) := by decide +kernel
theorem dL_law_634 : decode cL_law 634 = .ok (.iaload, 1) := by decide +kernel
theorem dL_law_635 : decode cL_law 635 = .ok (.aload_n 0, 1) := by decide +kernel
theorem dL_law_636 : decode cL_law 636 = .ok (.iload_n 3, 1) := by decide +kernel
theorem dL_law_637 : decode cL_law 637 = .ok (.iconst 2, 1) := by decide +kernel
theorem dL_law_638 : decode cL_law 638 = .ok (.iadd, 1) := by decide +kernel
theorem dL_law_639 : decode cL_law 639 = .ok (.iaload, 1) := by decide +kernel
theorem dL_law_640 : decode cL_law 640 = .ok (.aload_n 0, 1) := by decide +kernel
theorem dL_law_641 : decode cL_law 641 = .ok (.iload_n 3, 1) := by decide +kernel
theorem dL_law_642 : decode cL_law 642 = .ok (.iconst 3, 1) := by decide +kernel
theorem dL_law_643 : decode cL_law 643 = .ok (.iadd, 1) := by decide +kernel
theorem dL_law_644 : decode cL_law 644 = .ok (.iaload, 1) := by decide +kernel
theorem dL_law_645 : decode cL_law 645 = .ok (.invokevirtual 76, 3) := by decide +kernel
theorem dL_law_648 : decode cL_law 648 = .ok (.aload_n 2, 1) := by decide +kernel
theorem dL_law_649 : decode cL_law 649 = .ok (.aload_n 0, 1) := by decide +kernel
theorem dL_law_650 : decode cL_law 650 = .ok (.iload_n 3, 1) := by decide +kernel
theorem dL_law_651 : decode cL_law 651 = .ok (.iconst 1, 1) := by decide +kernel
theorem dL_law_652 : decode cL_law 652 = .ok (.iadd, 1) := by decide +kernel
theorem dL_law_653 : decode cL_law 653 = .ok (.iaload, 1) := by decide +kernel
theorem dL_law_654 : decode cL_law 654 = .ok (.aload_n 0, 1) := by decide +kernel
theorem dL_law_655 : decode cL_law 655 = .ok (.iload_n 3, 1) := by decide +kernel
theorem dL_law_656 : decode cL_law 656 = .ok (.iconst 2, 1) := by decide +kernel
theorem dL_law_657 : decode cL_law 657 = .ok (.iadd, 1) := by decide +kernel
theorem dL_law_658 : decode cL_law 658 = .ok (.iaload, 1) := by decide +kernel
theorem dL_law_659 : decode cL_law 659 = .ok (.aload_n 0, 1) := by decide +kernel
theorem dL_law_660 : decode cL_law 660 = .ok (.iload_n 3, 1) := by decide +kernel
theorem dL_law_661 : decode cL_law 661 = .ok (.iconst 3, 1) := by decide +kernel
theorem dL_law_662 : decode cL_law 662 = .ok (.iadd, 1) := by decide +kernel
theorem dL_law_663 : decode cL_law 663 = .ok (.iaload, 1) := by decide +kernel
theorem dL_law_664 : decode cL_law 664 = .ok (.invokevirtual 80, 3) := by decide +kernel
theorem dL_law_667 : decode cL_law 667 = .ok (.if_icmp .eq 120, 3) := by decide +kernel
theorem dL_law_670 : decode cL_law 670 = .ok (.iconst 0, 1) := by decide +kernel
theorem dL_law_671 : decode cL_law 671 = .ok (.ireturn, 1) := by decide +kernel
theorem dL_law_672 : decode cL_law 672 = .ok (.aload_n 1, 1) := by decide +kernel
theorem dL_law_673 : decode cL_law 673 = .ok (.aload_n 0, 1) := by decide +kernel
theorem dL_law_674 : decode cL_law 674 = .ok (.iload_n 3, 1) := by decide +kernel
theorem dL_law_675 : decode cL_law 675 = .ok (.iconst 1, 1) := by decide +kernel
theorem dL_law_676 : decode cL_law 676 = .ok (.iadd, 1) := by decide +kernel
theorem dL_law_677 : decode cL_law 677 = .ok (.iaload, 1) := by decide +kernel
theorem dL_law_678 : decode cL_law 678 = .ok (.aload_n 0, 1) := by decide +kernel
theorem dL_law_679 : decode cL_law 679 = .ok (.iload_n 3, 1) := by decide +kernel
theorem dL_law_680 : decode cL_law 680 = .ok (.iconst 2, 1) := by decide +kernel
theorem dL_law_681 : decode cL_law 681 = .ok (.iadd, 1) := by decide +kernel
theorem dL_law_682 : decode cL_law 682 = .ok (.iaload, 1) := by decide +kernel
theorem dL_law_683 : decode cL_law 683 = .ok (.invokevirtual 81, 3) := by decide +kernel
theorem dL_law_686 : decode cL_law 686 = .ok (.aload_n 2, 1) := by decide +kernel
theorem dL_law_687 : decode cL_law 687 = .ok (.aload_n 0, 1) := by decide +kernel
theorem dL_law_688 : decode cL_law 688 = .ok (.iload_n 3, 1) := by decide +kernel
theorem dL_law_689 : decode cL_law 689 = .ok (.iconst 1, 1) := by decide +kernel
theorem dL_law_690 : decode cL_law 690 = .ok (.iadd, 1) := by decide +kernel
theorem dL_law_691 : decode cL_law 691 = .ok (.iaload, 1) := by decide +kernel
theorem dL_law_692 : decode cL_law 692 = .ok (.aload_n 0, 1) := by decide +kernel
theorem dL_law_693 : decode cL_law 693 = .ok (.iload_n 3, 1) := by decide +kernel
theorem dL_law_694 : decode cL_law 694 = .ok (.iconst 2, 1) := by decide +kernel
theorem dL_law_695 : decode cL_law 695 = .ok (.iadd, 1) := by decide +kernel
theorem dL_law_696 : decode cL_law 696 = .ok (.iaload, 1) := by decide +kernel
theorem dL_law_697 : decode cL_law 697 = .ok (.invokevirtual 84, 3) := by decide +kernel
theorem dL_law_700 : decode cL_law 700 = .ok (.if_icmp .eq 87, 3) := by decide +kernel
theorem dL_law_703 : decode cL_law 703 = .ok (.iconst 0, 1) := by decide +kernel
theorem dL_law_704 : decode cL_law 704 = .ok (.ireturn, 1) := by decide +kernel
theorem dL_law_705 : decode cL_law 705 = .ok (.aload_n 1, 1) := by decide +kernel
theorem dL_law_706 : decode cL_law 706 = .ok (.aload_n 0, 1) := by decide +kernel
theorem dL_law_707 : decode cL_law 707 = .ok (.iload_n 3, 1) := by decide +kernel
theorem dL_law_708 : decode cL_law 708 = .ok (.iconst 1, 1) := by decide +kernel
theorem dL_law_709 : decode cL_law 709 = .ok (.iadd, 1) := by decide +kernel
theorem dL_law_710 : decode cL_law 710 = .ok (.iaload, 1) := by decide +kernel
theorem dL_law_711 : decode cL_law 711 = .ok (.invokevirtual 85, 3) := by decide +kernel
theorem dL_law_714 : decode cL_law 714 = .ok (.aload_n 2, 1) := by decide +kernel
theorem dL_law_715 : decode cL_law 715 = .ok (.aload_n 0, 1) := by decide +kernel
theorem dL_law_716 : decode cL_law 716 = .ok (.iload_n 3, 1) := by decide +kernel
theorem dL_law_717 : decode cL_law 717 = .ok (.iconst 1, 1) := by decide +kernel
theorem dL_law_718 : decode cL_law 718 = .ok (.iadd, 1) := by decide +kernel
theorem dL_law_719 : decode cL_law 719 = .ok (.iaload, 1) := by decide +kernel
theorem dL_law_720 : decode cL_law 720 = .ok (.invokevirtual 88, 3) := by decide +kernel
theorem dL_law_723 : decode cL_law 723 = .ok (.if_icmp .eq 64, 3) := by decide +kernel
theorem dL_law_726 : decode cL_law 726 = .ok (.iconst 0, 1) := by decide +kernel
theorem dL_law_727 : decode cL_law 727 = .ok (.ireturn, 1) := by decide +kernel
theorem dL_law_728 : decode cL_law 728 = .ok (.aload_n 1, 1) := by decide +kernel
theorem dL_law_729 : decode cL_law 729 = .ok (.aload_n 0, 1) := by decide +kernel
theorem dL_law_730 : decode cL_law 730 = .ok (.iload_n 3, 1) := by decide +kernel
theorem dL_law_731 : decode cL_law 731 = .ok (.iconst 1, 1) := by decide +kernel
theorem dL_law_732 : decode cL_law 732 = .ok (.iadd, 1) := by decide +kernel
theorem dL_law_733 : decode cL_law 733 = .ok (.iaload, 1) := by decide +kernel
theorem dL_law_734 : decode cL_law 734 = .ok (.invokevirtual 89, 3) := by decide +kernel
theorem dL_law_737 : decode cL_law 737 = .ok (.aload_n 2, 1) := by decide +kernel
theorem dL_law_738 : decode cL_law 738 = .ok (.aload_n 0, 1) := by decide +kernel
theorem dL_law_739 : decode cL_law 739 = .ok (.iload_n 3, 1) := by decide +kernel
theorem dL_law_740 : decode cL_law 740 = .ok (.iconst 1, 1) := by decide +kernel
theorem dL_law_741 : decode cL_law 741 = .ok (.iadd, 1) := by decide +kernel
theorem dL_law_742 : decode cL_law 742 = .ok (.iaload, 1) := by decide +kernel
theorem dL_law_743 : decode cL_law 743 = .ok (.invokevirtual 92, 3) := by decide +kernel
theorem dL_law_746 : decode cL_law 746 = .ok (.if_icmp .eq 41, 3) := by decide +kernel
theorem dL_law_749 : decode cL_law 749 = .ok (.iconst 0, 1) := by decide +kernel
theorem dL_law_750 : decode cL_law 750 = .ok (.ireturn, 1) := by decide +kernel
theorem dL_law_751 : decode cL_law 751 = .ok (.aload_n 1, 1) := by decide +kernel
theorem dL_law_752 : decode cL_law 752 = .ok (.aload_n 0, 1) := by decide +kernel
theorem dL_law_753 : decode cL_law 753 = .ok (.iload_n 3, 1) := by decide +kernel
theorem dL_law_754 : decode cL_law 754 = .ok (.iconst 1, 1) := by decide +kernel
theorem dL_law_755 : decode cL_law 755 = .ok (.iadd, 1) := by decide +kernel
theorem dL_law_756 : decode cL_law 756 = .ok (.iaload, 1) := by decide +kernel
theorem dL_law_757 : decode cL_law 757 = .ok (.invokevirtual 93, 3) := by decide +kernel
theorem dL_law_760 : decode cL_law 760 = .ok (.aload_n 2, 1) := by decide +kernel
theorem dL_law_761 : decode cL_law 761 = .ok (.aload_n 0, 1) := by decide +kernel
theorem dL_law_762 : decode cL_law 762 = .ok (.iload_n 3, 1) := by decide +kernel
theorem dL_law_763 : decode cL_law 763 = .ok (.iconst 1, 1) := by decide +kernel
theorem dL_law_764 : decode cL_law 764 = .ok (.iadd, 1) := by decide +kernel
theorem dL_law_765 : decode cL_law 765 = .ok (.iaload, 1) := by decide +kernel
theorem dL_law_766 : decode cL_law 766 = .ok (.invokevirtual 96, 3) := by decide +kernel
theorem dL_law_769 : decode cL_law 769 = .ok (.if_icmp .eq 18, 3) := by decide +kernel
theorem dL_law_772 : decode cL_law 772 = .ok (.iconst 0, 1) := by decide +kernel
theorem dL_law_773 : decode cL_law 773 = .ok (.ireturn, 1) := by decide +kernel
theorem dL_law_774 : decode cL_law 774 = .ok (.aload_n 1, 1) := by decide +kernel
theorem dL_law_775 : decode cL_law 775 = .ok (.invokevirtual 97, 3) := by decide +kernel
theorem dL_law_778 : decode cL_law 778 = .ok (.aload_n 2, 1) := by decide +kernel
theorem dL_law_779 : decode cL_law 779 = .ok (.invokevirtual 101, 3) := by decide +kernel
theorem dL_law_782 : decode cL_law 782 = .ok (.if_icmp .eq 5, 3) := by decide +kernel
theorem dL_law_785 : decode cL_law 785 = .ok (.iconst 0, 1) := by decide +kernel
theorem dL_law_786 : decode cL_law 786 = .ok (.ireturn, 1) := by decide +kernel
theorem dL_law_787 : decode cL_law 787 = .ok (.iinc 3 7, 3) := by decide +kernel
theorem dL_law_790 : decode cL_law 790 = .ok (.goto (-772), 3) := by decide +kernel
theorem dL_law_793 : decode cL_law 793 = .ok (.iconst 1, 1) := by decide +kernel
theorem dL_law_794 : decode cL_law 794 = .ok (.ireturn, 1) := by decide +kernel
abbrev vwCl : List vw_C := [(RX0, TX0, 1), (RX1, TX1, 3), (RX2, TX2, 15), (RX3, TX3, 17)]
end
section
/-! THE WORLD BY ROLES: a cell has a role (kind, i, t); ad says where it lies, cu what it holds; R: which roles are there. -/
abbrev zw_R : Type := Nat × Nat × Nat
def zw_u {α : Type} (f : zw_R → α) (r : zw_R) (v : α) : zw_R → α := fun q => if q = r then v else f q
theorem zw_us {α : Type} (f : zw_R → α) (r : zw_R) (v : α) : zw_u f r v r = v := by simp [zw_u]
theorem zw_un {α : Type} (f : zw_R → α) {r q : zw_R} (v : α) (h : q ≠ r) : zw_u f r v q = f q := by simp [zw_u, h]
theorem zw_uu {α : Type} (f : zw_R → α) (r : zw_R) (v w : α) : zw_u (zw_u f r v) r w = zw_u f r w := by
  funext q
  by_cases h : q = r <;> simp [zw_u, h]
def zw_l (ad : zw_R → Nat) (R : List zw_R) (cu : zw_R → va_E) : va_W := R.map (fun r => (ad r, cu r))
theorem zw_at {ad : zw_R → Nat} {R : List zw_R} {cu : zw_R → va_E} {r : zw_R} (h : r ∈ R) : ∃ k : Nat, R[k]? = some r ∧ (zw_l ad R cu)[k]? = some (ad r, cu r) := by
  obtain ⟨k, hk⟩ := List.getElem?_of_mem h
  exact ⟨k, hk, by simp [zw_l, hk]⟩
theorem zw_set {A : Nat → Prop} {ad : zw_R → Nat} {R : List zw_R} {cu : zw_R → va_E} {r : zw_R} {k : Nat} {e : va_E} (hD : va_D A (zw_l ad R cu)) (hr : R[k]? = some r) : (zw_l ad R cu).set k (ad r, e) = zw_l ad R (zw_u cu r e) := by
  have hk : (zw_l ad R cu)[k]? = some (ad r, cu r) := by simp [zw_l, hr]
  have hl : k < (zw_l ad R cu).length := (List.getElem?_eq_some_iff.mp hk).1
  apply List.ext_getElem?
  intro i
  by_cases hik : i = k
  · subst hik
    rw [List.getElem?_set_self hl]
    simp [zw_l, hr, zw_u]
  · rw [List.getElem?_set_ne (Ne.symm hik)]
    cases hi : R[i]? with
    | none => simp [zw_l, hi]
    | some q =>
      have hq : q ≠ r := by
        intro h
        subst h
        exact hik (hD.1 i k (ad q, cu q) (ad q, cu q) (by simp [zw_l, hi]) hk rfl)
      simp [zw_l, hi, zw_u, hq]
theorem zw_congr {ad ad' : zw_R → Nat} {R : List zw_R} {cu cu' : zw_R → va_E} (ha : ∀ r ∈ R, ad r = ad' r) (hc : ∀ r ∈ R, cu r = cu' r) : zw_l ad R cu = zw_l ad' R cu' := by
  unfold zw_l
  apply List.map_congr_left
  intro r hr
  rw [ha r hr, hc r hr]
theorem zw_push {ad : zw_R → Nat} {R : List zw_R} {cu : zw_R → va_E} {r : zw_R} {q : Nat} {e : va_E} (h : r ∉ R) : zw_l ad R cu ++ [(q, e)] = zw_l (zw_u ad r q) (R ++ [r]) (zw_u cu r e) := by
  unfold zw_l
  rw [List.map_append]
  congr 1
  · apply List.map_congr_left
    intro x hx
    have : x ≠ r := fun z => h (z ▸ hx)
    rw [zw_un _ _ this, zw_un _ _ this]
  · simp [zw_u]
theorem zw_free {A0 : Nat → Prop} {ws : va_W} {H0 H : Heap} {locs : List Loc} (hD : va_D A0 ws) (hS : va_S A0 H0 H locs) (hA : ∀ q, H0.size ≤ q → A0 q) : ∀ q, va_A ws H.size q → A0 q := by
  intro q h
  rcases h with ⟨k, e, h⟩ | h
  · exact hD.2 k (q, e) h
  · exact hA q (Nat.le_trans hS.1 h)
/-- words of nest mates and of arrays of objects, which go along with the world -/
def zn_F : List (String × Nat × String × String × String × String) := [("FourTrackDeck", 131, "FourTrackDeck$Reel", "tracks", "[LFourTrackDeck$Track;", "FourTrackDeck"), ("FourTrackDeck", 74, "FourTrackDeck$Track", "isThere", "Z", "FourTrackDeck"), ("FourTrackDeck$Reel", 20, "FourTrackDeck$Track", "isThere", "Z", "FourTrackDeck")]
def zn_M : List (String × Nat × MethodName × String) := [("FourTrackDeck", 101, yX1_numberAt, "FourTrackDeck"), ("FourTrackDeck", 104, yX1_put, "FourTrackDeck"), ("FourTrackDeck", 113, yX1_exchange, "FourTrackDeck"), ("FourTrackDeck", 138, yX0_bitsOfTracks, "FourTrackDeck"), ("FourTrackDeck", 67, yX0_init, "FourTrackDeck"), ("FourTrackDeck", 80, yX1_wipe, "FourTrackDeck"), ("FourTrackDeck", 98, yX1_faultAt, "FourTrackDeck"), ("FourTrackDeck$Reel", 17, yX1_init, "FourTrackDeck")]
def zn_A : List String := ["FourTrackDeck$Reel", "FourTrackDeck$Track"]
def zw_N (U : State) : Prop := (∀ q ∈ zn_F, va_Nw (.fieldLinkNest q.1 q.2.1 q.2.2.1 q.2.2.2.1 q.2.2.2.2.1 q.2.2.2.2.2) U) ∧ (∀ q ∈ zn_M, va_Nw (.methodLinkNest q.1 q.2.1 q.2.2.1 q.2.2.2) U) ∧ ∀ q ∈ zn_A, va_AO q U
theorem zw_N.warm {s U : State} (hW : s.WarmedH U.vm) (h : zw_N s) : zw_N U := ⟨fun q hq => va_Nw.warmF hW (h.1 q hq), fun q hq => va_Nw.warmM hW (h.2.1 q hq), fun q hq => va_AO.moved hW.alike (h.2.2 q hq)⟩
theorem zw_N.same {u U : State} (hv : u.vm = U.vm) (h : zw_N u) : zw_N U := ⟨fun q hq => va_Nw.same rfl hv (h.1 q hq), fun q hq => va_Nw.same rfl hv (h.2.1 q hq), fun q hq => va_AO.moved (by rw [hv]; exact Vm.Alike.refl U.vm) (h.2.2 q hq)⟩
/-- the end of a method: its answer, and the world behind it -/
def zw_Q (ans : Option Value) (B : State → Prop) (A : Nat → Prop) : Array Value → State → Outcome → State → Prop := fun _ st oc t => oc = .returned ans ∧ B t ∧ va_F A st t
abbrev zw_E : Type := va_G × List vw_C × List (ClassId × FieldType)
def zw_pre (E : zw_E) (sz : Nat) (ad : zw_R → Nat) (R : List zw_R) (cu : zw_R → va_E) (U : State) : Prop := U.heap.size = sz ∧ va_P E.1 E.2.1 (zw_l ad R cu) U.heap ∧ va_K E.1 E.2.1 E.2.2 U ∧ va_D (fun _ => True) (zw_l ad R cu) ∧ zw_N U
def zw_B (E : zw_E) (A : Nat → Prop) (ad : zw_R → Nat) (R : List zw_R) (cu : zw_R → va_E) (t : State) : Prop := va_P E.1 E.2.1 (zw_l ad R cu) t.heap ∧ va_K E.1 E.2.1 E.2.2 t ∧ va_D A (zw_l ad R cu)
/-- a method that makes nothing: from the world cu to the world cu', its answer being ans -/
def zw_M (l : Launch) (y : MethodName) (ws : List Cond) (rm : Room) (E : zw_E) (av : List Value) (ad : zw_R → Nat) (R : List zw_R) (cu : zw_R → va_E) (ans : Option Value) (cu' : zw_R → va_E) : Prop :=
  ∀ sz : Nat, Met l y ws rm (va_Pc av (zw_pre E sz ad R cu)) (zw_Q ans (zw_B E (va_A (zw_l ad R cu) sz) ad R cu') (va_A (zw_l ad R cu) sz)) 0 0 (va_A (zw_l ad R cu) sz)
theorem zw_blind {av : List Value} {E : zw_E} {sz : Nat} {ad : zw_R → Nat} {R : List zw_R} {cu : zw_R → va_E} : FrameBlind (va_Pc av (zw_pre E sz ad R cu)) := by
  intro a U g mk q
  obtain ⟨q0, q1, qP, qK, qD, qN⟩ := q
  exact ⟨q0, q1, qP, va_K.moved (u := U) (U := U.calling g mk a) (Vm.Alike.refl U.vm) qK, qD, zw_N.same (u := U) rfl qN⟩
theorem zw_body {l : Launch} {y : MethodName} {ws ws' : List Cond} {rm : Room} {E : zw_E} {av : List Value} {ad : zw_R → Nat} {R : List zw_R} {cu cu' : zw_R → va_E} {ans : Option Value} {cc : ByteArray} {maxL : Nat} {ret : Option FieldType}
    (hy : plainName y.cls = true) (hw : ws = Cond.code y cc maxL ret :: ws') (hn : (lg_sl av).length ≤ maxL)
    (body : ∀ (p : Program) (e : Env) (s : State) (m : MethodId) (below : List Frame) (meth : Method) (c : Code) (A : Nat → Prop) (ls : Array Slot), p.tables.exec = Jvm.exec → c.code = cc → meth.sig.returnType = ret → meth.locks = false → c.maxLocals = maxL → (∀ w ∈ ws, w.before av.toArray s = true) → s.vm.findClass y.cls = some m.cls → meth.name = y.name → (∀ q : Nat, s.heap.size ≤ q → A q) → va_K E.1 E.2.1 E.2.2 s → va_P E.1 E.2.1 (zw_l ad R cu) s.heap → va_D A (zw_l ad R cu) → va_S A s.heap s.heap [] → zw_N s → lv_has ls maxL (lv_args 0 av) →
      W p l e rm s m av.toArray below meth c s.heap [] 0 0 (MQ below (zw_Q ans (zw_B E A ad R cu') A) av.toArray s 0 0 A) (F0 m 0 ls [])) : zw_M l y ws rm E av ad R cu ans cu' := by
  intro sz
  refine Met.ofW (cc := cc) (maxL := maxL) (ret := ret) hy hw ?_
  intro p e s m args below meth c s₁ B hml hv
  obtain ⟨rfl, hsz, hP, hK, hD0, hN⟩ := hv
  subst hsz
  rw [lg_entry_eq]
  exact body p e s m below meth c _ _ B.exec B.bytes B.returns B.notSynchronized hml (atoms_spec (ws := ws) B.pre) (findClass_of_methodNamed B.named) (name_of_methodNamed B.named B.method).1 (fun q h => Or.inr h) hK hP hD0.self va_S.rf hN (lv_entry av hn)
section ZW
variable {p : Program} {l : Launch} {e : Env} {RM : Room} {s : State} {m : MethodId} {args : Array Value} {below : List Frame} {meth : Method} {c : Code} {H : Heap} {locs : List Loc} {cells slots : Nat} {Q : State → Prop}
variable {cc : ByteArray} {pc : Nat} {ls : Array Slot} {rest : List Value} {E : zw_E} {A : Nat → Prop} {H0 : Heap} {ad : zw_R → Nat} {R : List zw_R} {cu : zw_R → va_E}
theorem zw_iret {cu' : zw_R → va_E} {ans : Option Value} {v : Int32} (hx : p.tables.exec = Jvm.exec) (hb : c.code = cc) (hr : meth.sig.returnType = some .int) (hlocks : meth.locks = false) (hK : va_K E.1 E.2.1 E.2.2 s) (hP : va_P E.1 E.2.1 (zw_l ad R cu) H) (hD : va_D A (zw_l ad R cu)) (hS : va_S A s.heap H locs) (hdg : decode cc pc = .ok (.ireturn, 1)) (hv : ans = some (.int v)) (hc : cu' = cu) :
    W p l e RM s m args below meth c H locs cells slots (MQ below (zw_Q ans (zw_B E A ad R cu') A) args s cells slots A) (F0 m pc ls [.int v]) := by
  subst hv; subst hc
  exact W.iret hx hb hr (fun t ht hW => ⟨rfl, ⟨by rw [ht]; exact hP, va_K.moved hW.alike hK, hD⟩, hS.F ht⟩) hS.2.2 hdg hlocks
theorem zw_zret {cu' : zw_R → va_E} {ans : Option Value} {v : Int32} {ty : FieldType} (hx : p.tables.exec = Jvm.exec) (hb : c.code = cc) (hr : meth.sig.returnType = some ty) (hn : narrow ty (.int v) = .int v) (hlocks : meth.locks = false) (hK : va_K E.1 E.2.1 E.2.2 s) (hP : va_P E.1 E.2.1 (zw_l ad R cu) H) (hD : va_D A (zw_l ad R cu)) (hS : va_S A s.heap H locs) (hdg : decode cc pc = .ok (.ireturn, 1)) (hv : ans = some (.int v)) (hc : cu' = cu) :
    W p l e RM s m args below meth c H locs cells slots (MQ below (zw_Q ans (zw_B E A ad R cu') A) args s cells slots A) (F0 m pc ls [.int v]) := by
  subst hv; subst hc
  exact W.zret hx hb hr hn (fun t ht hW => ⟨rfl, ⟨by rw [ht]; exact hP, va_K.moved hW.alike hK, hD⟩, hS.F ht⟩) hS.2.2 hdg hlocks
theorem zw_vret {cu' : zw_R → va_E} {ans : Option Value} (hx : p.tables.exec = Jvm.exec) (hb : c.code = cc) (hr : meth.sig.returnType = none) (hlocks : meth.locks = false) (hK : va_K E.1 E.2.1 E.2.2 s) (hP : va_P E.1 E.2.1 (zw_l ad R cu) H) (hD : va_D A (zw_l ad R cu)) (hS : va_S A s.heap H locs) (hdg : decode cc pc = .ok (.return_, 1)) (hv : ans = none) (hc : cu' = cu) :
    W p l e RM s m args below meth c H locs cells slots (MQ below (zw_Q ans (zw_B E A ad R cu') A) args s cells slots A) (F0 m pc ls []) := by
  subst hv; subst hc
  exact W.vret hx hb hr (fun t ht hW => ⟨rfl, ⟨by rw [ht]; exact hP, va_K.moved hW.alike hK, hD⟩, hS.F ht⟩) hS.2.2 hdg hlocks
theorem zw_aret {cu' : zw_R → va_E} {ans : Option Value} {v : Value} {C : String} (hx : p.tables.exec = Jvm.exec) (hb : c.code = cc) (hr : meth.sig.returnType = some (.object C)) (hlocks : meth.locks = false) (hK : va_K E.1 E.2.1 E.2.2 s) (hP : va_P E.1 E.2.1 (zw_l ad R cu) H) (hD : va_D A (zw_l ad R cu)) (hS : va_S A s.heap H locs) (hvr : v = .null ∨ ∃ a, v = .ref a) (hdg : decode cc pc = .ok (.areturn, 1)) (hv : ans = some v) (hc : cu' = cu) :
    W p l e RM s m args below meth c H locs cells slots (MQ below (zw_Q ans (zw_B E A ad R cu') A) args s cells slots A) (F0 m pc ls [v]) := by
  subst hv; subst hc
  exact W.aret hx hb hr (Or.inl ⟨C, rfl⟩) hvr (fun t ht hW => ⟨rfl, ⟨by rw [ht]; exact hP, va_K.moved hW.alike hK, hD⟩, hS.F ht⟩) hS.2.2 hdg hlocks
theorem zw_getf (hexec : p.tables.exec = Jvm.exec) (hb : c.code = cc) {own ref C : String} {T : u_T} {N ci index : Nat} {Ts : List Cond} (hts : ∀ w ∈ Ts, w.before args s = true) (hin : ∀ w ∈ u_ws C T N, w ∈ Ts) (hown : s.vm.findClass own = some m.cls) (hK : va_K E.1 E.2.1 E.2.2 s) (hP : va_P E.1 E.2.1 (zw_l ad R cu) H) {r : zw_R} (hr : r ∈ R) {fs : List Value} (he : cu r = .inr (ci, fs)) (hc : E.2.1[ci]? = some (C, T, N)) (k : Nat) (hk : k < N) (hlink : (Cond.fieldLink own index ref (T k).2.1 (T k).2.2.1).before args s = true) (hsame : ∀ x, s.fieldFound? (T k).1 (T k).2.1 (T k).2.2.1 = some x → s.fieldFound? ref (T k).2.1 (T k).2.2.1 = some x) {v : Value} (hv : fs[k]? = some v) (hdg : decode cc pc = .ok (.getfield index, 3))
    (kk : W p l e RM s m args below meth c H locs cells slots Q (F0 m (pc + 3) ls (v :: rest))) : W p l e RM s m args below meth c H locs cells slots Q (F0 m pc ls (.ref (ad r) :: rest)) := by
  obtain ⟨q0, -, h0⟩ := zw_at (ad := ad) (cu := cu) hr
  rw [he] at h0
  exact va_get hexec hb hts hin hown hK hP q0 h0 hc k hk hlink hsame hv hdg kk
theorem zw_getN (hexec : p.tables.exec = Jvm.exec) (hb : c.code = cc) {own ref C host : String} {T : u_T} {N ci index : Nat} {Ts : List Cond} (hts : ∀ w ∈ Ts, w.before args s = true) (hin : ∀ w ∈ u_ws C T N, w ∈ Ts) (hown : s.vm.findClass own = some m.cls) (hK : va_K E.1 E.2.1 E.2.2 s) (hP : va_P E.1 E.2.1 (zw_l ad R cu) H) {r : zw_R} (hr : r ∈ R) {fs : List Value} (he : cu r = .inr (ci, fs)) (hc : E.2.1[ci]? = some (C, T, N)) (k : Nat) (hk : k < N) (hlink : (Cond.fieldLinkNest own index ref (T k).2.1 (T k).2.2.1 host).before args s = true) (hsame : ∀ x, s.fieldFound? (T k).1 (T k).2.1 (T k).2.2.1 = some x → s.fieldFound? ref (T k).2.1 (T k).2.2.1 = some x) {v : Value} (hv : fs[k]? = some v) (hdg : decode cc pc = .ok (.getfield index, 3))
    (kk : W p l e RM s m args below meth c H locs cells slots Q (F0 m (pc + 3) ls (v :: rest))) : W p l e RM s m args below meth c H locs cells slots Q (F0 m pc ls (.ref (ad r) :: rest)) := by
  obtain ⟨q0, -, h0⟩ := zw_at (ad := ad) (cu := cu) hr
  rw [he] at h0
  exact va_getN hexec hb hts hin hown hK hP q0 h0 hc k hk hlink hsame hv hdg kk
theorem zw_putf (hexec : p.tables.exec = Jvm.exec) (hb : c.code = cc) {own ref C : String} {T : u_T} {N ci index : Nat} {Ts : List Cond} (hts : ∀ w ∈ Ts, w.before args s = true) (hin : ∀ w ∈ u_ws C T N, w ∈ Ts) (ty0 : Nat → FieldType) (hty : ∀ k, k < N → parseFieldDescriptor (T k).2.2.1 = some (ty0 k)) (hnm : ∀ a, a < N → ∀ b, b < N → a ≠ b → (T a).2.1 ≠ (T b).2.1) (hown : s.vm.findClass own = some m.cls) (hK : va_K E.1 E.2.1 E.2.2 s) (hP : va_P E.1 E.2.1 (zw_l ad R cu) H) (hD : va_D A (zw_l ad R cu)) (hS0 : va_S A H0 H locs) {r : zw_R} (hr : r ∈ R) {fs : List Value} (he : cu r = .inr (ci, fs)) (hc : E.2.1[ci]? = some (C, T, N)) (k : Nat) (hk : k < N) (hlink : (Cond.fieldLink own index ref (T k).2.1 (T k).2.2.1).before args s = true) (hsame : ∀ x, s.fieldFound? (T k).1 (T k).2.1 (T k).2.2.1 = some x → s.fieldFound? ref (T k).2.1 (T k).2.2.1 = some x) (hfin : (T k).2.2.2 = false) {ty : FieldType} {v : Value} (hd : parseFieldDescriptor (T k).2.2.1 = some ty) (hn : narrow ty v = v) (hfit : fits ty v = true) (hl : k < fs.length)
    (hdg : decode cc pc = .ok (.putfield index, 3)) {cu1 : zw_R → va_E} (hcu : cu1 = zw_u cu r (.inr (ci, fs.set k v))) (kk : ∀ (H1 : Heap) (locs1 : List Loc), va_P E.1 E.2.1 (zw_l ad R cu1) H1 → va_D A (zw_l ad R cu1) → va_S A H0 H1 locs1 → W p l e RM s m args below meth c H1 locs1 cells slots Q (F0 m (pc + 3) ls rest)) : W p l e RM s m args below meth c H locs cells slots Q (F0 m pc ls (v :: .ref (ad r) :: rest)) := by
  obtain ⟨q0, hq, h0⟩ := zw_at (ad := ad) (cu := cu) hr
  rw [he] at h0
  refine va_put hexec hb hts hin ty0 hty hnm hown hK hP hD hS0 q0 h0 hc k hk hlink hsame hfin hd hn hfit hl hdg (fun H1 locs1 h1 h2 h3 => ?_)
  rw [zw_set hD hq, ← hcu] at h1 h2
  exact kk H1 locs1 h1 h2 h3
theorem zw_putN (hexec : p.tables.exec = Jvm.exec) (hb : c.code = cc) {own ref C host : String} {T : u_T} {N ci index : Nat} {Ts : List Cond} (hts : ∀ w ∈ Ts, w.before args s = true) (hin : ∀ w ∈ u_ws C T N, w ∈ Ts) (ty0 : Nat → FieldType) (hty : ∀ k, k < N → parseFieldDescriptor (T k).2.2.1 = some (ty0 k)) (hnm : ∀ a, a < N → ∀ b, b < N → a ≠ b → (T a).2.1 ≠ (T b).2.1) (hown : s.vm.findClass own = some m.cls) (hK : va_K E.1 E.2.1 E.2.2 s) (hP : va_P E.1 E.2.1 (zw_l ad R cu) H) (hD : va_D A (zw_l ad R cu)) (hS0 : va_S A H0 H locs) {r : zw_R} (hr : r ∈ R) {fs : List Value} (he : cu r = .inr (ci, fs)) (hc : E.2.1[ci]? = some (C, T, N)) (k : Nat) (hk : k < N) (hlink : (Cond.fieldLinkNest own index ref (T k).2.1 (T k).2.2.1 host).before args s = true) (hsame : ∀ x, s.fieldFound? (T k).1 (T k).2.1 (T k).2.2.1 = some x → s.fieldFound? ref (T k).2.1 (T k).2.2.1 = some x) (hfin : (T k).2.2.2 = false) {ty : FieldType} {v : Value} (hd : parseFieldDescriptor (T k).2.2.1 = some ty) (hn : narrow ty v = v) (hfit : fits ty v = true) (hl : k < fs.length)
    (hdg : decode cc pc = .ok (.putfield index, 3)) {cu1 : zw_R → va_E} (hcu : cu1 = zw_u cu r (.inr (ci, fs.set k v))) (kk : ∀ (H1 : Heap) (locs1 : List Loc), va_P E.1 E.2.1 (zw_l ad R cu1) H1 → va_D A (zw_l ad R cu1) → va_S A H0 H1 locs1 → W p l e RM s m args below meth c H1 locs1 cells slots Q (F0 m (pc + 3) ls rest)) : W p l e RM s m args below meth c H locs cells slots Q (F0 m pc ls (v :: .ref (ad r) :: rest)) := by
  obtain ⟨q0, hq, h0⟩ := zw_at (ad := ad) (cu := cu) hr
  rw [he] at h0
  refine va_putN hexec hb hts hin ty0 hty hnm hown hK hP hD hS0 q0 h0 hc k hk hlink hsame hfin hd hn hfit hl hdg (fun H1 locs1 h1 h2 h3 => ?_)
  rw [zw_set hD hq, ← hcu] at h1 h2
  exact kk H1 locs1 h1 h2 h3
theorem zw_putF (hexec : p.tables.exec = Jvm.exec) (hb : c.code = cc) {own ref C : String} {T : u_T} {N ci index : Nat} {Ts : List Cond} (hts : ∀ w ∈ Ts, w.before args s = true) (hin : ∀ w ∈ u_ws C T N, w ∈ Ts) (ty0 : Nat → FieldType) (hty : ∀ k, k < N → parseFieldDescriptor (T k).2.2.1 = some (ty0 k)) (hnm : ∀ a, a < N → ∀ b, b < N → a ≠ b → (T a).2.1 ≠ (T b).2.1) (hown : s.vm.findClass own = some m.cls) (hK : va_K E.1 E.2.1 E.2.2 s) (hP : va_P E.1 E.2.1 (zw_l ad R cu) H) (hD : va_D A (zw_l ad R cu)) (hS0 : va_S A H0 H locs) {r : zw_R} (hr : r ∈ R) {fs : List Value} (he : cu r = .inr (ci, fs)) (hc : E.2.1[ci]? = some (C, T, N)) (k : Nat) (hk : k < N) (hlink : (Cond.fieldLink own index ref (T k).2.1 (T k).2.2.1).before args s = true) (hsame : ∀ x, s.fieldFound? (T k).1 (T k).2.1 (T k).2.2.1 = some x → s.fieldFound? ref (T k).2.1 (T k).2.2.1 = some x) (hfin : (T k).2.2.2 = true) (hin2 : meth.name = "<init>") (hdecl : (T k).1 = own) {ty : FieldType} {v : Value} (hd : parseFieldDescriptor (T k).2.2.1 = some ty) (hn : narrow ty v = v) (hfit : fits ty v = true) (hl : k < fs.length)
    (hdg : decode cc pc = .ok (.putfield index, 3)) {cu1 : zw_R → va_E} (hcu : cu1 = zw_u cu r (.inr (ci, fs.set k v))) (kk : ∀ (H1 : Heap) (locs1 : List Loc), va_P E.1 E.2.1 (zw_l ad R cu1) H1 → va_D A (zw_l ad R cu1) → va_S A H0 H1 locs1 → W p l e RM s m args below meth c H1 locs1 cells slots Q (F0 m (pc + 3) ls rest)) : W p l e RM s m args below meth c H locs cells slots Q (F0 m pc ls (v :: .ref (ad r) :: rest)) := by
  obtain ⟨q0, hq, h0⟩ := zw_at (ad := ad) (cu := cu) hr
  rw [he] at h0
  refine va_putF hexec hb hts hin ty0 hty hnm hown hK hP hD hS0 q0 h0 hc k hk hlink hsame hfin hin2 hdecl hd hn hfit hl hdg (fun H1 locs1 h1 h2 h3 => ?_)
  rw [zw_set hD hq, ← hcu] at h1 h2
  exact kk H1 locs1 h1 h2 h3
theorem zw_alen (hexec : p.tables.exec = Jvm.exec) (hb : c.code = cc) (hK : va_K E.1 E.2.1 E.2.2 s) (hP : va_P E.1 E.2.1 (zw_l ad R cu) H) {r : zw_R} (hr : r ∈ R) (t0 : Nat) {cA : ClassId} {x : vp_A} (he : cu r = .inl (cA, x)) {ty : FieldType} (ht : E.2.2[t0]? = some (cA, ty)) {v : Int32} (hv : Int32.ofNat x.1 = v) (hdg : decode cc pc = .ok (.arraylength, 1))
    (kk : W p l e RM s m args below meth c H locs cells slots Q (F0 m (pc + 1) ls (.int v :: rest))) : W p l e RM s m args below meth c H locs cells slots Q (F0 m pc ls (.ref (ad r) :: rest)) := by
  obtain ⟨q0, -, h0⟩ := zw_at (ad := ad) (cu := cu) hr
  rw [he] at h0
  exact va_alen hexec hb hK hP q0 t0 h0 ht hv hdg kk
theorem zw_iald (hexec : p.tables.exec = Jvm.exec) (hb : c.code = cc) (hK : va_K E.1 E.2.1 E.2.2 s) (hP : va_P E.1 E.2.1 (zw_l ad R cu) H) {r : zw_R} (hr : r ∈ R) (t0 : Nat) {cA : ClassId} {n : Nat} {f : Nat → Int32} (he : cu r = .inl (cA, n, .inl f)) (ht : E.2.2[t0]? = some (cA, .int)) {i : Int32} (hin : vp_in i n) (hdg : decode cc pc = .ok (.iaload, 1))
    (kk : W p l e RM s m args below meth c H locs cells slots Q (F0 m (pc + 1) ls (.int (f i.toNatClampNeg) :: rest))) : W p l e RM s m args below meth c H locs cells slots Q (F0 m pc ls (.int i :: .ref (ad r) :: rest)) := by
  obtain ⟨q0, -, h0⟩ := zw_at (ad := ad) (cu := cu) hr
  rw [he] at h0
  exact va_iald hexec hb hK hP q0 t0 h0 ht hin hdg kk
theorem zw_iast (hexec : p.tables.exec = Jvm.exec) (hb : c.code = cc) (hK : va_K E.1 E.2.1 E.2.2 s) (hP : va_P E.1 E.2.1 (zw_l ad R cu) H) (hD : va_D A (zw_l ad R cu)) (hS : va_S A H0 H locs) {r : zw_R} (hr : r ∈ R) (t0 : Nat) {cA : ClassId} {n : Nat} {f : Nat → Int32} (he : cu r = .inl (cA, n, .inl f)) (ht : E.2.2[t0]? = some (cA, .int)) {i : Int32} {x : Int32} (hin : vp_in i n) (hdg : decode cc pc = .ok (.iastore, 1))
    {cu1 : zw_R → va_E} (hcu : cu1 = zw_u cu r (.inl (cA, n, .inl (upd f i.toNatClampNeg x)))) (kk : ∀ (H1 : Heap) (locs1 : List Loc), va_P E.1 E.2.1 (zw_l ad R cu1) H1 → va_D A (zw_l ad R cu1) → va_S A H0 H1 locs1 → W p l e RM s m args below meth c H1 locs1 cells slots Q (F0 m (pc + 1) ls rest)) : W p l e RM s m args below meth c H locs cells slots Q (F0 m pc ls (.int x :: .int i :: .ref (ad r) :: rest)) := by
  obtain ⟨q0, hq, h0⟩ := zw_at (ad := ad) (cu := cu) hr
  rw [he] at h0
  refine va_iast hexec hb hK hP hD hS q0 t0 h0 ht hin hdg (fun H1 locs1 h1 h2 h3 => ?_)
  rw [zw_set hD hq, ← hcu] at h1 h2
  exact kk H1 locs1 h1 h2 h3
theorem zw_aldq (hexec : p.tables.exec = Jvm.exec) (hb : c.code = cc) (hK : va_K E.1 E.2.1 E.2.2 s) (hP : va_P E.1 E.2.1 (zw_l ad R cu) H) {r : zw_R} (hr : r ∈ R) (t0 : Nat) {cA : ClassId} {C : String} {n : Nat} {f : Nat → Option Nat} (he : cu r = .inl (cA, n, .inr (.inr (.inr (.inr f))))) (ht : E.2.2[t0]? = some (cA, .object C)) {i : Int32} (hin : vp_in i n) {v : Value} (hv : va_rf (f i.toNatClampNeg) = v) (hdg : decode cc pc = .ok (.aaload, 1))
    (kk : W p l e RM s m args below meth c H locs cells slots Q (F0 m (pc + 1) ls (v :: rest))) : W p l e RM s m args below meth c H locs cells slots Q (F0 m pc ls (.int i :: .ref (ad r) :: rest)) := by
  obtain ⟨q0, -, h0⟩ := zw_at (ad := ad) (cu := cu) hr
  rw [he] at h0
  subst hv
  exact va_aldq hexec hb hK hP q0 t0 h0 ht hin hdg kk
/-- behind a call of a method that makes nothing -/
theorem zw_call {ans : Option Value} {cu' : zw_R → va_E} {st0 : List Value} {a : Array Value} {st1 : List Value} (h1 : ans.toList ++ rest = st1) (hr : va_Run p l e RM s m args below meth c H locs cells slots 0 0 (F0 m pc ls st0) rest (zw_Q ans (zw_B E (va_A (zw_l ad R cu) H.size) ad R cu') (va_A (zw_l ad R cu) H.size) a) (va_A (zw_l ad R cu) H.size)) (hD : va_D A (zw_l ad R cu)) (hS : va_S A H0 H locs) (hA : ∀ q, H0.size ≤ q → A q)
    (kk : ∀ (H1 : Heap) (locs1 : List Loc), va_P E.1 E.2.1 (zw_l ad R cu') H1 → va_D A (zw_l ad R cu') → va_S A H0 H1 locs1 → W p l e RM s m args below meth c H1 locs1 cells slots Q (F0 m (pc + 3) ls st1)) : W p l e RM s m args below meth c H locs cells slots Q (F0 m pc ls st0) := by
  subst h1
  intro T hT X
  have hF := zw_free hD hS hA
  obtain ⟨v, st₀, t, T', L, h0, X', hL, e1, e2, ⟨hv, ⟨bP, bK, bD⟩, hz, hk⟩, st⟩ := hr T hT X
  cases hv
  rw [h0] at hz hk
  obtain ⟨t2, a1, b1⟩ := kk T'.heap (locs ++ L) (by rw [e1]; exact bP) (bD.weaken (fun _ _ _ h => hF _ h))
    ⟨Nat.le_trans hS.1 (by rw [e1]; exact hz), fun q h1 h2 => by rw [e1, hk q (Nat.lt_of_lt_of_le h1 hS.1) (fun z => h2 (hF q z))]; exact hS.2.1 q h1 h2, fun q hq => by
      rcases List.mem_append.mp hq with h | h
      · exact hS.2.2 q h
      · exact hF _ (hL q h)⟩ T' rfl X'
  exact ⟨t2, st t2 a1, b1⟩
variable {y : MethodName} {bytes : ByteArray} {maxL nL n index : Nat} {ret : Option FieldType} {ws Ts : List Cond} {rm : Room} {own C host : String} {As : List Value} {ans : Option Value} {cu' : zw_R → va_E} {st0 st1 : List Value}
theorem zw_cS (S : CallFix p m c cc nL s args Ts own) (hM : zw_M l y ws rm E As ad R cu ans cu') (cw : CallB RM s args own index y bytes maxL ret ws rm 0 0 n ∧ (Cond.static y).before args s = true) (hK : va_K E.1 E.2.1 E.2.2 s) (hP : va_P E.1 E.2.1 (zw_l ad R cu) H) (hD : va_D A (zw_l ad R cu)) (hS : va_S A H0 H locs) (hA : ∀ q, H0.size ≤ q → A q) (hN : zw_N s)
    (hn : As.length = n) (hsize : ls.size = nL) (hstack : st0 = As.reverse ++ rest) (hW : (rest.map fun v => v.category).sum ≤ 8) (h1 : ans.toList ++ rest = st1) (hdg : decode cc pc = .ok (.invokestatic index, 3)) (hf : cells ≤ RM.cells ∧ slots ≤ RM.slots)
    (kk : ∀ (H1 : Heap) (locs1 : List Loc), va_P E.1 E.2.1 (zw_l ad R cu') H1 → va_D A (zw_l ad R cu') → va_S A H0 H1 locs1 → W p l e RM s m args below meth c H1 locs1 cells slots Q (F0 m (pc + 3) ls st1)) : W p l e RM s m args below meth c H locs cells slots Q (F0 m pc ls st0) :=
  zw_call h1 (va_runS (As := As) (rest := rest) (g := F0 m pc ls st0) S (hM H.size) cw ⟨zw_blind, fun U hU hW => ⟨rfl, by rw [hU], by rw [hU]; exact hP, va_K.moved hW.alike hK, hD.weaken (fun _ _ _ _ => trivial), zw_N.warm hW hN⟩⟩ rfl hn hsize hstack (lv_room hW) hdg hf) hD hS hA kk
theorem zw_cV (S : CallFix p m c cc nL s args Ts own) {r : zw_R} (hM : zw_M l y ws rm E (.ref (ad r) :: As) ad R cu ans cu') (cw : CallW RM s args own C index y bytes maxL ret ws rm 0 0 n) (hr : r ∈ R) {ci : Nat} {fs : List Value} (he : cu r = .inr (ci, fs)) {q : vw_C} (hc : E.2.1[ci]? = some q) (hq : q.1 = C) (hK : va_K E.1 E.2.1 E.2.2 s) (hP : va_P E.1 E.2.1 (zw_l ad R cu) H) (hD : va_D A (zw_l ad R cu)) (hS : va_S A H0 H locs) (hA : ∀ q, H0.size ≤ q → A q) (hN : zw_N s)
    (hn : As.length = n) (hsize : ls.size = nL) (hstack : st0 = As.reverse ++ .ref (ad r) :: rest) (hW : (rest.map fun v => v.category).sum ≤ 8) (h1 : ans.toList ++ rest = st1) (hdg : decode cc pc = .ok (.invokevirtual index, 3)) (hf : cells ≤ RM.cells ∧ slots ≤ RM.slots)
    (kk : ∀ (H1 : Heap) (locs1 : List Loc), va_P E.1 E.2.1 (zw_l ad R cu') H1 → va_D A (zw_l ad R cu') → va_S A H0 H1 locs1 → W p l e RM s m args below meth c H1 locs1 cells slots Q (F0 m (pc + 3) ls st1)) : W p l e RM s m args below meth c H locs cells slots Q (F0 m pc ls st0) := by
  obtain ⟨q0, -, h0⟩ := zw_at (ad := ad) (cu := cu) hr
  rw [he] at h0
  subst hq
  exact zw_call h1 (va_runV (As := As) (rest := rest) (g := F0 m pc ls st0) S (hM H.size) cw ⟨zw_blind, va_recv hK hP hc h0, fun U hU hW => ⟨rfl, by rw [hU], by rw [hU]; exact hP, va_K.moved hW.alike hK, hD.weaken (fun _ _ _ _ => trivial), zw_N.warm hW hN⟩⟩ rfl hn hsize hstack (lv_room hW) hdg hf) hD hS hA kk
theorem zw_cVN (S : CallFix p m c cc nL s args Ts own) {r : zw_R} (hM : zw_M l y ws rm E (.ref (ad r) :: As) ad R cu ans cu') (cw : va_CN RM s args own index y host bytes maxL ret ws rm 0 0 n ∧ (Cond.instanceMethod y).before args s = true ∧ (Cond.selects C y y).before args s = true) (hr : r ∈ R) {ci : Nat} {fs : List Value} (he : cu r = .inr (ci, fs)) {q : vw_C} (hc : E.2.1[ci]? = some q) (hq : q.1 = C) (hK : va_K E.1 E.2.1 E.2.2 s) (hP : va_P E.1 E.2.1 (zw_l ad R cu) H) (hD : va_D A (zw_l ad R cu)) (hS : va_S A H0 H locs) (hA : ∀ q, H0.size ≤ q → A q) (hN : zw_N s)
    (hn : As.length = n) (hsize : ls.size = nL) (hstack : st0 = As.reverse ++ .ref (ad r) :: rest) (hW : (rest.map fun v => v.category).sum ≤ 8) (h1 : ans.toList ++ rest = st1) (hdg : decode cc pc = .ok (.invokevirtual index, 3)) (hf : cells ≤ RM.cells ∧ slots ≤ RM.slots)
    (kk : ∀ (H1 : Heap) (locs1 : List Loc), va_P E.1 E.2.1 (zw_l ad R cu') H1 → va_D A (zw_l ad R cu') → va_S A H0 H1 locs1 → W p l e RM s m args below meth c H1 locs1 cells slots Q (F0 m (pc + 3) ls st1)) : W p l e RM s m args below meth c H locs cells slots Q (F0 m pc ls st0) := by
  obtain ⟨q0, -, h0⟩ := zw_at (ad := ad) (cu := cu) hr
  rw [he] at h0
  subst hq
  exact zw_call h1 (va_runVN (As := As) (rest := rest) (g := F0 m pc ls st0) S (hM H.size) cw ⟨zw_blind, va_recv hK hP hc h0, fun U hU hW => ⟨rfl, by rw [hU], by rw [hU]; exact hP, va_K.moved hW.alike hK, hD.weaken (fun _ _ _ _ => trivial), zw_N.warm hW hN⟩⟩ rfl hn hsize hstack (lv_room hW) hdg hf) hD hS hA kk
end ZW
end
section
/-! WHAT A STATE IS: nr reels, their lengths len, and the numbers σ of each role. Roles of the class: (0,0,0) the deck (numbers 0 reelsMade, 1 onDeck, 2 tapeAt, 3 sourceNumber, 4 sourceStep, 5 sheetRows, 6 sheetWidth, 7 tripTrack, 8 tripStatus, 9 latestStatus), (1,0,0) its reels, (2,0,0) offsets, (3,0,0) modes, (4,0,0) meters, (5,0,0) cells, (6,i,0) reel i, (7,i,0) its tracks, (8,i,t) a track (number 1: is it there), (9,i,t) its numbers. Roles of the reference: (20,0,0) the object, (21,0,0) length, (22,0,0) there, (23,0,0) number, (24,0,0) offset, (25,0,0) mode, (26,0,0) meter, (27,0,0) cue. -/
abbrev sp_S : Type := zw_R → Nat → Int32
abbrev sp_s (σ : sp_S) (r : zw_R) (j : Nat) (v : Int32) : sp_S := zw_u σ r (upd (σ r) j v)
abbrev sp_e (σ : sp_S) (st : Int32) : sp_S := sp_s σ (0, 0, 0) 9 st
/-- is there such a track -/
abbrev sp_r (nr : Nat) (reel : Int32) : Prop := 0 ≤ reel ∧ reel < nI nr
abbrev sp_t (track : Int32) : Prop := 0 ≤ track ∧ track ≤ 3
abbrev sp_v (nr : Nat) (reel track : Int32) : Prop := sp_r nr reel ∧ sp_t track
abbrev sp_w (v a b : Int32) : Prop := a ≤ v ∧ v ≤ b
def sp_f (len : Nat → Nat) (σ : sp_S) (i t : Nat) (p : Int32) : Int32 := if σ (8, i, t) 1 = 0 then 2 else if 0 ≤ p ∧ p < nI (len i) then 0 else 3
def sp_n (len : Nat → Nat) (σ : sp_S) (i t : Nat) (p : Int32) : Int32 := if sp_f len σ i t p = 0 then σ (9, i, t) p.toNatClampNeg else 0
def sp_as (t : Nat) (v : Int32) : Int32 := if t = 0 then v &&& 65535 else if t = 1 then v.toInt16.toInt32 else if t = 2 then (if (-32768 : Int32) < (if v < 32768 then v else 32768) then (if v < 32768 then v else 32768) else -32768) else v &&& 1
def sp_put (len : Nat → Nat) (σ : sp_S) (i t : Nat) (p v : Int32) : sp_S := if sp_f len σ i t p = 0 then sp_s σ (9, i, t) p.toNatClampNeg (sp_as t v) else σ
/-- the array classes, and the world's tables -/
abbrev ze_t (cA : Nat → ClassId) : List (ClassId × FieldType) := [(cA 0, .int), (cA 1, .object "FourTrackDeck$Reel"), (cA 2, .object "FourTrackDeck$Track")]
abbrev ze_E (dC : Nat → ClassId) (dI : Nat → Nat → Nat) (cA : Nat → ClassId) : zw_E := ((dC, dI), vwCl, ze_t cA)
def ze_S (cA : Nat → ClassId) (ad : zw_R → Nat) (nr : Nat) (len : Nat → Nat) (r : zw_R) (x : Nat → Int32) : va_E := match r.1 with
  | 0 => .inr (2, [.ref (ad (1, 0, 0)), .int (x 0), .int (x 1), .int (x 2), .ref (ad (2, 0, 0)), .ref (ad (3, 0, 0)), .ref (ad (4, 0, 0)), .int (x 3), .int (x 4), .ref (ad (5, 0, 0)), .int (x 5), .int (x 6), .int (x 7), .int (x 8), .int (x 9)])
  | 1 => .inl (cA 1, 8, .inr (.inr (.inr (.inr (fun j => if j < nr then some (ad (6, j, 0)) else none)))))
  | 2 => .inl (cA 0, 4, .inl x)
  | 3 => .inl (cA 0, 4, .inl x)
  | 4 => .inl (cA 0, 4, .inl x)
  | 5 => .inl (cA 0, 256, .inl x)
  | 6 => .inr (0, [.ref (ad (7, r.2.1, 0))])
  | 7 => .inl (cA 2, 4, .inr (.inr (.inr (.inr (fun j => if j < 4 then some (ad (8, r.2.1, j)) else none)))))
  | 8 => .inr (1, [.int (nI r.2.2), .ref (ad (9, r.2.1, r.2.2)), .int (x 1)])
  | _ => .inl (cA 0, len r.2.1, .inl x)
def ze_D (cA : Nat → ClassId) (ad : zw_R → Nat) (nr : Nat) (len : Nat → Nat) (σ : sp_S) : zw_R → va_E := fun r => ze_S cA ad nr len r (σ r)
def ze_X (cD cM : zw_R → va_E) : zw_R → va_E := fun r => bif Nat.blt r.1 20 then cD r else cM r
theorem ze_up {cA : Nat → ClassId} {ad : zw_R → Nat} {nr : Nat} {len : Nat → Nat} {σ : sp_S} {cM : zw_R → va_E} {r : zw_R} {x : Nat → Int32} {e : va_E} (hr : Nat.blt r.1 20 = true) (he : ze_S cA ad nr len r x = e) : ze_X (ze_D cA ad nr len (zw_u σ r x)) cM = zw_u (ze_X (ze_D cA ad nr len σ) cM) r e := by
  funext q
  by_cases h : q = r
  · subst h
    simp only [ze_X, ze_D, zw_us, hr, cond_true, he]
  · simp only [ze_X, ze_D, zw_un _ _ h]
/-- which roles are there -/
def ze_R (nr : Nat) (R : List zw_R) : Prop := (∀ k, k < 6 → (k, 0, 0) ∈ R) ∧ ∀ i, i < nr → (6, i, 0) ∈ R ∧ (7, i, 0) ∈ R ∧ ∀ t, t < 4 → (8, i, t) ∈ R ∧ (9, i, t) ∈ R
theorem ze_lt {x y : Int32} (h : x < y) : x.toInt < y.toInt := Int32.lt_iff_toInt_lt.mp h
theorem ze_le {x y : Int32} (h : x ≤ y) : x.toInt ≤ y.toInt := Int32.le_iff_toInt_le.mp h
theorem ze_nl {x y : Int32} (h : ¬ x < y) : y.toInt ≤ x.toInt := by
  have := mt Int32.lt_iff_toInt_lt.mpr h
  omega
theorem ze_nle {x y : Int32} (h : ¬ x ≤ y) : y.toInt < x.toInt := by
  have := mt Int32.le_iff_toInt_le.mpr h
  omega
theorem ze_cl (x : Int32) : (x.toNatClampNeg : Int) = max x.toInt 0 := by
  show ((x.toInt).toNat : Int) = _
  omega
theorem ze_vr {nr : Nat} {reel : Int32} (h : sp_r nr reel) (hn : nr ≤ 8) : reel.toNatClampNeg < nr := by
  have h1 := ze_le h.1
  have h2 := ze_lt h.2
  rw [nI_toInt (by omega)] at h2
  have h3 := ze_cl reel
  have h4 : (0 : Int32).toInt = 0 := rfl
  omega
theorem ze_vt {track : Int32} (h : sp_t track) : track.toNatClampNeg < 4 := by
  have h1 := ze_le h.1
  have h2 := ze_le h.2
  have h3 := ze_cl track
  have h4 : (0 : Int32).toInt = 0 := rfl
  have h5 : (3 : Int32).toInt = 3 := rfl
  omega
theorem ze_ti {track : Int32} (h : sp_t track) : vp_in track 4 := by
  have h1 := ze_le h.1
  have h2 := ze_le h.2
  have h4 : (0 : Int32).toInt = 0 := rfl
  have h5 : (3 : Int32).toInt = 3 := rfl
  exact vp_in_iff.mpr (by omega)
theorem ze_tn {track : Int32} (h : sp_t track) : nI track.toNatClampNeg = track := by
  have h1 := ze_le h.1
  have h2 := ze_le h.2
  have h3 := ze_cl track
  have h4 : (0 : Int32).toInt = 0 := rfl
  have h5 : (3 : Int32).toInt = 3 := rfl
  apply Int32.toInt_inj.mp
  rw [nI_toInt (by omega)]
  omega
theorem ze_fi {len : Nat → Nat} {σ : sp_S} {i t : Nat} {p : Int32} (hl : len i ≤ 64) (h : sp_f len σ i t p = 0) : vp_in p (len i) := by
  unfold sp_f at h
  split at h
  · exact absurd h (by decide)
  · split at h
    · rename_i h2
      have h3 := ze_le h2.1
      have h4 := ze_lt h2.2
      rw [nI_toInt (by omega)] at h4
      have h5 : (0 : Int32).toInt = 0 := rfl
      exact vp_in_iff.mpr (by omega)
    · exact absurd h (by decide)
theorem ze_r8 {nr : Nat} {reel : Int32} (h : sp_r nr reel) (hn : nr ≤ 8) : vp_in reel 8 ∧ ¬ (8 : Int32) ≤ reel := by
  have h1 := ze_le h.1
  have h2 := ze_lt h.2
  rw [nI_toInt (by omega)] at h2
  have h4 : (0 : Int32).toInt = 0 := rfl
  have h5 : (8 : Int32).toInt = 8 := rfl
  exact ⟨vp_in_iff.mpr (by omega), fun q => by have := ze_le q; omega⟩
theorem ze_in8 {reel : Int32} (h1 : ¬ reel < 0) (h2 : ¬ (8 : Int32) ≤ reel) : vp_in reel 8 := by
  have a1 := ze_nl h1
  have a2 := ze_nle h2
  have h4 : (0 : Int32).toInt = 0 := rfl
  have h5 : (8 : Int32).toInt = 8 := rfl
  exact vp_in_iff.mpr (by omega)
theorem ze_nr {nr : Nat} {reel : Int32} (h : ¬ sp_r nr reel) (h1 : ¬ reel < 0) (hn : nr ≤ 8) : ¬ reel.toNatClampNeg < nr := by
  intro q
  apply h
  have a1 := ze_nl h1
  have h4 : (0 : Int32).toInt = 0 := rfl
  have h3 := ze_cl reel
  refine ⟨Int32.not_lt.mp h1, Int32.lt_iff_toInt_lt.mpr ?_⟩
  rw [nI_toInt (by omega)]
  omega
end
section
set_option maxHeartbeats 4000000 in
set_option maxRecDepth 100000 in
/-- end: the status, the answer -/
theorem cd_end {l : Launch} {dC : Nat → ClassId} {dI : Nat → Nat → Nat} {cA : Nat → ClassId} {ad : zw_R → Nat} {R : List zw_R} {nr : Nat} {len : Nat → Nat} {σ : sp_S} {cM : zw_R → va_E} (hR : ze_R nr R) (p0 p1 : Int32) : zw_M l yX2_end wsX2_end { frames := 0, cells := 0, slots := 0, locals := 0 } (ze_E dC dI cA) [.ref (ad (0, 0, 0)), .int p0, .int p1] ad R (ze_X (ze_D cA ad nr len σ) cM) (some (.int p1)) (ze_X (ze_D cA ad nr len (sp_e σ p0)) cM) := by
  refine zw_body (cc := cX2_end) (maxL := 3) (ret := (some .int)) (by decide) rfl (Nat.le_of_ble_eq_true rfl) ?_
  intro p e s m below meth c A ls hx hb hr hlk hml hts hown hnm hA hK hP hD hS hN hl
  have hl : lv_has ls 3 [(0, .ref (ad (0, 0, 0))), (1, .int p0), (2, .int p1)] := hl
  have hwX2 : ∀ w ∈ u_ws RX2 TX2 15, w ∈ wsX2_end := by decide +kernel
  refine lv_aload_n hx hb dX2_end_0 rfl (lv_at hl 0 rfl) ?_
  refine lv_iload_n hx hb dX2_end_1 rfl (lv_at hl 1 rfl) ?_
  refine zw_putf (r := (0, 0, 0)) (v := .int p0) (C := RX2) (T := TX2) (N := 15) (ci := 2) hx hb hts hwX2 tyX2 tyX2_ok nmX2 hown hK hP hD hS (hR.1 0 (by decide)) rfl rfl 14 (by decide) (hts (.fieldLink RX2 56 "FourTrackDeck" "latestStatus" "I") (by decide +kernel)) (fun _ h9 => h9) rfl (ty := .int) (by decide +kernel) rfl rfl (Nat.le_of_ble_eq_true rfl) dX2_end_2 (cu1 := ze_X (ze_D cA ad nr len (sp_s σ (0, 0, 0) 9 p0)) cM) (ze_up rfl rfl) (fun H locs hP hD hS => ?_)
  refine lv_iload_n hx hb dX2_end_5 rfl (lv_at hl 2 rfl) ?_
  exact zw_iret hx hb hr hlk hK hP hD hS dX2_end_6 rfl rfl
set_option maxHeartbeats 4000000 in
set_option maxRecDepth 100000 in
theorem cd_isWithin_1 {l : Launch} {E : zw_E} {ad : zw_R → Nat} {R : List zw_R} {cu : zw_R → va_E} (p0 p1 p2 : Int32) (h : sp_w p0 p1 p2) : zw_M l yX2_isWithin wsX2_isWithin { frames := 0, cells := 0, slots := 0, locals := 0 } (E) [.int p0, .int p1, .int p2] ad R (cu) (some (.int 1)) (cu) := by
  refine zw_body (cc := cX2_isWithin) (maxL := 3) (ret := (some .boolean)) (by decide) rfl (Nat.le_of_ble_eq_true rfl) ?_
  intro p e s m below meth c A ls hx hb hr hlk hml hts hown hnm hA hK hP hD hS hN hl
  have hl : lv_has ls 3 [(0, .int p0), (1, .int p1), (2, .int p2)] := hl
  refine lv_iload_n hx hb dX2_isWithin_0 rfl (lv_at hl 0 rfl) ?_
  refine lv_iload_n hx hb dX2_isWithin_1 rfl (lv_at hl 1 rfl) ?_
  refine lv_icmp_lt (tgt := 14) hx hb dX2_isWithin_2 (by decide) (fun c_1 => absurd c_1 (Int32.not_lt.mpr h.1)) (fun c_1 => ?_)
  refine lv_iload_n hx hb dX2_isWithin_5 rfl (lv_at hl 0 rfl) ?_
  refine lv_iload_n hx hb dX2_isWithin_6 rfl (lv_at hl 2 rfl) ?_
  refine lv_icmp_gt (tgt := 14) hx hb dX2_isWithin_7 (by decide) (fun c_2 => absurd c_2 (Int32.not_lt.mpr h.2)) (fun c_2 => ?_)
  refine lv_iconst (v := 1) hx hb dX2_isWithin_10 (by decide) ?_
  refine lv_goto (tgt := 15) hx hb dX2_isWithin_11 (by decide) ?_
  exact zw_zret hx hb hr rfl hlk hK hP hD hS dX2_isWithin_15 rfl rfl
set_option maxHeartbeats 4000000 in
set_option maxRecDepth 100000 in
theorem cd_isWithin_0 {l : Launch} {E : zw_E} {ad : zw_R → Nat} {R : List zw_R} {cu : zw_R → va_E} (p0 p1 p2 : Int32) (h : ¬ sp_w p0 p1 p2) : zw_M l yX2_isWithin wsX2_isWithin { frames := 0, cells := 0, slots := 0, locals := 0 } (E) [.int p0, .int p1, .int p2] ad R (cu) (some (.int 0)) (cu) := by
  refine zw_body (cc := cX2_isWithin) (maxL := 3) (ret := (some .boolean)) (by decide) rfl (Nat.le_of_ble_eq_true rfl) ?_
  intro p e s m below meth c A ls hx hb hr hlk hml hts hown hnm hA hK hP hD hS hN hl
  have hl : lv_has ls 3 [(0, .int p0), (1, .int p1), (2, .int p2)] := hl
  refine lv_iload_n hx hb dX2_isWithin_0 rfl (lv_at hl 0 rfl) ?_
  refine lv_iload_n hx hb dX2_isWithin_1 rfl (lv_at hl 1 rfl) ?_
  refine lv_icmp_lt (tgt := 14) hx hb dX2_isWithin_2 (by decide) (fun c_1 => ?_) (fun c_1 => ?_)
  · refine lv_iconst (v := 0) hx hb dX2_isWithin_14 (by decide) ?_
    exact zw_zret hx hb hr rfl hlk hK hP hD hS dX2_isWithin_15 rfl rfl
  · refine lv_iload_n hx hb dX2_isWithin_5 rfl (lv_at hl 0 rfl) ?_
    refine lv_iload_n hx hb dX2_isWithin_6 rfl (lv_at hl 2 rfl) ?_
    refine lv_icmp_gt (tgt := 14) hx hb dX2_isWithin_7 (by decide) (fun c_2 => ?_) (fun c_2 => ?_)
    · refine lv_iconst (v := 0) hx hb dX2_isWithin_14 (by decide) ?_
      exact zw_zret hx hb hr rfl hlk hK hP hD hS dX2_isWithin_15 rfl rfl
    · exact absurd ⟨Int32.not_lt.mp c_1, Int32.not_lt.mp c_2⟩ h
set_option maxHeartbeats 4000000 in
set_option maxRecDepth 100000 in
theorem cd_isTrack_1 {l : Launch} {E : zw_E} {ad : zw_R → Nat} {R : List zw_R} {cu : zw_R → va_E} (p0 : Int32) (h : sp_t p0) : zw_M l yX2_isTrack wsX2_isTrack { frames := 1, cells := 0, slots := 0, locals := 22 } (E) [.int p0] ad R (cu) (some (.int 1)) (cu) := by
  refine zw_body (cc := cX2_isTrack) (maxL := 1) (ret := (some .boolean)) (by decide) rfl (Nat.le_of_ble_eq_true rfl) ?_
  intro p e s m below meth c A ls hx hb hr hlk hml hts hown hnm hA hK hP hD hS hN hl
  have hl : lv_has ls 1 [(0, .int p0)] := hl
  refine lv_iload_n hx hb dX2_isTrack_0 rfl (lv_at hl 0 rfl) ?_
  refine lv_iconst (v := 0) hx hb dX2_isTrack_1 (by decide) ?_
  refine lv_iconst (v := 3) hx hb dX2_isTrack_2 (by decide) ?_
  refine zw_cS (As := [.int p0, .int 0, .int 3]) (rest := []) (st1 := [.int 1]) ⟨hx, hb, hml, hown, hts⟩ (cd_isWithin_1 p0 0 3 h) (va_cwS 3 hts gX2_isTrack_X2_isWithin rfl rfl rfl (by decide +kernel) ⟨Nat.le_of_ble_eq_true rfl, Nat.le_of_ble_eq_true rfl⟩) hK hP hD hS hA hN rfl hl.1 rfl (Nat.le_of_ble_eq_true rfl) rfl dX2_isTrack_3 ⟨Nat.zero_le _, Nat.zero_le _⟩ (fun H locs hP hD hS => ?_)
  exact zw_zret hx hb hr rfl hlk hK hP hD hS dX2_isTrack_6 rfl rfl
set_option maxHeartbeats 4000000 in
set_option maxRecDepth 100000 in
theorem cd_isTrack_0 {l : Launch} {E : zw_E} {ad : zw_R → Nat} {R : List zw_R} {cu : zw_R → va_E} (p0 : Int32) (h : ¬ sp_t p0) : zw_M l yX2_isTrack wsX2_isTrack { frames := 1, cells := 0, slots := 0, locals := 22 } (E) [.int p0] ad R (cu) (some (.int 0)) (cu) := by
  refine zw_body (cc := cX2_isTrack) (maxL := 1) (ret := (some .boolean)) (by decide) rfl (Nat.le_of_ble_eq_true rfl) ?_
  intro p e s m below meth c A ls hx hb hr hlk hml hts hown hnm hA hK hP hD hS hN hl
  have hl : lv_has ls 1 [(0, .int p0)] := hl
  refine lv_iload_n hx hb dX2_isTrack_0 rfl (lv_at hl 0 rfl) ?_
  refine lv_iconst (v := 0) hx hb dX2_isTrack_1 (by decide) ?_
  refine lv_iconst (v := 3) hx hb dX2_isTrack_2 (by decide) ?_
  refine zw_cS (As := [.int p0, .int 0, .int 3]) (rest := []) (st1 := [.int 0]) ⟨hx, hb, hml, hown, hts⟩ (cd_isWithin_0 p0 0 3 h) (va_cwS 3 hts gX2_isTrack_X2_isWithin rfl rfl rfl (by decide +kernel) ⟨Nat.le_of_ble_eq_true rfl, Nat.le_of_ble_eq_true rfl⟩) hK hP hD hS hA hN rfl hl.1 rfl (Nat.le_of_ble_eq_true rfl) rfl dX2_isTrack_3 ⟨Nat.zero_le _, Nat.zero_le _⟩ (fun H locs hP hD hS => ?_)
  exact zw_zret hx hb hr rfl hlk hK hP hD hS dX2_isTrack_6 rfl rfl
set_option maxHeartbeats 4000000 in
set_option maxRecDepth 100000 in
theorem cd_firstFault {l : Launch} {E : zw_E} {ad : zw_R → Nat} {R : List zw_R} {cu : zw_R → va_E} (p0 p1 : Int32) : zw_M l yX2_firstFault wsX2_firstFault { frames := 0, cells := 0, slots := 0, locals := 0 } (E) [.int p0, .int p1] ad R (cu) (some (.int (if p0 = 0 then p1 else p0))) (cu) := by
  refine zw_body (cc := cX2_firstFault) (maxL := 2) (ret := (some .int)) (by decide) rfl (Nat.le_of_ble_eq_true rfl) ?_
  intro p e s m below meth c A ls hx hb hr hlk hml hts hown hnm hA hK hP hD hS hN hl
  have hl : lv_has ls 2 [(0, .int p0), (1, .int p1)] := hl
  refine lv_iload_n hx hb dX2_firstFault_0 rfl (lv_at hl 0 rfl) ?_
  refine lv_if_eq (tgt := 8) hx hb dX2_firstFault_1 (by decide) (fun c_1 => ?_) (fun c_1 => ?_)
  · refine lv_iload_n hx hb dX2_firstFault_8 rfl (lv_at hl 1 rfl) ?_
    exact zw_iret hx hb hr hlk hK hP hD hS dX2_firstFault_9 (by simp only [if_pos c_1] <;> rfl) rfl
  · refine lv_iload_n hx hb dX2_firstFault_4 rfl (lv_at hl 0 rfl) ?_
    refine lv_goto (tgt := 9) hx hb dX2_firstFault_5 (by decide) ?_
    exact zw_iret hx hb hr hlk hK hP hD hS dX2_firstFault_9 (by simp only [if_neg c_1] <;> rfl) rfl
set_option maxHeartbeats 4000000 in
set_option maxRecDepth 100000 in
theorem cd_indexOfCell {l : Launch} {E : zw_E} {ad : zw_R → Nat} {R : List zw_R} {cu : zw_R → va_E} (p0 p1 : Int32) : zw_M l yX2_indexOfCell wsX2_indexOfCell { frames := 0, cells := 0, slots := 0, locals := 0 } (E) [.int p0, .int p1] ad R (cu) (some (.int (p0 * 16 + p1))) (cu) := by
  refine zw_body (cc := cX2_indexOfCell) (maxL := 2) (ret := (some .int)) (by decide) rfl (Nat.le_of_ble_eq_true rfl) ?_
  intro p e s m below meth c A ls hx hb hr hlk hml hts hown hnm hA hK hP hD hS hN hl
  have hl : lv_has ls 2 [(0, .int p0), (1, .int p1)] := hl
  refine lv_iload_n hx hb dX2_indexOfCell_0 rfl (lv_at hl 0 rfl) ?_
  refine lv_bipush (v := 16) hx hb dX2_indexOfCell_1 (by decide) ?_
  refine lv_imul hx hb dX2_indexOfCell_3 ?_
  refine lv_iload_n hx hb dX2_indexOfCell_4 rfl (lv_at hl 1 rfl) ?_
  refine lv_iadd hx hb dX2_indexOfCell_5 ?_
  exact zw_iret hx hb hr hlk hK hP hD hS dX2_indexOfCell_6 rfl rfl
set_option maxHeartbeats 4000000 in
set_option maxRecDepth 100000 in
/-- Track.faultAt -/
theorem cd_faultAt {l : Launch} {dC : Nat → ClassId} {dI : Nat → Nat → Nat} {cA : Nat → ClassId} {ad : zw_R → Nat} {R : List zw_R} {nr : Nat} {len : Nat → Nat} {σ : sp_S} {cM : zw_R → va_E} (hR : ze_R nr R) (i t : Nat) (hi : i < nr) (ht : t < 4) (p0 : Int32) : zw_M l yX1_faultAt wsX1_faultAt { frames := 0, cells := 0, slots := 0, locals := 0 } (ze_E dC dI cA) [.ref (ad (8, i, t)), .int p0] ad R (ze_X (ze_D cA ad nr len σ) cM) (some (.int (sp_f len σ i t p0))) (ze_X (ze_D cA ad nr len σ) cM) := by
  refine zw_body (cc := cX1_faultAt) (maxL := 2) (ret := (some .int)) (by decide) rfl (Nat.le_of_ble_eq_true rfl) ?_
  intro p e s m below meth c A ls hx hb hr hlk hml hts hown hnm hA hK hP hD hS hN hl
  have hl : lv_has ls 2 [(0, .ref (ad (8, i, t))), (1, .int p0)] := hl
  have hwX1 : ∀ w ∈ u_ws RX1 TX1 3, w ∈ wsX1_faultAt := by decide +kernel
  refine lv_aload_n hx hb dX1_faultAt_0 rfl (lv_at hl 0 rfl) ?_
  refine zw_getf (r := (8, i, t)) (v := .int (σ (8, i, t) 1)) (C := RX1) (T := TX1) (N := 3) (ci := 1) hx hb hts hwX1 hown hK hP ((hR.2 i hi).2.2 t ht).1 rfl rfl 2 (by decide) (hts (.fieldLink RX1 19 "FourTrackDeck$Track" "isThere" "Z") (by decide +kernel)) (fun _ h9 => h9) rfl dX1_faultAt_1 ?_
  refine lv_if_ne (tgt := 9) hx hb dX1_faultAt_4 (by decide) (fun c_1 => ?_) (fun c_1 => ?_)
  · refine lv_iload_n hx hb dX1_faultAt_9 rfl (lv_at hl 1 rfl) ?_
    refine lv_if_lt (tgt := 26) hx hb dX1_faultAt_10 (by decide) (fun c_2 => ?_) (fun c_2 => ?_)
    · refine lv_iconst (v := 3) hx hb dX1_faultAt_26 (by decide) ?_
      exact zw_iret hx hb hr hlk hK hP hD hS dX1_faultAt_27 (by unfold sp_f; rw [if_neg c_1, if_neg (fun q => Int32.not_lt.mpr q.1 c_2)]) rfl
    · refine lv_iload_n hx hb dX1_faultAt_13 rfl (lv_at hl 1 rfl) ?_
      refine lv_aload_n hx hb dX1_faultAt_14 rfl (lv_at hl 0 rfl) ?_
      refine zw_getf (r := (8, i, t)) (v := .ref (ad (9, i, t))) (C := RX1) (T := TX1) (N := 3) (ci := 1) hx hb hts hwX1 hown hK hP ((hR.2 i hi).2.2 t ht).1 rfl rfl 1 (by decide) (hts (.fieldLink RX1 15 "FourTrackDeck$Track" "numbers" "[I") (by decide +kernel)) (fun _ h9 => h9) rfl dX1_faultAt_15 ?_
      refine zw_alen (r := (9, i, t)) (v := (nI (len i))) hx hb hK hP ((hR.2 i hi).2.2 t ht).2 0 rfl rfl rfl dX1_faultAt_18 ?_
      refine lv_icmp_ge (tgt := 26) hx hb dX1_faultAt_19 (by decide) (fun c_3 => ?_) (fun c_3 => ?_)
      · refine lv_iconst (v := 3) hx hb dX1_faultAt_26 (by decide) ?_
        exact zw_iret hx hb hr hlk hK hP hD hS dX1_faultAt_27 (by unfold sp_f; rw [if_neg c_1, if_neg (fun q => Int32.not_lt.mpr c_3 q.2)]) rfl
      · refine lv_iconst (v := 0) hx hb dX1_faultAt_22 (by decide) ?_
        refine lv_goto (tgt := 27) hx hb dX1_faultAt_23 (by decide) ?_
        exact zw_iret hx hb hr hlk hK hP hD hS dX1_faultAt_27 (by unfold sp_f; rw [if_neg c_1, if_pos ⟨Int32.not_lt.mp c_2, Int32.not_le.mp c_3⟩]) rfl
  · refine lv_iconst (v := 2) hx hb dX1_faultAt_7 (by decide) ?_
    exact zw_iret hx hb hr hlk hK hP hD hS dX1_faultAt_8 (by unfold sp_f; rw [if_pos c_1]) rfl
set_option maxHeartbeats 4000000 in
set_option maxRecDepth 100000 in
/-- Track.numberAt -/
theorem cd_numberAt {l : Launch} {dC : Nat → ClassId} {dI : Nat → Nat → Nat} {cA : Nat → ClassId} {ad : zw_R → Nat} {R : List zw_R} {nr : Nat} {len : Nat → Nat} {σ : sp_S} {cM : zw_R → va_E} (hR : ze_R nr R) (i t : Nat) (hi : i < nr) (ht : t < 4) (hlen : len i ≤ 64) (p0 : Int32) : zw_M l yX1_numberAt wsX1_numberAt { frames := 1, cells := 0, slots := 0, locals := 21 } (ze_E dC dI cA) [.ref (ad (8, i, t)), .int p0] ad R (ze_X (ze_D cA ad nr len σ) cM) (some (.int (sp_n len σ i t p0))) (ze_X (ze_D cA ad nr len σ) cM) := by
  refine zw_body (cc := cX1_numberAt) (maxL := 2) (ret := (some .int)) (by decide) rfl (Nat.le_of_ble_eq_true rfl) ?_
  intro p e s m below meth c A ls hx hb hr hlk hml hts hown hnm hA hK hP hD hS hN hl
  have hl : lv_has ls 2 [(0, .ref (ad (8, i, t))), (1, .int p0)] := hl
  have hwX1 : ∀ w ∈ u_ws RX1 TX1 3, w ∈ wsX1_numberAt := by decide +kernel
  refine lv_aload_n hx hb dX1_numberAt_0 rfl (lv_at hl 0 rfl) ?_
  refine lv_iload_n hx hb dX1_numberAt_1 rfl (lv_at hl 1 rfl) ?_
  refine zw_cV (r := (8, i, t)) (As := [.int p0]) (rest := []) (st1 := [.int (sp_f len σ i t p0)]) ⟨hx, hb, hml, hown, hts⟩ (cd_faultAt (σ := σ) hR i t hi ht p0) (cwV 1 hts gX1_numberAt_X1_faultAt rfl rfl rfl (by decide +kernel) ⟨Nat.le_of_ble_eq_true rfl, Nat.le_of_ble_eq_true rfl⟩) ((hR.2 i hi).2.2 t ht).1 rfl rfl rfl hK hP hD hS hA hN rfl hl.1 rfl (Nat.le_of_ble_eq_true rfl) rfl dX1_numberAt_2 ⟨Nat.zero_le _, Nat.zero_le _⟩ (fun H locs hP hD hS => ?_)
  refine lv_if_ne (tgt := 17) hx hb dX1_numberAt_5 (by decide) (fun c_1 => ?_) (fun c_1 => ?_)
  · refine lv_iconst (v := 0) hx hb dX1_numberAt_17 (by decide) ?_
    exact zw_iret hx hb hr hlk hK hP hD hS dX1_numberAt_18 (by simp only [sp_n, if_neg c_1] <;> rfl) rfl
  · refine lv_aload_n hx hb dX1_numberAt_8 rfl (lv_at hl 0 rfl) ?_
    refine zw_getf (r := (8, i, t)) (v := .ref (ad (9, i, t))) (C := RX1) (T := TX1) (N := 3) (ci := 1) hx hb hts hwX1 hown hK hP ((hR.2 i hi).2.2 t ht).1 rfl rfl 1 (by decide) (hts (.fieldLink RX1 15 "FourTrackDeck$Track" "numbers" "[I") (by decide +kernel)) (fun _ h9 => h9) rfl dX1_numberAt_9 ?_
    refine lv_iload_n hx hb dX1_numberAt_12 rfl (lv_at hl 1 rfl) ?_
    refine zw_iald (r := (9, i, t)) hx hb hK hP ((hR.2 i hi).2.2 t ht).2 0 rfl rfl (ze_fi hlen c_1) dX1_numberAt_13 ?_
    refine lv_goto (tgt := 18) hx hb dX1_numberAt_14 (by decide) ?_
    exact zw_iret hx hb hr hlk hK hP hD hS dX1_numberAt_18 (by simp only [sp_n, if_pos c_1] <;> rfl) rfl
set_option maxHeartbeats 4000000 in
set_option maxRecDepth 100000 in
theorem cd_as_0 {l : Launch} {dC : Nat → ClassId} {dI : Nat → Nat → Nat} {cA : Nat → ClassId} {ad : zw_R → Nat} {R : List zw_R} {nr : Nat} {len : Nat → Nat} {σ : sp_S} {cM : zw_R → va_E} (hR : ze_R nr R) (i : Nat) (hi : i < nr) (ht : 0 < 4) (p0 : Int32) : zw_M l yX1_asTrackHasIt wsX1_asTrackHasIt { frames := 1, cells := 0, slots := 0, locals := 16 } (ze_E dC dI cA) [.ref (ad (8, i, 0)), .int p0] ad R (ze_X (ze_D cA ad nr len σ) cM) (some (.int (sp_as 0 p0))) (ze_X (ze_D cA ad nr len σ) cM) := by
  refine zw_body (cc := cX1_asTrackHasIt) (maxL := 2) (ret := (some .int)) (by decide) rfl (Nat.le_of_ble_eq_true rfl) ?_
  intro p e s m below meth c A ls hx hb hr hlk hml hts hown hnm hA hK hP hD hS hN hl
  have hl : lv_has ls 2 [(0, .ref (ad (8, i, 0))), (1, .int p0)] := hl
  have hwX1 : ∀ w ∈ u_ws RX1 TX1 3, w ∈ wsX1_asTrackHasIt := by decide +kernel
  refine lv_aload_n hx hb dX1_asTrackHasIt_0 rfl (lv_at hl 0 rfl) ?_
  refine zw_getf (r := (8, i, 0)) (v := .int (nI 0)) (C := RX1) (T := TX1) (N := 3) (ci := 1) hx hb hts hwX1 hown hK hP ((hR.2 i hi).2.2 0 ht).1 rfl rfl 0 (by decide) (hts (.fieldLink RX1 9 "FourTrackDeck$Track" "kind" "I") (by decide +kernel)) (fun _ h9 => h9) rfl dX1_asTrackHasIt_1 ?_
  have e_sw : ((nI 0)).toInt = 0 := by decide
  refine lv_tableIn (tgt := 32) hx hb dX1_asTrackHasIt_4 (by rw [e_sw]; decide) (by rw [e_sw]; decide) (by rw [e_sw]; rfl) (by decide) ?_
  refine lv_iload_n hx hb dX1_asTrackHasIt_32 rfl (lv_at hl 1 rfl) ?_
  refine lv_ldc (v := 65535) hx hb hown (hts (.constant RX1 43 65535) (by decide +kernel)) dX1_asTrackHasIt_33 ?_
  refine lv_iand hx hb dX1_asTrackHasIt_35 ?_
  exact zw_iret hx hb hr hlk hK hP hD hS dX1_asTrackHasIt_36 rfl rfl
set_option maxHeartbeats 4000000 in
set_option maxRecDepth 100000 in
theorem cd_as_1 {l : Launch} {dC : Nat → ClassId} {dI : Nat → Nat → Nat} {cA : Nat → ClassId} {ad : zw_R → Nat} {R : List zw_R} {nr : Nat} {len : Nat → Nat} {σ : sp_S} {cM : zw_R → va_E} (hR : ze_R nr R) (i : Nat) (hi : i < nr) (ht : 1 < 4) (p0 : Int32) : zw_M l yX1_asTrackHasIt wsX1_asTrackHasIt { frames := 1, cells := 0, slots := 0, locals := 16 } (ze_E dC dI cA) [.ref (ad (8, i, 1)), .int p0] ad R (ze_X (ze_D cA ad nr len σ) cM) (some (.int (sp_as 1 p0))) (ze_X (ze_D cA ad nr len σ) cM) := by
  refine zw_body (cc := cX1_asTrackHasIt) (maxL := 2) (ret := (some .int)) (by decide) rfl (Nat.le_of_ble_eq_true rfl) ?_
  intro p e s m below meth c A ls hx hb hr hlk hml hts hown hnm hA hK hP hD hS hN hl
  have hl : lv_has ls 2 [(0, .ref (ad (8, i, 1))), (1, .int p0)] := hl
  have hwX1 : ∀ w ∈ u_ws RX1 TX1 3, w ∈ wsX1_asTrackHasIt := by decide +kernel
  refine lv_aload_n hx hb dX1_asTrackHasIt_0 rfl (lv_at hl 0 rfl) ?_
  refine zw_getf (r := (8, i, 1)) (v := .int (nI 1)) (C := RX1) (T := TX1) (N := 3) (ci := 1) hx hb hts hwX1 hown hK hP ((hR.2 i hi).2.2 1 ht).1 rfl rfl 0 (by decide) (hts (.fieldLink RX1 9 "FourTrackDeck$Track" "kind" "I") (by decide +kernel)) (fun _ h9 => h9) rfl dX1_asTrackHasIt_1 ?_
  have e_sw : ((nI 1)).toInt = 1 := by decide
  refine lv_tableIn (tgt := 37) hx hb dX1_asTrackHasIt_4 (by rw [e_sw]; decide) (by rw [e_sw]; decide) (by rw [e_sw]; rfl) (by decide) ?_
  refine lv_iload_n hx hb dX1_asTrackHasIt_37 rfl (lv_at hl 1 rfl) ?_
  refine lv_i2s hx hb dX1_asTrackHasIt_38 rfl ?_
  exact zw_iret hx hb hr hlk hK hP hD hS dX1_asTrackHasIt_39 rfl rfl
set_option maxHeartbeats 4000000 in
set_option maxRecDepth 100000 in
theorem cd_as_2 {l : Launch} {dC : Nat → ClassId} {dI : Nat → Nat → Nat} {cA : Nat → ClassId} {ad : zw_R → Nat} {R : List zw_R} {nr : Nat} {len : Nat → Nat} {σ : sp_S} {cM : zw_R → va_E} (hR : ze_R nr R) (i : Nat) (hi : i < nr) (ht : 2 < 4) (p0 : Int32) : zw_M l yX1_asTrackHasIt wsX1_asTrackHasIt { frames := 1, cells := 0, slots := 0, locals := 16 } (ze_E dC dI cA) [.ref (ad (8, i, 2)), .int p0] ad R (ze_X (ze_D cA ad nr len σ) cM) (some (.int (sp_as 2 p0))) (ze_X (ze_D cA ad nr len σ) cM) := by
  refine zw_body (cc := cX1_asTrackHasIt) (maxL := 2) (ret := (some .int)) (by decide) rfl (Nat.le_of_ble_eq_true rfl) ?_
  intro p e s m below meth c A ls hx hb hr hlk hml hts hown hnm hA hK hP hD hS hN hl
  have hl : lv_has ls 2 [(0, .ref (ad (8, i, 2))), (1, .int p0)] := hl
  have hwX1 : ∀ w ∈ u_ws RX1 TX1 3, w ∈ wsX1_asTrackHasIt := by decide +kernel
  refine lv_aload_n hx hb dX1_asTrackHasIt_0 rfl (lv_at hl 0 rfl) ?_
  refine zw_getf (r := (8, i, 2)) (v := .int (nI 2)) (C := RX1) (T := TX1) (N := 3) (ci := 1) hx hb hts hwX1 hown hK hP ((hR.2 i hi).2.2 2 ht).1 rfl rfl 0 (by decide) (hts (.fieldLink RX1 9 "FourTrackDeck$Track" "kind" "I") (by decide +kernel)) (fun _ h9 => h9) rfl dX1_asTrackHasIt_1 ?_
  have e_sw : ((nI 2)).toInt = 2 := by decide
  refine lv_tableIn (tgt := 40) hx hb dX1_asTrackHasIt_4 (by rw [e_sw]; decide) (by rw [e_sw]; decide) (by rw [e_sw]; rfl) (by decide) ?_
  refine lv_sipush (v := (-32768)) hx hb dX1_asTrackHasIt_40 (by decide) ?_
  refine lv_ldc (v := 32768) hx hb hown (hts (.constant RX1 44 32768) (by decide +kernel)) dX1_asTrackHasIt_43 ?_
  refine lv_iload_n hx hb dX1_asTrackHasIt_45 rfl (lv_at hl 1 rfl) ?_
  refine va_mmin (x := 32768) (y := p0) hx hb (hml.trans hl.1.symm) hown (hts (.methodLink RX1 45 Lib.Math.min.name) (by decide +kernel)) (hts (.static Lib.Math.min.name) (by decide +kernel)) (hts (.initialized "java/lang/Math") (by decide +kernel)) (hts (.code Lib.Math.min.name Lib.Math.min.code 2 (some .int)) (by decide +kernel)) (Nat.le_of_ble_eq_true rfl) (Nat.le_of_ble_eq_true rfl) (Nat.zero_le _) (Nat.zero_le _) dX1_asTrackHasIt_46 ?_
  refine va_mmax (x := (-32768)) (y := (if p0 < 32768 then p0 else 32768)) hx hb (hml.trans hl.1.symm) hown (hts (.methodLink RX1 51 Lib.Math.max.name) (by decide +kernel)) (hts (.static Lib.Math.max.name) (by decide +kernel)) (hts (.initialized "java/lang/Math") (by decide +kernel)) (hts (.code Lib.Math.max.name Lib.Math.max.code 2 (some .int)) (by decide +kernel)) (Nat.le_of_ble_eq_true rfl) (Nat.le_of_ble_eq_true rfl) (Nat.zero_le _) (Nat.zero_le _) dX1_asTrackHasIt_49 ?_
  exact zw_iret hx hb hr hlk hK hP hD hS dX1_asTrackHasIt_52 rfl rfl
set_option maxHeartbeats 4000000 in
set_option maxRecDepth 100000 in
theorem cd_as_3 {l : Launch} {dC : Nat → ClassId} {dI : Nat → Nat → Nat} {cA : Nat → ClassId} {ad : zw_R → Nat} {R : List zw_R} {nr : Nat} {len : Nat → Nat} {σ : sp_S} {cM : zw_R → va_E} (hR : ze_R nr R) (i : Nat) (hi : i < nr) (ht : 3 < 4) (p0 : Int32) : zw_M l yX1_asTrackHasIt wsX1_asTrackHasIt { frames := 1, cells := 0, slots := 0, locals := 16 } (ze_E dC dI cA) [.ref (ad (8, i, 3)), .int p0] ad R (ze_X (ze_D cA ad nr len σ) cM) (some (.int (sp_as 3 p0))) (ze_X (ze_D cA ad nr len σ) cM) := by
  refine zw_body (cc := cX1_asTrackHasIt) (maxL := 2) (ret := (some .int)) (by decide) rfl (Nat.le_of_ble_eq_true rfl) ?_
  intro p e s m below meth c A ls hx hb hr hlk hml hts hown hnm hA hK hP hD hS hN hl
  have hl : lv_has ls 2 [(0, .ref (ad (8, i, 3))), (1, .int p0)] := hl
  have hwX1 : ∀ w ∈ u_ws RX1 TX1 3, w ∈ wsX1_asTrackHasIt := by decide +kernel
  refine lv_aload_n hx hb dX1_asTrackHasIt_0 rfl (lv_at hl 0 rfl) ?_
  refine zw_getf (r := (8, i, 3)) (v := .int (nI 3)) (C := RX1) (T := TX1) (N := 3) (ci := 1) hx hb hts hwX1 hown hK hP ((hR.2 i hi).2.2 3 ht).1 rfl rfl 0 (by decide) (hts (.fieldLink RX1 9 "FourTrackDeck$Track" "kind" "I") (by decide +kernel)) (fun _ h9 => h9) rfl dX1_asTrackHasIt_1 ?_
  have e_sw : ((nI 3)).toInt = 3 := by decide
  refine lv_tableOut (tgt := 53) hx hb dX1_asTrackHasIt_4 (by rw [e_sw]; decide) (by decide) ?_
  refine lv_iload_n hx hb dX1_asTrackHasIt_53 rfl (lv_at hl 1 rfl) ?_
  refine lv_iconst (v := 1) hx hb dX1_asTrackHasIt_54 (by decide) ?_
  refine lv_iand hx hb dX1_asTrackHasIt_55 ?_
  exact zw_iret hx hb hr hlk hK hP hD hS dX1_asTrackHasIt_56 rfl rfl
theorem cd_as {l : Launch} {dC : Nat → ClassId} {dI : Nat → Nat → Nat} {cA : Nat → ClassId} {ad : zw_R → Nat} {R : List zw_R} {nr : Nat} {len : Nat → Nat} {σ : sp_S} {cM : zw_R → va_E} (hR : ze_R nr R) (i t : Nat) (hi : i < nr) (ht : t < 4) (p0 : Int32) : zw_M l yX1_asTrackHasIt wsX1_asTrackHasIt { frames := 1, cells := 0, slots := 0, locals := 16 } (ze_E dC dI cA) [.ref (ad (8, i, t)), .int p0] ad R (ze_X (ze_D cA ad nr len σ) cM) (some (.int (sp_as t p0))) (ze_X (ze_D cA ad nr len σ) cM) := by
  match t, ht with
  | 0, ht => exact cd_as_0 hR i hi ht p0
  | 1, ht => exact cd_as_1 hR i hi ht p0
  | 2, ht => exact cd_as_2 hR i hi ht p0
  | 3, ht => exact cd_as_3 hR i hi ht p0
  | k + 4, ht => exact absurd ht (by omega)
set_option maxHeartbeats 4000000 in
set_option maxRecDepth 100000 in
/-- Track.put -/
theorem cd_put {l : Launch} {dC : Nat → ClassId} {dI : Nat → Nat → Nat} {cA : Nat → ClassId} {ad : zw_R → Nat} {R : List zw_R} {nr : Nat} {len : Nat → Nat} {σ : sp_S} {cM : zw_R → va_E} (hR : ze_R nr R) (i t : Nat) (hi : i < nr) (ht : t < 4) (hlen : len i ≤ 64) (p0 p1 : Int32) : zw_M l yX1_put wsX1_put { frames := 2, cells := 0, slots := 0, locals := 37 } (ze_E dC dI cA) [.ref (ad (8, i, t)), .int p0, .int p1] ad R (ze_X (ze_D cA ad nr len σ) cM) none (ze_X (ze_D cA ad nr len (sp_put len σ i t p0 p1)) cM) := by
  refine zw_body (cc := cX1_put) (maxL := 3) (ret := none) (by decide) rfl (Nat.le_of_ble_eq_true rfl) ?_
  intro p e s m below meth c A ls hx hb hr hlk hml hts hown hnm hA hK hP hD hS hN hl
  have hl : lv_has ls 3 [(0, .ref (ad (8, i, t))), (1, .int p0), (2, .int p1)] := hl
  have hwX1 : ∀ w ∈ u_ws RX1 TX1 3, w ∈ wsX1_put := by decide +kernel
  refine lv_aload_n hx hb dX1_put_0 rfl (lv_at hl 0 rfl) ?_
  refine lv_iload_n hx hb dX1_put_1 rfl (lv_at hl 1 rfl) ?_
  refine zw_cV (r := (8, i, t)) (As := [.int p0]) (rest := []) (st1 := [.int (sp_f len σ i t p0)]) ⟨hx, hb, hml, hown, hts⟩ (cd_faultAt (σ := σ) hR i t hi ht p0) (cwV 1 hts gX1_put_X1_faultAt rfl rfl rfl (by decide +kernel) ⟨Nat.le_of_ble_eq_true rfl, Nat.le_of_ble_eq_true rfl⟩) ((hR.2 i hi).2.2 t ht).1 rfl rfl rfl hK hP hD hS hA hN rfl hl.1 rfl (Nat.le_of_ble_eq_true rfl) rfl dX1_put_2 ⟨Nat.zero_le _, Nat.zero_le _⟩ (fun H locs hP hD hS => ?_)
  refine lv_if_ne (tgt := 19) hx hb dX1_put_5 (by decide) (fun c_1 => ?_) (fun c_1 => ?_)
  · exact zw_vret hx hb hr hlk hK hP hD hS dX1_put_19 rfl (by simp only [sp_put, if_neg c_1] <;> rfl)
  · refine lv_aload_n hx hb dX1_put_8 rfl (lv_at hl 0 rfl) ?_
    refine zw_getf (r := (8, i, t)) (v := .ref (ad (9, i, t))) (C := RX1) (T := TX1) (N := 3) (ci := 1) hx hb hts hwX1 hown hK hP ((hR.2 i hi).2.2 t ht).1 rfl rfl 1 (by decide) (hts (.fieldLink RX1 15 "FourTrackDeck$Track" "numbers" "[I") (by decide +kernel)) (fun _ h9 => h9) rfl dX1_put_9 ?_
    refine lv_iload_n hx hb dX1_put_12 rfl (lv_at hl 1 rfl) ?_
    refine lv_aload_n hx hb dX1_put_13 rfl (lv_at hl 0 rfl) ?_
    refine lv_iload_n hx hb dX1_put_14 rfl (lv_at hl 2 rfl) ?_
    refine zw_cV (r := (8, i, t)) (As := [.int p1]) (rest := [.int p0, .ref (ad (9, i, t))]) (st1 := [.int (sp_as t p1), .int p0, .ref (ad (9, i, t))]) ⟨hx, hb, hml, hown, hts⟩ (cd_as (σ := σ) hR i t hi ht p1) (cwV 1 hts gX1_put_X1_asTrackHasIt rfl rfl rfl (by decide +kernel) ⟨Nat.le_of_ble_eq_true rfl, Nat.le_of_ble_eq_true rfl⟩) ((hR.2 i hi).2.2 t ht).1 rfl rfl rfl hK hP hD hS hA hN rfl hl.1 rfl (Nat.le_of_ble_eq_true rfl) rfl dX1_put_15 ⟨Nat.zero_le _, Nat.zero_le _⟩ (fun H locs hP hD hS => ?_)
    refine zw_iast (r := (9, i, t)) hx hb hK hP hD hS ((hR.2 i hi).2.2 t ht).2 0 rfl rfl (ze_fi hlen c_1) dX1_put_18 (cu1 := ze_X (ze_D cA ad nr len (sp_s σ (9, i, t) p0.toNatClampNeg (sp_as t p1))) cM) (ze_up rfl rfl) (fun H locs hP hD hS => ?_)
    exact zw_vret hx hb hr hlk hK hP hD hS dX1_put_19 rfl (by simp only [sp_put, if_pos c_1] <;> rfl)
set_option maxHeartbeats 4000000 in
set_option maxRecDepth 100000 in
/-- Track.exchange -/
theorem cd_exchange {l : Launch} {dC : Nat → ClassId} {dI : Nat → Nat → Nat} {cA : Nat → ClassId} {ad : zw_R → Nat} {R : List zw_R} {nr : Nat} {len : Nat → Nat} {σ : sp_S} {cM : zw_R → va_E} (hR : ze_R nr R) (i t : Nat) (hi : i < nr) (ht : t < 4) (hlen : len i ≤ 64) (p0 p1 : Int32) : zw_M l yX1_exchange wsX1_exchange { frames := 3, cells := 0, slots := 0, locals := 59 } (ze_E dC dI cA) [.ref (ad (8, i, t)), .int p0, .int p1] ad R (ze_X (ze_D cA ad nr len σ) cM) none (ze_X (ze_D cA ad nr len (sp_put len (sp_put len σ i t p0 (sp_n len σ i t p1)) i t p1 (sp_n len σ i t p0))) cM) := by
  refine zw_body (cc := cX1_exchange) (maxL := 4) (ret := none) (by decide) rfl (Nat.le_of_ble_eq_true rfl) ?_
  intro p e s m below meth c A ls hx hb hr hlk hml hts hown hnm hA hK hP hD hS hN hl
  have hl : lv_has ls 4 [(0, .ref (ad (8, i, t))), (1, .int p0), (2, .int p1)] := hl
  refine lv_aload_n hx hb dX1_exchange_0 rfl (lv_at hl 0 rfl) ?_
  refine lv_iload_n hx hb dX1_exchange_1 rfl (lv_at hl 1 rfl) ?_
  refine zw_cV (r := (8, i, t)) (As := [.int p0]) (rest := []) (st1 := [.int (sp_n len σ i t p0)]) ⟨hx, hb, hml, hown, hts⟩ (cd_numberAt (σ := σ) hR i t hi ht hlen p0) (cwV 1 hts gX1_exchange_X1_numberAt rfl rfl rfl (by decide +kernel) ⟨Nat.le_of_ble_eq_true rfl, Nat.le_of_ble_eq_true rfl⟩) ((hR.2 i hi).2.2 t ht).1 rfl rfl rfl hK hP hD hS hA hN rfl hl.1 rfl (Nat.le_of_ble_eq_true rfl) rfl dX1_exchange_2 ⟨Nat.zero_le _, Nat.zero_le _⟩ (fun H locs hP hD hS => ?_)
  refine lv_istore_n (lv' := [(3, .int (sp_n len σ i t p0)), (0, .ref (ad (8, i, t))), (1, .int p0), (2, .int p1)]) hx hb dX1_exchange_5 rfl hl (by decide) rfl (fun ls hl => ?_)
  refine lv_aload_n hx hb dX1_exchange_6 rfl (lv_at hl 1 rfl) ?_
  refine lv_iload_n hx hb dX1_exchange_7 rfl (lv_at hl 2 rfl) ?_
  refine lv_aload_n hx hb dX1_exchange_8 rfl (lv_at hl 1 rfl) ?_
  refine lv_iload_n hx hb dX1_exchange_9 rfl (lv_at hl 3 rfl) ?_
  refine zw_cV (r := (8, i, t)) (As := [.int p1]) (rest := [.int p0, .ref (ad (8, i, t))]) (st1 := [.int (sp_n len σ i t p1), .int p0, .ref (ad (8, i, t))]) ⟨hx, hb, hml, hown, hts⟩ (cd_numberAt (σ := σ) hR i t hi ht hlen p1) (cwV 1 hts gX1_exchange_X1_numberAt rfl rfl rfl (by decide +kernel) ⟨Nat.le_of_ble_eq_true rfl, Nat.le_of_ble_eq_true rfl⟩) ((hR.2 i hi).2.2 t ht).1 rfl rfl rfl hK hP hD hS hA hN rfl hl.1 rfl (Nat.le_of_ble_eq_true rfl) rfl dX1_exchange_10 ⟨Nat.zero_le _, Nat.zero_le _⟩ (fun H locs hP hD hS => ?_)
  refine zw_cV (r := (8, i, t)) (As := [.int p0, .int (sp_n len σ i t p1)]) (rest := []) (st1 := []) ⟨hx, hb, hml, hown, hts⟩ (cd_put (σ := σ) hR i t hi ht hlen p0 (sp_n len σ i t p1)) (cwV 2 hts gX1_exchange_X1_put rfl rfl rfl (by decide +kernel) ⟨Nat.le_of_ble_eq_true rfl, Nat.le_of_ble_eq_true rfl⟩) ((hR.2 i hi).2.2 t ht).1 rfl rfl rfl hK hP hD hS hA hN rfl hl.1 rfl (Nat.le_of_ble_eq_true rfl) rfl dX1_exchange_13 ⟨Nat.zero_le _, Nat.zero_le _⟩ (fun H locs hP hD hS => ?_)
  refine lv_aload_n hx hb dX1_exchange_16 rfl (lv_at hl 1 rfl) ?_
  refine lv_iload_n hx hb dX1_exchange_17 rfl (lv_at hl 3 rfl) ?_
  refine lv_iload_n hx hb dX1_exchange_18 rfl (lv_at hl 0 rfl) ?_
  refine zw_cV (r := (8, i, t)) (As := [.int p1, .int (sp_n len σ i t p0)]) (rest := []) (st1 := []) ⟨hx, hb, hml, hown, hts⟩ (cd_put (σ := (sp_put len σ i t p0 (sp_n len σ i t p1))) hR i t hi ht hlen p1 (sp_n len σ i t p0)) (cwV 2 hts gX1_exchange_X1_put rfl rfl rfl (by decide +kernel) ⟨Nat.le_of_ble_eq_true rfl, Nat.le_of_ble_eq_true rfl⟩) ((hR.2 i hi).2.2 t ht).1 rfl rfl rfl hK hP hD hS hA hN rfl hl.1 rfl (Nat.le_of_ble_eq_true rfl) rfl dX1_exchange_19 ⟨Nat.zero_le _, Nat.zero_le _⟩ (fun H locs hP hD hS => ?_)
  exact zw_vret hx hb hr hlk hK hP hD hS dX1_exchange_22 rfl rfl
set_option maxHeartbeats 4000000 in
set_option maxRecDepth 100000 in
/-- reelOf, where there is one -/
theorem cd_reelOf_1 {l : Launch} {dC : Nat → ClassId} {dI : Nat → Nat → Nat} {cA : Nat → ClassId} {ad : zw_R → Nat} {R : List zw_R} {nr : Nat} {len : Nat → Nat} {σ : sp_S} {cM : zw_R → va_E} (hR : ze_R nr R) (hnr : nr ≤ 8) (p0 : Int32) (h : sp_r nr p0) : zw_M l yX2_reelOf wsX2_reelOf { frames := 0, cells := 0, slots := 0, locals := 0 } (ze_E dC dI cA) [.ref (ad (0, 0, 0)), .int p0] ad R (ze_X (ze_D cA ad nr len σ) cM) (some (.ref (ad (6, p0.toNatClampNeg, 0)))) (ze_X (ze_D cA ad nr len σ) cM) := by
  refine zw_body (cc := cX2_reelOf) (maxL := 2) (ret := (some (.object "FourTrackDeck$Reel"))) (by decide) rfl (Nat.le_of_ble_eq_true rfl) ?_
  intro p e s m below meth c A ls hx hb hr hlk hml hts hown hnm hA hK hP hD hS hN hl
  have hl : lv_has ls 2 [(0, .ref (ad (0, 0, 0))), (1, .int p0)] := hl
  have hwX2 : ∀ w ∈ u_ws RX2 TX2 15, w ∈ wsX2_reelOf := by decide +kernel
  refine lv_iload_n hx hb dX2_reelOf_0 rfl (lv_at hl 1 rfl) ?_
  refine lv_if_lt (tgt := 22) hx hb dX2_reelOf_1 (by decide) (fun c_1 => absurd c_1 (Int32.not_lt.mpr h.1)) (fun c_1 => ?_)
  refine lv_iload_n hx hb dX2_reelOf_4 rfl (lv_at hl 1 rfl) ?_
  refine lv_aload_n hx hb dX2_reelOf_5 rfl (lv_at hl 0 rfl) ?_
  refine zw_getf (r := (0, 0, 0)) (v := .ref (ad (1, 0, 0))) (C := RX2) (T := TX2) (N := 15) (ci := 2) hx hb hts hwX2 hown hK hP (hR.1 0 (by decide)) rfl rfl 0 (by decide) (hts (.fieldLink RX2 11 "FourTrackDeck" "reels" "[LFourTrackDeck$Reel;") (by decide +kernel)) (fun _ h9 => h9) rfl dX2_reelOf_6 ?_
  refine zw_alen (r := (1, 0, 0)) (v := 8) hx hb hK hP (hR.1 1 (by decide)) 1 rfl rfl rfl dX2_reelOf_9 ?_
  refine lv_icmp_ge (tgt := 22) hx hb dX2_reelOf_10 (by decide) (fun c_2 => absurd c_2 (ze_r8 h hnr).2) (fun c_2 => ?_)
  refine lv_aload_n hx hb dX2_reelOf_13 rfl (lv_at hl 0 rfl) ?_
  refine zw_getf (r := (0, 0, 0)) (v := .ref (ad (1, 0, 0))) (C := RX2) (T := TX2) (N := 15) (ci := 2) hx hb hts hwX2 hown hK hP (hR.1 0 (by decide)) rfl rfl 0 (by decide) (hts (.fieldLink RX2 11 "FourTrackDeck" "reels" "[LFourTrackDeck$Reel;") (by decide +kernel)) (fun _ h9 => h9) rfl dX2_reelOf_14 ?_
  refine lv_iload_n hx hb dX2_reelOf_17 rfl (lv_at hl 1 rfl) ?_
  refine zw_aldq (r := (1, 0, 0)) (v := .ref (ad (6, p0.toNatClampNeg, 0))) hx hb hK hP (hR.1 1 (by decide)) 1 rfl rfl (ze_r8 h hnr).1 (by rw [if_pos (ze_vr h hnr)]; rfl) dX2_reelOf_18 ?_
  refine lv_goto (tgt := 23) hx hb dX2_reelOf_19 (by decide) ?_
  exact zw_aret hx hb hr hlk hK hP hD hS (Or.inr ⟨_, rfl⟩) dX2_reelOf_23 rfl rfl
set_option maxHeartbeats 4000000 in
set_option maxRecDepth 100000 in
/-- reelOf, where there is none -/
theorem cd_reelOf_0 {l : Launch} {dC : Nat → ClassId} {dI : Nat → Nat → Nat} {cA : Nat → ClassId} {ad : zw_R → Nat} {R : List zw_R} {nr : Nat} {len : Nat → Nat} {σ : sp_S} {cM : zw_R → va_E} (hR : ze_R nr R) (hnr : nr ≤ 8) (p0 : Int32) (h : ¬ sp_r nr p0) : zw_M l yX2_reelOf wsX2_reelOf { frames := 0, cells := 0, slots := 0, locals := 0 } (ze_E dC dI cA) [.ref (ad (0, 0, 0)), .int p0] ad R (ze_X (ze_D cA ad nr len σ) cM) (some (.null)) (ze_X (ze_D cA ad nr len σ) cM) := by
  refine zw_body (cc := cX2_reelOf) (maxL := 2) (ret := (some (.object "FourTrackDeck$Reel"))) (by decide) rfl (Nat.le_of_ble_eq_true rfl) ?_
  intro p e s m below meth c A ls hx hb hr hlk hml hts hown hnm hA hK hP hD hS hN hl
  have hl : lv_has ls 2 [(0, .ref (ad (0, 0, 0))), (1, .int p0)] := hl
  have hwX2 : ∀ w ∈ u_ws RX2 TX2 15, w ∈ wsX2_reelOf := by decide +kernel
  refine lv_iload_n hx hb dX2_reelOf_0 rfl (lv_at hl 1 rfl) ?_
  refine lv_if_lt (tgt := 22) hx hb dX2_reelOf_1 (by decide) (fun c_1 => ?_) (fun c_1 => ?_)
  · refine lv_null hx hb dX2_reelOf_22 ?_
    exact zw_aret hx hb hr hlk hK hP hD hS (Or.inl rfl) dX2_reelOf_23 rfl rfl
  · refine lv_iload_n hx hb dX2_reelOf_4 rfl (lv_at hl 1 rfl) ?_
    refine lv_aload_n hx hb dX2_reelOf_5 rfl (lv_at hl 0 rfl) ?_
    refine zw_getf (r := (0, 0, 0)) (v := .ref (ad (1, 0, 0))) (C := RX2) (T := TX2) (N := 15) (ci := 2) hx hb hts hwX2 hown hK hP (hR.1 0 (by decide)) rfl rfl 0 (by decide) (hts (.fieldLink RX2 11 "FourTrackDeck" "reels" "[LFourTrackDeck$Reel;") (by decide +kernel)) (fun _ h9 => h9) rfl dX2_reelOf_6 ?_
    refine zw_alen (r := (1, 0, 0)) (v := 8) hx hb hK hP (hR.1 1 (by decide)) 1 rfl rfl rfl dX2_reelOf_9 ?_
    refine lv_icmp_ge (tgt := 22) hx hb dX2_reelOf_10 (by decide) (fun c_2 => ?_) (fun c_2 => ?_)
    · refine lv_null hx hb dX2_reelOf_22 ?_
      exact zw_aret hx hb hr hlk hK hP hD hS (Or.inl rfl) dX2_reelOf_23 rfl rfl
    · refine lv_aload_n hx hb dX2_reelOf_13 rfl (lv_at hl 0 rfl) ?_
      refine zw_getf (r := (0, 0, 0)) (v := .ref (ad (1, 0, 0))) (C := RX2) (T := TX2) (N := 15) (ci := 2) hx hb hts hwX2 hown hK hP (hR.1 0 (by decide)) rfl rfl 0 (by decide) (hts (.fieldLink RX2 11 "FourTrackDeck" "reels" "[LFourTrackDeck$Reel;") (by decide +kernel)) (fun _ h9 => h9) rfl dX2_reelOf_14 ?_
      refine lv_iload_n hx hb dX2_reelOf_17 rfl (lv_at hl 1 rfl) ?_
      refine zw_aldq (r := (1, 0, 0)) (v := .null) hx hb hK hP (hR.1 1 (by decide)) 1 rfl rfl (ze_in8 c_1 c_2) (by rw [if_neg (ze_nr h c_1 hnr)]; rfl) dX2_reelOf_18 ?_
      refine lv_goto (tgt := 23) hx hb dX2_reelOf_19 (by decide) ?_
      exact zw_aret hx hb hr hlk hK hP hD hS (Or.inl rfl) dX2_reelOf_23 rfl rfl
set_option maxHeartbeats 4000000 in
set_option maxRecDepth 100000 in
/-- trackOf, where there is one -/
theorem cd_trackOf_1 {l : Launch} {dC : Nat → ClassId} {dI : Nat → Nat → Nat} {cA : Nat → ClassId} {ad : zw_R → Nat} {R : List zw_R} {nr : Nat} {len : Nat → Nat} {σ : sp_S} {cM : zw_R → va_E} (hR : ze_R nr R) (hnr : nr ≤ 8) (p0 p1 : Int32) (h : sp_v nr p0 p1) : zw_M l yX2_trackOf wsX2_trackOf { frames := 2, cells := 0, slots := 0, locals := 42 } (ze_E dC dI cA) [.ref (ad (0, 0, 0)), .int p0, .int p1] ad R (ze_X (ze_D cA ad nr len σ) cM) (some (.ref (ad (8, p0.toNatClampNeg, p1.toNatClampNeg)))) (ze_X (ze_D cA ad nr len σ) cM) := by
  refine zw_body (cc := cX2_trackOf) (maxL := 4) (ret := (some (.object "FourTrackDeck$Track"))) (by decide) rfl (Nat.le_of_ble_eq_true rfl) ?_
  intro p e s m below meth c A ls hx hb hr hlk hml hts hown hnm hA hK hP hD hS hN hl
  have hl : lv_has ls 4 [(0, .ref (ad (0, 0, 0))), (1, .int p0), (2, .int p1)] := hl
  have hwX0 : ∀ w ∈ u_ws RX0 TX0 1, w ∈ wsX2_trackOf := by decide +kernel
  refine lv_aload_n hx hb dX2_trackOf_0 rfl (lv_at hl 0 rfl) ?_
  refine lv_iload_n hx hb dX2_trackOf_1 rfl (lv_at hl 1 rfl) ?_
  refine zw_cV (r := (0, 0, 0)) (As := [.int p0]) (rest := []) (st1 := [.ref (ad (6, p0.toNatClampNeg, 0))]) ⟨hx, hb, hml, hown, hts⟩ (cd_reelOf_1 hR hnr p0 h.1) (cwV 1 hts gX2_trackOf_X2_reelOf rfl rfl rfl (by decide +kernel) ⟨Nat.le_of_ble_eq_true rfl, Nat.le_of_ble_eq_true rfl⟩) (hR.1 0 (by decide)) rfl rfl rfl hK hP hD hS hA hN rfl hl.1 rfl (Nat.le_of_ble_eq_true rfl) rfl dX2_trackOf_2 ⟨Nat.zero_le _, Nat.zero_le _⟩ (fun H locs hP hD hS => ?_)
  refine lv_astore_n (lv' := [(3, .ref (ad (6, p0.toNatClampNeg, 0))), (0, .ref (ad (0, 0, 0))), (1, .int p0), (2, .int p1)]) hx hb dX2_trackOf_5 rfl hl (by decide) rfl (fun ls hl => ?_)
  refine lv_aload_n hx hb dX2_trackOf_6 rfl (lv_at hl 0 rfl) ?_
  refine lv_ifnull hx hb dX2_trackOf_7 ?_
  refine lv_iload_n hx hb dX2_trackOf_10 rfl (lv_at hl 3 rfl) ?_
  refine zw_cS (As := [.int p1]) (rest := []) (st1 := [.int 1]) ⟨hx, hb, hml, hown, hts⟩ (cd_isTrack_1 p1 h.2) (va_cwS 1 hts gX2_trackOf_X2_isTrack rfl rfl rfl (by decide +kernel) ⟨Nat.le_of_ble_eq_true rfl, Nat.le_of_ble_eq_true rfl⟩) hK hP hD hS hA hN rfl hl.1 rfl (Nat.le_of_ble_eq_true rfl) rfl dX2_trackOf_11 ⟨Nat.zero_le _, Nat.zero_le _⟩ (fun H locs hP hD hS => ?_)
  refine lv_if_ne (tgt := 21) hx hb dX2_trackOf_14 (by decide) (fun c_1 => ?_) (fun c_1 => absurd c_1 (by decide))
  refine lv_aload_n hx hb dX2_trackOf_21 rfl (lv_at hl 0 rfl) ?_
  refine zw_getN (r := (6, p0.toNatClampNeg, 0)) (v := .ref (ad (7, p0.toNatClampNeg, 0))) (C := RX0) (T := TX0) (N := 1) (ci := 0) hx hb hts hwX0 hown hK hP (hR.2 p0.toNatClampNeg (ze_vr h.1 hnr)).1 rfl rfl 0 (by decide) ((hN.1 ("FourTrackDeck", 131, "FourTrackDeck$Reel", "tracks", "[LFourTrackDeck$Track;", "FourTrackDeck") (by decide +kernel)).use rfl) (fun _ h9 => h9) rfl dX2_trackOf_22 ?_
  refine lv_iload_n hx hb dX2_trackOf_25 rfl (lv_at hl 3 rfl) ?_
  refine zw_aldq (r := (7, p0.toNatClampNeg, 0)) (v := .ref (ad (8, p0.toNatClampNeg, p1.toNatClampNeg))) hx hb hK hP (hR.2 p0.toNatClampNeg (ze_vr h.1 hnr)).2.1 2 rfl rfl (ze_ti h.2) (by rw [if_pos (ze_vt h.2)]; rfl) dX2_trackOf_26 ?_
  exact zw_aret hx hb hr hlk hK hP hD hS (Or.inr ⟨_, rfl⟩) dX2_trackOf_27 rfl rfl
set_option maxHeartbeats 4000000 in
set_option maxRecDepth 100000 in
/-- trackOf, where there is none -/
theorem cd_trackOf_0 {l : Launch} {dC : Nat → ClassId} {dI : Nat → Nat → Nat} {cA : Nat → ClassId} {ad : zw_R → Nat} {R : List zw_R} {nr : Nat} {len : Nat → Nat} {σ : sp_S} {cM : zw_R → va_E} (hR : ze_R nr R) (hnr : nr ≤ 8) (p0 p1 : Int32) (h : ¬ sp_v nr p0 p1) : zw_M l yX2_trackOf wsX2_trackOf { frames := 2, cells := 0, slots := 0, locals := 42 } (ze_E dC dI cA) [.ref (ad (0, 0, 0)), .int p0, .int p1] ad R (ze_X (ze_D cA ad nr len σ) cM) (some (.null)) (ze_X (ze_D cA ad nr len σ) cM) := by
  refine zw_body (cc := cX2_trackOf) (maxL := 4) (ret := (some (.object "FourTrackDeck$Track"))) (by decide) rfl (Nat.le_of_ble_eq_true rfl) ?_
  intro p e s m below meth c A ls hx hb hr hlk hml hts hown hnm hA hK hP hD hS hN hl
  have hl : lv_has ls 4 [(0, .ref (ad (0, 0, 0))), (1, .int p0), (2, .int p1)] := hl
  refine lv_aload_n hx hb dX2_trackOf_0 rfl (lv_at hl 0 rfl) ?_
  refine lv_iload_n hx hb dX2_trackOf_1 rfl (lv_at hl 1 rfl) ?_
  rcases Decidable.em (sp_r nr p0) with h_1 | h_1
  · refine zw_cV (r := (0, 0, 0)) (As := [.int p0]) (rest := []) (st1 := [.ref (ad (6, p0.toNatClampNeg, 0))]) ⟨hx, hb, hml, hown, hts⟩ (cd_reelOf_1 (σ := σ) hR hnr p0 h_1) (cwV 1 hts gX2_trackOf_X2_reelOf rfl rfl rfl (by decide +kernel) ⟨Nat.le_of_ble_eq_true rfl, Nat.le_of_ble_eq_true rfl⟩) (hR.1 0 (by decide)) rfl rfl rfl hK hP hD hS hA hN rfl hl.1 rfl (Nat.le_of_ble_eq_true rfl) rfl dX2_trackOf_2 ⟨Nat.zero_le _, Nat.zero_le _⟩ (fun H locs hP hD hS => ?_)
    refine lv_astore_n (lv' := [(3, .ref (ad (6, p0.toNatClampNeg, 0))), (0, .ref (ad (0, 0, 0))), (1, .int p0), (2, .int p1)]) hx hb dX2_trackOf_5 rfl hl (by decide) rfl (fun ls hl => ?_)
    refine lv_aload_n hx hb dX2_trackOf_6 rfl (lv_at hl 0 rfl) ?_
    refine lv_ifnull hx hb dX2_trackOf_7 ?_
    refine lv_iload_n hx hb dX2_trackOf_10 rfl (lv_at hl 3 rfl) ?_
    rcases Decidable.em (sp_t p1) with h_2 | h_2
    · refine zw_cS (As := [.int p1]) (rest := []) (st1 := [.int 1]) ⟨hx, hb, hml, hown, hts⟩ (cd_isTrack_1 p1 h_2) (va_cwS 1 hts gX2_trackOf_X2_isTrack rfl rfl rfl (by decide +kernel) ⟨Nat.le_of_ble_eq_true rfl, Nat.le_of_ble_eq_true rfl⟩) hK hP hD hS hA hN rfl hl.1 rfl (Nat.le_of_ble_eq_true rfl) rfl dX2_trackOf_11 ⟨Nat.zero_le _, Nat.zero_le _⟩ (fun H locs hP hD hS => ?_)
      refine lv_if_ne (tgt := 21) hx hb dX2_trackOf_14 (by decide) (fun c_3 => ?_) (fun c_3 => absurd c_3 (by decide))
      exact absurd ⟨h_1, h_2⟩ h
    · refine zw_cS (As := [.int p1]) (rest := []) (st1 := [.int 0]) ⟨hx, hb, hml, hown, hts⟩ (cd_isTrack_0 p1 h_2) (va_cwS 1 hts gX2_trackOf_X2_isTrack rfl rfl rfl (by decide +kernel) ⟨Nat.le_of_ble_eq_true rfl, Nat.le_of_ble_eq_true rfl⟩) hK hP hD hS hA hN rfl hl.1 rfl (Nat.le_of_ble_eq_true rfl) rfl dX2_trackOf_11 ⟨Nat.zero_le _, Nat.zero_le _⟩ (fun H locs hP hD hS => ?_)
      refine lv_if_ne (tgt := 21) hx hb dX2_trackOf_14 (by decide) (fun c_4 => absurd (by decide) c_4) (fun c_4 => ?_)
      refine lv_null hx hb dX2_trackOf_17 ?_
      refine lv_goto (tgt := 27) hx hb dX2_trackOf_18 (by decide) ?_
      exact zw_aret hx hb hr hlk hK hP hD hS (Or.inl rfl) dX2_trackOf_27 rfl rfl
  · refine zw_cV (r := (0, 0, 0)) (As := [.int p0]) (rest := []) (st1 := [.null]) ⟨hx, hb, hml, hown, hts⟩ (cd_reelOf_0 (σ := σ) hR hnr p0 h_1) (cwV 1 hts gX2_trackOf_X2_reelOf rfl rfl rfl (by decide +kernel) ⟨Nat.le_of_ble_eq_true rfl, Nat.le_of_ble_eq_true rfl⟩) (hR.1 0 (by decide)) rfl rfl rfl hK hP hD hS hA hN rfl hl.1 rfl (Nat.le_of_ble_eq_true rfl) rfl dX2_trackOf_2 ⟨Nat.zero_le _, Nat.zero_le _⟩ (fun H locs hP hD hS => ?_)
    refine lv_astore_nN (lv' := [(3, .null), (0, .ref (ad (0, 0, 0))), (1, .int p0), (2, .int p1)]) hx hb dX2_trackOf_5 rfl hl (by decide) rfl (fun ls hl => ?_)
    refine lv_aload_nN hx hb dX2_trackOf_6 rfl (lv_at hl 0 rfl) ?_
    refine lv_ifnullN (tgt := 17) hx hb dX2_trackOf_7 (by decide) ?_
    refine lv_null hx hb dX2_trackOf_17 ?_
    refine lv_goto (tgt := 27) hx hb dX2_trackOf_18 (by decide) ?_
    exact zw_aret hx hb hr hlk hK hP hD hS (Or.inl rfl) dX2_trackOf_27 rfl rfl
set_option maxHeartbeats 4000000 in
set_option maxRecDepth 100000 in
theorem cd_why {l : Launch} {dC : Nat → ClassId} {dI : Nat → Nat → Nat} {cA : Nat → ClassId} {ad : zw_R → Nat} {R : List zw_R} {nr : Nat} {len : Nat → Nat} {σ : sp_S} {cM : zw_R → va_E} (hR : ze_R nr R) (p0 : Int32) : zw_M l yX2_whyNoneUnderHead wsX2_whyNoneUnderHead { frames := 2, cells := 0, slots := 0, locals := 42 } (ze_E dC dI cA) [.ref (ad (0, 0, 0)), .int p0] ad R (ze_X (ze_D cA ad nr len σ) cM) (some (.int (if sp_t p0 then 5 else 1))) (ze_X (ze_D cA ad nr len σ) cM) := by
  refine zw_body (cc := cX2_whyNoneUnderHead) (maxL := 2) (ret := (some .int)) (by decide) rfl (Nat.le_of_ble_eq_true rfl) ?_
  intro p e s m below meth c A ls hx hb hr hlk hml hts hown hnm hA hK hP hD hS hN hl
  have hl : lv_has ls 2 [(0, .ref (ad (0, 0, 0))), (1, .int p0)] := hl
  refine lv_iload_n hx hb dX2_whyNoneUnderHead_0 rfl (lv_at hl 1 rfl) ?_
  rcases Decidable.em (sp_t p0) with h_1 | h_1
  · refine zw_cS (As := [.int p0]) (rest := []) (st1 := [.int 1]) ⟨hx, hb, hml, hown, hts⟩ (cd_isTrack_1 p0 h_1) (va_cwS 1 hts gX2_whyNoneUnderHead_X2_isTrack rfl rfl rfl (by decide +kernel) ⟨Nat.le_of_ble_eq_true rfl, Nat.le_of_ble_eq_true rfl⟩) hK hP hD hS hA hN rfl hl.1 rfl (Nat.le_of_ble_eq_true rfl) rfl dX2_whyNoneUnderHead_1 ⟨Nat.zero_le _, Nat.zero_le _⟩ (fun H locs hP hD hS => ?_)
    refine lv_if_eq (tgt := 11) hx hb dX2_whyNoneUnderHead_4 (by decide) (fun c_2 => absurd c_2 (by decide)) (fun c_2 => ?_)
    refine lv_iconst (v := 5) hx hb dX2_whyNoneUnderHead_7 (by decide) ?_
    refine lv_goto (tgt := 12) hx hb dX2_whyNoneUnderHead_8 (by decide) ?_
    exact zw_iret hx hb hr hlk hK hP hD hS dX2_whyNoneUnderHead_12 (by simp only [if_pos h_1] <;> rfl) rfl
  · refine zw_cS (As := [.int p0]) (rest := []) (st1 := [.int 0]) ⟨hx, hb, hml, hown, hts⟩ (cd_isTrack_0 p0 h_1) (va_cwS 1 hts gX2_whyNoneUnderHead_X2_isTrack rfl rfl rfl (by decide +kernel) ⟨Nat.le_of_ble_eq_true rfl, Nat.le_of_ble_eq_true rfl⟩) hK hP hD hS hA hN rfl hl.1 rfl (Nat.le_of_ble_eq_true rfl) rfl dX2_whyNoneUnderHead_1 ⟨Nat.zero_le _, Nat.zero_le _⟩ (fun H locs hP hD hS => ?_)
    refine lv_if_eq (tgt := 11) hx hb dX2_whyNoneUnderHead_4 (by decide) (fun c_3 => ?_) (fun c_3 => absurd (by decide) c_3)
    refine lv_iconst (v := 1) hx hb dX2_whyNoneUnderHead_11 (by decide) ?_
    exact zw_iret hx hb hr hlk hK hP hD hS dX2_whyNoneUnderHead_12 (by simp only [if_neg h_1] <;> rfl) rfl
set_option maxHeartbeats 4000000 in
set_option maxRecDepth 100000 in
/-- placeOfHead of a track -/
theorem cd_place {l : Launch} {dC : Nat → ClassId} {dI : Nat → Nat → Nat} {cA : Nat → ClassId} {ad : zw_R → Nat} {R : List zw_R} {nr : Nat} {len : Nat → Nat} {σ : sp_S} {cM : zw_R → va_E} (hR : ze_R nr R) (p0 : Int32) (h : sp_t p0) : zw_M l yX2_placeOfHead wsX2_placeOfHead { frames := 2, cells := 0, slots := 0, locals := 42 } (ze_E dC dI cA) [.ref (ad (0, 0, 0)), .int p0] ad R (ze_X (ze_D cA ad nr len σ) cM) (some (.int (σ (0, 0, 0) 2 + σ (2, 0, 0) p0.toNatClampNeg))) (ze_X (ze_D cA ad nr len σ) cM) := by
  refine zw_body (cc := cX2_placeOfHead) (maxL := 2) (ret := (some .int)) (by decide) rfl (Nat.le_of_ble_eq_true rfl) ?_
  intro p e s m below meth c A ls hx hb hr hlk hml hts hown hnm hA hK hP hD hS hN hl
  have hl : lv_has ls 2 [(0, .ref (ad (0, 0, 0))), (1, .int p0)] := hl
  have hwX2 : ∀ w ∈ u_ws RX2 TX2 15, w ∈ wsX2_placeOfHead := by decide +kernel
  refine lv_iload_n hx hb dX2_placeOfHead_0 rfl (lv_at hl 1 rfl) ?_
  refine zw_cS (As := [.int p0]) (rest := []) (st1 := [.int 1]) ⟨hx, hb, hml, hown, hts⟩ (cd_isTrack_1 p0 h) (va_cwS 1 hts gX2_placeOfHead_X2_isTrack rfl rfl rfl (by decide +kernel) ⟨Nat.le_of_ble_eq_true rfl, Nat.le_of_ble_eq_true rfl⟩) hK hP hD hS hA hN rfl hl.1 rfl (Nat.le_of_ble_eq_true rfl) rfl dX2_placeOfHead_1 ⟨Nat.zero_le _, Nat.zero_le _⟩ (fun H locs hP hD hS => ?_)
  refine lv_if_eq (tgt := 21) hx hb dX2_placeOfHead_4 (by decide) (fun c_1 => absurd c_1 (by decide)) (fun c_1 => ?_)
  refine lv_aload_n hx hb dX2_placeOfHead_7 rfl (lv_at hl 0 rfl) ?_
  refine zw_getf (r := (0, 0, 0)) (v := .int (σ (0, 0, 0) 2)) (C := RX2) (T := TX2) (N := 15) (ci := 2) hx hb hts hwX2 hown hK hP (hR.1 0 (by decide)) rfl rfl 3 (by decide) (hts (.fieldLink RX2 22 "FourTrackDeck" "tapeAt" "I") (by decide +kernel)) (fun _ h9 => h9) rfl dX2_placeOfHead_8 ?_
  refine lv_aload_n hx hb dX2_placeOfHead_11 rfl (lv_at hl 0 rfl) ?_
  refine zw_getf (r := (0, 0, 0)) (v := .ref (ad (2, 0, 0))) (C := RX2) (T := TX2) (N := 15) (ci := 2) hx hb hts hwX2 hown hK hP (hR.1 0 (by decide)) rfl rfl 4 (by decide) (hts (.fieldLink RX2 25 "FourTrackDeck" "offsets" "[I") (by decide +kernel)) (fun _ h9 => h9) rfl dX2_placeOfHead_12 ?_
  refine lv_iload_n hx hb dX2_placeOfHead_15 rfl (lv_at hl 1 rfl) ?_
  refine zw_iald (r := (2, 0, 0)) hx hb hK hP (hR.1 2 (by decide)) 0 rfl rfl (ze_ti h) dX2_placeOfHead_16 ?_
  refine lv_iadd hx hb dX2_placeOfHead_17 ?_
  refine lv_goto (tgt := 25) hx hb dX2_placeOfHead_18 (by decide) ?_
  exact zw_iret hx hb hr hlk hK hP hD hS dX2_placeOfHead_25 rfl rfl
end
section
def sp_c (σ : sp_S) (a b : Int32) : Int32 := if σ (0, 0, 0) 5 = -1 then 2 else if (0 ≤ a ∧ a < σ (0, 0, 0) 5) ∧ 0 ≤ b ∧ b < σ (0, 0, 0) 6 then 0 else 3
theorem ze_ci {σ : sp_S} {a b : Int32} (h : sp_c σ a b = 0) (h5 : σ (0, 0, 0) 5 ≤ 16) (h6 : σ (0, 0, 0) 6 ≤ 16) : vp_in (a * 16 + b) 256 := by
  unfold sp_c at h
  split at h
  · exact absurd h (by decide)
  · split at h
    · rename_i h2
      obtain ⟨⟨a1, a2⟩, b1, b2⟩ := h2
      obtain ⟨j, hj, ej⟩ := nI_of2 (x := a) (M := 16) (n := 16) rfl (Int32.not_lt.mpr a1) (Int32.le_of_lt (Int32.lt_of_lt_of_le a2 h5))
      obtain ⟨k, hk, ek⟩ := nI_of2 (x := b) (M := 16) (n := 16) rfl (Int32.not_lt.mpr b1) (Int32.le_of_lt (Int32.lt_of_lt_of_le b2 h6))
      have a3 := ze_lt (Int32.lt_of_lt_of_le a2 h5)
      have b3 := ze_lt (Int32.lt_of_lt_of_le b2 h6)
      rw [ej, nI_toInt (by omega)] at a3
      rw [ek, nI_toInt (by omega)] at b3
      have h16 : (16 : Int32).toInt = 16 := rfl
      rw [ej, ek, show (16 : Int32) = nI 16 from rfl, pk_mul, nI_add]
      exact vp_in_nI (by omega) (by decide)
    · exact absurd h (by decide)
def sp_b (σ : sp_S) (i : Nat) : Int32 := (if σ (8, i, 0) 1 = 0 then 0 else 1) + (if σ (8, i, 1) 1 = 0 then 0 else 2) + (if σ (8, i, 2) 1 = 0 then 0 else 4) + (if σ (8, i, 3) 1 = 0 then 0 else 8)
def sp_ct (nr : Nat) (σ : sp_S) (a : Int32) : Int32 := if sp_r nr a then sp_b σ a.toNatClampNeg else -1
def sp_strip (nr : Nat) (len : Nat → Nat) (σ : sp_S) (p0 p1 : Int32) : Int32 × sp_S := if sp_v nr p0 p1 then ((if σ (8, p0.toNatClampNeg, p1.toNatClampNeg) 1 = 0 then 0 else 1), sp_e (sp_s σ (8, p0.toNatClampNeg, p1.toNatClampNeg) 1 0) 0) else (-1, sp_e σ 1)
def sp_thread (nr : Nat) (len : Nat → Nat) (σ : sp_S) (p0 : Int32) : Int32 × sp_S := if p0 = -1 then (σ (0, 0, 0) 1, sp_e (sp_s σ (0, 0, 0) 1 p0) 0) else if sp_r nr p0 then (σ (0, 0, 0) 1, sp_e (sp_s σ (0, 0, 0) 1 p0) 0) else (-1, sp_e σ 1)
def sp_head (nr : Nat) (len : Nat → Nat) (σ : sp_S) (p0 p1 : Int32) : Int32 × sp_S := if sp_t p0 then (if sp_w p1 (-8) 8 then (σ (2, 0, 0) p0.toNatClampNeg, sp_e (sp_s σ (2, 0, 0) p0.toNatClampNeg p1) 0) else (0, sp_e σ 1)) else (0, sp_e σ 1)
def sp_arm (nr : Nat) (len : Nat → Nat) (σ : sp_S) (p0 p1 : Int32) : Int32 × sp_S := if sp_t p0 then (if sp_w p1 0 3 then (σ (3, 0, 0) p0.toNatClampNeg, sp_e (sp_s σ (3, 0, 0) p0.toNatClampNeg p1) 0) else (0, sp_e σ 1)) else (0, sp_e σ 1)
def sp_source (nr : Nat) (len : Nat → Nat) (σ : sp_S) (p0 p1 : Int32) : Int32 × sp_S := (σ (0, 0, 0) 3, sp_e (sp_s (sp_s σ (0, 0, 0) 3 p0) (0, 0, 0) 4 p1) 0)
def sp_wind (nr : Nat) (len : Nat → Nat) (σ : sp_S) (p0 : Int32) : Int32 × sp_S := if sp_w p0 (-1000) 1000 then (σ (0, 0, 0) 2 + p0, sp_e (sp_s σ (0, 0, 0) 2 (σ (0, 0, 0) 2 + p0)) 0) else (σ (0, 0, 0) 2, sp_e σ 1)
def sp_read (nr : Nat) (len : Nat → Nat) (σ : sp_S) (p0 : Int32) : Int32 × sp_S := if sp_v nr (σ (0, 0, 0) 1) p0 then (sp_n len σ (σ (0, 0, 0) 1).toNatClampNeg p0.toNatClampNeg (σ (0, 0, 0) 2 + σ (2, 0, 0) p0.toNatClampNeg), sp_e σ (sp_f len σ (σ (0, 0, 0) 1).toNatClampNeg p0.toNatClampNeg (σ (0, 0, 0) 2 + σ (2, 0, 0) p0.toNatClampNeg))) else (0, sp_e σ (if sp_t p0 then 5 else 1))
def sp_write (nr : Nat) (len : Nat → Nat) (σ : sp_S) (p0 p1 : Int32) : Int32 × sp_S := if sp_v nr (σ (0, 0, 0) 1) p0 then (sp_n len (sp_put len σ (σ (0, 0, 0) 1).toNatClampNeg p0.toNatClampNeg (σ (0, 0, 0) 2 + σ (2, 0, 0) p0.toNatClampNeg) p1) (σ (0, 0, 0) 1).toNatClampNeg p0.toNatClampNeg (σ (0, 0, 0) 2 + σ (2, 0, 0) p0.toNatClampNeg), sp_e (sp_put len σ (σ (0, 0, 0) 1).toNatClampNeg p0.toNatClampNeg (σ (0, 0, 0) 2 + σ (2, 0, 0) p0.toNatClampNeg) p1) (sp_f len (sp_put len σ (σ (0, 0, 0) 1).toNatClampNeg p0.toNatClampNeg (σ (0, 0, 0) 2 + σ (2, 0, 0) p0.toNatClampNeg) p1) (σ (0, 0, 0) 1).toNatClampNeg p0.toNatClampNeg (σ (0, 0, 0) 2 + σ (2, 0, 0) p0.toNatClampNeg))) else (0, sp_e σ (if sp_t p0 then 5 else 1))
def sp_cue (nr : Nat) (len : Nat → Nat) (σ : sp_S) (p0 p1 p2 : Int32) : Int32 × sp_S := if sp_c σ p0 p1 = 0 then (σ (5, 0, 0) (p0 * 16 + p1).toNatClampNeg, sp_e (sp_s σ (5, 0, 0) (p0 * 16 + p1).toNatClampNeg p2) 0) else (0, sp_e σ (sp_c σ p0 p1))
def sp_seek (nr : Nat) (len : Nat → Nat) (σ : sp_S) (p0 p1 : Int32) : Int32 × sp_S := if sp_c σ p0 p1 = 0 then (σ (5, 0, 0) (p0 * 16 + p1).toNatClampNeg, sp_e (sp_s σ (0, 0, 0) 2 (σ (5, 0, 0) (p0 * 16 + p1).toNatClampNeg)) 0) else (σ (0, 0, 0) 2, sp_e σ (sp_c σ p0 p1))
def sp_trip (nr : Nat) (len : Nat → Nat) (σ : sp_S) (p0 : Int32) : Int32 × sp_S := if p0 = 0 then (σ (0, 0, 0) 7, σ) else if p0 = 1 then (σ (0, 0, 0) 8, σ) else (-1, σ)
def sp_meter (nr : Nat) (len : Nat → Nat) (σ : sp_S) (p0 : Int32) : Int32 × sp_S := if sp_t p0 then (σ (4, 0, 0) p0.toNatClampNeg, σ) else (0, σ)
def sp_count (nr : Nat) (len : Nat → Nat) (σ : sp_S) (p0 : Int32) : Int32 × sp_S := if p0 = 0 then (σ (0, 0, 0) 0, σ) else if p0 = 1 then (σ (0, 0, 0) 1, σ) else if p0 = 2 then (σ (0, 0, 0) 2, σ) else if p0 = 3 then (σ (0, 0, 0) 3, σ) else if p0 = 4 then (σ (0, 0, 0) 5, σ) else if p0 = 5 then (σ (0, 0, 0) 6, σ) else if sp_r nr (p0 - 10) then (sp_b σ (p0 - 10).toNatClampNeg, σ) else (-1, σ)
def sp_status (nr : Nat) (len : Nat → Nat) (σ : sp_S) : Int32 × sp_S := (σ (0, 0, 0) 9, σ)
set_option maxHeartbeats 4000000 in
set_option maxRecDepth 100000 in
theorem cd_faultOfCell {l : Launch} {dC : Nat → ClassId} {dI : Nat → Nat → Nat} {cA : Nat → ClassId} {ad : zw_R → Nat} {R : List zw_R} {nr : Nat} {len : Nat → Nat} {σ : sp_S} {cM : zw_R → va_E} (hR : ze_R nr R) (p0 p1 : Int32) : zw_M l yX2_faultOfCell wsX2_faultOfCell { frames := 0, cells := 0, slots := 0, locals := 0 } (ze_E dC dI cA) [.ref (ad (0, 0, 0)), .int p0, .int p1] ad R (ze_X (ze_D cA ad nr len σ) cM) (some (.int (sp_c σ p0 p1))) (ze_X (ze_D cA ad nr len σ) cM) := by
  refine zw_body (cc := cX2_faultOfCell) (maxL := 4) (ret := (some .int)) (by decide) rfl (Nat.le_of_ble_eq_true rfl) ?_
  intro p e s m below meth c A ls hx hb hr hlk hml hts hown hnm hA hK hP hD hS hN hl
  have hl : lv_has ls 4 [(0, .ref (ad (0, 0, 0))), (1, .int p0), (2, .int p1)] := hl
  have hwX2 : ∀ w ∈ u_ws RX2 TX2 15, w ∈ wsX2_faultOfCell := by decide +kernel
  refine lv_aload_n hx hb dX2_faultOfCell_0 rfl (lv_at hl 0 rfl) ?_
  refine zw_getf (r := (0, 0, 0)) (v := .int (σ (0, 0, 0) 5)) (C := RX2) (T := TX2) (N := 15) (ci := 2) hx hb hts hwX2 hown hK hP (hR.1 0 (by decide)) rfl rfl 10 (by decide) (hts (.fieldLink RX2 44 "FourTrackDeck" "sheetRows" "I") (by decide +kernel)) (fun _ h9 => h9) rfl dX2_faultOfCell_1 ?_
  refine lv_iconst (v := (-1)) hx hb dX2_faultOfCell_4 (by decide) ?_
  refine lv_icmp_ne (tgt := 10) hx hb dX2_faultOfCell_5 (by decide) (fun c_1 => ?_) (fun c_1 => ?_)
  · refine lv_iload_n hx hb dX2_faultOfCell_10 rfl (lv_at hl 1 rfl) ?_
    refine lv_if_lt (tgt := 38) hx hb dX2_faultOfCell_11 (by decide) (fun c_2 => ?_) (fun c_2 => ?_)
    · refine lv_iconst (v := 0) hx hb dX2_faultOfCell_38 (by decide) ?_
      refine lv_istore_n (lv' := [(3, .int 0), (0, .ref (ad (0, 0, 0))), (1, .int p0), (2, .int p1)]) hx hb dX2_faultOfCell_39 rfl hl (by decide) rfl (fun ls hl => ?_)
      refine lv_iload_n hx hb dX2_faultOfCell_40 rfl (lv_at hl 0 rfl) ?_
      refine lv_if_eq (tgt := 48) hx hb dX2_faultOfCell_41 (by decide) (fun c_3 => ?_) (fun c_3 => absurd (by decide) c_3)
      refine lv_iconst (v := 3) hx hb dX2_faultOfCell_48 (by decide) ?_
      exact zw_iret hx hb hr hlk hK hP hD hS dX2_faultOfCell_49 (by unfold sp_c; rw [if_neg c_1, if_neg (fun q => Int32.not_lt.mpr q.1.1 c_2)]) rfl
    · refine lv_iload_n hx hb dX2_faultOfCell_14 rfl (lv_at hl 1 rfl) ?_
      refine lv_aload_n hx hb dX2_faultOfCell_15 rfl (lv_at hl 0 rfl) ?_
      refine zw_getf (r := (0, 0, 0)) (v := .int (σ (0, 0, 0) 5)) (C := RX2) (T := TX2) (N := 15) (ci := 2) hx hb hts hwX2 hown hK hP (hR.1 0 (by decide)) rfl rfl 10 (by decide) (hts (.fieldLink RX2 44 "FourTrackDeck" "sheetRows" "I") (by decide +kernel)) (fun _ h9 => h9) rfl dX2_faultOfCell_16 ?_
      refine lv_icmp_ge (tgt := 38) hx hb dX2_faultOfCell_19 (by decide) (fun c_4 => ?_) (fun c_4 => ?_)
      · refine lv_iconst (v := 0) hx hb dX2_faultOfCell_38 (by decide) ?_
        refine lv_istore_n (lv' := [(3, .int 0), (0, .ref (ad (0, 0, 0))), (1, .int p0), (2, .int p1)]) hx hb dX2_faultOfCell_39 rfl hl (by decide) rfl (fun ls hl => ?_)
        refine lv_iload_n hx hb dX2_faultOfCell_40 rfl (lv_at hl 0 rfl) ?_
        refine lv_if_eq (tgt := 48) hx hb dX2_faultOfCell_41 (by decide) (fun c_5 => ?_) (fun c_5 => absurd (by decide) c_5)
        refine lv_iconst (v := 3) hx hb dX2_faultOfCell_48 (by decide) ?_
        exact zw_iret hx hb hr hlk hK hP hD hS dX2_faultOfCell_49 (by unfold sp_c; rw [if_neg c_1, if_neg (fun q => Int32.not_lt.mpr c_4 q.1.2)]) rfl
      · refine lv_iload_n hx hb dX2_faultOfCell_22 rfl (lv_at hl 2 rfl) ?_
        refine lv_if_lt (tgt := 38) hx hb dX2_faultOfCell_23 (by decide) (fun c_6 => ?_) (fun c_6 => ?_)
        · refine lv_iconst (v := 0) hx hb dX2_faultOfCell_38 (by decide) ?_
          refine lv_istore_n (lv' := [(3, .int 0), (0, .ref (ad (0, 0, 0))), (1, .int p0), (2, .int p1)]) hx hb dX2_faultOfCell_39 rfl hl (by decide) rfl (fun ls hl => ?_)
          refine lv_iload_n hx hb dX2_faultOfCell_40 rfl (lv_at hl 0 rfl) ?_
          refine lv_if_eq (tgt := 48) hx hb dX2_faultOfCell_41 (by decide) (fun c_7 => ?_) (fun c_7 => absurd (by decide) c_7)
          refine lv_iconst (v := 3) hx hb dX2_faultOfCell_48 (by decide) ?_
          exact zw_iret hx hb hr hlk hK hP hD hS dX2_faultOfCell_49 (by unfold sp_c; rw [if_neg c_1, if_neg (fun q => Int32.not_lt.mpr q.2.1 c_6)]) rfl
        · refine lv_iload_n hx hb dX2_faultOfCell_26 rfl (lv_at hl 2 rfl) ?_
          refine lv_aload_n hx hb dX2_faultOfCell_27 rfl (lv_at hl 0 rfl) ?_
          refine zw_getf (r := (0, 0, 0)) (v := .int (σ (0, 0, 0) 6)) (C := RX2) (T := TX2) (N := 15) (ci := 2) hx hb hts hwX2 hown hK hP (hR.1 0 (by decide)) rfl rfl 11 (by decide) (hts (.fieldLink RX2 47 "FourTrackDeck" "sheetWidth" "I") (by decide +kernel)) (fun _ h9 => h9) rfl dX2_faultOfCell_28 ?_
          refine lv_icmp_ge (tgt := 38) hx hb dX2_faultOfCell_31 (by decide) (fun c_8 => ?_) (fun c_8 => ?_)
          · refine lv_iconst (v := 0) hx hb dX2_faultOfCell_38 (by decide) ?_
            refine lv_istore_n (lv' := [(3, .int 0), (0, .ref (ad (0, 0, 0))), (1, .int p0), (2, .int p1)]) hx hb dX2_faultOfCell_39 rfl hl (by decide) rfl (fun ls hl => ?_)
            refine lv_iload_n hx hb dX2_faultOfCell_40 rfl (lv_at hl 0 rfl) ?_
            refine lv_if_eq (tgt := 48) hx hb dX2_faultOfCell_41 (by decide) (fun c_9 => ?_) (fun c_9 => absurd (by decide) c_9)
            refine lv_iconst (v := 3) hx hb dX2_faultOfCell_48 (by decide) ?_
            exact zw_iret hx hb hr hlk hK hP hD hS dX2_faultOfCell_49 (by unfold sp_c; rw [if_neg c_1, if_neg (fun q => Int32.not_lt.mpr c_8 q.2.2)]) rfl
          · refine lv_iconst (v := 1) hx hb dX2_faultOfCell_34 (by decide) ?_
            refine lv_goto (tgt := 39) hx hb dX2_faultOfCell_35 (by decide) ?_
            refine lv_istore_n (lv' := [(3, .int 1), (0, .ref (ad (0, 0, 0))), (1, .int p0), (2, .int p1)]) hx hb dX2_faultOfCell_39 rfl hl (by decide) rfl (fun ls hl => ?_)
            refine lv_iload_n hx hb dX2_faultOfCell_40 rfl (lv_at hl 0 rfl) ?_
            refine lv_if_eq (tgt := 48) hx hb dX2_faultOfCell_41 (by decide) (fun c_10 => absurd c_10 (by decide)) (fun c_10 => ?_)
            refine lv_iconst (v := 0) hx hb dX2_faultOfCell_44 (by decide) ?_
            refine lv_goto (tgt := 49) hx hb dX2_faultOfCell_45 (by decide) ?_
            exact zw_iret hx hb hr hlk hK hP hD hS dX2_faultOfCell_49 (by unfold sp_c; rw [if_neg c_1, if_pos ⟨⟨Int32.not_lt.mp c_2, Int32.not_le.mp c_4⟩, Int32.not_lt.mp c_6, Int32.not_le.mp c_8⟩]) rfl
  · refine lv_iconst (v := 2) hx hb dX2_faultOfCell_8 (by decide) ?_
    exact zw_iret hx hb hr hlk hK hP hD hS dX2_faultOfCell_9 (by unfold sp_c; rw [if_pos c_1]) rfl
set_option maxHeartbeats 4000000 in
set_option maxRecDepth 100000 in
theorem cd_bits {l : Launch} {dC : Nat → ClassId} {dI : Nat → Nat → Nat} {cA : Nat → ClassId} {ad : zw_R → Nat} {R : List zw_R} {nr : Nat} {len : Nat → Nat} {σ : sp_S} {cM : zw_R → va_E} (hR : ze_R nr R) (i : Nat) (hi : i < nr) : zw_M l yX0_bitsOfTracks wsX0_bitsOfTracks { frames := 0, cells := 0, slots := 0, locals := 0 } (ze_E dC dI cA) [.ref (ad (6, i, 0))] ad R (ze_X (ze_D cA ad nr len σ) cM) (some (.int (sp_b σ i))) (ze_X (ze_D cA ad nr len σ) cM) := by
  refine zw_body (cc := cX0_bitsOfTracks) (maxL := 3) (ret := (some .int)) (by decide) rfl (Nat.le_of_ble_eq_true rfl) ?_
  intro p e s m below meth c A ls hx hb hr hlk hml hts hown hnm hA hK hP hD hS hN hl
  have hl : lv_has ls 3 [(0, .ref (ad (6, i, 0)))] := hl
  have hwX0 : ∀ w ∈ u_ws RX0 TX0 1, w ∈ wsX0_bitsOfTracks := by decide +kernel
  have hwX1 : ∀ w ∈ u_ws RX1 TX1 3, w ∈ wsX0_bitsOfTracks := by decide +kernel
  refine lv_iconst (v := 0) hx hb dX0_bitsOfTracks_0 (by decide) ?_
  refine lv_istore_n (lv' := [(1, .int 0), (0, .ref (ad (6, i, 0)))]) hx hb dX0_bitsOfTracks_1 rfl hl (by decide) rfl (fun ls hl => ?_)
  refine lv_iconst (v := 0) hx hb dX0_bitsOfTracks_2 (by decide) ?_
  refine lv_istore_n (lv' := [(2, .int 0), (1, .int 0), (0, .ref (ad (6, i, 0)))]) hx hb dX0_bitsOfTracks_3 rfl hl (by decide) rfl (fun ls hl => ?_)
  refine lv_iload_n hx hb dX0_bitsOfTracks_4 rfl (lv_at hl 0 rfl) ?_
  refine lv_iconst (v := 4) hx hb dX0_bitsOfTracks_5 (by decide) ?_
  refine lv_icmp_ge (tgt := 33) hx hb dX0_bitsOfTracks_6 (by decide) (fun c_1 => absurd c_1 (by decide)) (fun c_1 => ?_)
  refine lv_aload_n hx hb dX0_bitsOfTracks_9 rfl (lv_at hl 2 rfl) ?_
  refine zw_getf (r := (6, i, 0)) (v := .ref (ad (7, i, 0))) (C := RX0) (T := TX0) (N := 1) (ci := 0) hx hb hts hwX0 hown hK hP (hR.2 i hi).1 rfl rfl 0 (by decide) (hts (.fieldLink RX0 11 "FourTrackDeck$Reel" "tracks" "[LFourTrackDeck$Track;") (by decide +kernel)) (fun _ h9 => h9) rfl dX0_bitsOfTracks_10 ?_
  refine lv_iload_n hx hb dX0_bitsOfTracks_13 rfl (lv_at hl 0 rfl) ?_
  refine zw_aldq (r := (7, i, 0)) (v := .ref (ad (8, i, 0))) hx hb hK hP (hR.2 i hi).2.1 2 rfl rfl (by unfold vp_in; decide) rfl dX0_bitsOfTracks_14 ?_
  refine zw_getN (r := (8, i, 0)) (v := .int (σ (8, i, 0) 1)) (C := RX1) (T := TX1) (N := 3) (ci := 1) hx hb hts hwX1 hown hK hP ((hR.2 i hi).2.2 0 (by decide)).1 rfl rfl 2 (by decide) ((hN.1 ("FourTrackDeck$Reel", 20, "FourTrackDeck$Track", "isThere", "Z", "FourTrackDeck") (by decide +kernel)).use rfl) (fun _ h9 => h9) rfl dX0_bitsOfTracks_15 ?_
  refine lv_if_eq (tgt := 27) hx hb dX0_bitsOfTracks_18 (by decide) (fun c_2 => ?_) (fun c_2 => ?_)
  · refine lv_iinc (v := 1) (lv' := [(2, .int 1), (1, .int 0), (0, .ref (ad (6, i, 0)))]) hx hb dX0_bitsOfTracks_27 hl (k := 0) rfl rfl (by decide) rfl (fun ls hl => ?_)
    refine lv_goto (tgt := 4) hx hb dX0_bitsOfTracks_30 (by decide) ?_
    refine lv_iload_n hx hb dX0_bitsOfTracks_4 rfl (lv_at hl 0 rfl) ?_
    refine lv_iconst (v := 4) hx hb dX0_bitsOfTracks_5 (by decide) ?_
    refine lv_icmp_ge (tgt := 33) hx hb dX0_bitsOfTracks_6 (by decide) (fun c_3 => absurd c_3 (by decide)) (fun c_3 => ?_)
    refine lv_aload_n hx hb dX0_bitsOfTracks_9 rfl (lv_at hl 2 rfl) ?_
    refine zw_getf (r := (6, i, 0)) (v := .ref (ad (7, i, 0))) (C := RX0) (T := TX0) (N := 1) (ci := 0) hx hb hts hwX0 hown hK hP (hR.2 i hi).1 rfl rfl 0 (by decide) (hts (.fieldLink RX0 11 "FourTrackDeck$Reel" "tracks" "[LFourTrackDeck$Track;") (by decide +kernel)) (fun _ h9 => h9) rfl dX0_bitsOfTracks_10 ?_
    refine lv_iload_n hx hb dX0_bitsOfTracks_13 rfl (lv_at hl 0 rfl) ?_
    refine zw_aldq (r := (7, i, 0)) (v := .ref (ad (8, i, 1))) hx hb hK hP (hR.2 i hi).2.1 2 rfl rfl (by unfold vp_in; decide) rfl dX0_bitsOfTracks_14 ?_
    refine zw_getN (r := (8, i, 1)) (v := .int (σ (8, i, 1) 1)) (C := RX1) (T := TX1) (N := 3) (ci := 1) hx hb hts hwX1 hown hK hP ((hR.2 i hi).2.2 1 (by decide)).1 rfl rfl 2 (by decide) ((hN.1 ("FourTrackDeck$Reel", 20, "FourTrackDeck$Track", "isThere", "Z", "FourTrackDeck") (by decide +kernel)).use rfl) (fun _ h9 => h9) rfl dX0_bitsOfTracks_15 ?_
    refine lv_if_eq (tgt := 27) hx hb dX0_bitsOfTracks_18 (by decide) (fun c_4 => ?_) (fun c_4 => ?_)
    · refine lv_iinc (v := 2) (lv' := [(2, .int 2), (1, .int 0), (0, .ref (ad (6, i, 0)))]) hx hb dX0_bitsOfTracks_27 hl (k := 0) rfl rfl (by decide) rfl (fun ls hl => ?_)
      refine lv_goto (tgt := 4) hx hb dX0_bitsOfTracks_30 (by decide) ?_
      refine lv_iload_n hx hb dX0_bitsOfTracks_4 rfl (lv_at hl 0 rfl) ?_
      refine lv_iconst (v := 4) hx hb dX0_bitsOfTracks_5 (by decide) ?_
      refine lv_icmp_ge (tgt := 33) hx hb dX0_bitsOfTracks_6 (by decide) (fun c_5 => absurd c_5 (by decide)) (fun c_5 => ?_)
      refine lv_aload_n hx hb dX0_bitsOfTracks_9 rfl (lv_at hl 2 rfl) ?_
      refine zw_getf (r := (6, i, 0)) (v := .ref (ad (7, i, 0))) (C := RX0) (T := TX0) (N := 1) (ci := 0) hx hb hts hwX0 hown hK hP (hR.2 i hi).1 rfl rfl 0 (by decide) (hts (.fieldLink RX0 11 "FourTrackDeck$Reel" "tracks" "[LFourTrackDeck$Track;") (by decide +kernel)) (fun _ h9 => h9) rfl dX0_bitsOfTracks_10 ?_
      refine lv_iload_n hx hb dX0_bitsOfTracks_13 rfl (lv_at hl 0 rfl) ?_
      refine zw_aldq (r := (7, i, 0)) (v := .ref (ad (8, i, 2))) hx hb hK hP (hR.2 i hi).2.1 2 rfl rfl (by unfold vp_in; decide) rfl dX0_bitsOfTracks_14 ?_
      refine zw_getN (r := (8, i, 2)) (v := .int (σ (8, i, 2) 1)) (C := RX1) (T := TX1) (N := 3) (ci := 1) hx hb hts hwX1 hown hK hP ((hR.2 i hi).2.2 2 (by decide)).1 rfl rfl 2 (by decide) ((hN.1 ("FourTrackDeck$Reel", 20, "FourTrackDeck$Track", "isThere", "Z", "FourTrackDeck") (by decide +kernel)).use rfl) (fun _ h9 => h9) rfl dX0_bitsOfTracks_15 ?_
      refine lv_if_eq (tgt := 27) hx hb dX0_bitsOfTracks_18 (by decide) (fun c_6 => ?_) (fun c_6 => ?_)
      · refine lv_iinc (v := 3) (lv' := [(2, .int 3), (1, .int 0), (0, .ref (ad (6, i, 0)))]) hx hb dX0_bitsOfTracks_27 hl (k := 0) rfl rfl (by decide) rfl (fun ls hl => ?_)
        refine lv_goto (tgt := 4) hx hb dX0_bitsOfTracks_30 (by decide) ?_
        refine lv_iload_n hx hb dX0_bitsOfTracks_4 rfl (lv_at hl 0 rfl) ?_
        refine lv_iconst (v := 4) hx hb dX0_bitsOfTracks_5 (by decide) ?_
        refine lv_icmp_ge (tgt := 33) hx hb dX0_bitsOfTracks_6 (by decide) (fun c_7 => absurd c_7 (by decide)) (fun c_7 => ?_)
        refine lv_aload_n hx hb dX0_bitsOfTracks_9 rfl (lv_at hl 2 rfl) ?_
        refine zw_getf (r := (6, i, 0)) (v := .ref (ad (7, i, 0))) (C := RX0) (T := TX0) (N := 1) (ci := 0) hx hb hts hwX0 hown hK hP (hR.2 i hi).1 rfl rfl 0 (by decide) (hts (.fieldLink RX0 11 "FourTrackDeck$Reel" "tracks" "[LFourTrackDeck$Track;") (by decide +kernel)) (fun _ h9 => h9) rfl dX0_bitsOfTracks_10 ?_
        refine lv_iload_n hx hb dX0_bitsOfTracks_13 rfl (lv_at hl 0 rfl) ?_
        refine zw_aldq (r := (7, i, 0)) (v := .ref (ad (8, i, 3))) hx hb hK hP (hR.2 i hi).2.1 2 rfl rfl (by unfold vp_in; decide) rfl dX0_bitsOfTracks_14 ?_
        refine zw_getN (r := (8, i, 3)) (v := .int (σ (8, i, 3) 1)) (C := RX1) (T := TX1) (N := 3) (ci := 1) hx hb hts hwX1 hown hK hP ((hR.2 i hi).2.2 3 (by decide)).1 rfl rfl 2 (by decide) ((hN.1 ("FourTrackDeck$Reel", 20, "FourTrackDeck$Track", "isThere", "Z", "FourTrackDeck") (by decide +kernel)).use rfl) (fun _ h9 => h9) rfl dX0_bitsOfTracks_15 ?_
        refine lv_if_eq (tgt := 27) hx hb dX0_bitsOfTracks_18 (by decide) (fun c_8 => ?_) (fun c_8 => ?_)
        · refine lv_iinc (v := 4) (lv' := [(2, .int 4), (1, .int 0), (0, .ref (ad (6, i, 0)))]) hx hb dX0_bitsOfTracks_27 hl (k := 0) rfl rfl (by decide) rfl (fun ls hl => ?_)
          refine lv_goto (tgt := 4) hx hb dX0_bitsOfTracks_30 (by decide) ?_
          refine lv_iload_n hx hb dX0_bitsOfTracks_4 rfl (lv_at hl 0 rfl) ?_
          refine lv_iconst (v := 4) hx hb dX0_bitsOfTracks_5 (by decide) ?_
          refine lv_icmp_ge (tgt := 33) hx hb dX0_bitsOfTracks_6 (by decide) (fun c_9 => ?_) (fun c_9 => absurd (by decide) c_9)
          refine lv_iload_n hx hb dX0_bitsOfTracks_33 rfl (lv_at hl 1 rfl) ?_
          exact zw_iret hx hb hr hlk hK hP hD hS dX0_bitsOfTracks_34 (by simp only [sp_b, if_pos c_2, if_pos c_4, if_pos c_6, if_pos c_8] <;> rfl) rfl
        · refine lv_iload_n hx hb dX0_bitsOfTracks_21 rfl (lv_at hl 1 rfl) ?_
          refine lv_iconst (v := 1) hx hb dX0_bitsOfTracks_22 (by decide) ?_
          refine lv_iload_n hx hb dX0_bitsOfTracks_23 rfl (lv_at hl 0 rfl) ?_
          refine lv_ishl hx hb dX0_bitsOfTracks_24 ?_
          refine lv_ior hx hb dX0_bitsOfTracks_25 ?_
          refine lv_istore_n (lv' := [(1, .int (0 ||| ((1 : Int32) <<< ((3 : Int32) &&& 31)))), (2, .int 3), (0, .ref (ad (6, i, 0)))]) hx hb dX0_bitsOfTracks_26 rfl hl (by decide) rfl (fun ls hl => ?_)
          refine lv_iinc (v := 4) (lv' := [(2, .int 4), (1, .int (0 ||| ((1 : Int32) <<< ((3 : Int32) &&& 31)))), (0, .ref (ad (6, i, 0)))]) hx hb dX0_bitsOfTracks_27 hl (k := 1) rfl rfl (by decide) rfl (fun ls hl => ?_)
          refine lv_goto (tgt := 4) hx hb dX0_bitsOfTracks_30 (by decide) ?_
          refine lv_iload_n hx hb dX0_bitsOfTracks_4 rfl (lv_at hl 0 rfl) ?_
          refine lv_iconst (v := 4) hx hb dX0_bitsOfTracks_5 (by decide) ?_
          refine lv_icmp_ge (tgt := 33) hx hb dX0_bitsOfTracks_6 (by decide) (fun c_10 => ?_) (fun c_10 => absurd (by decide) c_10)
          refine lv_iload_n hx hb dX0_bitsOfTracks_33 rfl (lv_at hl 1 rfl) ?_
          exact zw_iret hx hb hr hlk hK hP hD hS dX0_bitsOfTracks_34 (by simp only [sp_b, if_pos c_2, if_pos c_4, if_pos c_6, if_neg c_8] <;> rfl) rfl
      · refine lv_iload_n hx hb dX0_bitsOfTracks_21 rfl (lv_at hl 1 rfl) ?_
        refine lv_iconst (v := 1) hx hb dX0_bitsOfTracks_22 (by decide) ?_
        refine lv_iload_n hx hb dX0_bitsOfTracks_23 rfl (lv_at hl 0 rfl) ?_
        refine lv_ishl hx hb dX0_bitsOfTracks_24 ?_
        refine lv_ior hx hb dX0_bitsOfTracks_25 ?_
        refine lv_istore_n (lv' := [(1, .int (0 ||| ((1 : Int32) <<< ((2 : Int32) &&& 31)))), (2, .int 2), (0, .ref (ad (6, i, 0)))]) hx hb dX0_bitsOfTracks_26 rfl hl (by decide) rfl (fun ls hl => ?_)
        refine lv_iinc (v := 3) (lv' := [(2, .int 3), (1, .int (0 ||| ((1 : Int32) <<< ((2 : Int32) &&& 31)))), (0, .ref (ad (6, i, 0)))]) hx hb dX0_bitsOfTracks_27 hl (k := 1) rfl rfl (by decide) rfl (fun ls hl => ?_)
        refine lv_goto (tgt := 4) hx hb dX0_bitsOfTracks_30 (by decide) ?_
        refine lv_iload_n hx hb dX0_bitsOfTracks_4 rfl (lv_at hl 0 rfl) ?_
        refine lv_iconst (v := 4) hx hb dX0_bitsOfTracks_5 (by decide) ?_
        refine lv_icmp_ge (tgt := 33) hx hb dX0_bitsOfTracks_6 (by decide) (fun c_11 => absurd c_11 (by decide)) (fun c_11 => ?_)
        refine lv_aload_n hx hb dX0_bitsOfTracks_9 rfl (lv_at hl 2 rfl) ?_
        refine zw_getf (r := (6, i, 0)) (v := .ref (ad (7, i, 0))) (C := RX0) (T := TX0) (N := 1) (ci := 0) hx hb hts hwX0 hown hK hP (hR.2 i hi).1 rfl rfl 0 (by decide) (hts (.fieldLink RX0 11 "FourTrackDeck$Reel" "tracks" "[LFourTrackDeck$Track;") (by decide +kernel)) (fun _ h9 => h9) rfl dX0_bitsOfTracks_10 ?_
        refine lv_iload_n hx hb dX0_bitsOfTracks_13 rfl (lv_at hl 0 rfl) ?_
        refine zw_aldq (r := (7, i, 0)) (v := .ref (ad (8, i, 3))) hx hb hK hP (hR.2 i hi).2.1 2 rfl rfl (by unfold vp_in; decide) rfl dX0_bitsOfTracks_14 ?_
        refine zw_getN (r := (8, i, 3)) (v := .int (σ (8, i, 3) 1)) (C := RX1) (T := TX1) (N := 3) (ci := 1) hx hb hts hwX1 hown hK hP ((hR.2 i hi).2.2 3 (by decide)).1 rfl rfl 2 (by decide) ((hN.1 ("FourTrackDeck$Reel", 20, "FourTrackDeck$Track", "isThere", "Z", "FourTrackDeck") (by decide +kernel)).use rfl) (fun _ h9 => h9) rfl dX0_bitsOfTracks_15 ?_
        refine lv_if_eq (tgt := 27) hx hb dX0_bitsOfTracks_18 (by decide) (fun c_12 => ?_) (fun c_12 => ?_)
        · refine lv_iinc (v := 4) (lv' := [(2, .int 4), (1, .int (0 ||| ((1 : Int32) <<< ((2 : Int32) &&& 31)))), (0, .ref (ad (6, i, 0)))]) hx hb dX0_bitsOfTracks_27 hl (k := 0) rfl rfl (by decide) rfl (fun ls hl => ?_)
          refine lv_goto (tgt := 4) hx hb dX0_bitsOfTracks_30 (by decide) ?_
          refine lv_iload_n hx hb dX0_bitsOfTracks_4 rfl (lv_at hl 0 rfl) ?_
          refine lv_iconst (v := 4) hx hb dX0_bitsOfTracks_5 (by decide) ?_
          refine lv_icmp_ge (tgt := 33) hx hb dX0_bitsOfTracks_6 (by decide) (fun c_13 => ?_) (fun c_13 => absurd (by decide) c_13)
          refine lv_iload_n hx hb dX0_bitsOfTracks_33 rfl (lv_at hl 1 rfl) ?_
          exact zw_iret hx hb hr hlk hK hP hD hS dX0_bitsOfTracks_34 (by simp only [sp_b, if_pos c_2, if_pos c_4, if_neg c_6, if_pos c_12] <;> rfl) rfl
        · refine lv_iload_n hx hb dX0_bitsOfTracks_21 rfl (lv_at hl 1 rfl) ?_
          refine lv_iconst (v := 1) hx hb dX0_bitsOfTracks_22 (by decide) ?_
          refine lv_iload_n hx hb dX0_bitsOfTracks_23 rfl (lv_at hl 0 rfl) ?_
          refine lv_ishl hx hb dX0_bitsOfTracks_24 ?_
          refine lv_ior hx hb dX0_bitsOfTracks_25 ?_
          refine lv_istore_n (lv' := [(1, .int ((0 ||| ((1 : Int32) <<< ((2 : Int32) &&& 31))) ||| ((1 : Int32) <<< ((3 : Int32) &&& 31)))), (2, .int 3), (0, .ref (ad (6, i, 0)))]) hx hb dX0_bitsOfTracks_26 rfl hl (by decide) rfl (fun ls hl => ?_)
          refine lv_iinc (v := 4) (lv' := [(2, .int 4), (1, .int ((0 ||| ((1 : Int32) <<< ((2 : Int32) &&& 31))) ||| ((1 : Int32) <<< ((3 : Int32) &&& 31)))), (0, .ref (ad (6, i, 0)))]) hx hb dX0_bitsOfTracks_27 hl (k := 1) rfl rfl (by decide) rfl (fun ls hl => ?_)
          refine lv_goto (tgt := 4) hx hb dX0_bitsOfTracks_30 (by decide) ?_
          refine lv_iload_n hx hb dX0_bitsOfTracks_4 rfl (lv_at hl 0 rfl) ?_
          refine lv_iconst (v := 4) hx hb dX0_bitsOfTracks_5 (by decide) ?_
          refine lv_icmp_ge (tgt := 33) hx hb dX0_bitsOfTracks_6 (by decide) (fun c_14 => ?_) (fun c_14 => absurd (by decide) c_14)
          refine lv_iload_n hx hb dX0_bitsOfTracks_33 rfl (lv_at hl 1 rfl) ?_
          exact zw_iret hx hb hr hlk hK hP hD hS dX0_bitsOfTracks_34 (by simp only [sp_b, if_pos c_2, if_pos c_4, if_neg c_6, if_neg c_12] <;> rfl) rfl
    · refine lv_iload_n hx hb dX0_bitsOfTracks_21 rfl (lv_at hl 1 rfl) ?_
      refine lv_iconst (v := 1) hx hb dX0_bitsOfTracks_22 (by decide) ?_
      refine lv_iload_n hx hb dX0_bitsOfTracks_23 rfl (lv_at hl 0 rfl) ?_
      refine lv_ishl hx hb dX0_bitsOfTracks_24 ?_
      refine lv_ior hx hb dX0_bitsOfTracks_25 ?_
      refine lv_istore_n (lv' := [(1, .int (0 ||| ((1 : Int32) <<< ((1 : Int32) &&& 31)))), (2, .int 1), (0, .ref (ad (6, i, 0)))]) hx hb dX0_bitsOfTracks_26 rfl hl (by decide) rfl (fun ls hl => ?_)
      refine lv_iinc (v := 2) (lv' := [(2, .int 2), (1, .int (0 ||| ((1 : Int32) <<< ((1 : Int32) &&& 31)))), (0, .ref (ad (6, i, 0)))]) hx hb dX0_bitsOfTracks_27 hl (k := 1) rfl rfl (by decide) rfl (fun ls hl => ?_)
      refine lv_goto (tgt := 4) hx hb dX0_bitsOfTracks_30 (by decide) ?_
      refine lv_iload_n hx hb dX0_bitsOfTracks_4 rfl (lv_at hl 0 rfl) ?_
      refine lv_iconst (v := 4) hx hb dX0_bitsOfTracks_5 (by decide) ?_
      refine lv_icmp_ge (tgt := 33) hx hb dX0_bitsOfTracks_6 (by decide) (fun c_15 => absurd c_15 (by decide)) (fun c_15 => ?_)
      refine lv_aload_n hx hb dX0_bitsOfTracks_9 rfl (lv_at hl 2 rfl) ?_
      refine zw_getf (r := (6, i, 0)) (v := .ref (ad (7, i, 0))) (C := RX0) (T := TX0) (N := 1) (ci := 0) hx hb hts hwX0 hown hK hP (hR.2 i hi).1 rfl rfl 0 (by decide) (hts (.fieldLink RX0 11 "FourTrackDeck$Reel" "tracks" "[LFourTrackDeck$Track;") (by decide +kernel)) (fun _ h9 => h9) rfl dX0_bitsOfTracks_10 ?_
      refine lv_iload_n hx hb dX0_bitsOfTracks_13 rfl (lv_at hl 0 rfl) ?_
      refine zw_aldq (r := (7, i, 0)) (v := .ref (ad (8, i, 2))) hx hb hK hP (hR.2 i hi).2.1 2 rfl rfl (by unfold vp_in; decide) rfl dX0_bitsOfTracks_14 ?_
      refine zw_getN (r := (8, i, 2)) (v := .int (σ (8, i, 2) 1)) (C := RX1) (T := TX1) (N := 3) (ci := 1) hx hb hts hwX1 hown hK hP ((hR.2 i hi).2.2 2 (by decide)).1 rfl rfl 2 (by decide) ((hN.1 ("FourTrackDeck$Reel", 20, "FourTrackDeck$Track", "isThere", "Z", "FourTrackDeck") (by decide +kernel)).use rfl) (fun _ h9 => h9) rfl dX0_bitsOfTracks_15 ?_
      refine lv_if_eq (tgt := 27) hx hb dX0_bitsOfTracks_18 (by decide) (fun c_16 => ?_) (fun c_16 => ?_)
      · refine lv_iinc (v := 3) (lv' := [(2, .int 3), (1, .int (0 ||| ((1 : Int32) <<< ((1 : Int32) &&& 31)))), (0, .ref (ad (6, i, 0)))]) hx hb dX0_bitsOfTracks_27 hl (k := 0) rfl rfl (by decide) rfl (fun ls hl => ?_)
        refine lv_goto (tgt := 4) hx hb dX0_bitsOfTracks_30 (by decide) ?_
        refine lv_iload_n hx hb dX0_bitsOfTracks_4 rfl (lv_at hl 0 rfl) ?_
        refine lv_iconst (v := 4) hx hb dX0_bitsOfTracks_5 (by decide) ?_
        refine lv_icmp_ge (tgt := 33) hx hb dX0_bitsOfTracks_6 (by decide) (fun c_17 => absurd c_17 (by decide)) (fun c_17 => ?_)
        refine lv_aload_n hx hb dX0_bitsOfTracks_9 rfl (lv_at hl 2 rfl) ?_
        refine zw_getf (r := (6, i, 0)) (v := .ref (ad (7, i, 0))) (C := RX0) (T := TX0) (N := 1) (ci := 0) hx hb hts hwX0 hown hK hP (hR.2 i hi).1 rfl rfl 0 (by decide) (hts (.fieldLink RX0 11 "FourTrackDeck$Reel" "tracks" "[LFourTrackDeck$Track;") (by decide +kernel)) (fun _ h9 => h9) rfl dX0_bitsOfTracks_10 ?_
        refine lv_iload_n hx hb dX0_bitsOfTracks_13 rfl (lv_at hl 0 rfl) ?_
        refine zw_aldq (r := (7, i, 0)) (v := .ref (ad (8, i, 3))) hx hb hK hP (hR.2 i hi).2.1 2 rfl rfl (by unfold vp_in; decide) rfl dX0_bitsOfTracks_14 ?_
        refine zw_getN (r := (8, i, 3)) (v := .int (σ (8, i, 3) 1)) (C := RX1) (T := TX1) (N := 3) (ci := 1) hx hb hts hwX1 hown hK hP ((hR.2 i hi).2.2 3 (by decide)).1 rfl rfl 2 (by decide) ((hN.1 ("FourTrackDeck$Reel", 20, "FourTrackDeck$Track", "isThere", "Z", "FourTrackDeck") (by decide +kernel)).use rfl) (fun _ h9 => h9) rfl dX0_bitsOfTracks_15 ?_
        refine lv_if_eq (tgt := 27) hx hb dX0_bitsOfTracks_18 (by decide) (fun c_18 => ?_) (fun c_18 => ?_)
        · refine lv_iinc (v := 4) (lv' := [(2, .int 4), (1, .int (0 ||| ((1 : Int32) <<< ((1 : Int32) &&& 31)))), (0, .ref (ad (6, i, 0)))]) hx hb dX0_bitsOfTracks_27 hl (k := 0) rfl rfl (by decide) rfl (fun ls hl => ?_)
          refine lv_goto (tgt := 4) hx hb dX0_bitsOfTracks_30 (by decide) ?_
          refine lv_iload_n hx hb dX0_bitsOfTracks_4 rfl (lv_at hl 0 rfl) ?_
          refine lv_iconst (v := 4) hx hb dX0_bitsOfTracks_5 (by decide) ?_
          refine lv_icmp_ge (tgt := 33) hx hb dX0_bitsOfTracks_6 (by decide) (fun c_19 => ?_) (fun c_19 => absurd (by decide) c_19)
          refine lv_iload_n hx hb dX0_bitsOfTracks_33 rfl (lv_at hl 1 rfl) ?_
          exact zw_iret hx hb hr hlk hK hP hD hS dX0_bitsOfTracks_34 (by simp only [sp_b, if_pos c_2, if_neg c_4, if_pos c_16, if_pos c_18] <;> rfl) rfl
        · refine lv_iload_n hx hb dX0_bitsOfTracks_21 rfl (lv_at hl 1 rfl) ?_
          refine lv_iconst (v := 1) hx hb dX0_bitsOfTracks_22 (by decide) ?_
          refine lv_iload_n hx hb dX0_bitsOfTracks_23 rfl (lv_at hl 0 rfl) ?_
          refine lv_ishl hx hb dX0_bitsOfTracks_24 ?_
          refine lv_ior hx hb dX0_bitsOfTracks_25 ?_
          refine lv_istore_n (lv' := [(1, .int ((0 ||| ((1 : Int32) <<< ((1 : Int32) &&& 31))) ||| ((1 : Int32) <<< ((3 : Int32) &&& 31)))), (2, .int 3), (0, .ref (ad (6, i, 0)))]) hx hb dX0_bitsOfTracks_26 rfl hl (by decide) rfl (fun ls hl => ?_)
          refine lv_iinc (v := 4) (lv' := [(2, .int 4), (1, .int ((0 ||| ((1 : Int32) <<< ((1 : Int32) &&& 31))) ||| ((1 : Int32) <<< ((3 : Int32) &&& 31)))), (0, .ref (ad (6, i, 0)))]) hx hb dX0_bitsOfTracks_27 hl (k := 1) rfl rfl (by decide) rfl (fun ls hl => ?_)
          refine lv_goto (tgt := 4) hx hb dX0_bitsOfTracks_30 (by decide) ?_
          refine lv_iload_n hx hb dX0_bitsOfTracks_4 rfl (lv_at hl 0 rfl) ?_
          refine lv_iconst (v := 4) hx hb dX0_bitsOfTracks_5 (by decide) ?_
          refine lv_icmp_ge (tgt := 33) hx hb dX0_bitsOfTracks_6 (by decide) (fun c_20 => ?_) (fun c_20 => absurd (by decide) c_20)
          refine lv_iload_n hx hb dX0_bitsOfTracks_33 rfl (lv_at hl 1 rfl) ?_
          exact zw_iret hx hb hr hlk hK hP hD hS dX0_bitsOfTracks_34 (by simp only [sp_b, if_pos c_2, if_neg c_4, if_pos c_16, if_neg c_18] <;> rfl) rfl
      · refine lv_iload_n hx hb dX0_bitsOfTracks_21 rfl (lv_at hl 1 rfl) ?_
        refine lv_iconst (v := 1) hx hb dX0_bitsOfTracks_22 (by decide) ?_
        refine lv_iload_n hx hb dX0_bitsOfTracks_23 rfl (lv_at hl 0 rfl) ?_
        refine lv_ishl hx hb dX0_bitsOfTracks_24 ?_
        refine lv_ior hx hb dX0_bitsOfTracks_25 ?_
        refine lv_istore_n (lv' := [(1, .int ((0 ||| ((1 : Int32) <<< ((1 : Int32) &&& 31))) ||| ((1 : Int32) <<< ((2 : Int32) &&& 31)))), (2, .int 2), (0, .ref (ad (6, i, 0)))]) hx hb dX0_bitsOfTracks_26 rfl hl (by decide) rfl (fun ls hl => ?_)
        refine lv_iinc (v := 3) (lv' := [(2, .int 3), (1, .int ((0 ||| ((1 : Int32) <<< ((1 : Int32) &&& 31))) ||| ((1 : Int32) <<< ((2 : Int32) &&& 31)))), (0, .ref (ad (6, i, 0)))]) hx hb dX0_bitsOfTracks_27 hl (k := 1) rfl rfl (by decide) rfl (fun ls hl => ?_)
        refine lv_goto (tgt := 4) hx hb dX0_bitsOfTracks_30 (by decide) ?_
        refine lv_iload_n hx hb dX0_bitsOfTracks_4 rfl (lv_at hl 0 rfl) ?_
        refine lv_iconst (v := 4) hx hb dX0_bitsOfTracks_5 (by decide) ?_
        refine lv_icmp_ge (tgt := 33) hx hb dX0_bitsOfTracks_6 (by decide) (fun c_21 => absurd c_21 (by decide)) (fun c_21 => ?_)
        refine lv_aload_n hx hb dX0_bitsOfTracks_9 rfl (lv_at hl 2 rfl) ?_
        refine zw_getf (r := (6, i, 0)) (v := .ref (ad (7, i, 0))) (C := RX0) (T := TX0) (N := 1) (ci := 0) hx hb hts hwX0 hown hK hP (hR.2 i hi).1 rfl rfl 0 (by decide) (hts (.fieldLink RX0 11 "FourTrackDeck$Reel" "tracks" "[LFourTrackDeck$Track;") (by decide +kernel)) (fun _ h9 => h9) rfl dX0_bitsOfTracks_10 ?_
        refine lv_iload_n hx hb dX0_bitsOfTracks_13 rfl (lv_at hl 0 rfl) ?_
        refine zw_aldq (r := (7, i, 0)) (v := .ref (ad (8, i, 3))) hx hb hK hP (hR.2 i hi).2.1 2 rfl rfl (by unfold vp_in; decide) rfl dX0_bitsOfTracks_14 ?_
        refine zw_getN (r := (8, i, 3)) (v := .int (σ (8, i, 3) 1)) (C := RX1) (T := TX1) (N := 3) (ci := 1) hx hb hts hwX1 hown hK hP ((hR.2 i hi).2.2 3 (by decide)).1 rfl rfl 2 (by decide) ((hN.1 ("FourTrackDeck$Reel", 20, "FourTrackDeck$Track", "isThere", "Z", "FourTrackDeck") (by decide +kernel)).use rfl) (fun _ h9 => h9) rfl dX0_bitsOfTracks_15 ?_
        refine lv_if_eq (tgt := 27) hx hb dX0_bitsOfTracks_18 (by decide) (fun c_22 => ?_) (fun c_22 => ?_)
        · refine lv_iinc (v := 4) (lv' := [(2, .int 4), (1, .int ((0 ||| ((1 : Int32) <<< ((1 : Int32) &&& 31))) ||| ((1 : Int32) <<< ((2 : Int32) &&& 31)))), (0, .ref (ad (6, i, 0)))]) hx hb dX0_bitsOfTracks_27 hl (k := 0) rfl rfl (by decide) rfl (fun ls hl => ?_)
          refine lv_goto (tgt := 4) hx hb dX0_bitsOfTracks_30 (by decide) ?_
          refine lv_iload_n hx hb dX0_bitsOfTracks_4 rfl (lv_at hl 0 rfl) ?_
          refine lv_iconst (v := 4) hx hb dX0_bitsOfTracks_5 (by decide) ?_
          refine lv_icmp_ge (tgt := 33) hx hb dX0_bitsOfTracks_6 (by decide) (fun c_23 => ?_) (fun c_23 => absurd (by decide) c_23)
          refine lv_iload_n hx hb dX0_bitsOfTracks_33 rfl (lv_at hl 1 rfl) ?_
          exact zw_iret hx hb hr hlk hK hP hD hS dX0_bitsOfTracks_34 (by simp only [sp_b, if_pos c_2, if_neg c_4, if_neg c_16, if_pos c_22] <;> rfl) rfl
        · refine lv_iload_n hx hb dX0_bitsOfTracks_21 rfl (lv_at hl 1 rfl) ?_
          refine lv_iconst (v := 1) hx hb dX0_bitsOfTracks_22 (by decide) ?_
          refine lv_iload_n hx hb dX0_bitsOfTracks_23 rfl (lv_at hl 0 rfl) ?_
          refine lv_ishl hx hb dX0_bitsOfTracks_24 ?_
          refine lv_ior hx hb dX0_bitsOfTracks_25 ?_
          refine lv_istore_n (lv' := [(1, .int (((0 ||| ((1 : Int32) <<< ((1 : Int32) &&& 31))) ||| ((1 : Int32) <<< ((2 : Int32) &&& 31))) ||| ((1 : Int32) <<< ((3 : Int32) &&& 31)))), (2, .int 3), (0, .ref (ad (6, i, 0)))]) hx hb dX0_bitsOfTracks_26 rfl hl (by decide) rfl (fun ls hl => ?_)
          refine lv_iinc (v := 4) (lv' := [(2, .int 4), (1, .int (((0 ||| ((1 : Int32) <<< ((1 : Int32) &&& 31))) ||| ((1 : Int32) <<< ((2 : Int32) &&& 31))) ||| ((1 : Int32) <<< ((3 : Int32) &&& 31)))), (0, .ref (ad (6, i, 0)))]) hx hb dX0_bitsOfTracks_27 hl (k := 1) rfl rfl (by decide) rfl (fun ls hl => ?_)
          refine lv_goto (tgt := 4) hx hb dX0_bitsOfTracks_30 (by decide) ?_
          refine lv_iload_n hx hb dX0_bitsOfTracks_4 rfl (lv_at hl 0 rfl) ?_
          refine lv_iconst (v := 4) hx hb dX0_bitsOfTracks_5 (by decide) ?_
          refine lv_icmp_ge (tgt := 33) hx hb dX0_bitsOfTracks_6 (by decide) (fun c_24 => ?_) (fun c_24 => absurd (by decide) c_24)
          refine lv_iload_n hx hb dX0_bitsOfTracks_33 rfl (lv_at hl 1 rfl) ?_
          exact zw_iret hx hb hr hlk hK hP hD hS dX0_bitsOfTracks_34 (by simp only [sp_b, if_pos c_2, if_neg c_4, if_neg c_16, if_neg c_22] <;> rfl) rfl
  · refine lv_iload_n hx hb dX0_bitsOfTracks_21 rfl (lv_at hl 1 rfl) ?_
    refine lv_iconst (v := 1) hx hb dX0_bitsOfTracks_22 (by decide) ?_
    refine lv_iload_n hx hb dX0_bitsOfTracks_23 rfl (lv_at hl 0 rfl) ?_
    refine lv_ishl hx hb dX0_bitsOfTracks_24 ?_
    refine lv_ior hx hb dX0_bitsOfTracks_25 ?_
    refine lv_istore_n (lv' := [(1, .int (0 ||| ((1 : Int32) <<< ((0 : Int32) &&& 31)))), (2, .int 0), (0, .ref (ad (6, i, 0)))]) hx hb dX0_bitsOfTracks_26 rfl hl (by decide) rfl (fun ls hl => ?_)
    refine lv_iinc (v := 1) (lv' := [(2, .int 1), (1, .int (0 ||| ((1 : Int32) <<< ((0 : Int32) &&& 31)))), (0, .ref (ad (6, i, 0)))]) hx hb dX0_bitsOfTracks_27 hl (k := 1) rfl rfl (by decide) rfl (fun ls hl => ?_)
    refine lv_goto (tgt := 4) hx hb dX0_bitsOfTracks_30 (by decide) ?_
    refine lv_iload_n hx hb dX0_bitsOfTracks_4 rfl (lv_at hl 0 rfl) ?_
    refine lv_iconst (v := 4) hx hb dX0_bitsOfTracks_5 (by decide) ?_
    refine lv_icmp_ge (tgt := 33) hx hb dX0_bitsOfTracks_6 (by decide) (fun c_25 => absurd c_25 (by decide)) (fun c_25 => ?_)
    refine lv_aload_n hx hb dX0_bitsOfTracks_9 rfl (lv_at hl 2 rfl) ?_
    refine zw_getf (r := (6, i, 0)) (v := .ref (ad (7, i, 0))) (C := RX0) (T := TX0) (N := 1) (ci := 0) hx hb hts hwX0 hown hK hP (hR.2 i hi).1 rfl rfl 0 (by decide) (hts (.fieldLink RX0 11 "FourTrackDeck$Reel" "tracks" "[LFourTrackDeck$Track;") (by decide +kernel)) (fun _ h9 => h9) rfl dX0_bitsOfTracks_10 ?_
    refine lv_iload_n hx hb dX0_bitsOfTracks_13 rfl (lv_at hl 0 rfl) ?_
    refine zw_aldq (r := (7, i, 0)) (v := .ref (ad (8, i, 1))) hx hb hK hP (hR.2 i hi).2.1 2 rfl rfl (by unfold vp_in; decide) rfl dX0_bitsOfTracks_14 ?_
    refine zw_getN (r := (8, i, 1)) (v := .int (σ (8, i, 1) 1)) (C := RX1) (T := TX1) (N := 3) (ci := 1) hx hb hts hwX1 hown hK hP ((hR.2 i hi).2.2 1 (by decide)).1 rfl rfl 2 (by decide) ((hN.1 ("FourTrackDeck$Reel", 20, "FourTrackDeck$Track", "isThere", "Z", "FourTrackDeck") (by decide +kernel)).use rfl) (fun _ h9 => h9) rfl dX0_bitsOfTracks_15 ?_
    refine lv_if_eq (tgt := 27) hx hb dX0_bitsOfTracks_18 (by decide) (fun c_26 => ?_) (fun c_26 => ?_)
    · refine lv_iinc (v := 2) (lv' := [(2, .int 2), (1, .int (0 ||| ((1 : Int32) <<< ((0 : Int32) &&& 31)))), (0, .ref (ad (6, i, 0)))]) hx hb dX0_bitsOfTracks_27 hl (k := 0) rfl rfl (by decide) rfl (fun ls hl => ?_)
      refine lv_goto (tgt := 4) hx hb dX0_bitsOfTracks_30 (by decide) ?_
      refine lv_iload_n hx hb dX0_bitsOfTracks_4 rfl (lv_at hl 0 rfl) ?_
      refine lv_iconst (v := 4) hx hb dX0_bitsOfTracks_5 (by decide) ?_
      refine lv_icmp_ge (tgt := 33) hx hb dX0_bitsOfTracks_6 (by decide) (fun c_27 => absurd c_27 (by decide)) (fun c_27 => ?_)
      refine lv_aload_n hx hb dX0_bitsOfTracks_9 rfl (lv_at hl 2 rfl) ?_
      refine zw_getf (r := (6, i, 0)) (v := .ref (ad (7, i, 0))) (C := RX0) (T := TX0) (N := 1) (ci := 0) hx hb hts hwX0 hown hK hP (hR.2 i hi).1 rfl rfl 0 (by decide) (hts (.fieldLink RX0 11 "FourTrackDeck$Reel" "tracks" "[LFourTrackDeck$Track;") (by decide +kernel)) (fun _ h9 => h9) rfl dX0_bitsOfTracks_10 ?_
      refine lv_iload_n hx hb dX0_bitsOfTracks_13 rfl (lv_at hl 0 rfl) ?_
      refine zw_aldq (r := (7, i, 0)) (v := .ref (ad (8, i, 2))) hx hb hK hP (hR.2 i hi).2.1 2 rfl rfl (by unfold vp_in; decide) rfl dX0_bitsOfTracks_14 ?_
      refine zw_getN (r := (8, i, 2)) (v := .int (σ (8, i, 2) 1)) (C := RX1) (T := TX1) (N := 3) (ci := 1) hx hb hts hwX1 hown hK hP ((hR.2 i hi).2.2 2 (by decide)).1 rfl rfl 2 (by decide) ((hN.1 ("FourTrackDeck$Reel", 20, "FourTrackDeck$Track", "isThere", "Z", "FourTrackDeck") (by decide +kernel)).use rfl) (fun _ h9 => h9) rfl dX0_bitsOfTracks_15 ?_
      refine lv_if_eq (tgt := 27) hx hb dX0_bitsOfTracks_18 (by decide) (fun c_28 => ?_) (fun c_28 => ?_)
      · refine lv_iinc (v := 3) (lv' := [(2, .int 3), (1, .int (0 ||| ((1 : Int32) <<< ((0 : Int32) &&& 31)))), (0, .ref (ad (6, i, 0)))]) hx hb dX0_bitsOfTracks_27 hl (k := 0) rfl rfl (by decide) rfl (fun ls hl => ?_)
        refine lv_goto (tgt := 4) hx hb dX0_bitsOfTracks_30 (by decide) ?_
        refine lv_iload_n hx hb dX0_bitsOfTracks_4 rfl (lv_at hl 0 rfl) ?_
        refine lv_iconst (v := 4) hx hb dX0_bitsOfTracks_5 (by decide) ?_
        refine lv_icmp_ge (tgt := 33) hx hb dX0_bitsOfTracks_6 (by decide) (fun c_29 => absurd c_29 (by decide)) (fun c_29 => ?_)
        refine lv_aload_n hx hb dX0_bitsOfTracks_9 rfl (lv_at hl 2 rfl) ?_
        refine zw_getf (r := (6, i, 0)) (v := .ref (ad (7, i, 0))) (C := RX0) (T := TX0) (N := 1) (ci := 0) hx hb hts hwX0 hown hK hP (hR.2 i hi).1 rfl rfl 0 (by decide) (hts (.fieldLink RX0 11 "FourTrackDeck$Reel" "tracks" "[LFourTrackDeck$Track;") (by decide +kernel)) (fun _ h9 => h9) rfl dX0_bitsOfTracks_10 ?_
        refine lv_iload_n hx hb dX0_bitsOfTracks_13 rfl (lv_at hl 0 rfl) ?_
        refine zw_aldq (r := (7, i, 0)) (v := .ref (ad (8, i, 3))) hx hb hK hP (hR.2 i hi).2.1 2 rfl rfl (by unfold vp_in; decide) rfl dX0_bitsOfTracks_14 ?_
        refine zw_getN (r := (8, i, 3)) (v := .int (σ (8, i, 3) 1)) (C := RX1) (T := TX1) (N := 3) (ci := 1) hx hb hts hwX1 hown hK hP ((hR.2 i hi).2.2 3 (by decide)).1 rfl rfl 2 (by decide) ((hN.1 ("FourTrackDeck$Reel", 20, "FourTrackDeck$Track", "isThere", "Z", "FourTrackDeck") (by decide +kernel)).use rfl) (fun _ h9 => h9) rfl dX0_bitsOfTracks_15 ?_
        refine lv_if_eq (tgt := 27) hx hb dX0_bitsOfTracks_18 (by decide) (fun c_30 => ?_) (fun c_30 => ?_)
        · refine lv_iinc (v := 4) (lv' := [(2, .int 4), (1, .int (0 ||| ((1 : Int32) <<< ((0 : Int32) &&& 31)))), (0, .ref (ad (6, i, 0)))]) hx hb dX0_bitsOfTracks_27 hl (k := 0) rfl rfl (by decide) rfl (fun ls hl => ?_)
          refine lv_goto (tgt := 4) hx hb dX0_bitsOfTracks_30 (by decide) ?_
          refine lv_iload_n hx hb dX0_bitsOfTracks_4 rfl (lv_at hl 0 rfl) ?_
          refine lv_iconst (v := 4) hx hb dX0_bitsOfTracks_5 (by decide) ?_
          refine lv_icmp_ge (tgt := 33) hx hb dX0_bitsOfTracks_6 (by decide) (fun c_31 => ?_) (fun c_31 => absurd (by decide) c_31)
          refine lv_iload_n hx hb dX0_bitsOfTracks_33 rfl (lv_at hl 1 rfl) ?_
          exact zw_iret hx hb hr hlk hK hP hD hS dX0_bitsOfTracks_34 (by simp only [sp_b, if_neg c_2, if_pos c_26, if_pos c_28, if_pos c_30] <;> rfl) rfl
        · refine lv_iload_n hx hb dX0_bitsOfTracks_21 rfl (lv_at hl 1 rfl) ?_
          refine lv_iconst (v := 1) hx hb dX0_bitsOfTracks_22 (by decide) ?_
          refine lv_iload_n hx hb dX0_bitsOfTracks_23 rfl (lv_at hl 0 rfl) ?_
          refine lv_ishl hx hb dX0_bitsOfTracks_24 ?_
          refine lv_ior hx hb dX0_bitsOfTracks_25 ?_
          refine lv_istore_n (lv' := [(1, .int ((0 ||| ((1 : Int32) <<< ((0 : Int32) &&& 31))) ||| ((1 : Int32) <<< ((3 : Int32) &&& 31)))), (2, .int 3), (0, .ref (ad (6, i, 0)))]) hx hb dX0_bitsOfTracks_26 rfl hl (by decide) rfl (fun ls hl => ?_)
          refine lv_iinc (v := 4) (lv' := [(2, .int 4), (1, .int ((0 ||| ((1 : Int32) <<< ((0 : Int32) &&& 31))) ||| ((1 : Int32) <<< ((3 : Int32) &&& 31)))), (0, .ref (ad (6, i, 0)))]) hx hb dX0_bitsOfTracks_27 hl (k := 1) rfl rfl (by decide) rfl (fun ls hl => ?_)
          refine lv_goto (tgt := 4) hx hb dX0_bitsOfTracks_30 (by decide) ?_
          refine lv_iload_n hx hb dX0_bitsOfTracks_4 rfl (lv_at hl 0 rfl) ?_
          refine lv_iconst (v := 4) hx hb dX0_bitsOfTracks_5 (by decide) ?_
          refine lv_icmp_ge (tgt := 33) hx hb dX0_bitsOfTracks_6 (by decide) (fun c_32 => ?_) (fun c_32 => absurd (by decide) c_32)
          refine lv_iload_n hx hb dX0_bitsOfTracks_33 rfl (lv_at hl 1 rfl) ?_
          exact zw_iret hx hb hr hlk hK hP hD hS dX0_bitsOfTracks_34 (by simp only [sp_b, if_neg c_2, if_pos c_26, if_pos c_28, if_neg c_30] <;> rfl) rfl
      · refine lv_iload_n hx hb dX0_bitsOfTracks_21 rfl (lv_at hl 1 rfl) ?_
        refine lv_iconst (v := 1) hx hb dX0_bitsOfTracks_22 (by decide) ?_
        refine lv_iload_n hx hb dX0_bitsOfTracks_23 rfl (lv_at hl 0 rfl) ?_
        refine lv_ishl hx hb dX0_bitsOfTracks_24 ?_
        refine lv_ior hx hb dX0_bitsOfTracks_25 ?_
        refine lv_istore_n (lv' := [(1, .int ((0 ||| ((1 : Int32) <<< ((0 : Int32) &&& 31))) ||| ((1 : Int32) <<< ((2 : Int32) &&& 31)))), (2, .int 2), (0, .ref (ad (6, i, 0)))]) hx hb dX0_bitsOfTracks_26 rfl hl (by decide) rfl (fun ls hl => ?_)
        refine lv_iinc (v := 3) (lv' := [(2, .int 3), (1, .int ((0 ||| ((1 : Int32) <<< ((0 : Int32) &&& 31))) ||| ((1 : Int32) <<< ((2 : Int32) &&& 31)))), (0, .ref (ad (6, i, 0)))]) hx hb dX0_bitsOfTracks_27 hl (k := 1) rfl rfl (by decide) rfl (fun ls hl => ?_)
        refine lv_goto (tgt := 4) hx hb dX0_bitsOfTracks_30 (by decide) ?_
        refine lv_iload_n hx hb dX0_bitsOfTracks_4 rfl (lv_at hl 0 rfl) ?_
        refine lv_iconst (v := 4) hx hb dX0_bitsOfTracks_5 (by decide) ?_
        refine lv_icmp_ge (tgt := 33) hx hb dX0_bitsOfTracks_6 (by decide) (fun c_33 => absurd c_33 (by decide)) (fun c_33 => ?_)
        refine lv_aload_n hx hb dX0_bitsOfTracks_9 rfl (lv_at hl 2 rfl) ?_
        refine zw_getf (r := (6, i, 0)) (v := .ref (ad (7, i, 0))) (C := RX0) (T := TX0) (N := 1) (ci := 0) hx hb hts hwX0 hown hK hP (hR.2 i hi).1 rfl rfl 0 (by decide) (hts (.fieldLink RX0 11 "FourTrackDeck$Reel" "tracks" "[LFourTrackDeck$Track;") (by decide +kernel)) (fun _ h9 => h9) rfl dX0_bitsOfTracks_10 ?_
        refine lv_iload_n hx hb dX0_bitsOfTracks_13 rfl (lv_at hl 0 rfl) ?_
        refine zw_aldq (r := (7, i, 0)) (v := .ref (ad (8, i, 3))) hx hb hK hP (hR.2 i hi).2.1 2 rfl rfl (by unfold vp_in; decide) rfl dX0_bitsOfTracks_14 ?_
        refine zw_getN (r := (8, i, 3)) (v := .int (σ (8, i, 3) 1)) (C := RX1) (T := TX1) (N := 3) (ci := 1) hx hb hts hwX1 hown hK hP ((hR.2 i hi).2.2 3 (by decide)).1 rfl rfl 2 (by decide) ((hN.1 ("FourTrackDeck$Reel", 20, "FourTrackDeck$Track", "isThere", "Z", "FourTrackDeck") (by decide +kernel)).use rfl) (fun _ h9 => h9) rfl dX0_bitsOfTracks_15 ?_
        refine lv_if_eq (tgt := 27) hx hb dX0_bitsOfTracks_18 (by decide) (fun c_34 => ?_) (fun c_34 => ?_)
        · refine lv_iinc (v := 4) (lv' := [(2, .int 4), (1, .int ((0 ||| ((1 : Int32) <<< ((0 : Int32) &&& 31))) ||| ((1 : Int32) <<< ((2 : Int32) &&& 31)))), (0, .ref (ad (6, i, 0)))]) hx hb dX0_bitsOfTracks_27 hl (k := 0) rfl rfl (by decide) rfl (fun ls hl => ?_)
          refine lv_goto (tgt := 4) hx hb dX0_bitsOfTracks_30 (by decide) ?_
          refine lv_iload_n hx hb dX0_bitsOfTracks_4 rfl (lv_at hl 0 rfl) ?_
          refine lv_iconst (v := 4) hx hb dX0_bitsOfTracks_5 (by decide) ?_
          refine lv_icmp_ge (tgt := 33) hx hb dX0_bitsOfTracks_6 (by decide) (fun c_35 => ?_) (fun c_35 => absurd (by decide) c_35)
          refine lv_iload_n hx hb dX0_bitsOfTracks_33 rfl (lv_at hl 1 rfl) ?_
          exact zw_iret hx hb hr hlk hK hP hD hS dX0_bitsOfTracks_34 (by simp only [sp_b, if_neg c_2, if_pos c_26, if_neg c_28, if_pos c_34] <;> rfl) rfl
        · refine lv_iload_n hx hb dX0_bitsOfTracks_21 rfl (lv_at hl 1 rfl) ?_
          refine lv_iconst (v := 1) hx hb dX0_bitsOfTracks_22 (by decide) ?_
          refine lv_iload_n hx hb dX0_bitsOfTracks_23 rfl (lv_at hl 0 rfl) ?_
          refine lv_ishl hx hb dX0_bitsOfTracks_24 ?_
          refine lv_ior hx hb dX0_bitsOfTracks_25 ?_
          refine lv_istore_n (lv' := [(1, .int (((0 ||| ((1 : Int32) <<< ((0 : Int32) &&& 31))) ||| ((1 : Int32) <<< ((2 : Int32) &&& 31))) ||| ((1 : Int32) <<< ((3 : Int32) &&& 31)))), (2, .int 3), (0, .ref (ad (6, i, 0)))]) hx hb dX0_bitsOfTracks_26 rfl hl (by decide) rfl (fun ls hl => ?_)
          refine lv_iinc (v := 4) (lv' := [(2, .int 4), (1, .int (((0 ||| ((1 : Int32) <<< ((0 : Int32) &&& 31))) ||| ((1 : Int32) <<< ((2 : Int32) &&& 31))) ||| ((1 : Int32) <<< ((3 : Int32) &&& 31)))), (0, .ref (ad (6, i, 0)))]) hx hb dX0_bitsOfTracks_27 hl (k := 1) rfl rfl (by decide) rfl (fun ls hl => ?_)
          refine lv_goto (tgt := 4) hx hb dX0_bitsOfTracks_30 (by decide) ?_
          refine lv_iload_n hx hb dX0_bitsOfTracks_4 rfl (lv_at hl 0 rfl) ?_
          refine lv_iconst (v := 4) hx hb dX0_bitsOfTracks_5 (by decide) ?_
          refine lv_icmp_ge (tgt := 33) hx hb dX0_bitsOfTracks_6 (by decide) (fun c_36 => ?_) (fun c_36 => absurd (by decide) c_36)
          refine lv_iload_n hx hb dX0_bitsOfTracks_33 rfl (lv_at hl 1 rfl) ?_
          exact zw_iret hx hb hr hlk hK hP hD hS dX0_bitsOfTracks_34 (by simp only [sp_b, if_neg c_2, if_pos c_26, if_neg c_28, if_neg c_34] <;> rfl) rfl
    · refine lv_iload_n hx hb dX0_bitsOfTracks_21 rfl (lv_at hl 1 rfl) ?_
      refine lv_iconst (v := 1) hx hb dX0_bitsOfTracks_22 (by decide) ?_
      refine lv_iload_n hx hb dX0_bitsOfTracks_23 rfl (lv_at hl 0 rfl) ?_
      refine lv_ishl hx hb dX0_bitsOfTracks_24 ?_
      refine lv_ior hx hb dX0_bitsOfTracks_25 ?_
      refine lv_istore_n (lv' := [(1, .int ((0 ||| ((1 : Int32) <<< ((0 : Int32) &&& 31))) ||| ((1 : Int32) <<< ((1 : Int32) &&& 31)))), (2, .int 1), (0, .ref (ad (6, i, 0)))]) hx hb dX0_bitsOfTracks_26 rfl hl (by decide) rfl (fun ls hl => ?_)
      refine lv_iinc (v := 2) (lv' := [(2, .int 2), (1, .int ((0 ||| ((1 : Int32) <<< ((0 : Int32) &&& 31))) ||| ((1 : Int32) <<< ((1 : Int32) &&& 31)))), (0, .ref (ad (6, i, 0)))]) hx hb dX0_bitsOfTracks_27 hl (k := 1) rfl rfl (by decide) rfl (fun ls hl => ?_)
      refine lv_goto (tgt := 4) hx hb dX0_bitsOfTracks_30 (by decide) ?_
      refine lv_iload_n hx hb dX0_bitsOfTracks_4 rfl (lv_at hl 0 rfl) ?_
      refine lv_iconst (v := 4) hx hb dX0_bitsOfTracks_5 (by decide) ?_
      refine lv_icmp_ge (tgt := 33) hx hb dX0_bitsOfTracks_6 (by decide) (fun c_37 => absurd c_37 (by decide)) (fun c_37 => ?_)
      refine lv_aload_n hx hb dX0_bitsOfTracks_9 rfl (lv_at hl 2 rfl) ?_
      refine zw_getf (r := (6, i, 0)) (v := .ref (ad (7, i, 0))) (C := RX0) (T := TX0) (N := 1) (ci := 0) hx hb hts hwX0 hown hK hP (hR.2 i hi).1 rfl rfl 0 (by decide) (hts (.fieldLink RX0 11 "FourTrackDeck$Reel" "tracks" "[LFourTrackDeck$Track;") (by decide +kernel)) (fun _ h9 => h9) rfl dX0_bitsOfTracks_10 ?_
      refine lv_iload_n hx hb dX0_bitsOfTracks_13 rfl (lv_at hl 0 rfl) ?_
      refine zw_aldq (r := (7, i, 0)) (v := .ref (ad (8, i, 2))) hx hb hK hP (hR.2 i hi).2.1 2 rfl rfl (by unfold vp_in; decide) rfl dX0_bitsOfTracks_14 ?_
      refine zw_getN (r := (8, i, 2)) (v := .int (σ (8, i, 2) 1)) (C := RX1) (T := TX1) (N := 3) (ci := 1) hx hb hts hwX1 hown hK hP ((hR.2 i hi).2.2 2 (by decide)).1 rfl rfl 2 (by decide) ((hN.1 ("FourTrackDeck$Reel", 20, "FourTrackDeck$Track", "isThere", "Z", "FourTrackDeck") (by decide +kernel)).use rfl) (fun _ h9 => h9) rfl dX0_bitsOfTracks_15 ?_
      refine lv_if_eq (tgt := 27) hx hb dX0_bitsOfTracks_18 (by decide) (fun c_38 => ?_) (fun c_38 => ?_)
      · refine lv_iinc (v := 3) (lv' := [(2, .int 3), (1, .int ((0 ||| ((1 : Int32) <<< ((0 : Int32) &&& 31))) ||| ((1 : Int32) <<< ((1 : Int32) &&& 31)))), (0, .ref (ad (6, i, 0)))]) hx hb dX0_bitsOfTracks_27 hl (k := 0) rfl rfl (by decide) rfl (fun ls hl => ?_)
        refine lv_goto (tgt := 4) hx hb dX0_bitsOfTracks_30 (by decide) ?_
        refine lv_iload_n hx hb dX0_bitsOfTracks_4 rfl (lv_at hl 0 rfl) ?_
        refine lv_iconst (v := 4) hx hb dX0_bitsOfTracks_5 (by decide) ?_
        refine lv_icmp_ge (tgt := 33) hx hb dX0_bitsOfTracks_6 (by decide) (fun c_39 => absurd c_39 (by decide)) (fun c_39 => ?_)
        refine lv_aload_n hx hb dX0_bitsOfTracks_9 rfl (lv_at hl 2 rfl) ?_
        refine zw_getf (r := (6, i, 0)) (v := .ref (ad (7, i, 0))) (C := RX0) (T := TX0) (N := 1) (ci := 0) hx hb hts hwX0 hown hK hP (hR.2 i hi).1 rfl rfl 0 (by decide) (hts (.fieldLink RX0 11 "FourTrackDeck$Reel" "tracks" "[LFourTrackDeck$Track;") (by decide +kernel)) (fun _ h9 => h9) rfl dX0_bitsOfTracks_10 ?_
        refine lv_iload_n hx hb dX0_bitsOfTracks_13 rfl (lv_at hl 0 rfl) ?_
        refine zw_aldq (r := (7, i, 0)) (v := .ref (ad (8, i, 3))) hx hb hK hP (hR.2 i hi).2.1 2 rfl rfl (by unfold vp_in; decide) rfl dX0_bitsOfTracks_14 ?_
        refine zw_getN (r := (8, i, 3)) (v := .int (σ (8, i, 3) 1)) (C := RX1) (T := TX1) (N := 3) (ci := 1) hx hb hts hwX1 hown hK hP ((hR.2 i hi).2.2 3 (by decide)).1 rfl rfl 2 (by decide) ((hN.1 ("FourTrackDeck$Reel", 20, "FourTrackDeck$Track", "isThere", "Z", "FourTrackDeck") (by decide +kernel)).use rfl) (fun _ h9 => h9) rfl dX0_bitsOfTracks_15 ?_
        refine lv_if_eq (tgt := 27) hx hb dX0_bitsOfTracks_18 (by decide) (fun c_40 => ?_) (fun c_40 => ?_)
        · refine lv_iinc (v := 4) (lv' := [(2, .int 4), (1, .int ((0 ||| ((1 : Int32) <<< ((0 : Int32) &&& 31))) ||| ((1 : Int32) <<< ((1 : Int32) &&& 31)))), (0, .ref (ad (6, i, 0)))]) hx hb dX0_bitsOfTracks_27 hl (k := 0) rfl rfl (by decide) rfl (fun ls hl => ?_)
          refine lv_goto (tgt := 4) hx hb dX0_bitsOfTracks_30 (by decide) ?_
          refine lv_iload_n hx hb dX0_bitsOfTracks_4 rfl (lv_at hl 0 rfl) ?_
          refine lv_iconst (v := 4) hx hb dX0_bitsOfTracks_5 (by decide) ?_
          refine lv_icmp_ge (tgt := 33) hx hb dX0_bitsOfTracks_6 (by decide) (fun c_41 => ?_) (fun c_41 => absurd (by decide) c_41)
          refine lv_iload_n hx hb dX0_bitsOfTracks_33 rfl (lv_at hl 1 rfl) ?_
          exact zw_iret hx hb hr hlk hK hP hD hS dX0_bitsOfTracks_34 (by simp only [sp_b, if_neg c_2, if_neg c_26, if_pos c_38, if_pos c_40] <;> rfl) rfl
        · refine lv_iload_n hx hb dX0_bitsOfTracks_21 rfl (lv_at hl 1 rfl) ?_
          refine lv_iconst (v := 1) hx hb dX0_bitsOfTracks_22 (by decide) ?_
          refine lv_iload_n hx hb dX0_bitsOfTracks_23 rfl (lv_at hl 0 rfl) ?_
          refine lv_ishl hx hb dX0_bitsOfTracks_24 ?_
          refine lv_ior hx hb dX0_bitsOfTracks_25 ?_
          refine lv_istore_n (lv' := [(1, .int (((0 ||| ((1 : Int32) <<< ((0 : Int32) &&& 31))) ||| ((1 : Int32) <<< ((1 : Int32) &&& 31))) ||| ((1 : Int32) <<< ((3 : Int32) &&& 31)))), (2, .int 3), (0, .ref (ad (6, i, 0)))]) hx hb dX0_bitsOfTracks_26 rfl hl (by decide) rfl (fun ls hl => ?_)
          refine lv_iinc (v := 4) (lv' := [(2, .int 4), (1, .int (((0 ||| ((1 : Int32) <<< ((0 : Int32) &&& 31))) ||| ((1 : Int32) <<< ((1 : Int32) &&& 31))) ||| ((1 : Int32) <<< ((3 : Int32) &&& 31)))), (0, .ref (ad (6, i, 0)))]) hx hb dX0_bitsOfTracks_27 hl (k := 1) rfl rfl (by decide) rfl (fun ls hl => ?_)
          refine lv_goto (tgt := 4) hx hb dX0_bitsOfTracks_30 (by decide) ?_
          refine lv_iload_n hx hb dX0_bitsOfTracks_4 rfl (lv_at hl 0 rfl) ?_
          refine lv_iconst (v := 4) hx hb dX0_bitsOfTracks_5 (by decide) ?_
          refine lv_icmp_ge (tgt := 33) hx hb dX0_bitsOfTracks_6 (by decide) (fun c_42 => ?_) (fun c_42 => absurd (by decide) c_42)
          refine lv_iload_n hx hb dX0_bitsOfTracks_33 rfl (lv_at hl 1 rfl) ?_
          exact zw_iret hx hb hr hlk hK hP hD hS dX0_bitsOfTracks_34 (by simp only [sp_b, if_neg c_2, if_neg c_26, if_pos c_38, if_neg c_40] <;> rfl) rfl
      · refine lv_iload_n hx hb dX0_bitsOfTracks_21 rfl (lv_at hl 1 rfl) ?_
        refine lv_iconst (v := 1) hx hb dX0_bitsOfTracks_22 (by decide) ?_
        refine lv_iload_n hx hb dX0_bitsOfTracks_23 rfl (lv_at hl 0 rfl) ?_
        refine lv_ishl hx hb dX0_bitsOfTracks_24 ?_
        refine lv_ior hx hb dX0_bitsOfTracks_25 ?_
        refine lv_istore_n (lv' := [(1, .int (((0 ||| ((1 : Int32) <<< ((0 : Int32) &&& 31))) ||| ((1 : Int32) <<< ((1 : Int32) &&& 31))) ||| ((1 : Int32) <<< ((2 : Int32) &&& 31)))), (2, .int 2), (0, .ref (ad (6, i, 0)))]) hx hb dX0_bitsOfTracks_26 rfl hl (by decide) rfl (fun ls hl => ?_)
        refine lv_iinc (v := 3) (lv' := [(2, .int 3), (1, .int (((0 ||| ((1 : Int32) <<< ((0 : Int32) &&& 31))) ||| ((1 : Int32) <<< ((1 : Int32) &&& 31))) ||| ((1 : Int32) <<< ((2 : Int32) &&& 31)))), (0, .ref (ad (6, i, 0)))]) hx hb dX0_bitsOfTracks_27 hl (k := 1) rfl rfl (by decide) rfl (fun ls hl => ?_)
        refine lv_goto (tgt := 4) hx hb dX0_bitsOfTracks_30 (by decide) ?_
        refine lv_iload_n hx hb dX0_bitsOfTracks_4 rfl (lv_at hl 0 rfl) ?_
        refine lv_iconst (v := 4) hx hb dX0_bitsOfTracks_5 (by decide) ?_
        refine lv_icmp_ge (tgt := 33) hx hb dX0_bitsOfTracks_6 (by decide) (fun c_43 => absurd c_43 (by decide)) (fun c_43 => ?_)
        refine lv_aload_n hx hb dX0_bitsOfTracks_9 rfl (lv_at hl 2 rfl) ?_
        refine zw_getf (r := (6, i, 0)) (v := .ref (ad (7, i, 0))) (C := RX0) (T := TX0) (N := 1) (ci := 0) hx hb hts hwX0 hown hK hP (hR.2 i hi).1 rfl rfl 0 (by decide) (hts (.fieldLink RX0 11 "FourTrackDeck$Reel" "tracks" "[LFourTrackDeck$Track;") (by decide +kernel)) (fun _ h9 => h9) rfl dX0_bitsOfTracks_10 ?_
        refine lv_iload_n hx hb dX0_bitsOfTracks_13 rfl (lv_at hl 0 rfl) ?_
        refine zw_aldq (r := (7, i, 0)) (v := .ref (ad (8, i, 3))) hx hb hK hP (hR.2 i hi).2.1 2 rfl rfl (by unfold vp_in; decide) rfl dX0_bitsOfTracks_14 ?_
        refine zw_getN (r := (8, i, 3)) (v := .int (σ (8, i, 3) 1)) (C := RX1) (T := TX1) (N := 3) (ci := 1) hx hb hts hwX1 hown hK hP ((hR.2 i hi).2.2 3 (by decide)).1 rfl rfl 2 (by decide) ((hN.1 ("FourTrackDeck$Reel", 20, "FourTrackDeck$Track", "isThere", "Z", "FourTrackDeck") (by decide +kernel)).use rfl) (fun _ h9 => h9) rfl dX0_bitsOfTracks_15 ?_
        refine lv_if_eq (tgt := 27) hx hb dX0_bitsOfTracks_18 (by decide) (fun c_44 => ?_) (fun c_44 => ?_)
        · refine lv_iinc (v := 4) (lv' := [(2, .int 4), (1, .int (((0 ||| ((1 : Int32) <<< ((0 : Int32) &&& 31))) ||| ((1 : Int32) <<< ((1 : Int32) &&& 31))) ||| ((1 : Int32) <<< ((2 : Int32) &&& 31)))), (0, .ref (ad (6, i, 0)))]) hx hb dX0_bitsOfTracks_27 hl (k := 0) rfl rfl (by decide) rfl (fun ls hl => ?_)
          refine lv_goto (tgt := 4) hx hb dX0_bitsOfTracks_30 (by decide) ?_
          refine lv_iload_n hx hb dX0_bitsOfTracks_4 rfl (lv_at hl 0 rfl) ?_
          refine lv_iconst (v := 4) hx hb dX0_bitsOfTracks_5 (by decide) ?_
          refine lv_icmp_ge (tgt := 33) hx hb dX0_bitsOfTracks_6 (by decide) (fun c_45 => ?_) (fun c_45 => absurd (by decide) c_45)
          refine lv_iload_n hx hb dX0_bitsOfTracks_33 rfl (lv_at hl 1 rfl) ?_
          exact zw_iret hx hb hr hlk hK hP hD hS dX0_bitsOfTracks_34 (by simp only [sp_b, if_neg c_2, if_neg c_26, if_neg c_38, if_pos c_44] <;> rfl) rfl
        · refine lv_iload_n hx hb dX0_bitsOfTracks_21 rfl (lv_at hl 1 rfl) ?_
          refine lv_iconst (v := 1) hx hb dX0_bitsOfTracks_22 (by decide) ?_
          refine lv_iload_n hx hb dX0_bitsOfTracks_23 rfl (lv_at hl 0 rfl) ?_
          refine lv_ishl hx hb dX0_bitsOfTracks_24 ?_
          refine lv_ior hx hb dX0_bitsOfTracks_25 ?_
          refine lv_istore_n (lv' := [(1, .int ((((0 ||| ((1 : Int32) <<< ((0 : Int32) &&& 31))) ||| ((1 : Int32) <<< ((1 : Int32) &&& 31))) ||| ((1 : Int32) <<< ((2 : Int32) &&& 31))) ||| ((1 : Int32) <<< ((3 : Int32) &&& 31)))), (2, .int 3), (0, .ref (ad (6, i, 0)))]) hx hb dX0_bitsOfTracks_26 rfl hl (by decide) rfl (fun ls hl => ?_)
          refine lv_iinc (v := 4) (lv' := [(2, .int 4), (1, .int ((((0 ||| ((1 : Int32) <<< ((0 : Int32) &&& 31))) ||| ((1 : Int32) <<< ((1 : Int32) &&& 31))) ||| ((1 : Int32) <<< ((2 : Int32) &&& 31))) ||| ((1 : Int32) <<< ((3 : Int32) &&& 31)))), (0, .ref (ad (6, i, 0)))]) hx hb dX0_bitsOfTracks_27 hl (k := 1) rfl rfl (by decide) rfl (fun ls hl => ?_)
          refine lv_goto (tgt := 4) hx hb dX0_bitsOfTracks_30 (by decide) ?_
          refine lv_iload_n hx hb dX0_bitsOfTracks_4 rfl (lv_at hl 0 rfl) ?_
          refine lv_iconst (v := 4) hx hb dX0_bitsOfTracks_5 (by decide) ?_
          refine lv_icmp_ge (tgt := 33) hx hb dX0_bitsOfTracks_6 (by decide) (fun c_46 => ?_) (fun c_46 => absurd (by decide) c_46)
          refine lv_iload_n hx hb dX0_bitsOfTracks_33 rfl (lv_at hl 1 rfl) ?_
          exact zw_iret hx hb hr hlk hK hP hD hS dX0_bitsOfTracks_34 (by simp only [sp_b, if_neg c_2, if_neg c_26, if_neg c_38, if_neg c_44] <;> rfl) rfl
set_option maxHeartbeats 4000000 in
set_option maxRecDepth 100000 in
theorem cd_tracksThere_1 {l : Launch} {dC : Nat → ClassId} {dI : Nat → Nat → Nat} {cA : Nat → ClassId} {ad : zw_R → Nat} {R : List zw_R} {nr : Nat} {len : Nat → Nat} {σ : sp_S} {cM : zw_R → va_E} (hR : ze_R nr R) (hnr : nr ≤ 8) (p0 : Int32) (h : sp_r nr p0) : zw_M l yX2_tracksThere wsX2_tracksThere { frames := 1, cells := 0, slots := 0, locals := 22 } (ze_E dC dI cA) [.ref (ad (0, 0, 0)), .int p0] ad R (ze_X (ze_D cA ad nr len σ) cM) (some (.int (sp_b σ p0.toNatClampNeg))) (ze_X (ze_D cA ad nr len σ) cM) := by
  refine zw_body (cc := cX2_tracksThere) (maxL := 3) (ret := (some .int)) (by decide) rfl (Nat.le_of_ble_eq_true rfl) ?_
  intro p e s m below meth c A ls hx hb hr hlk hml hts hown hnm hA hK hP hD hS hN hl
  have hl : lv_has ls 3 [(0, .ref (ad (0, 0, 0))), (1, .int p0)] := hl
  refine lv_aload_n hx hb dX2_tracksThere_0 rfl (lv_at hl 0 rfl) ?_
  refine lv_iload_n hx hb dX2_tracksThere_1 rfl (lv_at hl 1 rfl) ?_
  refine zw_cV (r := (0, 0, 0)) (As := [.int p0]) (rest := []) (st1 := [.ref (ad (6, p0.toNatClampNeg, 0))]) ⟨hx, hb, hml, hown, hts⟩ (cd_reelOf_1 hR hnr p0 h) (cwV 1 hts gX2_tracksThere_X2_reelOf rfl rfl rfl (by decide +kernel) ⟨Nat.le_of_ble_eq_true rfl, Nat.le_of_ble_eq_true rfl⟩) (hR.1 0 (by decide)) rfl rfl rfl hK hP hD hS hA hN rfl hl.1 rfl (Nat.le_of_ble_eq_true rfl) rfl dX2_tracksThere_2 ⟨Nat.zero_le _, Nat.zero_le _⟩ (fun H locs hP hD hS => ?_)
  refine lv_astore_n (lv' := [(2, .ref (ad (6, p0.toNatClampNeg, 0))), (0, .ref (ad (0, 0, 0))), (1, .int p0)]) hx hb dX2_tracksThere_5 rfl hl (by decide) rfl (fun ls hl => ?_)
  refine lv_aload_n hx hb dX2_tracksThere_6 rfl (lv_at hl 0 rfl) ?_
  refine lv_ifnonnull (tgt := 14) hx hb dX2_tracksThere_7 (by decide) ?_
  refine lv_aload_n hx hb dX2_tracksThere_14 rfl (lv_at hl 0 rfl) ?_
  refine zw_cVN (r := (6, p0.toNatClampNeg, 0)) (As := []) (rest := []) (st1 := [.int (sp_b σ p0.toNatClampNeg)]) ⟨hx, hb, hml, hown, hts⟩ (cd_bits (σ := σ) hR p0.toNatClampNeg (ze_vr h hnr)) ⟨va_cnB (host := "FourTrackDeck") 0 hts gX2_tracksThere_X0_bitsOfTracks_n138 rfl rfl rfl (hN.2.1 ("FourTrackDeck", 138, yX0_bitsOfTracks, "FourTrackDeck") (by decide +kernel)) (hts (.initialized RX0) (by decide +kernel)) (by decide +kernel) ⟨Nat.le_of_ble_eq_true rfl, Nat.le_of_ble_eq_true rfl⟩, hts (.instanceMethod yX0_bitsOfTracks) (by decide +kernel), hts (.selects RX0 yX0_bitsOfTracks yX0_bitsOfTracks) (by decide +kernel)⟩ (hR.2 p0.toNatClampNeg (ze_vr h hnr)).1 rfl rfl rfl hK hP hD hS hA hN rfl hl.1 rfl (Nat.le_of_ble_eq_true rfl) rfl dX2_tracksThere_15 ⟨Nat.zero_le _, Nat.zero_le _⟩ (fun H locs hP hD hS => ?_)
  exact zw_iret hx hb hr hlk hK hP hD hS dX2_tracksThere_18 rfl rfl
set_option maxHeartbeats 4000000 in
set_option maxRecDepth 100000 in
theorem cd_tracksThere_0 {l : Launch} {dC : Nat → ClassId} {dI : Nat → Nat → Nat} {cA : Nat → ClassId} {ad : zw_R → Nat} {R : List zw_R} {nr : Nat} {len : Nat → Nat} {σ : sp_S} {cM : zw_R → va_E} (hR : ze_R nr R) (hnr : nr ≤ 8) (p0 : Int32) (h : ¬ sp_r nr p0) : zw_M l yX2_tracksThere wsX2_tracksThere { frames := 1, cells := 0, slots := 0, locals := 21 } (ze_E dC dI cA) [.ref (ad (0, 0, 0)), .int p0] ad R (ze_X (ze_D cA ad nr len σ) cM) (some (.int (-1))) (ze_X (ze_D cA ad nr len σ) cM) := by
  refine zw_body (cc := cX2_tracksThere) (maxL := 3) (ret := (some .int)) (by decide) rfl (Nat.le_of_ble_eq_true rfl) ?_
  intro p e s m below meth c A ls hx hb hr hlk hml hts hown hnm hA hK hP hD hS hN hl
  have hl : lv_has ls 3 [(0, .ref (ad (0, 0, 0))), (1, .int p0)] := hl
  refine lv_aload_n hx hb dX2_tracksThere_0 rfl (lv_at hl 0 rfl) ?_
  refine lv_iload_n hx hb dX2_tracksThere_1 rfl (lv_at hl 1 rfl) ?_
  refine zw_cV (r := (0, 0, 0)) (As := [.int p0]) (rest := []) (st1 := [.null]) ⟨hx, hb, hml, hown, hts⟩ (cd_reelOf_0 hR hnr p0 h) (cwV 1 hts gX2_tracksThere_X2_reelOf rfl rfl rfl (by decide +kernel) ⟨Nat.le_of_ble_eq_true rfl, Nat.le_of_ble_eq_true rfl⟩) (hR.1 0 (by decide)) rfl rfl rfl hK hP hD hS hA hN rfl hl.1 rfl (Nat.le_of_ble_eq_true rfl) rfl dX2_tracksThere_2 ⟨Nat.zero_le _, Nat.zero_le _⟩ (fun H locs hP hD hS => ?_)
  refine lv_astore_nN (lv' := [(2, .null), (0, .ref (ad (0, 0, 0))), (1, .int p0)]) hx hb dX2_tracksThere_5 rfl hl (by decide) rfl (fun ls hl => ?_)
  refine lv_aload_nN hx hb dX2_tracksThere_6 rfl (lv_at hl 0 rfl) ?_
  refine lv_ifnonnullN hx hb dX2_tracksThere_7 ?_
  refine lv_iconst (v := (-1)) hx hb dX2_tracksThere_10 (by decide) ?_
  refine lv_goto (tgt := 18) hx hb dX2_tracksThere_11 (by decide) ?_
  exact zw_iret hx hb hr hlk hK hP hD hS dX2_tracksThere_18 rfl rfl
set_option maxHeartbeats 4000000 in
set_option maxRecDepth 100000 in
theorem cd_strip {l : Launch} {dC : Nat → ClassId} {dI : Nat → Nat → Nat} {cA : Nat → ClassId} {ad : zw_R → Nat} {R : List zw_R} {nr : Nat} {len : Nat → Nat} {σ : sp_S} {cM : zw_R → va_E} (hR : ze_R nr R) (hnr : nr ≤ 8) (p0 p1 : Int32) : zw_M l yX2_strip wsX2_strip { frames := 3, cells := 0, slots := 0, locals := 65 } (ze_E dC dI cA) [.ref (ad (0, 0, 0)), .int p0, .int p1] ad R (ze_X (ze_D cA ad nr len σ) cM) (some (.int ((sp_strip nr len σ p0 p1).1))) (ze_X (ze_D cA ad nr len (sp_strip nr len σ p0 p1).2) cM) := by
  refine zw_body (cc := cX2_strip) (maxL := 5) (ret := (some .int)) (by decide) rfl (Nat.le_of_ble_eq_true rfl) ?_
  intro p e s m below meth c A ls hx hb hr hlk hml hts hown hnm hA hK hP hD hS hN hl
  have hl : lv_has ls 5 [(0, .ref (ad (0, 0, 0))), (1, .int p0), (2, .int p1)] := hl
  have hwX1 : ∀ w ∈ u_ws RX1 TX1 3, w ∈ wsX2_strip := by decide +kernel
  refine lv_aload_n hx hb dX2_strip_0 rfl (lv_at hl 0 rfl) ?_
  refine lv_iload_n hx hb dX2_strip_1 rfl (lv_at hl 1 rfl) ?_
  refine lv_iload_n hx hb dX2_strip_2 rfl (lv_at hl 2 rfl) ?_
  rcases Decidable.em (sp_v nr p0 p1) with h_1 | h_1
  · refine zw_cV (r := (0, 0, 0)) (As := [.int p0, .int p1]) (rest := []) (st1 := [.ref (ad (8, p0.toNatClampNeg, p1.toNatClampNeg))]) ⟨hx, hb, hml, hown, hts⟩ (cd_trackOf_1 (σ := σ) hR hnr p0 p1 h_1) (cwV 2 hts gX2_strip_X2_trackOf rfl rfl rfl (by decide +kernel) ⟨Nat.le_of_ble_eq_true rfl, Nat.le_of_ble_eq_true rfl⟩) (hR.1 0 (by decide)) rfl rfl rfl hK hP hD hS hA hN rfl hl.1 rfl (Nat.le_of_ble_eq_true rfl) rfl dX2_strip_3 ⟨Nat.zero_le _, Nat.zero_le _⟩ (fun H locs hP hD hS => ?_)
    refine lv_astore_n (lv' := [(3, .ref (ad (8, p0.toNatClampNeg, p1.toNatClampNeg))), (0, .ref (ad (0, 0, 0))), (1, .int p0), (2, .int p1)]) hx hb dX2_strip_6 rfl hl (by decide) rfl (fun ls hl => ?_)
    refine lv_aload_n hx hb dX2_strip_7 rfl (lv_at hl 0 rfl) ?_
    refine lv_ifnonnull (tgt := 18) hx hb dX2_strip_8 (by decide) ?_
    refine lv_aload_n hx hb dX2_strip_18 rfl (lv_at hl 0 rfl) ?_
    refine zw_getN (r := (8, p0.toNatClampNeg, p1.toNatClampNeg)) (v := .int (σ (8, p0.toNatClampNeg, p1.toNatClampNeg) 1)) (C := RX1) (T := TX1) (N := 3) (ci := 1) hx hb hts hwX1 hown hK hP ((hR.2 p0.toNatClampNeg (ze_vr h_1.1 hnr)).2.2 p1.toNatClampNeg (ze_vt h_1.2)).1 rfl rfl 2 (by decide) ((hN.1 ("FourTrackDeck", 74, "FourTrackDeck$Track", "isThere", "Z", "FourTrackDeck") (by decide +kernel)).use rfl) (fun _ h9 => h9) rfl dX2_strip_19 ?_
    refine lv_if_eq (tgt := 29) hx hb dX2_strip_22 (by decide) (fun c_2 => ?_) (fun c_2 => ?_)
    · refine lv_iconst (v := 0) hx hb dX2_strip_29 (by decide) ?_
      refine lv_istore (lv' := [(4, .int 0), (3, .ref (ad (8, p0.toNatClampNeg, p1.toNatClampNeg))), (0, .ref (ad (0, 0, 0))), (1, .int p0), (2, .int p1)]) hx hb dX2_strip_30 hl (by decide) rfl (fun ls hl => ?_)
      refine lv_aload_n hx hb dX2_strip_32 rfl (lv_at hl 1 rfl) ?_
      refine lv_iconst (v := 0) hx hb dX2_strip_33 (by decide) ?_
      refine zw_putN (r := (8, p0.toNatClampNeg, p1.toNatClampNeg)) (v := .int 0) (C := RX1) (T := TX1) (N := 3) (ci := 1) hx hb hts hwX1 tyX1 tyX1_ok nmX1 hown hK hP hD hS ((hR.2 p0.toNatClampNeg (ze_vr h_1.1 hnr)).2.2 p1.toNatClampNeg (ze_vt h_1.2)).1 rfl rfl 2 (by decide) ((hN.1 ("FourTrackDeck", 74, "FourTrackDeck$Track", "isThere", "Z", "FourTrackDeck") (by decide +kernel)).use rfl) (fun _ h9 => h9) rfl (ty := .boolean) (by decide +kernel) rfl rfl (Nat.le_of_ble_eq_true rfl) dX2_strip_34 (cu1 := ze_X (ze_D cA ad nr len (sp_s σ (8, p0.toNatClampNeg, p1.toNatClampNeg) 1 0)) cM) (ze_up rfl rfl) (fun H locs hP hD hS => ?_)
      refine lv_aload_n hx hb dX2_strip_37 rfl (lv_at hl 2 rfl) ?_
      refine lv_iconst (v := 0) hx hb dX2_strip_38 (by decide) ?_
      refine lv_iload hx hb dX2_strip_39 (lv_at hl 0 rfl) ?_
      refine zw_cV (r := (0, 0, 0)) (As := [.int 0, .int 0]) (rest := []) (st1 := [.int 0]) ⟨hx, hb, hml, hown, hts⟩ (cd_end (σ := (sp_s σ (8, p0.toNatClampNeg, p1.toNatClampNeg) 1 0)) hR 0 0) (cwV 2 hts gX2_strip_X2_end rfl rfl rfl (by decide +kernel) ⟨Nat.le_of_ble_eq_true rfl, Nat.le_of_ble_eq_true rfl⟩) (hR.1 0 (by decide)) rfl rfl rfl hK hP hD hS hA hN rfl hl.1 rfl (Nat.le_of_ble_eq_true rfl) rfl dX2_strip_41 ⟨Nat.zero_le _, Nat.zero_le _⟩ (fun H locs hP hD hS => ?_)
      exact zw_iret hx hb hr hlk hK hP hD hS dX2_strip_44 (by simp only [sp_strip, if_pos h_1, if_pos c_2] <;> rfl) (by simp only [sp_strip, if_pos h_1, if_pos c_2] <;> rfl)
    · refine lv_iconst (v := 1) hx hb dX2_strip_25 (by decide) ?_
      refine lv_goto (tgt := 30) hx hb dX2_strip_26 (by decide) ?_
      refine lv_istore (lv' := [(4, .int 1), (3, .ref (ad (8, p0.toNatClampNeg, p1.toNatClampNeg))), (0, .ref (ad (0, 0, 0))), (1, .int p0), (2, .int p1)]) hx hb dX2_strip_30 hl (by decide) rfl (fun ls hl => ?_)
      refine lv_aload_n hx hb dX2_strip_32 rfl (lv_at hl 1 rfl) ?_
      refine lv_iconst (v := 0) hx hb dX2_strip_33 (by decide) ?_
      refine zw_putN (r := (8, p0.toNatClampNeg, p1.toNatClampNeg)) (v := .int 0) (C := RX1) (T := TX1) (N := 3) (ci := 1) hx hb hts hwX1 tyX1 tyX1_ok nmX1 hown hK hP hD hS ((hR.2 p0.toNatClampNeg (ze_vr h_1.1 hnr)).2.2 p1.toNatClampNeg (ze_vt h_1.2)).1 rfl rfl 2 (by decide) ((hN.1 ("FourTrackDeck", 74, "FourTrackDeck$Track", "isThere", "Z", "FourTrackDeck") (by decide +kernel)).use rfl) (fun _ h9 => h9) rfl (ty := .boolean) (by decide +kernel) rfl rfl (Nat.le_of_ble_eq_true rfl) dX2_strip_34 (cu1 := ze_X (ze_D cA ad nr len (sp_s σ (8, p0.toNatClampNeg, p1.toNatClampNeg) 1 0)) cM) (ze_up rfl rfl) (fun H locs hP hD hS => ?_)
      refine lv_aload_n hx hb dX2_strip_37 rfl (lv_at hl 2 rfl) ?_
      refine lv_iconst (v := 0) hx hb dX2_strip_38 (by decide) ?_
      refine lv_iload hx hb dX2_strip_39 (lv_at hl 0 rfl) ?_
      refine zw_cV (r := (0, 0, 0)) (As := [.int 0, .int 1]) (rest := []) (st1 := [.int 1]) ⟨hx, hb, hml, hown, hts⟩ (cd_end (σ := (sp_s σ (8, p0.toNatClampNeg, p1.toNatClampNeg) 1 0)) hR 0 1) (cwV 2 hts gX2_strip_X2_end rfl rfl rfl (by decide +kernel) ⟨Nat.le_of_ble_eq_true rfl, Nat.le_of_ble_eq_true rfl⟩) (hR.1 0 (by decide)) rfl rfl rfl hK hP hD hS hA hN rfl hl.1 rfl (Nat.le_of_ble_eq_true rfl) rfl dX2_strip_41 ⟨Nat.zero_le _, Nat.zero_le _⟩ (fun H locs hP hD hS => ?_)
      exact zw_iret hx hb hr hlk hK hP hD hS dX2_strip_44 (by simp only [sp_strip, if_pos h_1, if_neg c_2] <;> rfl) (by simp only [sp_strip, if_pos h_1, if_neg c_2] <;> rfl)
  · refine zw_cV (r := (0, 0, 0)) (As := [.int p0, .int p1]) (rest := []) (st1 := [.null]) ⟨hx, hb, hml, hown, hts⟩ (cd_trackOf_0 (σ := σ) hR hnr p0 p1 h_1) (cwV 2 hts gX2_strip_X2_trackOf rfl rfl rfl (by decide +kernel) ⟨Nat.le_of_ble_eq_true rfl, Nat.le_of_ble_eq_true rfl⟩) (hR.1 0 (by decide)) rfl rfl rfl hK hP hD hS hA hN rfl hl.1 rfl (Nat.le_of_ble_eq_true rfl) rfl dX2_strip_3 ⟨Nat.zero_le _, Nat.zero_le _⟩ (fun H locs hP hD hS => ?_)
    refine lv_astore_nN (lv' := [(3, .null), (0, .ref (ad (0, 0, 0))), (1, .int p0), (2, .int p1)]) hx hb dX2_strip_6 rfl hl (by decide) rfl (fun ls hl => ?_)
    refine lv_aload_nN hx hb dX2_strip_7 rfl (lv_at hl 0 rfl) ?_
    refine lv_ifnonnullN hx hb dX2_strip_8 ?_
    refine lv_aload_n hx hb dX2_strip_11 rfl (lv_at hl 1 rfl) ?_
    refine lv_iconst (v := 1) hx hb dX2_strip_12 (by decide) ?_
    refine lv_iconst (v := (-1)) hx hb dX2_strip_13 (by decide) ?_
    refine zw_cV (r := (0, 0, 0)) (As := [.int 1, .int (-1)]) (rest := []) (st1 := [.int (-1)]) ⟨hx, hb, hml, hown, hts⟩ (cd_end (σ := σ) hR 1 (-1)) (cwV 2 hts gX2_strip_X2_end rfl rfl rfl (by decide +kernel) ⟨Nat.le_of_ble_eq_true rfl, Nat.le_of_ble_eq_true rfl⟩) (hR.1 0 (by decide)) rfl rfl rfl hK hP hD hS hA hN rfl hl.1 rfl (Nat.le_of_ble_eq_true rfl) rfl dX2_strip_14 ⟨Nat.zero_le _, Nat.zero_le _⟩ (fun H locs hP hD hS => ?_)
    exact zw_iret hx hb hr hlk hK hP hD hS dX2_strip_17 (by simp only [sp_strip, if_neg h_1] <;> rfl) (by simp only [sp_strip, if_neg h_1] <;> rfl)
set_option maxHeartbeats 4000000 in
set_option maxRecDepth 100000 in
theorem cd_thread {l : Launch} {dC : Nat → ClassId} {dI : Nat → Nat → Nat} {cA : Nat → ClassId} {ad : zw_R → Nat} {R : List zw_R} {nr : Nat} {len : Nat → Nat} {σ : sp_S} {cM : zw_R → va_E} (hR : ze_R nr R) (hnr : nr ≤ 8) (p0 : Int32) : zw_M l yX2_thread wsX2_thread { frames := 1, cells := 0, slots := 0, locals := 22 } (ze_E dC dI cA) [.ref (ad (0, 0, 0)), .int p0] ad R (ze_X (ze_D cA ad nr len σ) cM) (some (.int ((sp_thread nr len σ p0).1))) (ze_X (ze_D cA ad nr len (sp_thread nr len σ p0).2) cM) := by
  refine zw_body (cc := cX2_thread) (maxL := 3) (ret := (some .int)) (by decide) rfl (Nat.le_of_ble_eq_true rfl) ?_
  intro p e s m below meth c A ls hx hb hr hlk hml hts hown hnm hA hK hP hD hS hN hl
  have hl : lv_has ls 3 [(0, .ref (ad (0, 0, 0))), (1, .int p0)] := hl
  have hwX2 : ∀ w ∈ u_ws RX2 TX2 15, w ∈ wsX2_thread := by decide +kernel
  refine lv_iload_n hx hb dX2_thread_0 rfl (lv_at hl 1 rfl) ?_
  refine lv_iconst (v := (-1)) hx hb dX2_thread_1 (by decide) ?_
  refine lv_icmp_eq (tgt := 20) hx hb dX2_thread_2 (by decide) (fun c_1 => ?_) (fun c_1 => ?_)
  · refine lv_aload_n hx hb dX2_thread_20 rfl (lv_at hl 0 rfl) ?_
    refine zw_getf (r := (0, 0, 0)) (v := .int (σ (0, 0, 0) 1)) (C := RX2) (T := TX2) (N := 15) (ci := 2) hx hb hts hwX2 hown hK hP (hR.1 0 (by decide)) rfl rfl 2 (by decide) (hts (.fieldLink RX2 19 "FourTrackDeck" "onDeck" "I") (by decide +kernel)) (fun _ h9 => h9) rfl dX2_thread_21 ?_
    refine lv_istore_n (lv' := [(2, .int (σ (0, 0, 0) 1)), (0, .ref (ad (0, 0, 0))), (1, .int p0)]) hx hb dX2_thread_24 rfl hl (by decide) rfl (fun ls hl => ?_)
    refine lv_aload_n hx hb dX2_thread_25 rfl (lv_at hl 1 rfl) ?_
    refine lv_iload_n hx hb dX2_thread_26 rfl (lv_at hl 2 rfl) ?_
    refine zw_putf (r := (0, 0, 0)) (v := .int p0) (C := RX2) (T := TX2) (N := 15) (ci := 2) hx hb hts hwX2 tyX2 tyX2_ok nmX2 hown hK hP hD hS (hR.1 0 (by decide)) rfl rfl 2 (by decide) (hts (.fieldLink RX2 19 "FourTrackDeck" "onDeck" "I") (by decide +kernel)) (fun _ h9 => h9) rfl (ty := .int) (by decide +kernel) rfl rfl (Nat.le_of_ble_eq_true rfl) dX2_thread_27 (cu1 := ze_X (ze_D cA ad nr len (sp_s σ (0, 0, 0) 1 p0)) cM) (ze_up rfl rfl) (fun H locs hP hD hS => ?_)
    refine lv_aload_n hx hb dX2_thread_30 rfl (lv_at hl 1 rfl) ?_
    refine lv_iconst (v := 0) hx hb dX2_thread_31 (by decide) ?_
    refine lv_iload_n hx hb dX2_thread_32 rfl (lv_at hl 0 rfl) ?_
    refine zw_cV (r := (0, 0, 0)) (As := [.int 0, .int (σ (0, 0, 0) 1)]) (rest := []) (st1 := [.int (σ (0, 0, 0) 1)]) ⟨hx, hb, hml, hown, hts⟩ (cd_end (σ := (sp_s σ (0, 0, 0) 1 p0)) hR 0 (σ (0, 0, 0) 1)) (cwV 2 hts gX2_thread_X2_end rfl rfl rfl (by decide +kernel) ⟨Nat.le_of_ble_eq_true rfl, Nat.le_of_ble_eq_true rfl⟩) (hR.1 0 (by decide)) rfl rfl rfl hK hP hD hS hA hN rfl hl.1 rfl (Nat.le_of_ble_eq_true rfl) rfl dX2_thread_33 ⟨Nat.zero_le _, Nat.zero_le _⟩ (fun H locs hP hD hS => ?_)
    exact zw_iret hx hb hr hlk hK hP hD hS dX2_thread_36 (by simp only [sp_thread, if_pos c_1] <;> rfl) (by simp only [sp_thread, if_pos c_1] <;> rfl)
  · refine lv_aload_n hx hb dX2_thread_5 rfl (lv_at hl 0 rfl) ?_
    refine lv_iload_n hx hb dX2_thread_6 rfl (lv_at hl 1 rfl) ?_
    rcases Decidable.em (sp_r nr p0) with h_2 | h_2
    · refine zw_cV (r := (0, 0, 0)) (As := [.int p0]) (rest := []) (st1 := [.ref (ad (6, p0.toNatClampNeg, 0))]) ⟨hx, hb, hml, hown, hts⟩ (cd_reelOf_1 (σ := σ) hR hnr p0 h_2) (cwV 1 hts gX2_thread_X2_reelOf rfl rfl rfl (by decide +kernel) ⟨Nat.le_of_ble_eq_true rfl, Nat.le_of_ble_eq_true rfl⟩) (hR.1 0 (by decide)) rfl rfl rfl hK hP hD hS hA hN rfl hl.1 rfl (Nat.le_of_ble_eq_true rfl) rfl dX2_thread_7 ⟨Nat.zero_le _, Nat.zero_le _⟩ (fun H locs hP hD hS => ?_)
      refine lv_ifnonnull (tgt := 20) hx hb dX2_thread_10 (by decide) ?_
      refine lv_aload_n hx hb dX2_thread_20 rfl (lv_at hl 0 rfl) ?_
      refine zw_getf (r := (0, 0, 0)) (v := .int (σ (0, 0, 0) 1)) (C := RX2) (T := TX2) (N := 15) (ci := 2) hx hb hts hwX2 hown hK hP (hR.1 0 (by decide)) rfl rfl 2 (by decide) (hts (.fieldLink RX2 19 "FourTrackDeck" "onDeck" "I") (by decide +kernel)) (fun _ h9 => h9) rfl dX2_thread_21 ?_
      refine lv_istore_n (lv' := [(2, .int (σ (0, 0, 0) 1)), (0, .ref (ad (0, 0, 0))), (1, .int p0)]) hx hb dX2_thread_24 rfl hl (by decide) rfl (fun ls hl => ?_)
      refine lv_aload_n hx hb dX2_thread_25 rfl (lv_at hl 1 rfl) ?_
      refine lv_iload_n hx hb dX2_thread_26 rfl (lv_at hl 2 rfl) ?_
      refine zw_putf (r := (0, 0, 0)) (v := .int p0) (C := RX2) (T := TX2) (N := 15) (ci := 2) hx hb hts hwX2 tyX2 tyX2_ok nmX2 hown hK hP hD hS (hR.1 0 (by decide)) rfl rfl 2 (by decide) (hts (.fieldLink RX2 19 "FourTrackDeck" "onDeck" "I") (by decide +kernel)) (fun _ h9 => h9) rfl (ty := .int) (by decide +kernel) rfl rfl (Nat.le_of_ble_eq_true rfl) dX2_thread_27 (cu1 := ze_X (ze_D cA ad nr len (sp_s σ (0, 0, 0) 1 p0)) cM) (ze_up rfl rfl) (fun H locs hP hD hS => ?_)
      refine lv_aload_n hx hb dX2_thread_30 rfl (lv_at hl 1 rfl) ?_
      refine lv_iconst (v := 0) hx hb dX2_thread_31 (by decide) ?_
      refine lv_iload_n hx hb dX2_thread_32 rfl (lv_at hl 0 rfl) ?_
      refine zw_cV (r := (0, 0, 0)) (As := [.int 0, .int (σ (0, 0, 0) 1)]) (rest := []) (st1 := [.int (σ (0, 0, 0) 1)]) ⟨hx, hb, hml, hown, hts⟩ (cd_end (σ := (sp_s σ (0, 0, 0) 1 p0)) hR 0 (σ (0, 0, 0) 1)) (cwV 2 hts gX2_thread_X2_end rfl rfl rfl (by decide +kernel) ⟨Nat.le_of_ble_eq_true rfl, Nat.le_of_ble_eq_true rfl⟩) (hR.1 0 (by decide)) rfl rfl rfl hK hP hD hS hA hN rfl hl.1 rfl (Nat.le_of_ble_eq_true rfl) rfl dX2_thread_33 ⟨Nat.zero_le _, Nat.zero_le _⟩ (fun H locs hP hD hS => ?_)
      exact zw_iret hx hb hr hlk hK hP hD hS dX2_thread_36 (by simp only [sp_thread, if_neg c_1, if_pos h_2] <;> rfl) (by simp only [sp_thread, if_neg c_1, if_pos h_2] <;> rfl)
    · refine zw_cV (r := (0, 0, 0)) (As := [.int p0]) (rest := []) (st1 := [.null]) ⟨hx, hb, hml, hown, hts⟩ (cd_reelOf_0 (σ := σ) hR hnr p0 h_2) (cwV 1 hts gX2_thread_X2_reelOf rfl rfl rfl (by decide +kernel) ⟨Nat.le_of_ble_eq_true rfl, Nat.le_of_ble_eq_true rfl⟩) (hR.1 0 (by decide)) rfl rfl rfl hK hP hD hS hA hN rfl hl.1 rfl (Nat.le_of_ble_eq_true rfl) rfl dX2_thread_7 ⟨Nat.zero_le _, Nat.zero_le _⟩ (fun H locs hP hD hS => ?_)
      refine lv_ifnonnullN hx hb dX2_thread_10 ?_
      refine lv_aload_n hx hb dX2_thread_13 rfl (lv_at hl 0 rfl) ?_
      refine lv_iconst (v := 1) hx hb dX2_thread_14 (by decide) ?_
      refine lv_iconst (v := (-1)) hx hb dX2_thread_15 (by decide) ?_
      refine zw_cV (r := (0, 0, 0)) (As := [.int 1, .int (-1)]) (rest := []) (st1 := [.int (-1)]) ⟨hx, hb, hml, hown, hts⟩ (cd_end (σ := σ) hR 1 (-1)) (cwV 2 hts gX2_thread_X2_end rfl rfl rfl (by decide +kernel) ⟨Nat.le_of_ble_eq_true rfl, Nat.le_of_ble_eq_true rfl⟩) (hR.1 0 (by decide)) rfl rfl rfl hK hP hD hS hA hN rfl hl.1 rfl (Nat.le_of_ble_eq_true rfl) rfl dX2_thread_16 ⟨Nat.zero_le _, Nat.zero_le _⟩ (fun H locs hP hD hS => ?_)
      exact zw_iret hx hb hr hlk hK hP hD hS dX2_thread_19 (by simp only [sp_thread, if_neg c_1, if_neg h_2] <;> rfl) (by simp only [sp_thread, if_neg c_1, if_neg h_2] <;> rfl)
set_option maxHeartbeats 4000000 in
set_option maxRecDepth 100000 in
theorem cd_head {l : Launch} {dC : Nat → ClassId} {dI : Nat → Nat → Nat} {cA : Nat → ClassId} {ad : zw_R → Nat} {R : List zw_R} {nr : Nat} {len : Nat → Nat} {σ : sp_S} {cM : zw_R → va_E} (hR : ze_R nr R) (p0 p1 : Int32) : zw_M l yX2_head wsX2_head { frames := 2, cells := 0, slots := 0, locals := 42 } (ze_E dC dI cA) [.ref (ad (0, 0, 0)), .int p0, .int p1] ad R (ze_X (ze_D cA ad nr len σ) cM) (some (.int ((sp_head nr len σ p0 p1).1))) (ze_X (ze_D cA ad nr len (sp_head nr len σ p0 p1).2) cM) := by
  refine zw_body (cc := cX2_head) (maxL := 4) (ret := (some .int)) (by decide) rfl (Nat.le_of_ble_eq_true rfl) ?_
  intro p e s m below meth c A ls hx hb hr hlk hml hts hown hnm hA hK hP hD hS hN hl
  have hl : lv_has ls 4 [(0, .ref (ad (0, 0, 0))), (1, .int p0), (2, .int p1)] := hl
  have hwX2 : ∀ w ∈ u_ws RX2 TX2 15, w ∈ wsX2_head := by decide +kernel
  refine lv_iload_n hx hb dX2_head_0 rfl (lv_at hl 1 rfl) ?_
  rcases Decidable.em (sp_t p0) with h_1 | h_1
  · refine zw_cS (As := [.int p0]) (rest := []) (st1 := [.int 1]) ⟨hx, hb, hml, hown, hts⟩ (cd_isTrack_1 p0 h_1) (va_cwS 1 hts gX2_head_X2_isTrack rfl rfl rfl (by decide +kernel) ⟨Nat.le_of_ble_eq_true rfl, Nat.le_of_ble_eq_true rfl⟩) hK hP hD hS hA hN rfl hl.1 rfl (Nat.le_of_ble_eq_true rfl) rfl dX2_head_1 ⟨Nat.zero_le _, Nat.zero_le _⟩ (fun H locs hP hD hS => ?_)
    refine lv_if_eq (tgt := 18) hx hb dX2_head_4 (by decide) (fun c_2 => absurd c_2 (by decide)) (fun c_2 => ?_)
    refine lv_iload_n hx hb dX2_head_7 rfl (lv_at hl 2 rfl) ?_
    refine lv_bipush (v := (-8)) hx hb dX2_head_8 (by decide) ?_
    refine lv_bipush (v := 8) hx hb dX2_head_10 (by decide) ?_
    rcases Decidable.em (sp_w p1 (-8) 8) with h_3 | h_3
    · refine zw_cS (As := [.int p1, .int (-8), .int 8]) (rest := []) (st1 := [.int 1]) ⟨hx, hb, hml, hown, hts⟩ (cd_isWithin_1 p1 (-8) 8 h_3) (va_cwS 3 hts gX2_head_X2_isWithin rfl rfl rfl (by decide +kernel) ⟨Nat.le_of_ble_eq_true rfl, Nat.le_of_ble_eq_true rfl⟩) hK hP hD hS hA hN rfl hl.1 rfl (Nat.le_of_ble_eq_true rfl) rfl dX2_head_12 ⟨Nat.zero_le _, Nat.zero_le _⟩ (fun H locs hP hD hS => ?_)
      refine lv_if_ne (tgt := 25) hx hb dX2_head_15 (by decide) (fun c_4 => ?_) (fun c_4 => absurd c_4 (by decide))
      refine lv_aload_n hx hb dX2_head_25 rfl (lv_at hl 0 rfl) ?_
      refine zw_getf (r := (0, 0, 0)) (v := .ref (ad (2, 0, 0))) (C := RX2) (T := TX2) (N := 15) (ci := 2) hx hb hts hwX2 hown hK hP (hR.1 0 (by decide)) rfl rfl 4 (by decide) (hts (.fieldLink RX2 25 "FourTrackDeck" "offsets" "[I") (by decide +kernel)) (fun _ h9 => h9) rfl dX2_head_26 ?_
      refine lv_iload_n hx hb dX2_head_29 rfl (lv_at hl 1 rfl) ?_
      refine zw_iald (r := (2, 0, 0)) hx hb hK hP (hR.1 2 (by decide)) 0 rfl rfl (ze_ti h_1) dX2_head_30 ?_
      refine lv_istore_n (lv' := [(3, .int (σ (2, 0, 0) p0.toNatClampNeg)), (0, .ref (ad (0, 0, 0))), (1, .int p0), (2, .int p1)]) hx hb dX2_head_31 rfl hl (by decide) rfl (fun ls hl => ?_)
      refine lv_aload_n hx hb dX2_head_32 rfl (lv_at hl 1 rfl) ?_
      refine zw_getf (r := (0, 0, 0)) (v := .ref (ad (2, 0, 0))) (C := RX2) (T := TX2) (N := 15) (ci := 2) hx hb hts hwX2 hown hK hP (hR.1 0 (by decide)) rfl rfl 4 (by decide) (hts (.fieldLink RX2 25 "FourTrackDeck" "offsets" "[I") (by decide +kernel)) (fun _ h9 => h9) rfl dX2_head_33 ?_
      refine lv_iload_n hx hb dX2_head_36 rfl (lv_at hl 2 rfl) ?_
      refine lv_iload_n hx hb dX2_head_37 rfl (lv_at hl 3 rfl) ?_
      refine zw_iast (r := (2, 0, 0)) hx hb hK hP hD hS (hR.1 2 (by decide)) 0 rfl rfl (ze_ti h_1) dX2_head_38 (cu1 := ze_X (ze_D cA ad nr len (sp_s σ (2, 0, 0) p0.toNatClampNeg p1)) cM) (ze_up rfl rfl) (fun H locs hP hD hS => ?_)
      refine lv_aload_n hx hb dX2_head_39 rfl (lv_at hl 1 rfl) ?_
      refine lv_iconst (v := 0) hx hb dX2_head_40 (by decide) ?_
      refine lv_iload_n hx hb dX2_head_41 rfl (lv_at hl 0 rfl) ?_
      refine zw_cV (r := (0, 0, 0)) (As := [.int 0, .int (σ (2, 0, 0) p0.toNatClampNeg)]) (rest := []) (st1 := [.int (σ (2, 0, 0) p0.toNatClampNeg)]) ⟨hx, hb, hml, hown, hts⟩ (cd_end (σ := (sp_s σ (2, 0, 0) p0.toNatClampNeg p1)) hR 0 (σ (2, 0, 0) p0.toNatClampNeg)) (cwV 2 hts gX2_head_X2_end rfl rfl rfl (by decide +kernel) ⟨Nat.le_of_ble_eq_true rfl, Nat.le_of_ble_eq_true rfl⟩) (hR.1 0 (by decide)) rfl rfl rfl hK hP hD hS hA hN rfl hl.1 rfl (Nat.le_of_ble_eq_true rfl) rfl dX2_head_42 ⟨Nat.zero_le _, Nat.zero_le _⟩ (fun H locs hP hD hS => ?_)
      exact zw_iret hx hb hr hlk hK hP hD hS dX2_head_45 (by simp only [sp_head, if_pos h_1, if_pos h_3] <;> rfl) (by simp only [sp_head, if_pos h_1, if_pos h_3] <;> rfl)
    · refine zw_cS (As := [.int p1, .int (-8), .int 8]) (rest := []) (st1 := [.int 0]) ⟨hx, hb, hml, hown, hts⟩ (cd_isWithin_0 p1 (-8) 8 h_3) (va_cwS 3 hts gX2_head_X2_isWithin rfl rfl rfl (by decide +kernel) ⟨Nat.le_of_ble_eq_true rfl, Nat.le_of_ble_eq_true rfl⟩) hK hP hD hS hA hN rfl hl.1 rfl (Nat.le_of_ble_eq_true rfl) rfl dX2_head_12 ⟨Nat.zero_le _, Nat.zero_le _⟩ (fun H locs hP hD hS => ?_)
      refine lv_if_ne (tgt := 25) hx hb dX2_head_15 (by decide) (fun c_5 => absurd (by decide) c_5) (fun c_5 => ?_)
      refine lv_aload_n hx hb dX2_head_18 rfl (lv_at hl 0 rfl) ?_
      refine lv_iconst (v := 1) hx hb dX2_head_19 (by decide) ?_
      refine lv_iconst (v := 0) hx hb dX2_head_20 (by decide) ?_
      refine zw_cV (r := (0, 0, 0)) (As := [.int 1, .int 0]) (rest := []) (st1 := [.int 0]) ⟨hx, hb, hml, hown, hts⟩ (cd_end (σ := σ) hR 1 0) (cwV 2 hts gX2_head_X2_end rfl rfl rfl (by decide +kernel) ⟨Nat.le_of_ble_eq_true rfl, Nat.le_of_ble_eq_true rfl⟩) (hR.1 0 (by decide)) rfl rfl rfl hK hP hD hS hA hN rfl hl.1 rfl (Nat.le_of_ble_eq_true rfl) rfl dX2_head_21 ⟨Nat.zero_le _, Nat.zero_le _⟩ (fun H locs hP hD hS => ?_)
      exact zw_iret hx hb hr hlk hK hP hD hS dX2_head_24 (by simp only [sp_head, if_pos h_1, if_neg h_3] <;> rfl) (by simp only [sp_head, if_pos h_1, if_neg h_3] <;> rfl)
  · refine zw_cS (As := [.int p0]) (rest := []) (st1 := [.int 0]) ⟨hx, hb, hml, hown, hts⟩ (cd_isTrack_0 p0 h_1) (va_cwS 1 hts gX2_head_X2_isTrack rfl rfl rfl (by decide +kernel) ⟨Nat.le_of_ble_eq_true rfl, Nat.le_of_ble_eq_true rfl⟩) hK hP hD hS hA hN rfl hl.1 rfl (Nat.le_of_ble_eq_true rfl) rfl dX2_head_1 ⟨Nat.zero_le _, Nat.zero_le _⟩ (fun H locs hP hD hS => ?_)
    refine lv_if_eq (tgt := 18) hx hb dX2_head_4 (by decide) (fun c_6 => ?_) (fun c_6 => absurd (by decide) c_6)
    refine lv_aload_n hx hb dX2_head_18 rfl (lv_at hl 0 rfl) ?_
    refine lv_iconst (v := 1) hx hb dX2_head_19 (by decide) ?_
    refine lv_iconst (v := 0) hx hb dX2_head_20 (by decide) ?_
    refine zw_cV (r := (0, 0, 0)) (As := [.int 1, .int 0]) (rest := []) (st1 := [.int 0]) ⟨hx, hb, hml, hown, hts⟩ (cd_end (σ := σ) hR 1 0) (cwV 2 hts gX2_head_X2_end rfl rfl rfl (by decide +kernel) ⟨Nat.le_of_ble_eq_true rfl, Nat.le_of_ble_eq_true rfl⟩) (hR.1 0 (by decide)) rfl rfl rfl hK hP hD hS hA hN rfl hl.1 rfl (Nat.le_of_ble_eq_true rfl) rfl dX2_head_21 ⟨Nat.zero_le _, Nat.zero_le _⟩ (fun H locs hP hD hS => ?_)
    exact zw_iret hx hb hr hlk hK hP hD hS dX2_head_24 (by simp only [sp_head, if_neg h_1] <;> rfl) (by simp only [sp_head, if_neg h_1] <;> rfl)
set_option maxHeartbeats 4000000 in
set_option maxRecDepth 100000 in
theorem cd_arm {l : Launch} {dC : Nat → ClassId} {dI : Nat → Nat → Nat} {cA : Nat → ClassId} {ad : zw_R → Nat} {R : List zw_R} {nr : Nat} {len : Nat → Nat} {σ : sp_S} {cM : zw_R → va_E} (hR : ze_R nr R) (p0 p1 : Int32) : zw_M l yX2_arm wsX2_arm { frames := 2, cells := 0, slots := 0, locals := 42 } (ze_E dC dI cA) [.ref (ad (0, 0, 0)), .int p0, .int p1] ad R (ze_X (ze_D cA ad nr len σ) cM) (some (.int ((sp_arm nr len σ p0 p1).1))) (ze_X (ze_D cA ad nr len (sp_arm nr len σ p0 p1).2) cM) := by
  refine zw_body (cc := cX2_arm) (maxL := 4) (ret := (some .int)) (by decide) rfl (Nat.le_of_ble_eq_true rfl) ?_
  intro p e s m below meth c A ls hx hb hr hlk hml hts hown hnm hA hK hP hD hS hN hl
  have hl : lv_has ls 4 [(0, .ref (ad (0, 0, 0))), (1, .int p0), (2, .int p1)] := hl
  have hwX2 : ∀ w ∈ u_ws RX2 TX2 15, w ∈ wsX2_arm := by decide +kernel
  refine lv_iload_n hx hb dX2_arm_0 rfl (lv_at hl 1 rfl) ?_
  rcases Decidable.em (sp_t p0) with h_1 | h_1
  · refine zw_cS (As := [.int p0]) (rest := []) (st1 := [.int 1]) ⟨hx, hb, hml, hown, hts⟩ (cd_isTrack_1 p0 h_1) (va_cwS 1 hts gX2_arm_X2_isTrack rfl rfl rfl (by decide +kernel) ⟨Nat.le_of_ble_eq_true rfl, Nat.le_of_ble_eq_true rfl⟩) hK hP hD hS hA hN rfl hl.1 rfl (Nat.le_of_ble_eq_true rfl) rfl dX2_arm_1 ⟨Nat.zero_le _, Nat.zero_le _⟩ (fun H locs hP hD hS => ?_)
    refine lv_if_eq (tgt := 16) hx hb dX2_arm_4 (by decide) (fun c_2 => absurd c_2 (by decide)) (fun c_2 => ?_)
    refine lv_iload_n hx hb dX2_arm_7 rfl (lv_at hl 2 rfl) ?_
    refine lv_iconst (v := 0) hx hb dX2_arm_8 (by decide) ?_
    refine lv_iconst (v := 3) hx hb dX2_arm_9 (by decide) ?_
    rcases Decidable.em (sp_w p1 0 3) with h_3 | h_3
    · refine zw_cS (As := [.int p1, .int 0, .int 3]) (rest := []) (st1 := [.int 1]) ⟨hx, hb, hml, hown, hts⟩ (cd_isWithin_1 p1 0 3 h_3) (va_cwS 3 hts gX2_arm_X2_isWithin rfl rfl rfl (by decide +kernel) ⟨Nat.le_of_ble_eq_true rfl, Nat.le_of_ble_eq_true rfl⟩) hK hP hD hS hA hN rfl hl.1 rfl (Nat.le_of_ble_eq_true rfl) rfl dX2_arm_10 ⟨Nat.zero_le _, Nat.zero_le _⟩ (fun H locs hP hD hS => ?_)
      refine lv_if_ne (tgt := 23) hx hb dX2_arm_13 (by decide) (fun c_4 => ?_) (fun c_4 => absurd c_4 (by decide))
      refine lv_aload_n hx hb dX2_arm_23 rfl (lv_at hl 0 rfl) ?_
      refine zw_getf (r := (0, 0, 0)) (v := .ref (ad (3, 0, 0))) (C := RX2) (T := TX2) (N := 15) (ci := 2) hx hb hts hwX2 hown hK hP (hR.1 0 (by decide)) rfl rfl 5 (by decide) (hts (.fieldLink RX2 29 "FourTrackDeck" "modes" "[I") (by decide +kernel)) (fun _ h9 => h9) rfl dX2_arm_24 ?_
      refine lv_iload_n hx hb dX2_arm_27 rfl (lv_at hl 1 rfl) ?_
      refine zw_iald (r := (3, 0, 0)) hx hb hK hP (hR.1 3 (by decide)) 0 rfl rfl (ze_ti h_1) dX2_arm_28 ?_
      refine lv_istore_n (lv' := [(3, .int (σ (3, 0, 0) p0.toNatClampNeg)), (0, .ref (ad (0, 0, 0))), (1, .int p0), (2, .int p1)]) hx hb dX2_arm_29 rfl hl (by decide) rfl (fun ls hl => ?_)
      refine lv_aload_n hx hb dX2_arm_30 rfl (lv_at hl 1 rfl) ?_
      refine zw_getf (r := (0, 0, 0)) (v := .ref (ad (3, 0, 0))) (C := RX2) (T := TX2) (N := 15) (ci := 2) hx hb hts hwX2 hown hK hP (hR.1 0 (by decide)) rfl rfl 5 (by decide) (hts (.fieldLink RX2 29 "FourTrackDeck" "modes" "[I") (by decide +kernel)) (fun _ h9 => h9) rfl dX2_arm_31 ?_
      refine lv_iload_n hx hb dX2_arm_34 rfl (lv_at hl 2 rfl) ?_
      refine lv_iload_n hx hb dX2_arm_35 rfl (lv_at hl 3 rfl) ?_
      refine zw_iast (r := (3, 0, 0)) hx hb hK hP hD hS (hR.1 3 (by decide)) 0 rfl rfl (ze_ti h_1) dX2_arm_36 (cu1 := ze_X (ze_D cA ad nr len (sp_s σ (3, 0, 0) p0.toNatClampNeg p1)) cM) (ze_up rfl rfl) (fun H locs hP hD hS => ?_)
      refine lv_aload_n hx hb dX2_arm_37 rfl (lv_at hl 1 rfl) ?_
      refine lv_iconst (v := 0) hx hb dX2_arm_38 (by decide) ?_
      refine lv_iload_n hx hb dX2_arm_39 rfl (lv_at hl 0 rfl) ?_
      refine zw_cV (r := (0, 0, 0)) (As := [.int 0, .int (σ (3, 0, 0) p0.toNatClampNeg)]) (rest := []) (st1 := [.int (σ (3, 0, 0) p0.toNatClampNeg)]) ⟨hx, hb, hml, hown, hts⟩ (cd_end (σ := (sp_s σ (3, 0, 0) p0.toNatClampNeg p1)) hR 0 (σ (3, 0, 0) p0.toNatClampNeg)) (cwV 2 hts gX2_arm_X2_end rfl rfl rfl (by decide +kernel) ⟨Nat.le_of_ble_eq_true rfl, Nat.le_of_ble_eq_true rfl⟩) (hR.1 0 (by decide)) rfl rfl rfl hK hP hD hS hA hN rfl hl.1 rfl (Nat.le_of_ble_eq_true rfl) rfl dX2_arm_40 ⟨Nat.zero_le _, Nat.zero_le _⟩ (fun H locs hP hD hS => ?_)
      exact zw_iret hx hb hr hlk hK hP hD hS dX2_arm_43 (by simp only [sp_arm, if_pos h_1, if_pos h_3] <;> rfl) (by simp only [sp_arm, if_pos h_1, if_pos h_3] <;> rfl)
    · refine zw_cS (As := [.int p1, .int 0, .int 3]) (rest := []) (st1 := [.int 0]) ⟨hx, hb, hml, hown, hts⟩ (cd_isWithin_0 p1 0 3 h_3) (va_cwS 3 hts gX2_arm_X2_isWithin rfl rfl rfl (by decide +kernel) ⟨Nat.le_of_ble_eq_true rfl, Nat.le_of_ble_eq_true rfl⟩) hK hP hD hS hA hN rfl hl.1 rfl (Nat.le_of_ble_eq_true rfl) rfl dX2_arm_10 ⟨Nat.zero_le _, Nat.zero_le _⟩ (fun H locs hP hD hS => ?_)
      refine lv_if_ne (tgt := 23) hx hb dX2_arm_13 (by decide) (fun c_5 => absurd (by decide) c_5) (fun c_5 => ?_)
      refine lv_aload_n hx hb dX2_arm_16 rfl (lv_at hl 0 rfl) ?_
      refine lv_iconst (v := 1) hx hb dX2_arm_17 (by decide) ?_
      refine lv_iconst (v := 0) hx hb dX2_arm_18 (by decide) ?_
      refine zw_cV (r := (0, 0, 0)) (As := [.int 1, .int 0]) (rest := []) (st1 := [.int 0]) ⟨hx, hb, hml, hown, hts⟩ (cd_end (σ := σ) hR 1 0) (cwV 2 hts gX2_arm_X2_end rfl rfl rfl (by decide +kernel) ⟨Nat.le_of_ble_eq_true rfl, Nat.le_of_ble_eq_true rfl⟩) (hR.1 0 (by decide)) rfl rfl rfl hK hP hD hS hA hN rfl hl.1 rfl (Nat.le_of_ble_eq_true rfl) rfl dX2_arm_19 ⟨Nat.zero_le _, Nat.zero_le _⟩ (fun H locs hP hD hS => ?_)
      exact zw_iret hx hb hr hlk hK hP hD hS dX2_arm_22 (by simp only [sp_arm, if_pos h_1, if_neg h_3] <;> rfl) (by simp only [sp_arm, if_pos h_1, if_neg h_3] <;> rfl)
  · refine zw_cS (As := [.int p0]) (rest := []) (st1 := [.int 0]) ⟨hx, hb, hml, hown, hts⟩ (cd_isTrack_0 p0 h_1) (va_cwS 1 hts gX2_arm_X2_isTrack rfl rfl rfl (by decide +kernel) ⟨Nat.le_of_ble_eq_true rfl, Nat.le_of_ble_eq_true rfl⟩) hK hP hD hS hA hN rfl hl.1 rfl (Nat.le_of_ble_eq_true rfl) rfl dX2_arm_1 ⟨Nat.zero_le _, Nat.zero_le _⟩ (fun H locs hP hD hS => ?_)
    refine lv_if_eq (tgt := 16) hx hb dX2_arm_4 (by decide) (fun c_6 => ?_) (fun c_6 => absurd (by decide) c_6)
    refine lv_aload_n hx hb dX2_arm_16 rfl (lv_at hl 0 rfl) ?_
    refine lv_iconst (v := 1) hx hb dX2_arm_17 (by decide) ?_
    refine lv_iconst (v := 0) hx hb dX2_arm_18 (by decide) ?_
    refine zw_cV (r := (0, 0, 0)) (As := [.int 1, .int 0]) (rest := []) (st1 := [.int 0]) ⟨hx, hb, hml, hown, hts⟩ (cd_end (σ := σ) hR 1 0) (cwV 2 hts gX2_arm_X2_end rfl rfl rfl (by decide +kernel) ⟨Nat.le_of_ble_eq_true rfl, Nat.le_of_ble_eq_true rfl⟩) (hR.1 0 (by decide)) rfl rfl rfl hK hP hD hS hA hN rfl hl.1 rfl (Nat.le_of_ble_eq_true rfl) rfl dX2_arm_19 ⟨Nat.zero_le _, Nat.zero_le _⟩ (fun H locs hP hD hS => ?_)
    exact zw_iret hx hb hr hlk hK hP hD hS dX2_arm_22 (by simp only [sp_arm, if_neg h_1] <;> rfl) (by simp only [sp_arm, if_neg h_1] <;> rfl)
set_option maxHeartbeats 4000000 in
set_option maxRecDepth 100000 in
theorem cd_source {l : Launch} {dC : Nat → ClassId} {dI : Nat → Nat → Nat} {cA : Nat → ClassId} {ad : zw_R → Nat} {R : List zw_R} {nr : Nat} {len : Nat → Nat} {σ : sp_S} {cM : zw_R → va_E} (hR : ze_R nr R) (p0 p1 : Int32) : zw_M l yX2_source wsX2_source { frames := 1, cells := 0, slots := 0, locals := 22 } (ze_E dC dI cA) [.ref (ad (0, 0, 0)), .int p0, .int p1] ad R (ze_X (ze_D cA ad nr len σ) cM) (some (.int ((sp_source nr len σ p0 p1).1))) (ze_X (ze_D cA ad nr len (sp_source nr len σ p0 p1).2) cM) := by
  refine zw_body (cc := cX2_source) (maxL := 4) (ret := (some .int)) (by decide) rfl (Nat.le_of_ble_eq_true rfl) ?_
  intro p e s m below meth c A ls hx hb hr hlk hml hts hown hnm hA hK hP hD hS hN hl
  have hl : lv_has ls 4 [(0, .ref (ad (0, 0, 0))), (1, .int p0), (2, .int p1)] := hl
  have hwX2 : ∀ w ∈ u_ws RX2 TX2 15, w ∈ wsX2_source := by decide +kernel
  refine lv_aload_n hx hb dX2_source_0 rfl (lv_at hl 0 rfl) ?_
  refine zw_getf (r := (0, 0, 0)) (v := .int (σ (0, 0, 0) 3)) (C := RX2) (T := TX2) (N := 15) (ci := 2) hx hb hts hwX2 hown hK hP (hR.1 0 (by decide)) rfl rfl 7 (by decide) (hts (.fieldLink RX2 35 "FourTrackDeck" "sourceNumber" "I") (by decide +kernel)) (fun _ h9 => h9) rfl dX2_source_1 ?_
  refine lv_istore_n (lv' := [(3, .int (σ (0, 0, 0) 3)), (0, .ref (ad (0, 0, 0))), (1, .int p0), (2, .int p1)]) hx hb dX2_source_4 rfl hl (by decide) rfl (fun ls hl => ?_)
  refine lv_aload_n hx hb dX2_source_5 rfl (lv_at hl 1 rfl) ?_
  refine lv_iload_n hx hb dX2_source_6 rfl (lv_at hl 2 rfl) ?_
  refine zw_putf (r := (0, 0, 0)) (v := .int p0) (C := RX2) (T := TX2) (N := 15) (ci := 2) hx hb hts hwX2 tyX2 tyX2_ok nmX2 hown hK hP hD hS (hR.1 0 (by decide)) rfl rfl 7 (by decide) (hts (.fieldLink RX2 35 "FourTrackDeck" "sourceNumber" "I") (by decide +kernel)) (fun _ h9 => h9) rfl (ty := .int) (by decide +kernel) rfl rfl (Nat.le_of_ble_eq_true rfl) dX2_source_7 (cu1 := ze_X (ze_D cA ad nr len (sp_s σ (0, 0, 0) 3 p0)) cM) (ze_up rfl rfl) (fun H locs hP hD hS => ?_)
  refine lv_aload_n hx hb dX2_source_10 rfl (lv_at hl 1 rfl) ?_
  refine lv_iload_n hx hb dX2_source_11 rfl (lv_at hl 3 rfl) ?_
  refine zw_putf (r := (0, 0, 0)) (v := .int p1) (C := RX2) (T := TX2) (N := 15) (ci := 2) hx hb hts hwX2 tyX2 tyX2_ok nmX2 hown hK hP hD hS (hR.1 0 (by decide)) rfl rfl 8 (by decide) (hts (.fieldLink RX2 38 "FourTrackDeck" "sourceStep" "I") (by decide +kernel)) (fun _ h9 => h9) rfl (ty := .int) (by decide +kernel) rfl rfl (Nat.le_of_ble_eq_true rfl) dX2_source_12 (cu1 := ze_X (ze_D cA ad nr len (sp_s (sp_s σ (0, 0, 0) 3 p0) (0, 0, 0) 4 p1)) cM) (ze_up rfl rfl) (fun H locs hP hD hS => ?_)
  refine lv_aload_n hx hb dX2_source_15 rfl (lv_at hl 1 rfl) ?_
  refine lv_iconst (v := 0) hx hb dX2_source_16 (by decide) ?_
  refine lv_iload_n hx hb dX2_source_17 rfl (lv_at hl 0 rfl) ?_
  refine zw_cV (r := (0, 0, 0)) (As := [.int 0, .int (σ (0, 0, 0) 3)]) (rest := []) (st1 := [.int (σ (0, 0, 0) 3)]) ⟨hx, hb, hml, hown, hts⟩ (cd_end (σ := (sp_s (sp_s σ (0, 0, 0) 3 p0) (0, 0, 0) 4 p1)) hR 0 (σ (0, 0, 0) 3)) (cwV 2 hts gX2_source_X2_end rfl rfl rfl (by decide +kernel) ⟨Nat.le_of_ble_eq_true rfl, Nat.le_of_ble_eq_true rfl⟩) (hR.1 0 (by decide)) rfl rfl rfl hK hP hD hS hA hN rfl hl.1 rfl (Nat.le_of_ble_eq_true rfl) rfl dX2_source_18 ⟨Nat.zero_le _, Nat.zero_le _⟩ (fun H locs hP hD hS => ?_)
  exact zw_iret hx hb hr hlk hK hP hD hS dX2_source_21 rfl rfl
set_option maxHeartbeats 4000000 in
set_option maxRecDepth 100000 in
theorem cd_wind {l : Launch} {dC : Nat → ClassId} {dI : Nat → Nat → Nat} {cA : Nat → ClassId} {ad : zw_R → Nat} {R : List zw_R} {nr : Nat} {len : Nat → Nat} {σ : sp_S} {cM : zw_R → va_E} (hR : ze_R nr R) (p0 : Int32) : zw_M l yX2_wind wsX2_wind { frames := 1, cells := 0, slots := 0, locals := 22 } (ze_E dC dI cA) [.ref (ad (0, 0, 0)), .int p0] ad R (ze_X (ze_D cA ad nr len σ) cM) (some (.int ((sp_wind nr len σ p0).1))) (ze_X (ze_D cA ad nr len (sp_wind nr len σ p0).2) cM) := by
  refine zw_body (cc := cX2_wind) (maxL := 2) (ret := (some .int)) (by decide) rfl (Nat.le_of_ble_eq_true rfl) ?_
  intro p e s m below meth c A ls hx hb hr hlk hml hts hown hnm hA hK hP hD hS hN hl
  have hl : lv_has ls 2 [(0, .ref (ad (0, 0, 0))), (1, .int p0)] := hl
  have hwX2 : ∀ w ∈ u_ws RX2 TX2 15, w ∈ wsX2_wind := by decide +kernel
  refine lv_iload_n hx hb dX2_wind_0 rfl (lv_at hl 1 rfl) ?_
  refine lv_sipush (v := (-1000)) hx hb dX2_wind_1 (by decide) ?_
  refine lv_sipush (v := 1000) hx hb dX2_wind_4 (by decide) ?_
  rcases Decidable.em (sp_w p0 (-1000) 1000) with h_1 | h_1
  · refine zw_cS (As := [.int p0, .int (-1000), .int 1000]) (rest := []) (st1 := [.int 1]) ⟨hx, hb, hml, hown, hts⟩ (cd_isWithin_1 p0 (-1000) 1000 h_1) (va_cwS 3 hts gX2_wind_X2_isWithin rfl rfl rfl (by decide +kernel) ⟨Nat.le_of_ble_eq_true rfl, Nat.le_of_ble_eq_true rfl⟩) hK hP hD hS hA hN rfl hl.1 rfl (Nat.le_of_ble_eq_true rfl) rfl dX2_wind_7 ⟨Nat.zero_le _, Nat.zero_le _⟩ (fun H locs hP hD hS => ?_)
    refine lv_if_ne (tgt := 23) hx hb dX2_wind_10 (by decide) (fun c_2 => ?_) (fun c_2 => absurd c_2 (by decide))
    refine lv_aload_n hx hb dX2_wind_23 rfl (lv_at hl 0 rfl) ?_
    refine lv_dup hx hb dX2_wind_24 rfl ?_
    refine zw_getf (r := (0, 0, 0)) (v := .int (σ (0, 0, 0) 2)) (C := RX2) (T := TX2) (N := 15) (ci := 2) hx hb hts hwX2 hown hK hP (hR.1 0 (by decide)) rfl rfl 3 (by decide) (hts (.fieldLink RX2 22 "FourTrackDeck" "tapeAt" "I") (by decide +kernel)) (fun _ h9 => h9) rfl dX2_wind_25 ?_
    refine lv_iload_n hx hb dX2_wind_28 rfl (lv_at hl 1 rfl) ?_
    refine lv_iadd hx hb dX2_wind_29 ?_
    refine zw_putf (r := (0, 0, 0)) (v := .int ((σ (0, 0, 0) 2) + p0)) (C := RX2) (T := TX2) (N := 15) (ci := 2) hx hb hts hwX2 tyX2 tyX2_ok nmX2 hown hK hP hD hS (hR.1 0 (by decide)) rfl rfl 3 (by decide) (hts (.fieldLink RX2 22 "FourTrackDeck" "tapeAt" "I") (by decide +kernel)) (fun _ h9 => h9) rfl (ty := .int) (by decide +kernel) rfl rfl (Nat.le_of_ble_eq_true rfl) dX2_wind_30 (cu1 := ze_X (ze_D cA ad nr len (sp_s σ (0, 0, 0) 2 ((σ (0, 0, 0) 2) + p0))) cM) (ze_up rfl rfl) (fun H locs hP hD hS => ?_)
    refine lv_aload_n hx hb dX2_wind_33 rfl (lv_at hl 0 rfl) ?_
    refine lv_iconst (v := 0) hx hb dX2_wind_34 (by decide) ?_
    refine lv_aload_n hx hb dX2_wind_35 rfl (lv_at hl 0 rfl) ?_
    refine zw_getf (r := (0, 0, 0)) (v := .int ((sp_s σ (0, 0, 0) 2 ((σ (0, 0, 0) 2) + p0)) (0, 0, 0) 2)) (C := RX2) (T := TX2) (N := 15) (ci := 2) hx hb hts hwX2 hown hK hP (hR.1 0 (by decide)) rfl rfl 3 (by decide) (hts (.fieldLink RX2 22 "FourTrackDeck" "tapeAt" "I") (by decide +kernel)) (fun _ h9 => h9) rfl dX2_wind_36 ?_
    refine zw_cV (r := (0, 0, 0)) (As := [.int 0, .int ((sp_s σ (0, 0, 0) 2 ((σ (0, 0, 0) 2) + p0)) (0, 0, 0) 2)]) (rest := []) (st1 := [.int ((sp_s σ (0, 0, 0) 2 ((σ (0, 0, 0) 2) + p0)) (0, 0, 0) 2)]) ⟨hx, hb, hml, hown, hts⟩ (cd_end (σ := (sp_s σ (0, 0, 0) 2 ((σ (0, 0, 0) 2) + p0))) hR 0 ((sp_s σ (0, 0, 0) 2 ((σ (0, 0, 0) 2) + p0)) (0, 0, 0) 2)) (cwV 2 hts gX2_wind_X2_end rfl rfl rfl (by decide +kernel) ⟨Nat.le_of_ble_eq_true rfl, Nat.le_of_ble_eq_true rfl⟩) (hR.1 0 (by decide)) rfl rfl rfl hK hP hD hS hA hN rfl hl.1 rfl (Nat.le_of_ble_eq_true rfl) rfl dX2_wind_39 ⟨Nat.zero_le _, Nat.zero_le _⟩ (fun H locs hP hD hS => ?_)
    exact zw_iret hx hb hr hlk hK hP hD hS dX2_wind_42 (by simp only [sp_wind, if_pos h_1] <;> rfl) (by simp only [sp_wind, if_pos h_1] <;> rfl)
  · refine zw_cS (As := [.int p0, .int (-1000), .int 1000]) (rest := []) (st1 := [.int 0]) ⟨hx, hb, hml, hown, hts⟩ (cd_isWithin_0 p0 (-1000) 1000 h_1) (va_cwS 3 hts gX2_wind_X2_isWithin rfl rfl rfl (by decide +kernel) ⟨Nat.le_of_ble_eq_true rfl, Nat.le_of_ble_eq_true rfl⟩) hK hP hD hS hA hN rfl hl.1 rfl (Nat.le_of_ble_eq_true rfl) rfl dX2_wind_7 ⟨Nat.zero_le _, Nat.zero_le _⟩ (fun H locs hP hD hS => ?_)
    refine lv_if_ne (tgt := 23) hx hb dX2_wind_10 (by decide) (fun c_3 => absurd (by decide) c_3) (fun c_3 => ?_)
    refine lv_aload_n hx hb dX2_wind_13 rfl (lv_at hl 0 rfl) ?_
    refine lv_iconst (v := 1) hx hb dX2_wind_14 (by decide) ?_
    refine lv_aload_n hx hb dX2_wind_15 rfl (lv_at hl 0 rfl) ?_
    refine zw_getf (r := (0, 0, 0)) (v := .int (σ (0, 0, 0) 2)) (C := RX2) (T := TX2) (N := 15) (ci := 2) hx hb hts hwX2 hown hK hP (hR.1 0 (by decide)) rfl rfl 3 (by decide) (hts (.fieldLink RX2 22 "FourTrackDeck" "tapeAt" "I") (by decide +kernel)) (fun _ h9 => h9) rfl dX2_wind_16 ?_
    refine zw_cV (r := (0, 0, 0)) (As := [.int 1, .int (σ (0, 0, 0) 2)]) (rest := []) (st1 := [.int (σ (0, 0, 0) 2)]) ⟨hx, hb, hml, hown, hts⟩ (cd_end (σ := σ) hR 1 (σ (0, 0, 0) 2)) (cwV 2 hts gX2_wind_X2_end rfl rfl rfl (by decide +kernel) ⟨Nat.le_of_ble_eq_true rfl, Nat.le_of_ble_eq_true rfl⟩) (hR.1 0 (by decide)) rfl rfl rfl hK hP hD hS hA hN rfl hl.1 rfl (Nat.le_of_ble_eq_true rfl) rfl dX2_wind_19 ⟨Nat.zero_le _, Nat.zero_le _⟩ (fun H locs hP hD hS => ?_)
    exact zw_iret hx hb hr hlk hK hP hD hS dX2_wind_22 (by simp only [sp_wind, if_neg h_1] <;> rfl) (by simp only [sp_wind, if_neg h_1] <;> rfl)
set_option maxHeartbeats 4000000 in
set_option maxRecDepth 100000 in
theorem cd_read {l : Launch} {dC : Nat → ClassId} {dI : Nat → Nat → Nat} {cA : Nat → ClassId} {ad : zw_R → Nat} {R : List zw_R} {nr : Nat} {len : Nat → Nat} {σ : sp_S} {cM : zw_R → va_E} (hR : ze_R nr R) (hnr : nr ≤ 8) (hlen : ∀ i, i < nr → len i ≤ 64) (p0 : Int32) : zw_M l yX2_read wsX2_read { frames := 3, cells := 0, slots := 0, locals := 65 } (ze_E dC dI cA) [.ref (ad (0, 0, 0)), .int p0] ad R (ze_X (ze_D cA ad nr len σ) cM) (some (.int ((sp_read nr len σ p0).1))) (ze_X (ze_D cA ad nr len (sp_read nr len σ p0).2) cM) := by
  refine zw_body (cc := cX2_read) (maxL := 4) (ret := (some .int)) (by decide) rfl (Nat.le_of_ble_eq_true rfl) ?_
  intro p e s m below meth c A ls hx hb hr hlk hml hts hown hnm hA hK hP hD hS hN hl
  have hl : lv_has ls 4 [(0, .ref (ad (0, 0, 0))), (1, .int p0)] := hl
  have hwX2 : ∀ w ∈ u_ws RX2 TX2 15, w ∈ wsX2_read := by decide +kernel
  refine lv_aload_n hx hb dX2_read_0 rfl (lv_at hl 0 rfl) ?_
  refine lv_aload_n hx hb dX2_read_1 rfl (lv_at hl 0 rfl) ?_
  refine zw_getf (r := (0, 0, 0)) (v := .int (σ (0, 0, 0) 1)) (C := RX2) (T := TX2) (N := 15) (ci := 2) hx hb hts hwX2 hown hK hP (hR.1 0 (by decide)) rfl rfl 2 (by decide) (hts (.fieldLink RX2 19 "FourTrackDeck" "onDeck" "I") (by decide +kernel)) (fun _ h9 => h9) rfl dX2_read_2 ?_
  refine lv_iload_n hx hb dX2_read_5 rfl (lv_at hl 1 rfl) ?_
  rcases Decidable.em (sp_v nr (σ (0, 0, 0) 1) p0) with h_1 | h_1
  · refine zw_cV (r := (0, 0, 0)) (As := [.int (σ (0, 0, 0) 1), .int p0]) (rest := []) (st1 := [.ref (ad (8, (σ (0, 0, 0) 1).toNatClampNeg, p0.toNatClampNeg))]) ⟨hx, hb, hml, hown, hts⟩ (cd_trackOf_1 (σ := σ) hR hnr (σ (0, 0, 0) 1) p0 h_1) (cwV 2 hts gX2_read_X2_trackOf rfl rfl rfl (by decide +kernel) ⟨Nat.le_of_ble_eq_true rfl, Nat.le_of_ble_eq_true rfl⟩) (hR.1 0 (by decide)) rfl rfl rfl hK hP hD hS hA hN rfl hl.1 rfl (Nat.le_of_ble_eq_true rfl) rfl dX2_read_6 ⟨Nat.zero_le _, Nat.zero_le _⟩ (fun H locs hP hD hS => ?_)
    refine lv_astore_n (lv' := [(2, .ref (ad (8, (σ (0, 0, 0) 1).toNatClampNeg, p0.toNatClampNeg))), (0, .ref (ad (0, 0, 0))), (1, .int p0)]) hx hb dX2_read_9 rfl hl (by decide) rfl (fun ls hl => ?_)
    refine lv_aload_n hx hb dX2_read_10 rfl (lv_at hl 0 rfl) ?_
    refine lv_ifnonnull (tgt := 25) hx hb dX2_read_11 (by decide) ?_
    refine lv_aload_n hx hb dX2_read_25 rfl (lv_at hl 1 rfl) ?_
    refine lv_iload_n hx hb dX2_read_26 rfl (lv_at hl 2 rfl) ?_
    refine zw_cV (r := (0, 0, 0)) (As := [.int p0]) (rest := []) (st1 := [.int (σ (0, 0, 0) 2 + σ (2, 0, 0) p0.toNatClampNeg)]) ⟨hx, hb, hml, hown, hts⟩ (cd_place (σ := σ) hR p0 h_1.2) (cwV 1 hts gX2_read_X2_placeOfHead rfl rfl rfl (by decide +kernel) ⟨Nat.le_of_ble_eq_true rfl, Nat.le_of_ble_eq_true rfl⟩) (hR.1 0 (by decide)) rfl rfl rfl hK hP hD hS hA hN rfl hl.1 rfl (Nat.le_of_ble_eq_true rfl) rfl dX2_read_27 ⟨Nat.zero_le _, Nat.zero_le _⟩ (fun H locs hP hD hS => ?_)
    refine lv_istore_n (lv' := [(3, .int (σ (0, 0, 0) 2 + σ (2, 0, 0) p0.toNatClampNeg)), (2, .ref (ad (8, (σ (0, 0, 0) 1).toNatClampNeg, p0.toNatClampNeg))), (0, .ref (ad (0, 0, 0))), (1, .int p0)]) hx hb dX2_read_30 rfl hl (by decide) rfl (fun ls hl => ?_)
    refine lv_aload_n hx hb dX2_read_31 rfl (lv_at hl 2 rfl) ?_
    refine lv_aload_n hx hb dX2_read_32 rfl (lv_at hl 1 rfl) ?_
    refine lv_iload_n hx hb dX2_read_33 rfl (lv_at hl 0 rfl) ?_
    refine zw_cVN (r := (8, (σ (0, 0, 0) 1).toNatClampNeg, p0.toNatClampNeg)) (As := [.int (σ (0, 0, 0) 2 + σ (2, 0, 0) p0.toNatClampNeg)]) (rest := [.ref (ad (0, 0, 0))]) (st1 := [.int (sp_f len σ (σ (0, 0, 0) 1).toNatClampNeg p0.toNatClampNeg (σ (0, 0, 0) 2 + σ (2, 0, 0) p0.toNatClampNeg)), .ref (ad (0, 0, 0))]) ⟨hx, hb, hml, hown, hts⟩ (cd_faultAt (σ := σ) hR (σ (0, 0, 0) 1).toNatClampNeg p0.toNatClampNeg (ze_vr h_1.1 hnr) (ze_vt h_1.2) (σ (0, 0, 0) 2 + σ (2, 0, 0) p0.toNatClampNeg)) ⟨va_cnB (host := "FourTrackDeck") 1 hts gX2_read_X1_faultAt_n98 rfl rfl rfl (hN.2.1 ("FourTrackDeck", 98, yX1_faultAt, "FourTrackDeck") (by decide +kernel)) (hts (.initialized RX1) (by decide +kernel)) (by decide +kernel) ⟨Nat.le_of_ble_eq_true rfl, Nat.le_of_ble_eq_true rfl⟩, hts (.instanceMethod yX1_faultAt) (by decide +kernel), hts (.selects RX1 yX1_faultAt yX1_faultAt) (by decide +kernel)⟩ ((hR.2 (σ (0, 0, 0) 1).toNatClampNeg (ze_vr h_1.1 hnr)).2.2 p0.toNatClampNeg (ze_vt h_1.2)).1 rfl rfl rfl hK hP hD hS hA hN rfl hl.1 rfl (Nat.le_of_ble_eq_true rfl) rfl dX2_read_34 ⟨Nat.zero_le _, Nat.zero_le _⟩ (fun H locs hP hD hS => ?_)
    refine lv_aload_n hx hb dX2_read_37 rfl (lv_at hl 1 rfl) ?_
    refine lv_iload_n hx hb dX2_read_38 rfl (lv_at hl 0 rfl) ?_
    refine zw_cVN (r := (8, (σ (0, 0, 0) 1).toNatClampNeg, p0.toNatClampNeg)) (As := [.int (σ (0, 0, 0) 2 + σ (2, 0, 0) p0.toNatClampNeg)]) (rest := [.int (sp_f len σ (σ (0, 0, 0) 1).toNatClampNeg p0.toNatClampNeg (σ (0, 0, 0) 2 + σ (2, 0, 0) p0.toNatClampNeg)), .ref (ad (0, 0, 0))]) (st1 := [.int (sp_n len σ (σ (0, 0, 0) 1).toNatClampNeg p0.toNatClampNeg (σ (0, 0, 0) 2 + σ (2, 0, 0) p0.toNatClampNeg)), .int (sp_f len σ (σ (0, 0, 0) 1).toNatClampNeg p0.toNatClampNeg (σ (0, 0, 0) 2 + σ (2, 0, 0) p0.toNatClampNeg)), .ref (ad (0, 0, 0))]) ⟨hx, hb, hml, hown, hts⟩ (cd_numberAt (σ := σ) hR (σ (0, 0, 0) 1).toNatClampNeg p0.toNatClampNeg (ze_vr h_1.1 hnr) (ze_vt h_1.2) (hlen _ (ze_vr h_1.1 hnr)) (σ (0, 0, 0) 2 + σ (2, 0, 0) p0.toNatClampNeg)) ⟨va_cnB (host := "FourTrackDeck") 1 hts gX2_read_X1_numberAt_n101 rfl rfl rfl (hN.2.1 ("FourTrackDeck", 101, yX1_numberAt, "FourTrackDeck") (by decide +kernel)) (hts (.initialized RX1) (by decide +kernel)) (by decide +kernel) ⟨Nat.le_of_ble_eq_true rfl, Nat.le_of_ble_eq_true rfl⟩, hts (.instanceMethod yX1_numberAt) (by decide +kernel), hts (.selects RX1 yX1_numberAt yX1_numberAt) (by decide +kernel)⟩ ((hR.2 (σ (0, 0, 0) 1).toNatClampNeg (ze_vr h_1.1 hnr)).2.2 p0.toNatClampNeg (ze_vt h_1.2)).1 rfl rfl rfl hK hP hD hS hA hN rfl hl.1 rfl (Nat.le_of_ble_eq_true rfl) rfl dX2_read_39 ⟨Nat.zero_le _, Nat.zero_le _⟩ (fun H locs hP hD hS => ?_)
    refine zw_cV (r := (0, 0, 0)) (As := [.int (sp_f len σ (σ (0, 0, 0) 1).toNatClampNeg p0.toNatClampNeg (σ (0, 0, 0) 2 + σ (2, 0, 0) p0.toNatClampNeg)), .int (sp_n len σ (σ (0, 0, 0) 1).toNatClampNeg p0.toNatClampNeg (σ (0, 0, 0) 2 + σ (2, 0, 0) p0.toNatClampNeg))]) (rest := []) (st1 := [.int (sp_n len σ (σ (0, 0, 0) 1).toNatClampNeg p0.toNatClampNeg (σ (0, 0, 0) 2 + σ (2, 0, 0) p0.toNatClampNeg))]) ⟨hx, hb, hml, hown, hts⟩ (cd_end (σ := σ) hR (sp_f len σ (σ (0, 0, 0) 1).toNatClampNeg p0.toNatClampNeg (σ (0, 0, 0) 2 + σ (2, 0, 0) p0.toNatClampNeg)) (sp_n len σ (σ (0, 0, 0) 1).toNatClampNeg p0.toNatClampNeg (σ (0, 0, 0) 2 + σ (2, 0, 0) p0.toNatClampNeg))) (cwV 2 hts gX2_read_X2_end rfl rfl rfl (by decide +kernel) ⟨Nat.le_of_ble_eq_true rfl, Nat.le_of_ble_eq_true rfl⟩) (hR.1 0 (by decide)) rfl rfl rfl hK hP hD hS hA hN rfl hl.1 rfl (Nat.le_of_ble_eq_true rfl) rfl dX2_read_42 ⟨Nat.zero_le _, Nat.zero_le _⟩ (fun H locs hP hD hS => ?_)
    exact zw_iret hx hb hr hlk hK hP hD hS dX2_read_45 (by simp only [sp_read, if_pos h_1] <;> rfl) (by simp only [sp_read, if_pos h_1] <;> rfl)
  · refine zw_cV (r := (0, 0, 0)) (As := [.int (σ (0, 0, 0) 1), .int p0]) (rest := []) (st1 := [.null]) ⟨hx, hb, hml, hown, hts⟩ (cd_trackOf_0 (σ := σ) hR hnr (σ (0, 0, 0) 1) p0 h_1) (cwV 2 hts gX2_read_X2_trackOf rfl rfl rfl (by decide +kernel) ⟨Nat.le_of_ble_eq_true rfl, Nat.le_of_ble_eq_true rfl⟩) (hR.1 0 (by decide)) rfl rfl rfl hK hP hD hS hA hN rfl hl.1 rfl (Nat.le_of_ble_eq_true rfl) rfl dX2_read_6 ⟨Nat.zero_le _, Nat.zero_le _⟩ (fun H locs hP hD hS => ?_)
    refine lv_astore_nN (lv' := [(2, .null), (0, .ref (ad (0, 0, 0))), (1, .int p0)]) hx hb dX2_read_9 rfl hl (by decide) rfl (fun ls hl => ?_)
    refine lv_aload_nN hx hb dX2_read_10 rfl (lv_at hl 0 rfl) ?_
    refine lv_ifnonnullN hx hb dX2_read_11 ?_
    refine lv_aload_n hx hb dX2_read_14 rfl (lv_at hl 1 rfl) ?_
    refine lv_aload_n hx hb dX2_read_15 rfl (lv_at hl 1 rfl) ?_
    refine lv_iload_n hx hb dX2_read_16 rfl (lv_at hl 2 rfl) ?_
    refine zw_cV (r := (0, 0, 0)) (As := [.int p0]) (rest := [.ref (ad (0, 0, 0))]) (st1 := [.int (if sp_t p0 then 5 else 1), .ref (ad (0, 0, 0))]) ⟨hx, hb, hml, hown, hts⟩ (cd_why (σ := σ) hR p0) (cwV 1 hts gX2_read_X2_whyNoneUnderHead rfl rfl rfl (by decide +kernel) ⟨Nat.le_of_ble_eq_true rfl, Nat.le_of_ble_eq_true rfl⟩) (hR.1 0 (by decide)) rfl rfl rfl hK hP hD hS hA hN rfl hl.1 rfl (Nat.le_of_ble_eq_true rfl) rfl dX2_read_17 ⟨Nat.zero_le _, Nat.zero_le _⟩ (fun H locs hP hD hS => ?_)
    refine lv_iconst (v := 0) hx hb dX2_read_20 (by decide) ?_
    refine zw_cV (r := (0, 0, 0)) (As := [.int (if sp_t p0 then 5 else 1), .int 0]) (rest := []) (st1 := [.int 0]) ⟨hx, hb, hml, hown, hts⟩ (cd_end (σ := σ) hR (if sp_t p0 then 5 else 1) 0) (cwV 2 hts gX2_read_X2_end rfl rfl rfl (by decide +kernel) ⟨Nat.le_of_ble_eq_true rfl, Nat.le_of_ble_eq_true rfl⟩) (hR.1 0 (by decide)) rfl rfl rfl hK hP hD hS hA hN rfl hl.1 rfl (Nat.le_of_ble_eq_true rfl) rfl dX2_read_21 ⟨Nat.zero_le _, Nat.zero_le _⟩ (fun H locs hP hD hS => ?_)
    exact zw_iret hx hb hr hlk hK hP hD hS dX2_read_24 (by simp only [sp_read, if_neg h_1] <;> rfl) (by simp only [sp_read, if_neg h_1] <;> rfl)
set_option maxHeartbeats 4000000 in
set_option maxRecDepth 100000 in
theorem cd_write {l : Launch} {dC : Nat → ClassId} {dI : Nat → Nat → Nat} {cA : Nat → ClassId} {ad : zw_R → Nat} {R : List zw_R} {nr : Nat} {len : Nat → Nat} {σ : sp_S} {cM : zw_R → va_E} (hR : ze_R nr R) (hnr : nr ≤ 8) (hlen : ∀ i, i < nr → len i ≤ 64) (p0 p1 : Int32) : zw_M l yX2_write wsX2_write { frames := 3, cells := 0, slots := 0, locals := 65 } (ze_E dC dI cA) [.ref (ad (0, 0, 0)), .int p0, .int p1] ad R (ze_X (ze_D cA ad nr len σ) cM) (some (.int ((sp_write nr len σ p0 p1).1))) (ze_X (ze_D cA ad nr len (sp_write nr len σ p0 p1).2) cM) := by
  refine zw_body (cc := cX2_write) (maxL := 5) (ret := (some .int)) (by decide) rfl (Nat.le_of_ble_eq_true rfl) ?_
  intro p e s m below meth c A ls hx hb hr hlk hml hts hown hnm hA hK hP hD hS hN hl
  have hl : lv_has ls 5 [(0, .ref (ad (0, 0, 0))), (1, .int p0), (2, .int p1)] := hl
  have hwX2 : ∀ w ∈ u_ws RX2 TX2 15, w ∈ wsX2_write := by decide +kernel
  refine lv_aload_n hx hb dX2_write_0 rfl (lv_at hl 0 rfl) ?_
  refine lv_aload_n hx hb dX2_write_1 rfl (lv_at hl 0 rfl) ?_
  refine zw_getf (r := (0, 0, 0)) (v := .int (σ (0, 0, 0) 1)) (C := RX2) (T := TX2) (N := 15) (ci := 2) hx hb hts hwX2 hown hK hP (hR.1 0 (by decide)) rfl rfl 2 (by decide) (hts (.fieldLink RX2 19 "FourTrackDeck" "onDeck" "I") (by decide +kernel)) (fun _ h9 => h9) rfl dX2_write_2 ?_
  refine lv_iload_n hx hb dX2_write_5 rfl (lv_at hl 1 rfl) ?_
  rcases Decidable.em (sp_v nr (σ (0, 0, 0) 1) p0) with h_1 | h_1
  · refine zw_cV (r := (0, 0, 0)) (As := [.int (σ (0, 0, 0) 1), .int p0]) (rest := []) (st1 := [.ref (ad (8, (σ (0, 0, 0) 1).toNatClampNeg, p0.toNatClampNeg))]) ⟨hx, hb, hml, hown, hts⟩ (cd_trackOf_1 (σ := σ) hR hnr (σ (0, 0, 0) 1) p0 h_1) (cwV 2 hts gX2_write_X2_trackOf rfl rfl rfl (by decide +kernel) ⟨Nat.le_of_ble_eq_true rfl, Nat.le_of_ble_eq_true rfl⟩) (hR.1 0 (by decide)) rfl rfl rfl hK hP hD hS hA hN rfl hl.1 rfl (Nat.le_of_ble_eq_true rfl) rfl dX2_write_6 ⟨Nat.zero_le _, Nat.zero_le _⟩ (fun H locs hP hD hS => ?_)
    refine lv_astore_n (lv' := [(3, .ref (ad (8, (σ (0, 0, 0) 1).toNatClampNeg, p0.toNatClampNeg))), (0, .ref (ad (0, 0, 0))), (1, .int p0), (2, .int p1)]) hx hb dX2_write_9 rfl hl (by decide) rfl (fun ls hl => ?_)
    refine lv_aload_n hx hb dX2_write_10 rfl (lv_at hl 0 rfl) ?_
    refine lv_ifnonnull (tgt := 25) hx hb dX2_write_11 (by decide) ?_
    refine lv_aload_n hx hb dX2_write_25 rfl (lv_at hl 1 rfl) ?_
    refine lv_iload_n hx hb dX2_write_26 rfl (lv_at hl 2 rfl) ?_
    refine zw_cV (r := (0, 0, 0)) (As := [.int p0]) (rest := []) (st1 := [.int (σ (0, 0, 0) 2 + σ (2, 0, 0) p0.toNatClampNeg)]) ⟨hx, hb, hml, hown, hts⟩ (cd_place (σ := σ) hR p0 h_1.2) (cwV 1 hts gX2_write_X2_placeOfHead rfl rfl rfl (by decide +kernel) ⟨Nat.le_of_ble_eq_true rfl, Nat.le_of_ble_eq_true rfl⟩) (hR.1 0 (by decide)) rfl rfl rfl hK hP hD hS hA hN rfl hl.1 rfl (Nat.le_of_ble_eq_true rfl) rfl dX2_write_27 ⟨Nat.zero_le _, Nat.zero_le _⟩ (fun H locs hP hD hS => ?_)
    refine lv_istore (lv' := [(4, .int (σ (0, 0, 0) 2 + σ (2, 0, 0) p0.toNatClampNeg)), (3, .ref (ad (8, (σ (0, 0, 0) 1).toNatClampNeg, p0.toNatClampNeg))), (0, .ref (ad (0, 0, 0))), (1, .int p0), (2, .int p1)]) hx hb dX2_write_30 hl (by decide) rfl (fun ls hl => ?_)
    refine lv_aload_n hx hb dX2_write_32 rfl (lv_at hl 1 rfl) ?_
    refine lv_iload hx hb dX2_write_33 (lv_at hl 0 rfl) ?_
    refine lv_iload_n hx hb dX2_write_35 rfl (lv_at hl 4 rfl) ?_
    refine zw_cVN (r := (8, (σ (0, 0, 0) 1).toNatClampNeg, p0.toNatClampNeg)) (As := [.int (σ (0, 0, 0) 2 + σ (2, 0, 0) p0.toNatClampNeg), .int p1]) (rest := []) (st1 := []) ⟨hx, hb, hml, hown, hts⟩ (cd_put (σ := σ) hR (σ (0, 0, 0) 1).toNatClampNeg p0.toNatClampNeg (ze_vr h_1.1 hnr) (ze_vt h_1.2) (hlen _ (ze_vr h_1.1 hnr)) (σ (0, 0, 0) 2 + σ (2, 0, 0) p0.toNatClampNeg) p1) ⟨va_cnB (host := "FourTrackDeck") 2 hts gX2_write_X1_put_n104 rfl rfl rfl (hN.2.1 ("FourTrackDeck", 104, yX1_put, "FourTrackDeck") (by decide +kernel)) (hts (.initialized RX1) (by decide +kernel)) (by decide +kernel) ⟨Nat.le_of_ble_eq_true rfl, Nat.le_of_ble_eq_true rfl⟩, hts (.instanceMethod yX1_put) (by decide +kernel), hts (.selects RX1 yX1_put yX1_put) (by decide +kernel)⟩ ((hR.2 (σ (0, 0, 0) 1).toNatClampNeg (ze_vr h_1.1 hnr)).2.2 p0.toNatClampNeg (ze_vt h_1.2)).1 rfl rfl rfl hK hP hD hS hA hN rfl hl.1 rfl (Nat.le_of_ble_eq_true rfl) rfl dX2_write_36 ⟨Nat.zero_le _, Nat.zero_le _⟩ (fun H locs hP hD hS => ?_)
    refine lv_aload_n hx hb dX2_write_39 rfl (lv_at hl 2 rfl) ?_
    refine lv_aload_n hx hb dX2_write_40 rfl (lv_at hl 1 rfl) ?_
    refine lv_iload hx hb dX2_write_41 (lv_at hl 0 rfl) ?_
    refine zw_cVN (r := (8, (σ (0, 0, 0) 1).toNatClampNeg, p0.toNatClampNeg)) (As := [.int (σ (0, 0, 0) 2 + σ (2, 0, 0) p0.toNatClampNeg)]) (rest := [.ref (ad (0, 0, 0))]) (st1 := [.int (sp_f len (sp_put len σ (σ (0, 0, 0) 1).toNatClampNeg p0.toNatClampNeg (σ (0, 0, 0) 2 + σ (2, 0, 0) p0.toNatClampNeg) p1) (σ (0, 0, 0) 1).toNatClampNeg p0.toNatClampNeg (σ (0, 0, 0) 2 + σ (2, 0, 0) p0.toNatClampNeg)), .ref (ad (0, 0, 0))]) ⟨hx, hb, hml, hown, hts⟩ (cd_faultAt (σ := (sp_put len σ (σ (0, 0, 0) 1).toNatClampNeg p0.toNatClampNeg (σ (0, 0, 0) 2 + σ (2, 0, 0) p0.toNatClampNeg) p1)) hR (σ (0, 0, 0) 1).toNatClampNeg p0.toNatClampNeg (ze_vr h_1.1 hnr) (ze_vt h_1.2) (σ (0, 0, 0) 2 + σ (2, 0, 0) p0.toNatClampNeg)) ⟨va_cnB (host := "FourTrackDeck") 1 hts gX2_write_X1_faultAt_n98 rfl rfl rfl (hN.2.1 ("FourTrackDeck", 98, yX1_faultAt, "FourTrackDeck") (by decide +kernel)) (hts (.initialized RX1) (by decide +kernel)) (by decide +kernel) ⟨Nat.le_of_ble_eq_true rfl, Nat.le_of_ble_eq_true rfl⟩, hts (.instanceMethod yX1_faultAt) (by decide +kernel), hts (.selects RX1 yX1_faultAt yX1_faultAt) (by decide +kernel)⟩ ((hR.2 (σ (0, 0, 0) 1).toNatClampNeg (ze_vr h_1.1 hnr)).2.2 p0.toNatClampNeg (ze_vt h_1.2)).1 rfl rfl rfl hK hP hD hS hA hN rfl hl.1 rfl (Nat.le_of_ble_eq_true rfl) rfl dX2_write_43 ⟨Nat.zero_le _, Nat.zero_le _⟩ (fun H locs hP hD hS => ?_)
    refine lv_aload_n hx hb dX2_write_46 rfl (lv_at hl 1 rfl) ?_
    refine lv_iload hx hb dX2_write_47 (lv_at hl 0 rfl) ?_
    refine zw_cVN (r := (8, (σ (0, 0, 0) 1).toNatClampNeg, p0.toNatClampNeg)) (As := [.int (σ (0, 0, 0) 2 + σ (2, 0, 0) p0.toNatClampNeg)]) (rest := [.int (sp_f len (sp_put len σ (σ (0, 0, 0) 1).toNatClampNeg p0.toNatClampNeg (σ (0, 0, 0) 2 + σ (2, 0, 0) p0.toNatClampNeg) p1) (σ (0, 0, 0) 1).toNatClampNeg p0.toNatClampNeg (σ (0, 0, 0) 2 + σ (2, 0, 0) p0.toNatClampNeg)), .ref (ad (0, 0, 0))]) (st1 := [.int (sp_n len (sp_put len σ (σ (0, 0, 0) 1).toNatClampNeg p0.toNatClampNeg (σ (0, 0, 0) 2 + σ (2, 0, 0) p0.toNatClampNeg) p1) (σ (0, 0, 0) 1).toNatClampNeg p0.toNatClampNeg (σ (0, 0, 0) 2 + σ (2, 0, 0) p0.toNatClampNeg)), .int (sp_f len (sp_put len σ (σ (0, 0, 0) 1).toNatClampNeg p0.toNatClampNeg (σ (0, 0, 0) 2 + σ (2, 0, 0) p0.toNatClampNeg) p1) (σ (0, 0, 0) 1).toNatClampNeg p0.toNatClampNeg (σ (0, 0, 0) 2 + σ (2, 0, 0) p0.toNatClampNeg)), .ref (ad (0, 0, 0))]) ⟨hx, hb, hml, hown, hts⟩ (cd_numberAt (σ := (sp_put len σ (σ (0, 0, 0) 1).toNatClampNeg p0.toNatClampNeg (σ (0, 0, 0) 2 + σ (2, 0, 0) p0.toNatClampNeg) p1)) hR (σ (0, 0, 0) 1).toNatClampNeg p0.toNatClampNeg (ze_vr h_1.1 hnr) (ze_vt h_1.2) (hlen _ (ze_vr h_1.1 hnr)) (σ (0, 0, 0) 2 + σ (2, 0, 0) p0.toNatClampNeg)) ⟨va_cnB (host := "FourTrackDeck") 1 hts gX2_write_X1_numberAt_n101 rfl rfl rfl (hN.2.1 ("FourTrackDeck", 101, yX1_numberAt, "FourTrackDeck") (by decide +kernel)) (hts (.initialized RX1) (by decide +kernel)) (by decide +kernel) ⟨Nat.le_of_ble_eq_true rfl, Nat.le_of_ble_eq_true rfl⟩, hts (.instanceMethod yX1_numberAt) (by decide +kernel), hts (.selects RX1 yX1_numberAt yX1_numberAt) (by decide +kernel)⟩ ((hR.2 (σ (0, 0, 0) 1).toNatClampNeg (ze_vr h_1.1 hnr)).2.2 p0.toNatClampNeg (ze_vt h_1.2)).1 rfl rfl rfl hK hP hD hS hA hN rfl hl.1 rfl (Nat.le_of_ble_eq_true rfl) rfl dX2_write_49 ⟨Nat.zero_le _, Nat.zero_le _⟩ (fun H locs hP hD hS => ?_)
    refine zw_cV (r := (0, 0, 0)) (As := [.int (sp_f len (sp_put len σ (σ (0, 0, 0) 1).toNatClampNeg p0.toNatClampNeg (σ (0, 0, 0) 2 + σ (2, 0, 0) p0.toNatClampNeg) p1) (σ (0, 0, 0) 1).toNatClampNeg p0.toNatClampNeg (σ (0, 0, 0) 2 + σ (2, 0, 0) p0.toNatClampNeg)), .int (sp_n len (sp_put len σ (σ (0, 0, 0) 1).toNatClampNeg p0.toNatClampNeg (σ (0, 0, 0) 2 + σ (2, 0, 0) p0.toNatClampNeg) p1) (σ (0, 0, 0) 1).toNatClampNeg p0.toNatClampNeg (σ (0, 0, 0) 2 + σ (2, 0, 0) p0.toNatClampNeg))]) (rest := []) (st1 := [.int (sp_n len (sp_put len σ (σ (0, 0, 0) 1).toNatClampNeg p0.toNatClampNeg (σ (0, 0, 0) 2 + σ (2, 0, 0) p0.toNatClampNeg) p1) (σ (0, 0, 0) 1).toNatClampNeg p0.toNatClampNeg (σ (0, 0, 0) 2 + σ (2, 0, 0) p0.toNatClampNeg))]) ⟨hx, hb, hml, hown, hts⟩ (cd_end (σ := (sp_put len σ (σ (0, 0, 0) 1).toNatClampNeg p0.toNatClampNeg (σ (0, 0, 0) 2 + σ (2, 0, 0) p0.toNatClampNeg) p1)) hR (sp_f len (sp_put len σ (σ (0, 0, 0) 1).toNatClampNeg p0.toNatClampNeg (σ (0, 0, 0) 2 + σ (2, 0, 0) p0.toNatClampNeg) p1) (σ (0, 0, 0) 1).toNatClampNeg p0.toNatClampNeg (σ (0, 0, 0) 2 + σ (2, 0, 0) p0.toNatClampNeg)) (sp_n len (sp_put len σ (σ (0, 0, 0) 1).toNatClampNeg p0.toNatClampNeg (σ (0, 0, 0) 2 + σ (2, 0, 0) p0.toNatClampNeg) p1) (σ (0, 0, 0) 1).toNatClampNeg p0.toNatClampNeg (σ (0, 0, 0) 2 + σ (2, 0, 0) p0.toNatClampNeg))) (cwV 2 hts gX2_write_X2_end rfl rfl rfl (by decide +kernel) ⟨Nat.le_of_ble_eq_true rfl, Nat.le_of_ble_eq_true rfl⟩) (hR.1 0 (by decide)) rfl rfl rfl hK hP hD hS hA hN rfl hl.1 rfl (Nat.le_of_ble_eq_true rfl) rfl dX2_write_52 ⟨Nat.zero_le _, Nat.zero_le _⟩ (fun H locs hP hD hS => ?_)
    exact zw_iret hx hb hr hlk hK hP hD hS dX2_write_55 (by simp only [sp_write, if_pos h_1] <;> rfl) (by simp only [sp_write, if_pos h_1] <;> rfl)
  · refine zw_cV (r := (0, 0, 0)) (As := [.int (σ (0, 0, 0) 1), .int p0]) (rest := []) (st1 := [.null]) ⟨hx, hb, hml, hown, hts⟩ (cd_trackOf_0 (σ := σ) hR hnr (σ (0, 0, 0) 1) p0 h_1) (cwV 2 hts gX2_write_X2_trackOf rfl rfl rfl (by decide +kernel) ⟨Nat.le_of_ble_eq_true rfl, Nat.le_of_ble_eq_true rfl⟩) (hR.1 0 (by decide)) rfl rfl rfl hK hP hD hS hA hN rfl hl.1 rfl (Nat.le_of_ble_eq_true rfl) rfl dX2_write_6 ⟨Nat.zero_le _, Nat.zero_le _⟩ (fun H locs hP hD hS => ?_)
    refine lv_astore_nN (lv' := [(3, .null), (0, .ref (ad (0, 0, 0))), (1, .int p0), (2, .int p1)]) hx hb dX2_write_9 rfl hl (by decide) rfl (fun ls hl => ?_)
    refine lv_aload_nN hx hb dX2_write_10 rfl (lv_at hl 0 rfl) ?_
    refine lv_ifnonnullN hx hb dX2_write_11 ?_
    refine lv_aload_n hx hb dX2_write_14 rfl (lv_at hl 1 rfl) ?_
    refine lv_aload_n hx hb dX2_write_15 rfl (lv_at hl 1 rfl) ?_
    refine lv_iload_n hx hb dX2_write_16 rfl (lv_at hl 2 rfl) ?_
    refine zw_cV (r := (0, 0, 0)) (As := [.int p0]) (rest := [.ref (ad (0, 0, 0))]) (st1 := [.int (if sp_t p0 then 5 else 1), .ref (ad (0, 0, 0))]) ⟨hx, hb, hml, hown, hts⟩ (cd_why (σ := σ) hR p0) (cwV 1 hts gX2_write_X2_whyNoneUnderHead rfl rfl rfl (by decide +kernel) ⟨Nat.le_of_ble_eq_true rfl, Nat.le_of_ble_eq_true rfl⟩) (hR.1 0 (by decide)) rfl rfl rfl hK hP hD hS hA hN rfl hl.1 rfl (Nat.le_of_ble_eq_true rfl) rfl dX2_write_17 ⟨Nat.zero_le _, Nat.zero_le _⟩ (fun H locs hP hD hS => ?_)
    refine lv_iconst (v := 0) hx hb dX2_write_20 (by decide) ?_
    refine zw_cV (r := (0, 0, 0)) (As := [.int (if sp_t p0 then 5 else 1), .int 0]) (rest := []) (st1 := [.int 0]) ⟨hx, hb, hml, hown, hts⟩ (cd_end (σ := σ) hR (if sp_t p0 then 5 else 1) 0) (cwV 2 hts gX2_write_X2_end rfl rfl rfl (by decide +kernel) ⟨Nat.le_of_ble_eq_true rfl, Nat.le_of_ble_eq_true rfl⟩) (hR.1 0 (by decide)) rfl rfl rfl hK hP hD hS hA hN rfl hl.1 rfl (Nat.le_of_ble_eq_true rfl) rfl dX2_write_21 ⟨Nat.zero_le _, Nat.zero_le _⟩ (fun H locs hP hD hS => ?_)
    exact zw_iret hx hb hr hlk hK hP hD hS dX2_write_24 (by simp only [sp_write, if_neg h_1] <;> rfl) (by simp only [sp_write, if_neg h_1] <;> rfl)
set_option maxHeartbeats 4000000 in
set_option maxRecDepth 100000 in
theorem cd_cue {l : Launch} {dC : Nat → ClassId} {dI : Nat → Nat → Nat} {cA : Nat → ClassId} {ad : zw_R → Nat} {R : List zw_R} {nr : Nat} {len : Nat → Nat} {σ : sp_S} {cM : zw_R → va_E} (hR : ze_R nr R) (h5 : σ (0, 0, 0) 5 ≤ 16) (h6 : σ (0, 0, 0) 6 ≤ 16) (p0 p1 p2 : Int32) : zw_M l yX2_cue wsX2_cue { frames := 1, cells := 0, slots := 0, locals := 23 } (ze_E dC dI cA) [.ref (ad (0, 0, 0)), .int p0, .int p1, .int p2] ad R (ze_X (ze_D cA ad nr len σ) cM) (some (.int ((sp_cue nr len σ p0 p1 p2).1))) (ze_X (ze_D cA ad nr len (sp_cue nr len σ p0 p1 p2).2) cM) := by
  refine zw_body (cc := cX2_cue) (maxL := 7) (ret := (some .int)) (by decide) rfl (Nat.le_of_ble_eq_true rfl) ?_
  intro p e s m below meth c A ls hx hb hr hlk hml hts hown hnm hA hK hP hD hS hN hl
  have hl : lv_has ls 7 [(0, .ref (ad (0, 0, 0))), (1, .int p0), (2, .int p1), (3, .int p2)] := hl
  have hwX2 : ∀ w ∈ u_ws RX2 TX2 15, w ∈ wsX2_cue := by decide +kernel
  refine lv_aload_n hx hb dX2_cue_0 rfl (lv_at hl 0 rfl) ?_
  refine lv_iload_n hx hb dX2_cue_1 rfl (lv_at hl 1 rfl) ?_
  refine lv_iload_n hx hb dX2_cue_2 rfl (lv_at hl 2 rfl) ?_
  refine zw_cV (r := (0, 0, 0)) (As := [.int p0, .int p1]) (rest := []) (st1 := [.int (sp_c σ p0 p1)]) ⟨hx, hb, hml, hown, hts⟩ (cd_faultOfCell (σ := σ) hR p0 p1) (cwV 2 hts gX2_cue_X2_faultOfCell rfl rfl rfl (by decide +kernel) ⟨Nat.le_of_ble_eq_true rfl, Nat.le_of_ble_eq_true rfl⟩) (hR.1 0 (by decide)) rfl rfl rfl hK hP hD hS hA hN rfl hl.1 rfl (Nat.le_of_ble_eq_true rfl) rfl dX2_cue_3 ⟨Nat.zero_le _, Nat.zero_le _⟩ (fun H locs hP hD hS => ?_)
  refine lv_istore (lv' := [(4, .int (sp_c σ p0 p1)), (0, .ref (ad (0, 0, 0))), (1, .int p0), (2, .int p1), (3, .int p2)]) hx hb dX2_cue_6 hl (by decide) rfl (fun ls hl => ?_)
  refine lv_iload hx hb dX2_cue_8 (lv_at hl 0 rfl) ?_
  refine lv_if_eq (tgt := 21) hx hb dX2_cue_10 (by decide) (fun c_1 => ?_) (fun c_1 => ?_)
  · refine lv_iload_n hx hb dX2_cue_21 rfl (lv_at hl 2 rfl) ?_
    refine lv_iload_n hx hb dX2_cue_22 rfl (lv_at hl 3 rfl) ?_
    refine zw_cS (As := [.int p0, .int p1]) (rest := []) (st1 := [.int (p0 * 16 + p1)]) ⟨hx, hb, hml, hown, hts⟩ (cd_indexOfCell p0 p1) (va_cwS 2 hts gX2_cue_X2_indexOfCell rfl rfl rfl (by decide +kernel) ⟨Nat.le_of_ble_eq_true rfl, Nat.le_of_ble_eq_true rfl⟩) hK hP hD hS hA hN rfl hl.1 rfl (Nat.le_of_ble_eq_true rfl) rfl dX2_cue_23 ⟨Nat.zero_le _, Nat.zero_le _⟩ (fun H locs hP hD hS => ?_)
    refine lv_istore (lv' := [(5, .int (p0 * 16 + p1)), (4, .int (sp_c σ p0 p1)), (0, .ref (ad (0, 0, 0))), (1, .int p0), (2, .int p1), (3, .int p2)]) hx hb dX2_cue_26 hl (by decide) rfl (fun ls hl => ?_)
    refine lv_aload_n hx hb dX2_cue_28 rfl (lv_at hl 2 rfl) ?_
    refine zw_getf (r := (0, 0, 0)) (v := .ref (ad (5, 0, 0))) (C := RX2) (T := TX2) (N := 15) (ci := 2) hx hb hts hwX2 hown hK hP (hR.1 0 (by decide)) rfl rfl 9 (by decide) (hts (.fieldLink RX2 41 "FourTrackDeck" "cells" "[I") (by decide +kernel)) (fun _ h9 => h9) rfl dX2_cue_29 ?_
    refine lv_iload hx hb dX2_cue_32 (lv_at hl 0 rfl) ?_
    refine zw_iald (r := (5, 0, 0)) hx hb hK hP (hR.1 5 (by decide)) 0 rfl rfl (ze_ci c_1 h5 h6) dX2_cue_34 ?_
    refine lv_istore (lv' := [(6, .int (σ (5, 0, 0) (p0 * 16 + p1).toNatClampNeg)), (5, .int (p0 * 16 + p1)), (4, .int (sp_c σ p0 p1)), (0, .ref (ad (0, 0, 0))), (1, .int p0), (2, .int p1), (3, .int p2)]) hx hb dX2_cue_35 hl (by decide) rfl (fun ls hl => ?_)
    refine lv_aload_n hx hb dX2_cue_37 rfl (lv_at hl 3 rfl) ?_
    refine zw_getf (r := (0, 0, 0)) (v := .ref (ad (5, 0, 0))) (C := RX2) (T := TX2) (N := 15) (ci := 2) hx hb hts hwX2 hown hK hP (hR.1 0 (by decide)) rfl rfl 9 (by decide) (hts (.fieldLink RX2 41 "FourTrackDeck" "cells" "[I") (by decide +kernel)) (fun _ h9 => h9) rfl dX2_cue_38 ?_
    refine lv_iload hx hb dX2_cue_41 (lv_at hl 1 rfl) ?_
    refine lv_iload_n hx hb dX2_cue_43 rfl (lv_at hl 6 rfl) ?_
    refine zw_iast (r := (5, 0, 0)) hx hb hK hP hD hS (hR.1 5 (by decide)) 0 rfl rfl (ze_ci c_1 h5 h6) dX2_cue_44 (cu1 := ze_X (ze_D cA ad nr len (sp_s σ (5, 0, 0) (p0 * 16 + p1).toNatClampNeg p2)) cM) (ze_up rfl rfl) (fun H locs hP hD hS => ?_)
    refine lv_aload_n hx hb dX2_cue_45 rfl (lv_at hl 3 rfl) ?_
    refine lv_iconst (v := 0) hx hb dX2_cue_46 (by decide) ?_
    refine lv_iload hx hb dX2_cue_47 (lv_at hl 0 rfl) ?_
    refine zw_cV (r := (0, 0, 0)) (As := [.int 0, .int (σ (5, 0, 0) (p0 * 16 + p1).toNatClampNeg)]) (rest := []) (st1 := [.int (σ (5, 0, 0) (p0 * 16 + p1).toNatClampNeg)]) ⟨hx, hb, hml, hown, hts⟩ (cd_end (σ := (sp_s σ (5, 0, 0) (p0 * 16 + p1).toNatClampNeg p2)) hR 0 (σ (5, 0, 0) (p0 * 16 + p1).toNatClampNeg)) (cwV 2 hts gX2_cue_X2_end rfl rfl rfl (by decide +kernel) ⟨Nat.le_of_ble_eq_true rfl, Nat.le_of_ble_eq_true rfl⟩) (hR.1 0 (by decide)) rfl rfl rfl hK hP hD hS hA hN rfl hl.1 rfl (Nat.le_of_ble_eq_true rfl) rfl dX2_cue_49 ⟨Nat.zero_le _, Nat.zero_le _⟩ (fun H locs hP hD hS => ?_)
    exact zw_iret hx hb hr hlk hK hP hD hS dX2_cue_52 (by simp only [sp_cue, if_pos c_1] <;> rfl) (by simp only [sp_cue, if_pos c_1] <;> rfl)
  · refine lv_aload_n hx hb dX2_cue_13 rfl (lv_at hl 1 rfl) ?_
    refine lv_iload hx hb dX2_cue_14 (lv_at hl 0 rfl) ?_
    refine lv_iconst (v := 0) hx hb dX2_cue_16 (by decide) ?_
    refine zw_cV (r := (0, 0, 0)) (As := [.int (sp_c σ p0 p1), .int 0]) (rest := []) (st1 := [.int 0]) ⟨hx, hb, hml, hown, hts⟩ (cd_end (σ := σ) hR (sp_c σ p0 p1) 0) (cwV 2 hts gX2_cue_X2_end rfl rfl rfl (by decide +kernel) ⟨Nat.le_of_ble_eq_true rfl, Nat.le_of_ble_eq_true rfl⟩) (hR.1 0 (by decide)) rfl rfl rfl hK hP hD hS hA hN rfl hl.1 rfl (Nat.le_of_ble_eq_true rfl) rfl dX2_cue_17 ⟨Nat.zero_le _, Nat.zero_le _⟩ (fun H locs hP hD hS => ?_)
    exact zw_iret hx hb hr hlk hK hP hD hS dX2_cue_20 (by simp only [sp_cue, if_neg c_1] <;> rfl) (by simp only [sp_cue, if_neg c_1] <;> rfl)
set_option maxHeartbeats 4000000 in
set_option maxRecDepth 100000 in
theorem cd_seek {l : Launch} {dC : Nat → ClassId} {dI : Nat → Nat → Nat} {cA : Nat → ClassId} {ad : zw_R → Nat} {R : List zw_R} {nr : Nat} {len : Nat → Nat} {σ : sp_S} {cM : zw_R → va_E} (hR : ze_R nr R) (h5 : σ (0, 0, 0) 5 ≤ 16) (h6 : σ (0, 0, 0) 6 ≤ 16) (p0 p1 : Int32) : zw_M l yX2_seek wsX2_seek { frames := 1, cells := 0, slots := 0, locals := 23 } (ze_E dC dI cA) [.ref (ad (0, 0, 0)), .int p0, .int p1] ad R (ze_X (ze_D cA ad nr len σ) cM) (some (.int ((sp_seek nr len σ p0 p1).1))) (ze_X (ze_D cA ad nr len (sp_seek nr len σ p0 p1).2) cM) := by
  refine zw_body (cc := cX2_seek) (maxL := 4) (ret := (some .int)) (by decide) rfl (Nat.le_of_ble_eq_true rfl) ?_
  intro p e s m below meth c A ls hx hb hr hlk hml hts hown hnm hA hK hP hD hS hN hl
  have hl : lv_has ls 4 [(0, .ref (ad (0, 0, 0))), (1, .int p0), (2, .int p1)] := hl
  have hwX2 : ∀ w ∈ u_ws RX2 TX2 15, w ∈ wsX2_seek := by decide +kernel
  refine lv_aload_n hx hb dX2_seek_0 rfl (lv_at hl 0 rfl) ?_
  refine lv_iload_n hx hb dX2_seek_1 rfl (lv_at hl 1 rfl) ?_
  refine lv_iload_n hx hb dX2_seek_2 rfl (lv_at hl 2 rfl) ?_
  refine zw_cV (r := (0, 0, 0)) (As := [.int p0, .int p1]) (rest := []) (st1 := [.int (sp_c σ p0 p1)]) ⟨hx, hb, hml, hown, hts⟩ (cd_faultOfCell (σ := σ) hR p0 p1) (cwV 2 hts gX2_seek_X2_faultOfCell rfl rfl rfl (by decide +kernel) ⟨Nat.le_of_ble_eq_true rfl, Nat.le_of_ble_eq_true rfl⟩) (hR.1 0 (by decide)) rfl rfl rfl hK hP hD hS hA hN rfl hl.1 rfl (Nat.le_of_ble_eq_true rfl) rfl dX2_seek_3 ⟨Nat.zero_le _, Nat.zero_le _⟩ (fun H locs hP hD hS => ?_)
  refine lv_istore_n (lv' := [(3, .int (sp_c σ p0 p1)), (0, .ref (ad (0, 0, 0))), (1, .int p0), (2, .int p1)]) hx hb dX2_seek_6 rfl hl (by decide) rfl (fun ls hl => ?_)
  refine lv_iload_n hx hb dX2_seek_7 rfl (lv_at hl 0 rfl) ?_
  refine lv_if_eq (tgt := 21) hx hb dX2_seek_8 (by decide) (fun c_1 => ?_) (fun c_1 => ?_)
  · refine lv_aload_n hx hb dX2_seek_21 rfl (lv_at hl 1 rfl) ?_
    refine lv_aload_n hx hb dX2_seek_22 rfl (lv_at hl 1 rfl) ?_
    refine zw_getf (r := (0, 0, 0)) (v := .ref (ad (5, 0, 0))) (C := RX2) (T := TX2) (N := 15) (ci := 2) hx hb hts hwX2 hown hK hP (hR.1 0 (by decide)) rfl rfl 9 (by decide) (hts (.fieldLink RX2 41 "FourTrackDeck" "cells" "[I") (by decide +kernel)) (fun _ h9 => h9) rfl dX2_seek_23 ?_
    refine lv_iload_n hx hb dX2_seek_26 rfl (lv_at hl 2 rfl) ?_
    refine lv_iload_n hx hb dX2_seek_27 rfl (lv_at hl 3 rfl) ?_
    refine zw_cS (As := [.int p0, .int p1]) (rest := [.ref (ad (5, 0, 0)), .ref (ad (0, 0, 0))]) (st1 := [.int (p0 * 16 + p1), .ref (ad (5, 0, 0)), .ref (ad (0, 0, 0))]) ⟨hx, hb, hml, hown, hts⟩ (cd_indexOfCell p0 p1) (va_cwS 2 hts gX2_seek_X2_indexOfCell rfl rfl rfl (by decide +kernel) ⟨Nat.le_of_ble_eq_true rfl, Nat.le_of_ble_eq_true rfl⟩) hK hP hD hS hA hN rfl hl.1 rfl (Nat.le_of_ble_eq_true rfl) rfl dX2_seek_28 ⟨Nat.zero_le _, Nat.zero_le _⟩ (fun H locs hP hD hS => ?_)
    refine zw_iald (r := (5, 0, 0)) hx hb hK hP (hR.1 5 (by decide)) 0 rfl rfl (ze_ci c_1 h5 h6) dX2_seek_31 ?_
    refine zw_putf (r := (0, 0, 0)) (v := .int (σ (5, 0, 0) (p0 * 16 + p1).toNatClampNeg)) (C := RX2) (T := TX2) (N := 15) (ci := 2) hx hb hts hwX2 tyX2 tyX2_ok nmX2 hown hK hP hD hS (hR.1 0 (by decide)) rfl rfl 3 (by decide) (hts (.fieldLink RX2 22 "FourTrackDeck" "tapeAt" "I") (by decide +kernel)) (fun _ h9 => h9) rfl (ty := .int) (by decide +kernel) rfl rfl (Nat.le_of_ble_eq_true rfl) dX2_seek_32 (cu1 := ze_X (ze_D cA ad nr len (sp_s σ (0, 0, 0) 2 (σ (5, 0, 0) (p0 * 16 + p1).toNatClampNeg))) cM) (ze_up rfl rfl) (fun H locs hP hD hS => ?_)
    refine lv_aload_n hx hb dX2_seek_35 rfl (lv_at hl 1 rfl) ?_
    refine lv_iconst (v := 0) hx hb dX2_seek_36 (by decide) ?_
    refine lv_aload_n hx hb dX2_seek_37 rfl (lv_at hl 1 rfl) ?_
    refine zw_getf (r := (0, 0, 0)) (v := .int ((sp_s σ (0, 0, 0) 2 (σ (5, 0, 0) (p0 * 16 + p1).toNatClampNeg)) (0, 0, 0) 2)) (C := RX2) (T := TX2) (N := 15) (ci := 2) hx hb hts hwX2 hown hK hP (hR.1 0 (by decide)) rfl rfl 3 (by decide) (hts (.fieldLink RX2 22 "FourTrackDeck" "tapeAt" "I") (by decide +kernel)) (fun _ h9 => h9) rfl dX2_seek_38 ?_
    refine zw_cV (r := (0, 0, 0)) (As := [.int 0, .int ((sp_s σ (0, 0, 0) 2 (σ (5, 0, 0) (p0 * 16 + p1).toNatClampNeg)) (0, 0, 0) 2)]) (rest := []) (st1 := [.int ((sp_s σ (0, 0, 0) 2 (σ (5, 0, 0) (p0 * 16 + p1).toNatClampNeg)) (0, 0, 0) 2)]) ⟨hx, hb, hml, hown, hts⟩ (cd_end (σ := (sp_s σ (0, 0, 0) 2 (σ (5, 0, 0) (p0 * 16 + p1).toNatClampNeg))) hR 0 ((sp_s σ (0, 0, 0) 2 (σ (5, 0, 0) (p0 * 16 + p1).toNatClampNeg)) (0, 0, 0) 2)) (cwV 2 hts gX2_seek_X2_end rfl rfl rfl (by decide +kernel) ⟨Nat.le_of_ble_eq_true rfl, Nat.le_of_ble_eq_true rfl⟩) (hR.1 0 (by decide)) rfl rfl rfl hK hP hD hS hA hN rfl hl.1 rfl (Nat.le_of_ble_eq_true rfl) rfl dX2_seek_41 ⟨Nat.zero_le _, Nat.zero_le _⟩ (fun H locs hP hD hS => ?_)
    exact zw_iret hx hb hr hlk hK hP hD hS dX2_seek_44 (by simp only [sp_seek, if_pos c_1] <;> rfl) (by simp only [sp_seek, if_pos c_1] <;> rfl)
  · refine lv_aload_n hx hb dX2_seek_11 rfl (lv_at hl 1 rfl) ?_
    refine lv_iload_n hx hb dX2_seek_12 rfl (lv_at hl 0 rfl) ?_
    refine lv_aload_n hx hb dX2_seek_13 rfl (lv_at hl 1 rfl) ?_
    refine zw_getf (r := (0, 0, 0)) (v := .int (σ (0, 0, 0) 2)) (C := RX2) (T := TX2) (N := 15) (ci := 2) hx hb hts hwX2 hown hK hP (hR.1 0 (by decide)) rfl rfl 3 (by decide) (hts (.fieldLink RX2 22 "FourTrackDeck" "tapeAt" "I") (by decide +kernel)) (fun _ h9 => h9) rfl dX2_seek_14 ?_
    refine zw_cV (r := (0, 0, 0)) (As := [.int (sp_c σ p0 p1), .int (σ (0, 0, 0) 2)]) (rest := []) (st1 := [.int (σ (0, 0, 0) 2)]) ⟨hx, hb, hml, hown, hts⟩ (cd_end (σ := σ) hR (sp_c σ p0 p1) (σ (0, 0, 0) 2)) (cwV 2 hts gX2_seek_X2_end rfl rfl rfl (by decide +kernel) ⟨Nat.le_of_ble_eq_true rfl, Nat.le_of_ble_eq_true rfl⟩) (hR.1 0 (by decide)) rfl rfl rfl hK hP hD hS hA hN rfl hl.1 rfl (Nat.le_of_ble_eq_true rfl) rfl dX2_seek_17 ⟨Nat.zero_le _, Nat.zero_le _⟩ (fun H locs hP hD hS => ?_)
    exact zw_iret hx hb hr hlk hK hP hD hS dX2_seek_20 (by simp only [sp_seek, if_neg c_1] <;> rfl) (by simp only [sp_seek, if_neg c_1] <;> rfl)
set_option maxHeartbeats 4000000 in
set_option maxRecDepth 100000 in
theorem cd_trip {l : Launch} {dC : Nat → ClassId} {dI : Nat → Nat → Nat} {cA : Nat → ClassId} {ad : zw_R → Nat} {R : List zw_R} {nr : Nat} {len : Nat → Nat} {σ : sp_S} {cM : zw_R → va_E} (hR : ze_R nr R) (p0 : Int32) : zw_M l yX2_trip wsX2_trip { frames := 0, cells := 0, slots := 0, locals := 0 } (ze_E dC dI cA) [.ref (ad (0, 0, 0)), .int p0] ad R (ze_X (ze_D cA ad nr len σ) cM) (some (.int ((sp_trip nr len σ p0).1))) (ze_X (ze_D cA ad nr len (sp_trip nr len σ p0).2) cM) := by
  refine zw_body (cc := cX2_trip) (maxL := 2) (ret := (some .int)) (by decide) rfl (Nat.le_of_ble_eq_true rfl) ?_
  intro p e s m below meth c A ls hx hb hr hlk hml hts hown hnm hA hK hP hD hS hN hl
  have hl : lv_has ls 2 [(0, .ref (ad (0, 0, 0))), (1, .int p0)] := hl
  have hwX2 : ∀ w ∈ u_ws RX2 TX2 15, w ∈ wsX2_trip := by decide +kernel
  refine lv_iload_n hx hb dX2_trip_0 rfl (lv_at hl 1 rfl) ?_
  rcases Decidable.em (p0 = 0) with c_1 | c_1
  · have ec_1 : (p0).toInt = 0 := by rw [c_1]; rfl
    refine lv_lookup (off := 27) (tgt := 28) hx hb dX2_trip_1 (by decide) (by rw [ec_1] <;> rfl) (by decide) ?_
    refine lv_aload_n hx hb dX2_trip_28 rfl (lv_at hl 0 rfl) ?_
    refine zw_getf (r := (0, 0, 0)) (v := .int (σ (0, 0, 0) 7)) (C := RX2) (T := TX2) (N := 15) (ci := 2) hx hb hts hwX2 hown hK hP (hR.1 0 (by decide)) rfl rfl 12 (by decide) (hts (.fieldLink RX2 50 "FourTrackDeck" "tripTrack" "I") (by decide +kernel)) (fun _ h9 => h9) rfl dX2_trip_29 ?_
    exact zw_iret hx hb hr hlk hK hP hD hS dX2_trip_32 (by simp only [sp_trip, if_pos c_1] <;> rfl) (by simp only [sp_trip, if_pos c_1] <;> rfl)
  · rcases Decidable.em (p0 = 1) with c_2 | c_2
    · have ec_2 : (p0).toInt = 1 := by rw [c_2]; rfl
      refine lv_lookup (off := 32) (tgt := 33) hx hb dX2_trip_1 (by decide) (by rw [ec_2] <;> rfl) (by decide) ?_
      refine lv_aload_n hx hb dX2_trip_33 rfl (lv_at hl 0 rfl) ?_
      refine zw_getf (r := (0, 0, 0)) (v := .int (σ (0, 0, 0) 8)) (C := RX2) (T := TX2) (N := 15) (ci := 2) hx hb hts hwX2 hown hK hP (hR.1 0 (by decide)) rfl rfl 13 (by decide) (hts (.fieldLink RX2 53 "FourTrackDeck" "tripStatus" "I") (by decide +kernel)) (fun _ h9 => h9) rfl dX2_trip_34 ?_
      exact zw_iret hx hb hr hlk hK hP hD hS dX2_trip_37 (by simp only [sp_trip, if_neg c_1, if_pos c_2] <;> rfl) (by simp only [sp_trip, if_neg c_1, if_pos c_2] <;> rfl)
    · have nc_1 := lv_neT c_1 (a := 0) rfl; have nc_2 := lv_neT c_2 (a := 1) rfl
      refine lv_lookup (off := 37) (tgt := 38) hx hb dX2_trip_1 (by decide) (by show Op.lookupswitch.offset [(0, 27), (1, 32)] 37 _ = _; rw [lv_osw c_1 (a := 0) rfl, lv_osw c_2 (a := 1) rfl] <;> rfl) (by decide) ?_
      refine lv_iconst (v := (-1)) hx hb dX2_trip_38 (by decide) ?_
      exact zw_iret hx hb hr hlk hK hP hD hS dX2_trip_39 (by simp only [sp_trip, if_neg c_1, if_neg c_2] <;> rfl) (by simp only [sp_trip, if_neg c_1, if_neg c_2] <;> rfl)
set_option maxHeartbeats 4000000 in
set_option maxRecDepth 100000 in
theorem cd_meter {l : Launch} {dC : Nat → ClassId} {dI : Nat → Nat → Nat} {cA : Nat → ClassId} {ad : zw_R → Nat} {R : List zw_R} {nr : Nat} {len : Nat → Nat} {σ : sp_S} {cM : zw_R → va_E} (hR : ze_R nr R) (p0 : Int32) : zw_M l yX2_meter wsX2_meter { frames := 2, cells := 0, slots := 0, locals := 42 } (ze_E dC dI cA) [.ref (ad (0, 0, 0)), .int p0] ad R (ze_X (ze_D cA ad nr len σ) cM) (some (.int ((sp_meter nr len σ p0).1))) (ze_X (ze_D cA ad nr len (sp_meter nr len σ p0).2) cM) := by
  refine zw_body (cc := cX2_meter) (maxL := 2) (ret := (some .int)) (by decide) rfl (Nat.le_of_ble_eq_true rfl) ?_
  intro p e s m below meth c A ls hx hb hr hlk hml hts hown hnm hA hK hP hD hS hN hl
  have hl : lv_has ls 2 [(0, .ref (ad (0, 0, 0))), (1, .int p0)] := hl
  have hwX2 : ∀ w ∈ u_ws RX2 TX2 15, w ∈ wsX2_meter := by decide +kernel
  refine lv_iload_n hx hb dX2_meter_0 rfl (lv_at hl 1 rfl) ?_
  rcases Decidable.em (sp_t p0) with h_1 | h_1
  · refine zw_cS (As := [.int p0]) (rest := []) (st1 := [.int 1]) ⟨hx, hb, hml, hown, hts⟩ (cd_isTrack_1 p0 h_1) (va_cwS 1 hts gX2_meter_X2_isTrack rfl rfl rfl (by decide +kernel) ⟨Nat.le_of_ble_eq_true rfl, Nat.le_of_ble_eq_true rfl⟩) hK hP hD hS hA hN rfl hl.1 rfl (Nat.le_of_ble_eq_true rfl) rfl dX2_meter_1 ⟨Nat.zero_le _, Nat.zero_le _⟩ (fun H locs hP hD hS => ?_)
    refine lv_if_eq (tgt := 16) hx hb dX2_meter_4 (by decide) (fun c_2 => absurd c_2 (by decide)) (fun c_2 => ?_)
    refine lv_aload_n hx hb dX2_meter_7 rfl (lv_at hl 0 rfl) ?_
    refine zw_getf (r := (0, 0, 0)) (v := .ref (ad (4, 0, 0))) (C := RX2) (T := TX2) (N := 15) (ci := 2) hx hb hts hwX2 hown hK hP (hR.1 0 (by decide)) rfl rfl 6 (by decide) (hts (.fieldLink RX2 32 "FourTrackDeck" "meters" "[I") (by decide +kernel)) (fun _ h9 => h9) rfl dX2_meter_8 ?_
    refine lv_iload_n hx hb dX2_meter_11 rfl (lv_at hl 1 rfl) ?_
    refine zw_iald (r := (4, 0, 0)) hx hb hK hP (hR.1 4 (by decide)) 0 rfl rfl (ze_ti h_1) dX2_meter_12 ?_
    refine lv_goto (tgt := 17) hx hb dX2_meter_13 (by decide) ?_
    exact zw_iret hx hb hr hlk hK hP hD hS dX2_meter_17 (by simp only [sp_meter, if_pos h_1] <;> rfl) (by simp only [sp_meter, if_pos h_1] <;> rfl)
  · refine zw_cS (As := [.int p0]) (rest := []) (st1 := [.int 0]) ⟨hx, hb, hml, hown, hts⟩ (cd_isTrack_0 p0 h_1) (va_cwS 1 hts gX2_meter_X2_isTrack rfl rfl rfl (by decide +kernel) ⟨Nat.le_of_ble_eq_true rfl, Nat.le_of_ble_eq_true rfl⟩) hK hP hD hS hA hN rfl hl.1 rfl (Nat.le_of_ble_eq_true rfl) rfl dX2_meter_1 ⟨Nat.zero_le _, Nat.zero_le _⟩ (fun H locs hP hD hS => ?_)
    refine lv_if_eq (tgt := 16) hx hb dX2_meter_4 (by decide) (fun c_3 => ?_) (fun c_3 => absurd (by decide) c_3)
    refine lv_iconst (v := 0) hx hb dX2_meter_16 (by decide) ?_
    exact zw_iret hx hb hr hlk hK hP hD hS dX2_meter_17 (by simp only [sp_meter, if_neg h_1] <;> rfl) (by simp only [sp_meter, if_neg h_1] <;> rfl)
set_option maxHeartbeats 4000000 in
set_option maxRecDepth 100000 in
theorem cd_count {l : Launch} {dC : Nat → ClassId} {dI : Nat → Nat → Nat} {cA : Nat → ClassId} {ad : zw_R → Nat} {R : List zw_R} {nr : Nat} {len : Nat → Nat} {σ : sp_S} {cM : zw_R → va_E} (hR : ze_R nr R) (hnr : nr ≤ 8) (p0 : Int32) : zw_M l yX2_count wsX2_count { frames := 2, cells := 0, slots := 0, locals := 44 } (ze_E dC dI cA) [.ref (ad (0, 0, 0)), .int p0] ad R (ze_X (ze_D cA ad nr len σ) cM) (some (.int ((sp_count nr len σ p0).1))) (ze_X (ze_D cA ad nr len (sp_count nr len σ p0).2) cM) := by
  refine zw_body (cc := cX2_count) (maxL := 2) (ret := (some .int)) (by decide) rfl (Nat.le_of_ble_eq_true rfl) ?_
  intro p e s m below meth c A ls hx hb hr hlk hml hts hown hnm hA hK hP hD hS hN hl
  have hl : lv_has ls 2 [(0, .ref (ad (0, 0, 0))), (1, .int p0)] := hl
  have hwX2 : ∀ w ∈ u_ws RX2 TX2 15, w ∈ wsX2_count := by decide +kernel
  refine lv_iload_n hx hb dX2_count_0 rfl (lv_at hl 1 rfl) ?_
  rcases Decidable.em (p0 = 0) with c_1 | c_1
  · have ec_1 : (p0).toInt = 0 := by rw [c_1]; rfl
    refine lv_tableIn (tgt := 40) hx hb dX2_count_1 (by rw [ec_1]; decide) (by rw [ec_1]; decide) (by rw [ec_1]; rfl) (by decide) ?_
    refine lv_aload_n hx hb dX2_count_40 rfl (lv_at hl 0 rfl) ?_
    refine zw_getf (r := (0, 0, 0)) (v := .int (σ (0, 0, 0) 0)) (C := RX2) (T := TX2) (N := 15) (ci := 2) hx hb hts hwX2 hown hK hP (hR.1 0 (by decide)) rfl rfl 1 (by decide) (hts (.fieldLink RX2 15 "FourTrackDeck" "reelsMade" "I") (by decide +kernel)) (fun _ h9 => h9) rfl dX2_count_41 ?_
    exact zw_iret hx hb hr hlk hK hP hD hS dX2_count_44 (by simp only [sp_count, if_pos c_1] <;> rfl) (by simp only [sp_count, if_pos c_1] <;> rfl)
  · rcases Decidable.em (p0 = 1) with c_2 | c_2
    · have ec_2 : (p0).toInt = 1 := by rw [c_2]; rfl
      refine lv_tableIn (tgt := 45) hx hb dX2_count_1 (by rw [ec_2]; decide) (by rw [ec_2]; decide) (by rw [ec_2]; rfl) (by decide) ?_
      refine lv_aload_n hx hb dX2_count_45 rfl (lv_at hl 0 rfl) ?_
      refine zw_getf (r := (0, 0, 0)) (v := .int (σ (0, 0, 0) 1)) (C := RX2) (T := TX2) (N := 15) (ci := 2) hx hb hts hwX2 hown hK hP (hR.1 0 (by decide)) rfl rfl 2 (by decide) (hts (.fieldLink RX2 19 "FourTrackDeck" "onDeck" "I") (by decide +kernel)) (fun _ h9 => h9) rfl dX2_count_46 ?_
      exact zw_iret hx hb hr hlk hK hP hD hS dX2_count_49 (by simp only [sp_count, if_neg c_1, if_pos c_2] <;> rfl) (by simp only [sp_count, if_neg c_1, if_pos c_2] <;> rfl)
    · rcases Decidable.em (p0 = 2) with c_3 | c_3
      · have ec_3 : (p0).toInt = 2 := by rw [c_3]; rfl
        refine lv_tableIn (tgt := 50) hx hb dX2_count_1 (by rw [ec_3]; decide) (by rw [ec_3]; decide) (by rw [ec_3]; rfl) (by decide) ?_
        refine lv_aload_n hx hb dX2_count_50 rfl (lv_at hl 0 rfl) ?_
        refine zw_getf (r := (0, 0, 0)) (v := .int (σ (0, 0, 0) 2)) (C := RX2) (T := TX2) (N := 15) (ci := 2) hx hb hts hwX2 hown hK hP (hR.1 0 (by decide)) rfl rfl 3 (by decide) (hts (.fieldLink RX2 22 "FourTrackDeck" "tapeAt" "I") (by decide +kernel)) (fun _ h9 => h9) rfl dX2_count_51 ?_
        exact zw_iret hx hb hr hlk hK hP hD hS dX2_count_54 (by simp only [sp_count, if_neg c_1, if_neg c_2, if_pos c_3] <;> rfl) (by simp only [sp_count, if_neg c_1, if_neg c_2, if_pos c_3] <;> rfl)
      · rcases Decidable.em (p0 = 3) with c_4 | c_4
        · have ec_4 : (p0).toInt = 3 := by rw [c_4]; rfl
          refine lv_tableIn (tgt := 55) hx hb dX2_count_1 (by rw [ec_4]; decide) (by rw [ec_4]; decide) (by rw [ec_4]; rfl) (by decide) ?_
          refine lv_aload_n hx hb dX2_count_55 rfl (lv_at hl 0 rfl) ?_
          refine zw_getf (r := (0, 0, 0)) (v := .int (σ (0, 0, 0) 3)) (C := RX2) (T := TX2) (N := 15) (ci := 2) hx hb hts hwX2 hown hK hP (hR.1 0 (by decide)) rfl rfl 7 (by decide) (hts (.fieldLink RX2 35 "FourTrackDeck" "sourceNumber" "I") (by decide +kernel)) (fun _ h9 => h9) rfl dX2_count_56 ?_
          exact zw_iret hx hb hr hlk hK hP hD hS dX2_count_59 (by simp only [sp_count, if_neg c_1, if_neg c_2, if_neg c_3, if_pos c_4] <;> rfl) (by simp only [sp_count, if_neg c_1, if_neg c_2, if_neg c_3, if_pos c_4] <;> rfl)
        · rcases Decidable.em (p0 = 4) with c_5 | c_5
          · have ec_5 : (p0).toInt = 4 := by rw [c_5]; rfl
            refine lv_tableIn (tgt := 60) hx hb dX2_count_1 (by rw [ec_5]; decide) (by rw [ec_5]; decide) (by rw [ec_5]; rfl) (by decide) ?_
            refine lv_aload_n hx hb dX2_count_60 rfl (lv_at hl 0 rfl) ?_
            refine zw_getf (r := (0, 0, 0)) (v := .int (σ (0, 0, 0) 5)) (C := RX2) (T := TX2) (N := 15) (ci := 2) hx hb hts hwX2 hown hK hP (hR.1 0 (by decide)) rfl rfl 10 (by decide) (hts (.fieldLink RX2 44 "FourTrackDeck" "sheetRows" "I") (by decide +kernel)) (fun _ h9 => h9) rfl dX2_count_61 ?_
            exact zw_iret hx hb hr hlk hK hP hD hS dX2_count_64 (by simp only [sp_count, if_neg c_1, if_neg c_2, if_neg c_3, if_neg c_4, if_pos c_5] <;> rfl) (by simp only [sp_count, if_neg c_1, if_neg c_2, if_neg c_3, if_neg c_4, if_pos c_5] <;> rfl)
          · rcases Decidable.em (p0 = 5) with c_6 | c_6
            · have ec_6 : (p0).toInt = 5 := by rw [c_6]; rfl
              refine lv_tableIn (tgt := 65) hx hb dX2_count_1 (by rw [ec_6]; decide) (by rw [ec_6]; decide) (by rw [ec_6]; rfl) (by decide) ?_
              refine lv_aload_n hx hb dX2_count_65 rfl (lv_at hl 0 rfl) ?_
              refine zw_getf (r := (0, 0, 0)) (v := .int (σ (0, 0, 0) 6)) (C := RX2) (T := TX2) (N := 15) (ci := 2) hx hb hts hwX2 hown hK hP (hR.1 0 (by decide)) rfl rfl 11 (by decide) (hts (.fieldLink RX2 47 "FourTrackDeck" "sheetWidth" "I") (by decide +kernel)) (fun _ h9 => h9) rfl dX2_count_66 ?_
              exact zw_iret hx hb hr hlk hK hP hD hS dX2_count_69 (by simp only [sp_count, if_neg c_1, if_neg c_2, if_neg c_3, if_neg c_4, if_neg c_5, if_pos c_6] <;> rfl) (by simp only [sp_count, if_neg c_1, if_neg c_2, if_neg c_3, if_neg c_4, if_neg c_5, if_pos c_6] <;> rfl)
            · have nc_1 := lv_neT c_1 (a := 0) rfl; have nc_2 := lv_neT c_2 (a := 1) rfl; have nc_3 := lv_neT c_3 (a := 2) rfl; have nc_4 := lv_neT c_4 (a := 3) rfl; have nc_5 := lv_neT c_5 (a := 4) rfl; have nc_6 := lv_neT c_6 (a := 5) rfl
              refine lv_tableOut (tgt := 70) hx hb dX2_count_1 (by omega) (by decide) ?_
              refine lv_aload_n hx hb dX2_count_70 rfl (lv_at hl 0 rfl) ?_
              refine lv_iload_n hx hb dX2_count_71 rfl (lv_at hl 1 rfl) ?_
              refine lv_bipush (v := 10) hx hb dX2_count_72 (by decide) ?_
              refine lv_isub hx hb dX2_count_74 ?_
              rcases Decidable.em (sp_r nr (p0 - 10)) with h_7 | h_7
              · refine zw_cV (r := (0, 0, 0)) (As := [.int (p0 - 10)]) (rest := []) (st1 := [.int (sp_b σ (p0 - 10).toNatClampNeg)]) ⟨hx, hb, hml, hown, hts⟩ (cd_tracksThere_1 (σ := σ) hR hnr (p0 - 10) h_7) (cwV 1 hts gX2_count_X2_tracksThere rfl rfl rfl (by decide +kernel) ⟨Nat.le_of_ble_eq_true rfl, Nat.le_of_ble_eq_true rfl⟩) (hR.1 0 (by decide)) rfl rfl rfl hK hP hD hS hA hN rfl hl.1 rfl (Nat.le_of_ble_eq_true rfl) rfl dX2_count_75 ⟨Nat.zero_le _, Nat.zero_le _⟩ (fun H locs hP hD hS => ?_)
                exact zw_iret hx hb hr hlk hK hP hD hS dX2_count_78 (by simp only [sp_count, if_neg c_1, if_neg c_2, if_neg c_3, if_neg c_4, if_neg c_5, if_neg c_6, if_pos h_7] <;> rfl) (by simp only [sp_count, if_neg c_1, if_neg c_2, if_neg c_3, if_neg c_4, if_neg c_5, if_neg c_6, if_pos h_7] <;> rfl)
              · refine zw_cV (r := (0, 0, 0)) (As := [.int (p0 - 10)]) (rest := []) (st1 := [.int (-1)]) ⟨hx, hb, hml, hown, hts⟩ (cd_tracksThere_0 (σ := σ) hR hnr (p0 - 10) h_7) (cwV 1 hts gX2_count_X2_tracksThere rfl rfl rfl (by decide +kernel) ⟨Nat.le_of_ble_eq_true rfl, Nat.le_of_ble_eq_true rfl⟩) (hR.1 0 (by decide)) rfl rfl rfl hK hP hD hS hA hN rfl hl.1 rfl (Nat.le_of_ble_eq_true rfl) rfl dX2_count_75 ⟨Nat.zero_le _, Nat.zero_le _⟩ (fun H locs hP hD hS => ?_)
                exact zw_iret hx hb hr hlk hK hP hD hS dX2_count_78 (by simp only [sp_count, if_neg c_1, if_neg c_2, if_neg c_3, if_neg c_4, if_neg c_5, if_neg c_6, if_neg h_7] <;> rfl) (by simp only [sp_count, if_neg c_1, if_neg c_2, if_neg c_3, if_neg c_4, if_neg c_5, if_neg c_6, if_neg h_7] <;> rfl)
set_option maxHeartbeats 4000000 in
set_option maxRecDepth 100000 in
theorem cd_status {l : Launch} {dC : Nat → ClassId} {dI : Nat → Nat → Nat} {cA : Nat → ClassId} {ad : zw_R → Nat} {R : List zw_R} {nr : Nat} {len : Nat → Nat} {σ : sp_S} {cM : zw_R → va_E} (hR : ze_R nr R) : zw_M l yX2_status wsX2_status { frames := 0, cells := 0, slots := 0, locals := 0 } (ze_E dC dI cA) [.ref (ad (0, 0, 0))] ad R (ze_X (ze_D cA ad nr len σ) cM) (some (.int ((sp_status nr len σ).1))) (ze_X (ze_D cA ad nr len (sp_status nr len σ).2) cM) := by
  refine zw_body (cc := cX2_status) (maxL := 1) (ret := (some .int)) (by decide) rfl (Nat.le_of_ble_eq_true rfl) ?_
  intro p e s m below meth c A ls hx hb hr hlk hml hts hown hnm hA hK hP hD hS hN hl
  have hl : lv_has ls 1 [(0, .ref (ad (0, 0, 0)))] := hl
  have hwX2 : ∀ w ∈ u_ws RX2 TX2 15, w ∈ wsX2_status := by decide +kernel
  refine lv_aload_n hx hb dX2_status_0 rfl (lv_at hl 0 rfl) ?_
  refine zw_getf (r := (0, 0, 0)) (v := .int (σ (0, 0, 0) 9)) (C := RX2) (T := TX2) (N := 15) (ci := 2) hx hb hts hwX2 hown hK hP (hR.1 0 (by decide)) rfl rfl 14 (by decide) (hts (.fieldLink RX2 56 "FourTrackDeck" "latestStatus" "I") (by decide +kernel)) (fun _ h9 => h9) rfl dX2_status_1 ?_
  exact zw_iret hx hb hr hlk hK hP hD hS dX2_status_4 rfl rfl
end
section
def sp_lay (nr : Nat) (len : Nat → Nat) (σ : sp_S) (p0 p1 : Int32) : Int32 × sp_S := if sp_v nr p0 p1 then ((if σ (8, p0.toNatClampNeg, p1.toNatClampNeg) 1 = 0 then 1 else 0), sp_e (zw_u (sp_s σ (8, p0.toNatClampNeg, p1.toNatClampNeg) 1 1) (9, p0.toNatClampNeg, p1.toNatClampNeg) (fun j => if j < len p0.toNatClampNeg then 0 else (sp_s σ (8, p0.toNatClampNeg, p1.toNatClampNeg) 1 1) (9, p0.toNatClampNeg, p1.toNatClampNeg) j)) 0) else (-1, sp_e σ 1)
def sp_sheet (nr : Nat) (len : Nat → Nat) (σ : sp_S) (p0 p1 : Int32) : Int32 × sp_S := if 16 < p0 then (-1, sp_e σ 1) else if p1 ≤ 16 then (if p0 < 0 then (-1, sp_e σ 4) else if 0 ≤ p1 then (p0 * p1, sp_e (zw_u (sp_s (sp_s σ (0, 0, 0) 5 p0) (0, 0, 0) 6 p1) (5, 0, 0) (fun j => if j < 256 then 0 else (sp_s (sp_s σ (0, 0, 0) 5 p0) (0, 0, 0) 6 p1) (5, 0, 0) j)) 0) else (-1, sp_e σ 4)) else (-1, sp_e σ 1)
def sp_mv (nr : Nat) (len : Nat → Nat) (σ : sp_S) (p0 : Int32) : Int32 × sp_S := if sp_v nr (σ (0, 0, 0) 1) p0 then (if σ (3, 0, 0) p0.toNatClampNeg = 0 then (0, σ) else if sp_f len σ (σ (0, 0, 0) 1).toNatClampNeg p0.toNatClampNeg (σ (0, 0, 0) 2 + σ (2, 0, 0) p0.toNatClampNeg) = 0 then (if σ (3, 0, 0) p0.toNatClampNeg = 1 then (0, sp_s σ (4, 0, 0) p0.toNatClampNeg (σ (4, 0, 0) p0.toNatClampNeg + sp_n len σ (σ (0, 0, 0) 1).toNatClampNeg p0.toNatClampNeg (σ (0, 0, 0) 2 + σ (2, 0, 0) p0.toNatClampNeg))) else if σ (3, 0, 0) p0.toNatClampNeg = 3 then (0, sp_s (sp_put len σ (σ (0, 0, 0) 1).toNatClampNeg p0.toNatClampNeg (σ (0, 0, 0) 2 + σ (2, 0, 0) p0.toNatClampNeg) (sp_n len σ (σ (0, 0, 0) 1).toNatClampNeg p0.toNatClampNeg (σ (0, 0, 0) 2 + σ (2, 0, 0) p0.toNatClampNeg) + σ (0, 0, 0) 3)) (0, 0, 0) 3 ((sp_put len σ (σ (0, 0, 0) 1).toNatClampNeg p0.toNatClampNeg (σ (0, 0, 0) 2 + σ (2, 0, 0) p0.toNatClampNeg) (sp_n len σ (σ (0, 0, 0) 1).toNatClampNeg p0.toNatClampNeg (σ (0, 0, 0) 2 + σ (2, 0, 0) p0.toNatClampNeg) + σ (0, 0, 0) 3)) (0, 0, 0) 3 + (sp_put len σ (σ (0, 0, 0) 1).toNatClampNeg p0.toNatClampNeg (σ (0, 0, 0) 2 + σ (2, 0, 0) p0.toNatClampNeg) (sp_n len σ (σ (0, 0, 0) 1).toNatClampNeg p0.toNatClampNeg (σ (0, 0, 0) 2 + σ (2, 0, 0) p0.toNatClampNeg) + σ (0, 0, 0) 3)) (0, 0, 0) 4)) else (0, sp_s (sp_put len σ (σ (0, 0, 0) 1).toNatClampNeg p0.toNatClampNeg (σ (0, 0, 0) 2 + σ (2, 0, 0) p0.toNatClampNeg) (σ (0, 0, 0) 3)) (0, 0, 0) 3 ((sp_put len σ (σ (0, 0, 0) 1).toNatClampNeg p0.toNatClampNeg (σ (0, 0, 0) 2 + σ (2, 0, 0) p0.toNatClampNeg) (σ (0, 0, 0) 3)) (0, 0, 0) 3 + (sp_put len σ (σ (0, 0, 0) 1).toNatClampNeg p0.toNatClampNeg (σ (0, 0, 0) 2 + σ (2, 0, 0) p0.toNatClampNeg) (σ (0, 0, 0) 3)) (0, 0, 0) 4))) else (sp_f len σ (σ (0, 0, 0) 1).toNatClampNeg p0.toNatClampNeg (σ (0, 0, 0) 2 + σ (2, 0, 0) p0.toNatClampNeg), σ)) else (0, σ)
def sp_tk (nr : Nat) (len : Nat → Nat) : Nat → Int32 → sp_S → sp_S
  | 0, _, σ => sp_s σ (0, 0, 0) 2 (σ (0, 0, 0) 2 + 1)
  | k + 1, t, σ => if (sp_mv nr len σ t).1 = 0 then sp_tk nr len k (t + 1) (sp_mv nr len σ t).2 else sp_s (sp_s (sp_mv nr len σ t).2 (0, 0, 0) 7 t) (0, 0, 0) 8 (sp_mv nr len σ t).1
theorem sp_01 : (0 : Int32) + 1 = 1 := rfl
theorem sp_12 : (1 : Int32) + 1 = 2 := rfl
theorem sp_23 : (2 : Int32) + 1 = 3 := rfl
def sp_rl (nr : Nat) (len : Nat → Nat) : Nat → Int32 → sp_S → Int32 × sp_S
  | 0, k, σ => (k, sp_e σ 0)
  | m + 1, k, σ => if sp_tk nr len 4 0 σ (0, 0, 0) 8 = 0 then sp_rl nr len m (k + 1) (sp_tk nr len 4 0 σ) else (k, sp_e (sp_tk nr len 4 0 σ) (sp_tk nr len 4 0 σ (0, 0, 0) 8))
def sp_run (nr : Nat) (len : Nat → Nat) (σ : sp_S) (p0 : Int32) : Int32 × sp_S := if sp_w p0 1 100 then (if σ (0, 0, 0) 1 = -1 then (0, sp_e σ 5) else sp_rl nr len p0.toNatClampNeg 0 (sp_s (sp_s σ (0, 0, 0) 7 (-1)) (0, 0, 0) 8 0)) else (0, sp_e σ 1)
def sp_dl (len : Nat → Nat) (i t : Nat) (a : Int32) (i2 t2 : Nat) : Nat → Int32 → sp_S → Int32 × sp_S
  | 0, k, σ => (k, sp_e σ 0)
  | m + 1, k, σ => if (if sp_f len σ i t (a + k) = 0 then sp_f len σ i2 t2 (σ (0, 0, 0) 2 + k) else sp_f len σ i t (a + k)) = 0 then sp_dl len i t a i2 t2 m (k + 1) (sp_put len σ i2 t2 (σ (0, 0, 0) 2 + k) (sp_n len σ i t (a + k))) else (k, sp_e σ (if sp_f len σ i t (a + k) = 0 then sp_f len σ i2 t2 (σ (0, 0, 0) 2 + k) else sp_f len σ i t (a + k)))
def sp_dub (nr : Nat) (len : Nat → Nat) (σ : sp_S) (p0 p1 p2 p3 p4 p5 : Int32) : Int32 × sp_S := if sp_v nr p0 p1 then (if sp_v nr p4 p5 then (if sp_w p3 0 64 then sp_dl len p0.toNatClampNeg p1.toNatClampNeg p2 p4.toNatClampNeg p5.toNatClampNeg p3.toNatClampNeg 0 σ else (0, sp_e σ 1)) else (0, sp_e σ 1)) else (0, sp_e σ 1)
def sp_ul (len : Nat → Nat) (i t : Nat) (a b : Int32) : Nat → Int32 → sp_S → Int32 × sp_S
  | 0, k, σ => (k, sp_e σ 0)
  | m + 1, k, σ => if (if sp_f len σ i t (a + k) = 0 then sp_f len σ i t (b - k) else sp_f len σ i t (a + k)) = 0 then sp_ul len i t a b m (k + 1) (sp_put len (sp_put len σ i t (a + k) (sp_n len σ i t (b - k))) i t (b - k) (sp_n len σ i t (a + k))) else (k, sp_e σ (if sp_f len σ i t (a + k) = 0 then sp_f len σ i t (b - k) else sp_f len σ i t (a + k)))
def sp_turn (nr : Nat) (len : Nat → Nat) (σ : sp_S) (p0 p1 : Int32) : Int32 × sp_S := if sp_w p1 0 64 then (if sp_v nr (σ (0, 0, 0) 1) p0 then sp_ul len (σ (0, 0, 0) 1).toNatClampNeg p0.toNatClampNeg (σ (0, 0, 0) 2 + σ (2, 0, 0) p0.toNatClampNeg) ((σ (0, 0, 0) 2 + σ (2, 0, 0) p0.toNatClampNeg) + p1 - 1) (p1.toNatClampNeg / 2) 0 σ else (0, sp_e σ (if sp_t p0 then 5 else 1))) else (0, sp_e σ 1)
def sp_sl (len : Nat → Nat) (i t : Nat) (a v : Int32) : Nat → Int32 → sp_S → Int32 × sp_S
  | 0, _, σ => (-1, sp_e σ 3)
  | m + 1, k, σ => if sp_f len σ i t (a + k) = 0 then (if sp_n len σ i t (a + k) = v then (k, sp_e σ 0) else sp_sl len i t a v m (k + 1) σ) else (-1, sp_e σ (sp_f len σ i t (a + k)))
def sp_scan (nr : Nat) (len : Nat → Nat) (σ : sp_S) (p0 p1 : Int32) : Int32 × sp_S := if sp_v nr (σ (0, 0, 0) 1) p0 then sp_sl len (σ (0, 0, 0) 1).toNatClampNeg p0.toNatClampNeg (σ (0, 0, 0) 2 + σ (2, 0, 0) p0.toNatClampNeg) p1 64 0 σ else (-1, sp_e σ (if sp_t p0 then 5 else 1))
theorem ze_nn {x : Int32} (h : 0 ≤ x) : nI x.toNatClampNeg = x := by
  have h1 := ze_le h
  have h3 := ze_cl x
  have h4 : (0 : Int32).toInt = 0 := rfl
  have h5 := Int32.toInt_lt x
  apply Int32.toInt_inj.mp
  rw [nI_toInt (by omega)]
  omega
theorem ze_nb {x M : Int32} {n : Nat} (hM : M.toInt = n) (h0 : 0 ≤ x) (h : x ≤ M) : x.toNatClampNeg ≤ n := by
  have h1 := ze_le h0
  have h2 := ze_le h
  have h3 := ze_cl x
  have h4 : (0 : Int32).toInt = 0 := rfl
  omega
theorem ze_half {x : Int32} (h0 : 0 ≤ x) (h : x ≤ 64) : x / 2 = nI (x.toNatClampNeg / 2) ∧ (x / 2).toNatClampNeg = x.toNatClampNeg / 2 := by
  have hb := ze_nb (n := 64) rfl h0 h
  have e : x / 2 = nI (x.toNatClampNeg / 2) := by
    conv => lhs; rw [← ze_nn h0]
    exact pk_div (d := 2) (by omega) (by decide) (by decide)
  exact ⟨e, by rw [e, nI_clamp (by omega)]⟩
set_option maxHeartbeats 4000000 in
set_option maxRecDepth 100000 in
/-- Arrays.fill of an int array -/
theorem cj_fill {l : Launch} {E : zw_E} {ad : zw_R → Nat} {R : List zw_R} {cu : zw_R → va_E} {r : zw_R} (hr1 : r ∈ R) {a0 : ClassId} {n : Nat} {f : Nat → Int32} (he : cu r = .inl (a0, n, .inl f)) (ht : E.2.2[0]? = some (a0, .int)) (hn : n ≤ 256) (v : Int32) : zw_M l yJ7_fill_53178 wsJ7_fill_53178 { frames := 0, cells := 0, slots := 0, locals := 0 } E [.ref (ad r), .int v] ad R cu none (zw_u cu r (.inl (a0, n, .inl (fun j => if j < n then v else f j)))) := by
  refine zw_body (cc := cJ7_fill_53178) (maxL := 4) (ret := none) (by decide) rfl (Nat.le_of_ble_eq_true rfl) ?_
  intro p e s m below meth c A ls hx hb hr hlk hml hts hown hnm hA hK hP hD hS hN hl
  have hl : lv_has ls 4 [(0, .ref (ad r)), (1, .int v)] := hl
  have key : ∀ (mm j : Nat) (k : Int32) (H : Heap) (locs : List Loc) (ls : Array Slot), k = nI j → j + mm = n → va_P E.1 E.2.1 (zw_l ad R (zw_u cu r (.inl (a0, n, .inl (fun q => if q < j then v else f q))))) H → va_D A (zw_l ad R (zw_u cu r (.inl (a0, n, .inl (fun q => if q < j then v else f q))))) → va_S A s.heap H locs → lv_has ls 4 [(3, .int (Int32.ofNat n)), (2, .int k), (0, .ref (ad r)), (1, .int v)] → W p l e { frames := 0, cells := 0, slots := 0, locals := 0 } s m [Value.ref (ad r), Value.int v].toArray below meth c H locs 0 0 (MQ below (zw_Q none (zw_B E A ad R (zw_u cu r (.inl (a0, n, .inl (fun j => if j < n then v else f j))))) A) [Value.ref (ad r), Value.int v].toArray s 0 0 A) (F0 m 5 ls []) := by
    intro mm
    induction mm with
    | zero =>
      intro j k H locs ls hk hj hP hD hS hl
      have hge : Int32.ofNat n ≤ k := by rw [hk]; exact nI_le (by omega) (by omega)
      refine lv_iload_n hx hb dJ7_fill_53178_5 rfl (lv_at hl 1 rfl) ?_
      refine lv_iload_n hx hb dJ7_fill_53178_6 rfl (lv_at hl 0 rfl) ?_
      refine lv_icmp_ge (tgt := 20) hx hb dJ7_fill_53178_7 (by decide) (fun c_1 => ?_) (fun c_1 => absurd hge c_1)
      have hjn : j = n := by omega
      subst hjn
      exact zw_vret hx hb hr hlk hK hP hD hS dJ7_fill_53178_20 rfl rfl
    | succ mm ih =>
      intro j k H locs ls hk hj hP hD hS hl
      have hlt : ¬ Int32.ofNat n ≤ k := by rw [hk]; exact nI_ge (by omega) (by omega)
      refine lv_iload_n hx hb dJ7_fill_53178_5 rfl (lv_at hl 1 rfl) ?_
      refine lv_iload_n hx hb dJ7_fill_53178_6 rfl (lv_at hl 0 rfl) ?_
      refine lv_icmp_ge (tgt := 20) hx hb dJ7_fill_53178_7 (by decide) (fun c_1 => absurd c_1 hlt) (fun c_1 => ?_)
      refine lv_aload_n hx hb dJ7_fill_53178_10 rfl (lv_at hl 2 rfl) ?_
      refine lv_iload_n hx hb dJ7_fill_53178_11 rfl (lv_at hl 1 rfl) ?_
      refine lv_iload_n hx hb dJ7_fill_53178_12 rfl (lv_at hl 3 rfl) ?_
      refine zw_iast (r := r) hx hb hK hP hD hS hr1 0 (zw_us _ _ _) ht (by rw [hk]; exact vp_in_nI (by omega) (by omega)) dJ7_fill_53178_13 (cu1 := zw_u cu r (.inl (a0, n, .inl (fun q => if q < j + 1 then v else f q)))) ?_ (fun H locs hP hD hS => ?_)
      · rw [zw_uu, hk, nI_clamp (by omega)]
        congr 5
        funext q
        unfold upd
        by_cases h1 : q = j
        · subst h1
          simp
        · by_cases h2 : q < j
          · rw [if_neg h1, if_pos (show q < j + 1 by omega)]
            exact (if_pos h2).symm
          · rw [if_neg h1, if_neg (show ¬ q < j + 1 by omega)]
            exact (if_neg h2).symm
      refine lv_iinc (v := k + 1) (lv' := [(2, .int (k + 1)), (3, .int (Int32.ofNat n)), (0, .ref (ad r)), (1, .int v)]) hx hb dJ7_fill_53178_14 hl (k := 1) rfl rfl (by decide) rfl (fun ls hl => ?_)
      refine lv_goto (tgt := 5) hx hb dJ7_fill_53178_17 (by decide) ?_
      exact ih (j + 1) (k + 1) _ _ _ (by rw [hk, nI_1]) (by omega) hP hD hS (lv_sub hl [1, 0, 2, 3] rfl)
  refine lv_iconst (v := 0) hx hb dJ7_fill_53178_0 (by decide) ?_
  refine lv_istore_n (lv' := [(2, .int 0), (0, .ref (ad r)), (1, .int v)]) hx hb dJ7_fill_53178_1 rfl hl (by decide) rfl (fun ls hl => ?_)
  refine lv_aload_n hx hb dJ7_fill_53178_2 rfl (lv_at hl 1 rfl) ?_
  refine zw_alen (r := r) (v := Int32.ofNat n) hx hb hK hP hr1 0 he ht rfl dJ7_fill_53178_3 ?_
  refine lv_istore_n (lv' := [(3, .int (Int32.ofNat n)), (2, .int 0), (0, .ref (ad r)), (1, .int v)]) hx hb dJ7_fill_53178_4 rfl hl (by decide) rfl (fun ls hl => ?_)
  have hcu : zw_u cu r (.inl (a0, n, .inl (fun q => if q < 0 then v else f q))) = cu := by
    funext q
    by_cases h : q = r
    · subst h
      rw [zw_us, he]
      simp
    · rw [zw_un _ _ h]
  exact key n 0 0 _ _ _ nI_0.symm (by omega) (by rw [hcu]; exact hP) (by rw [hcu]; exact hD) hS hl
theorem zw_Meq {l : Launch} {y : MethodName} {ws : List Cond} {rm : Room} {E : zw_E} {av : List Value} {ad : zw_R → Nat} {R : List zw_R} {cu cu1 cu2 : zw_R → va_E} {ans : Option Value} (h : zw_M l y ws rm E av ad R cu ans cu1) (e : cu2 = cu1) : zw_M l y ws rm E av ad R cu ans cu2 := e ▸ h
set_option maxHeartbeats 4000000 in
set_option maxRecDepth 100000 in
/-- Track.wipe -/
theorem cd_wipe {l : Launch} {dC : Nat → ClassId} {dI : Nat → Nat → Nat} {cA : Nat → ClassId} {ad : zw_R → Nat} {R : List zw_R} {nr : Nat} {len : Nat → Nat} {σ : sp_S} {cM : zw_R → va_E} (hR : ze_R nr R) (i t : Nat) (hi : i < nr) (ht : t < 4) (hlen : len i ≤ 64) : zw_M l yX1_wipe wsX1_wipe { frames := 1, cells := 0, slots := 0, locals := 23 } (ze_E dC dI cA) [.ref (ad (8, i, t))] ad R (ze_X (ze_D cA ad nr len σ) cM) none (ze_X (ze_D cA ad nr len (zw_u σ (9, i, t) (fun j => if j < len i then 0 else σ (9, i, t) j))) cM) := by
  refine zw_body (cc := cX1_wipe) (maxL := 1) (ret := none) (by decide) rfl (Nat.le_of_ble_eq_true rfl) ?_
  intro p e s m below meth c A ls hx hb hr hlk hml hts hown hnm hA hK hP hD hS hN hl
  have hl : lv_has ls 1 [(0, .ref (ad (8, i, t)))] := hl
  have hwX1 : ∀ w ∈ u_ws RX1 TX1 3, w ∈ wsX1_wipe := by decide +kernel
  refine lv_aload_n hx hb dX1_wipe_0 rfl (lv_at hl 0 rfl) ?_
  refine zw_getf (r := (8, i, t)) (v := .ref (ad (9, i, t))) (C := RX1) (T := TX1) (N := 3) (ci := 1) hx hb hts hwX1 hown hK hP ((hR.2 i hi).2.2 t ht).1 rfl rfl 1 (by decide) (hts (.fieldLink RX1 15 "FourTrackDeck$Track" "numbers" "[I") (by decide +kernel)) (fun _ h9 => h9) rfl dX1_wipe_1 ?_
  refine lv_iconst (v := 0) hx hb dX1_wipe_4 (by decide) ?_
  refine zw_cS (As := [.ref (ad (9, i, t)), .int 0]) (rest := []) (st1 := []) ⟨hx, hb, hml, hown, hts⟩ (zw_Meq (cj_fill (r := (9, i, t)) (n := len i) (f := σ (9, i, t)) ((hR.2 i hi).2.2 t ht).2 rfl rfl (Nat.le_trans hlen (by decide)) 0) (ze_up (σ := σ) (x := fun j => if j < len i then 0 else σ (9, i, t) j) rfl rfl)) (va_cwS 2 hts gX1_wipe_J7_fill_53178 rfl rfl rfl (by decide +kernel) ⟨Nat.le_of_ble_eq_true rfl, Nat.le_of_ble_eq_true rfl⟩) hK hP hD hS hA hN rfl hl.1 rfl (Nat.le_of_ble_eq_true rfl) rfl dX1_wipe_5 ⟨Nat.zero_le _, Nat.zero_le _⟩ (fun H locs hP hD hS => ?_)
  exact zw_vret hx hb hr hlk hK hP hD hS dX1_wipe_8 rfl rfl
set_option maxHeartbeats 4000000 in
set_option maxRecDepth 100000 in
theorem cd_lay {l : Launch} {dC : Nat → ClassId} {dI : Nat → Nat → Nat} {cA : Nat → ClassId} {ad : zw_R → Nat} {R : List zw_R} {nr : Nat} {len : Nat → Nat} {σ : sp_S} {cM : zw_R → va_E} (hR : ze_R nr R) (hnr : nr ≤ 8) (hlen : ∀ i, i < nr → len i ≤ 64) (p0 p1 : Int32) : zw_M l yX2_lay wsX2_lay { frames := 3, cells := 0, slots := 0, locals := 65 } (ze_E dC dI cA) [.ref (ad (0, 0, 0)), .int p0, .int p1] ad R (ze_X (ze_D cA ad nr len σ) cM) (some (.int ((sp_lay nr len σ p0 p1).1))) (ze_X (ze_D cA ad nr len (sp_lay nr len σ p0 p1).2) cM) := by
  refine zw_body (cc := cX2_lay) (maxL := 5) (ret := (some .int)) (by decide) rfl (Nat.le_of_ble_eq_true rfl) ?_
  intro p e s m below meth c A ls hx hb hr hlk hml hts hown hnm hA hK hP hD hS hN hl
  have hl : lv_has ls 5 [(0, .ref (ad (0, 0, 0))), (1, .int p0), (2, .int p1)] := hl
  have hwX1 : ∀ w ∈ u_ws RX1 TX1 3, w ∈ wsX2_lay := by decide +kernel
  refine lv_aload_n hx hb dX2_lay_0 rfl (lv_at hl 0 rfl) ?_
  refine lv_iload_n hx hb dX2_lay_1 rfl (lv_at hl 1 rfl) ?_
  refine lv_iload_n hx hb dX2_lay_2 rfl (lv_at hl 2 rfl) ?_
  rcases Decidable.em (sp_v nr p0 p1) with h_1 | h_1
  · refine zw_cV (r := (0, 0, 0)) (As := [.int p0, .int p1]) (rest := []) (st1 := [.ref (ad (8, p0.toNatClampNeg, p1.toNatClampNeg))]) ⟨hx, hb, hml, hown, hts⟩ (cd_trackOf_1 (σ := σ) hR hnr p0 p1 h_1) (cwV 2 hts gX2_lay_X2_trackOf rfl rfl rfl (by decide +kernel) ⟨Nat.le_of_ble_eq_true rfl, Nat.le_of_ble_eq_true rfl⟩) (hR.1 0 (by decide)) rfl rfl rfl hK hP hD hS hA hN rfl hl.1 rfl (Nat.le_of_ble_eq_true rfl) rfl dX2_lay_3 ⟨Nat.zero_le _, Nat.zero_le _⟩ (fun H locs hP hD hS => ?_)
    refine lv_astore_n (lv' := [(3, .ref (ad (8, p0.toNatClampNeg, p1.toNatClampNeg))), (0, .ref (ad (0, 0, 0))), (1, .int p0), (2, .int p1)]) hx hb dX2_lay_6 rfl hl (by decide) rfl (fun ls hl => ?_)
    refine lv_aload_n hx hb dX2_lay_7 rfl (lv_at hl 0 rfl) ?_
    refine lv_ifnonnull (tgt := 18) hx hb dX2_lay_8 (by decide) ?_
    refine lv_aload_n hx hb dX2_lay_18 rfl (lv_at hl 0 rfl) ?_
    refine zw_getN (r := (8, p0.toNatClampNeg, p1.toNatClampNeg)) (v := .int (σ (8, p0.toNatClampNeg, p1.toNatClampNeg) 1)) (C := RX1) (T := TX1) (N := 3) (ci := 1) hx hb hts hwX1 hown hK hP ((hR.2 p0.toNatClampNeg (ze_vr h_1.1 hnr)).2.2 p1.toNatClampNeg (ze_vt h_1.2)).1 rfl rfl 2 (by decide) ((hN.1 ("FourTrackDeck", 74, "FourTrackDeck$Track", "isThere", "Z", "FourTrackDeck") (by decide +kernel)).use rfl) (fun _ h9 => h9) rfl dX2_lay_19 ?_
    refine lv_if_eq (tgt := 29) hx hb dX2_lay_22 (by decide) (fun c_2 => ?_) (fun c_2 => ?_)
    · refine lv_iconst (v := 1) hx hb dX2_lay_29 (by decide) ?_
      refine lv_istore (lv' := [(4, .int 1), (3, .ref (ad (8, p0.toNatClampNeg, p1.toNatClampNeg))), (0, .ref (ad (0, 0, 0))), (1, .int p0), (2, .int p1)]) hx hb dX2_lay_30 hl (by decide) rfl (fun ls hl => ?_)
      refine lv_aload_n hx hb dX2_lay_32 rfl (lv_at hl 1 rfl) ?_
      refine lv_iconst (v := 1) hx hb dX2_lay_33 (by decide) ?_
      refine zw_putN (r := (8, p0.toNatClampNeg, p1.toNatClampNeg)) (v := .int 1) (C := RX1) (T := TX1) (N := 3) (ci := 1) hx hb hts hwX1 tyX1 tyX1_ok nmX1 hown hK hP hD hS ((hR.2 p0.toNatClampNeg (ze_vr h_1.1 hnr)).2.2 p1.toNatClampNeg (ze_vt h_1.2)).1 rfl rfl 2 (by decide) ((hN.1 ("FourTrackDeck", 74, "FourTrackDeck$Track", "isThere", "Z", "FourTrackDeck") (by decide +kernel)).use rfl) (fun _ h9 => h9) rfl (ty := .boolean) (by decide +kernel) rfl rfl (Nat.le_of_ble_eq_true rfl) dX2_lay_34 (cu1 := ze_X (ze_D cA ad nr len (sp_s σ (8, p0.toNatClampNeg, p1.toNatClampNeg) 1 1)) cM) (ze_up rfl rfl) (fun H locs hP hD hS => ?_)
      refine lv_aload_n hx hb dX2_lay_37 rfl (lv_at hl 1 rfl) ?_
      refine zw_cVN (r := (8, p0.toNatClampNeg, p1.toNatClampNeg)) (As := []) (rest := []) (st1 := []) ⟨hx, hb, hml, hown, hts⟩ (cd_wipe (σ := (sp_s σ (8, p0.toNatClampNeg, p1.toNatClampNeg) 1 1)) hR p0.toNatClampNeg p1.toNatClampNeg (ze_vr h_1.1 hnr) (ze_vt h_1.2) (hlen _ (ze_vr h_1.1 hnr))) ⟨va_cnB (host := "FourTrackDeck") 0 hts gX2_lay_X1_wipe_n80 rfl rfl rfl (hN.2.1 ("FourTrackDeck", 80, yX1_wipe, "FourTrackDeck") (by decide +kernel)) (hts (.initialized RX1) (by decide +kernel)) (by decide +kernel) ⟨Nat.le_of_ble_eq_true rfl, Nat.le_of_ble_eq_true rfl⟩, hts (.instanceMethod yX1_wipe) (by decide +kernel), hts (.selects RX1 yX1_wipe yX1_wipe) (by decide +kernel)⟩ ((hR.2 p0.toNatClampNeg (ze_vr h_1.1 hnr)).2.2 p1.toNatClampNeg (ze_vt h_1.2)).1 rfl rfl rfl hK hP hD hS hA hN rfl hl.1 rfl (Nat.le_of_ble_eq_true rfl) rfl dX2_lay_38 ⟨Nat.zero_le _, Nat.zero_le _⟩ (fun H locs hP hD hS => ?_)
      refine lv_aload_n hx hb dX2_lay_41 rfl (lv_at hl 2 rfl) ?_
      refine lv_iconst (v := 0) hx hb dX2_lay_42 (by decide) ?_
      refine lv_iload hx hb dX2_lay_43 (lv_at hl 0 rfl) ?_
      refine zw_cV (r := (0, 0, 0)) (As := [.int 0, .int 1]) (rest := []) (st1 := [.int 1]) ⟨hx, hb, hml, hown, hts⟩ (cd_end (σ := (zw_u (sp_s σ (8, p0.toNatClampNeg, p1.toNatClampNeg) 1 1) (9, p0.toNatClampNeg, p1.toNatClampNeg) (fun j => if j < len p0.toNatClampNeg then 0 else (sp_s σ (8, p0.toNatClampNeg, p1.toNatClampNeg) 1 1) (9, p0.toNatClampNeg, p1.toNatClampNeg) j))) hR 0 1) (cwV 2 hts gX2_lay_X2_end rfl rfl rfl (by decide +kernel) ⟨Nat.le_of_ble_eq_true rfl, Nat.le_of_ble_eq_true rfl⟩) (hR.1 0 (by decide)) rfl rfl rfl hK hP hD hS hA hN rfl hl.1 rfl (Nat.le_of_ble_eq_true rfl) rfl dX2_lay_45 ⟨Nat.zero_le _, Nat.zero_le _⟩ (fun H locs hP hD hS => ?_)
      exact zw_iret hx hb hr hlk hK hP hD hS dX2_lay_48 (by simp only [sp_lay, if_pos h_1, if_pos c_2] <;> rfl) (by simp only [sp_lay, if_pos h_1, if_pos c_2] <;> rfl)
    · refine lv_iconst (v := 0) hx hb dX2_lay_25 (by decide) ?_
      refine lv_goto (tgt := 30) hx hb dX2_lay_26 (by decide) ?_
      refine lv_istore (lv' := [(4, .int 0), (3, .ref (ad (8, p0.toNatClampNeg, p1.toNatClampNeg))), (0, .ref (ad (0, 0, 0))), (1, .int p0), (2, .int p1)]) hx hb dX2_lay_30 hl (by decide) rfl (fun ls hl => ?_)
      refine lv_aload_n hx hb dX2_lay_32 rfl (lv_at hl 1 rfl) ?_
      refine lv_iconst (v := 1) hx hb dX2_lay_33 (by decide) ?_
      refine zw_putN (r := (8, p0.toNatClampNeg, p1.toNatClampNeg)) (v := .int 1) (C := RX1) (T := TX1) (N := 3) (ci := 1) hx hb hts hwX1 tyX1 tyX1_ok nmX1 hown hK hP hD hS ((hR.2 p0.toNatClampNeg (ze_vr h_1.1 hnr)).2.2 p1.toNatClampNeg (ze_vt h_1.2)).1 rfl rfl 2 (by decide) ((hN.1 ("FourTrackDeck", 74, "FourTrackDeck$Track", "isThere", "Z", "FourTrackDeck") (by decide +kernel)).use rfl) (fun _ h9 => h9) rfl (ty := .boolean) (by decide +kernel) rfl rfl (Nat.le_of_ble_eq_true rfl) dX2_lay_34 (cu1 := ze_X (ze_D cA ad nr len (sp_s σ (8, p0.toNatClampNeg, p1.toNatClampNeg) 1 1)) cM) (ze_up rfl rfl) (fun H locs hP hD hS => ?_)
      refine lv_aload_n hx hb dX2_lay_37 rfl (lv_at hl 1 rfl) ?_
      refine zw_cVN (r := (8, p0.toNatClampNeg, p1.toNatClampNeg)) (As := []) (rest := []) (st1 := []) ⟨hx, hb, hml, hown, hts⟩ (cd_wipe (σ := (sp_s σ (8, p0.toNatClampNeg, p1.toNatClampNeg) 1 1)) hR p0.toNatClampNeg p1.toNatClampNeg (ze_vr h_1.1 hnr) (ze_vt h_1.2) (hlen _ (ze_vr h_1.1 hnr))) ⟨va_cnB (host := "FourTrackDeck") 0 hts gX2_lay_X1_wipe_n80 rfl rfl rfl (hN.2.1 ("FourTrackDeck", 80, yX1_wipe, "FourTrackDeck") (by decide +kernel)) (hts (.initialized RX1) (by decide +kernel)) (by decide +kernel) ⟨Nat.le_of_ble_eq_true rfl, Nat.le_of_ble_eq_true rfl⟩, hts (.instanceMethod yX1_wipe) (by decide +kernel), hts (.selects RX1 yX1_wipe yX1_wipe) (by decide +kernel)⟩ ((hR.2 p0.toNatClampNeg (ze_vr h_1.1 hnr)).2.2 p1.toNatClampNeg (ze_vt h_1.2)).1 rfl rfl rfl hK hP hD hS hA hN rfl hl.1 rfl (Nat.le_of_ble_eq_true rfl) rfl dX2_lay_38 ⟨Nat.zero_le _, Nat.zero_le _⟩ (fun H locs hP hD hS => ?_)
      refine lv_aload_n hx hb dX2_lay_41 rfl (lv_at hl 2 rfl) ?_
      refine lv_iconst (v := 0) hx hb dX2_lay_42 (by decide) ?_
      refine lv_iload hx hb dX2_lay_43 (lv_at hl 0 rfl) ?_
      refine zw_cV (r := (0, 0, 0)) (As := [.int 0, .int 0]) (rest := []) (st1 := [.int 0]) ⟨hx, hb, hml, hown, hts⟩ (cd_end (σ := (zw_u (sp_s σ (8, p0.toNatClampNeg, p1.toNatClampNeg) 1 1) (9, p0.toNatClampNeg, p1.toNatClampNeg) (fun j => if j < len p0.toNatClampNeg then 0 else (sp_s σ (8, p0.toNatClampNeg, p1.toNatClampNeg) 1 1) (9, p0.toNatClampNeg, p1.toNatClampNeg) j))) hR 0 0) (cwV 2 hts gX2_lay_X2_end rfl rfl rfl (by decide +kernel) ⟨Nat.le_of_ble_eq_true rfl, Nat.le_of_ble_eq_true rfl⟩) (hR.1 0 (by decide)) rfl rfl rfl hK hP hD hS hA hN rfl hl.1 rfl (Nat.le_of_ble_eq_true rfl) rfl dX2_lay_45 ⟨Nat.zero_le _, Nat.zero_le _⟩ (fun H locs hP hD hS => ?_)
      exact zw_iret hx hb hr hlk hK hP hD hS dX2_lay_48 (by simp only [sp_lay, if_pos h_1, if_neg c_2] <;> rfl) (by simp only [sp_lay, if_pos h_1, if_neg c_2] <;> rfl)
  · refine zw_cV (r := (0, 0, 0)) (As := [.int p0, .int p1]) (rest := []) (st1 := [.null]) ⟨hx, hb, hml, hown, hts⟩ (cd_trackOf_0 (σ := σ) hR hnr p0 p1 h_1) (cwV 2 hts gX2_lay_X2_trackOf rfl rfl rfl (by decide +kernel) ⟨Nat.le_of_ble_eq_true rfl, Nat.le_of_ble_eq_true rfl⟩) (hR.1 0 (by decide)) rfl rfl rfl hK hP hD hS hA hN rfl hl.1 rfl (Nat.le_of_ble_eq_true rfl) rfl dX2_lay_3 ⟨Nat.zero_le _, Nat.zero_le _⟩ (fun H locs hP hD hS => ?_)
    refine lv_astore_nN (lv' := [(3, .null), (0, .ref (ad (0, 0, 0))), (1, .int p0), (2, .int p1)]) hx hb dX2_lay_6 rfl hl (by decide) rfl (fun ls hl => ?_)
    refine lv_aload_nN hx hb dX2_lay_7 rfl (lv_at hl 0 rfl) ?_
    refine lv_ifnonnullN hx hb dX2_lay_8 ?_
    refine lv_aload_n hx hb dX2_lay_11 rfl (lv_at hl 1 rfl) ?_
    refine lv_iconst (v := 1) hx hb dX2_lay_12 (by decide) ?_
    refine lv_iconst (v := (-1)) hx hb dX2_lay_13 (by decide) ?_
    refine zw_cV (r := (0, 0, 0)) (As := [.int 1, .int (-1)]) (rest := []) (st1 := [.int (-1)]) ⟨hx, hb, hml, hown, hts⟩ (cd_end (σ := σ) hR 1 (-1)) (cwV 2 hts gX2_lay_X2_end rfl rfl rfl (by decide +kernel) ⟨Nat.le_of_ble_eq_true rfl, Nat.le_of_ble_eq_true rfl⟩) (hR.1 0 (by decide)) rfl rfl rfl hK hP hD hS hA hN rfl hl.1 rfl (Nat.le_of_ble_eq_true rfl) rfl dX2_lay_14 ⟨Nat.zero_le _, Nat.zero_le _⟩ (fun H locs hP hD hS => ?_)
    exact zw_iret hx hb hr hlk hK hP hD hS dX2_lay_17 (by simp only [sp_lay, if_neg h_1] <;> rfl) (by simp only [sp_lay, if_neg h_1] <;> rfl)
set_option maxHeartbeats 4000000 in
set_option maxRecDepth 100000 in
theorem cd_sheet {l : Launch} {dC : Nat → ClassId} {dI : Nat → Nat → Nat} {cA : Nat → ClassId} {ad : zw_R → Nat} {R : List zw_R} {nr : Nat} {len : Nat → Nat} {σ : sp_S} {cM : zw_R → va_E} (hR : ze_R nr R) (p0 p1 : Int32) : zw_M l yX2_sheet wsX2_sheet { frames := 1, cells := 0, slots := 0, locals := 23 } (ze_E dC dI cA) [.ref (ad (0, 0, 0)), .int p0, .int p1] ad R (ze_X (ze_D cA ad nr len σ) cM) (some (.int ((sp_sheet nr len σ p0 p1).1))) (ze_X (ze_D cA ad nr len (sp_sheet nr len σ p0 p1).2) cM) := by
  refine zw_body (cc := cX2_sheet) (maxL := 3) (ret := (some .int)) (by decide) rfl (Nat.le_of_ble_eq_true rfl) ?_
  intro p e s m below meth c A ls hx hb hr hlk hml hts hown hnm hA hK hP hD hS hN hl
  have hl : lv_has ls 3 [(0, .ref (ad (0, 0, 0))), (1, .int p0), (2, .int p1)] := hl
  have hwX2 : ∀ w ∈ u_ws RX2 TX2 15, w ∈ wsX2_sheet := by decide +kernel
  refine lv_iload_n hx hb dX2_sheet_0 rfl (lv_at hl 1 rfl) ?_
  refine lv_bipush (v := 16) hx hb dX2_sheet_1 (by decide) ?_
  refine lv_icmp_gt (tgt := 12) hx hb dX2_sheet_3 (by decide) (fun c_1 => ?_) (fun c_1 => ?_)
  · refine lv_aload_n hx hb dX2_sheet_12 rfl (lv_at hl 0 rfl) ?_
    refine lv_iconst (v := 1) hx hb dX2_sheet_13 (by decide) ?_
    refine lv_iconst (v := (-1)) hx hb dX2_sheet_14 (by decide) ?_
    refine zw_cV (r := (0, 0, 0)) (As := [.int 1, .int (-1)]) (rest := []) (st1 := [.int (-1)]) ⟨hx, hb, hml, hown, hts⟩ (cd_end (σ := σ) hR 1 (-1)) (cwV 2 hts gX2_sheet_X2_end rfl rfl rfl (by decide +kernel) ⟨Nat.le_of_ble_eq_true rfl, Nat.le_of_ble_eq_true rfl⟩) (hR.1 0 (by decide)) rfl rfl rfl hK hP hD hS hA hN rfl hl.1 rfl (Nat.le_of_ble_eq_true rfl) rfl dX2_sheet_15 ⟨Nat.zero_le _, Nat.zero_le _⟩ (fun H locs hP hD hS => ?_)
    exact zw_iret hx hb hr hlk hK hP hD hS dX2_sheet_18 (by simp only [sp_sheet, if_pos c_1] <;> rfl) (by simp only [sp_sheet, if_pos c_1] <;> rfl)
  · refine lv_iload_n hx hb dX2_sheet_6 rfl (lv_at hl 2 rfl) ?_
    refine lv_bipush (v := 16) hx hb dX2_sheet_7 (by decide) ?_
    refine lv_icmp_le (tgt := 19) hx hb dX2_sheet_9 (by decide) (fun c_2 => ?_) (fun c_2 => ?_)
    · refine lv_iload_n hx hb dX2_sheet_19 rfl (lv_at hl 1 rfl) ?_
      refine lv_if_lt (tgt := 27) hx hb dX2_sheet_20 (by decide) (fun c_3 => ?_) (fun c_3 => ?_)
      · refine lv_aload_n hx hb dX2_sheet_27 rfl (lv_at hl 0 rfl) ?_
        refine lv_iconst (v := 4) hx hb dX2_sheet_28 (by decide) ?_
        refine lv_iconst (v := (-1)) hx hb dX2_sheet_29 (by decide) ?_
        refine zw_cV (r := (0, 0, 0)) (As := [.int 4, .int (-1)]) (rest := []) (st1 := [.int (-1)]) ⟨hx, hb, hml, hown, hts⟩ (cd_end (σ := σ) hR 4 (-1)) (cwV 2 hts gX2_sheet_X2_end rfl rfl rfl (by decide +kernel) ⟨Nat.le_of_ble_eq_true rfl, Nat.le_of_ble_eq_true rfl⟩) (hR.1 0 (by decide)) rfl rfl rfl hK hP hD hS hA hN rfl hl.1 rfl (Nat.le_of_ble_eq_true rfl) rfl dX2_sheet_30 ⟨Nat.zero_le _, Nat.zero_le _⟩ (fun H locs hP hD hS => ?_)
        exact zw_iret hx hb hr hlk hK hP hD hS dX2_sheet_33 (by simp only [sp_sheet, if_neg c_1, if_pos c_2, if_pos c_3] <;> rfl) (by simp only [sp_sheet, if_neg c_1, if_pos c_2, if_pos c_3] <;> rfl)
      · refine lv_iload_n hx hb dX2_sheet_23 rfl (lv_at hl 2 rfl) ?_
        refine lv_if_ge (tgt := 34) hx hb dX2_sheet_24 (by decide) (fun c_4 => ?_) (fun c_4 => ?_)
        · refine lv_aload_n hx hb dX2_sheet_34 rfl (lv_at hl 0 rfl) ?_
          refine lv_iload_n hx hb dX2_sheet_35 rfl (lv_at hl 1 rfl) ?_
          refine zw_putf (r := (0, 0, 0)) (v := .int p0) (C := RX2) (T := TX2) (N := 15) (ci := 2) hx hb hts hwX2 tyX2 tyX2_ok nmX2 hown hK hP hD hS (hR.1 0 (by decide)) rfl rfl 10 (by decide) (hts (.fieldLink RX2 44 "FourTrackDeck" "sheetRows" "I") (by decide +kernel)) (fun _ h9 => h9) rfl (ty := .int) (by decide +kernel) rfl rfl (Nat.le_of_ble_eq_true rfl) dX2_sheet_36 (cu1 := ze_X (ze_D cA ad nr len (sp_s σ (0, 0, 0) 5 p0)) cM) (ze_up rfl rfl) (fun H locs hP hD hS => ?_)
          refine lv_aload_n hx hb dX2_sheet_39 rfl (lv_at hl 0 rfl) ?_
          refine lv_iload_n hx hb dX2_sheet_40 rfl (lv_at hl 2 rfl) ?_
          refine zw_putf (r := (0, 0, 0)) (v := .int p1) (C := RX2) (T := TX2) (N := 15) (ci := 2) hx hb hts hwX2 tyX2 tyX2_ok nmX2 hown hK hP hD hS (hR.1 0 (by decide)) rfl rfl 11 (by decide) (hts (.fieldLink RX2 47 "FourTrackDeck" "sheetWidth" "I") (by decide +kernel)) (fun _ h9 => h9) rfl (ty := .int) (by decide +kernel) rfl rfl (Nat.le_of_ble_eq_true rfl) dX2_sheet_41 (cu1 := ze_X (ze_D cA ad nr len (sp_s (sp_s σ (0, 0, 0) 5 p0) (0, 0, 0) 6 p1)) cM) (ze_up rfl rfl) (fun H locs hP hD hS => ?_)
          refine lv_aload_n hx hb dX2_sheet_44 rfl (lv_at hl 0 rfl) ?_
          refine zw_getf (r := (0, 0, 0)) (v := .ref (ad (5, 0, 0))) (C := RX2) (T := TX2) (N := 15) (ci := 2) hx hb hts hwX2 hown hK hP (hR.1 0 (by decide)) rfl rfl 9 (by decide) (hts (.fieldLink RX2 41 "FourTrackDeck" "cells" "[I") (by decide +kernel)) (fun _ h9 => h9) rfl dX2_sheet_45 ?_
          refine lv_iconst (v := 0) hx hb dX2_sheet_48 (by decide) ?_
          refine zw_cS (As := [.ref (ad (5, 0, 0)), .int 0]) (rest := []) (st1 := []) ⟨hx, hb, hml, hown, hts⟩ (zw_Meq (cj_fill (r := (5, 0, 0)) (n := 256) (f := (sp_s (sp_s σ (0, 0, 0) 5 p0) (0, 0, 0) 6 p1) (5, 0, 0)) (hR.1 5 (by decide)) rfl rfl (Nat.le_refl 256) 0) (ze_up (σ := (sp_s (sp_s σ (0, 0, 0) 5 p0) (0, 0, 0) 6 p1)) (x := fun j => if j < 256 then 0 else (sp_s (sp_s σ (0, 0, 0) 5 p0) (0, 0, 0) 6 p1) (5, 0, 0) j) rfl rfl)) (va_cwS 2 hts gX2_sheet_J7_fill_53178 rfl rfl rfl (by decide +kernel) ⟨Nat.le_of_ble_eq_true rfl, Nat.le_of_ble_eq_true rfl⟩) hK hP hD hS hA hN rfl hl.1 rfl (Nat.le_of_ble_eq_true rfl) rfl dX2_sheet_49 ⟨Nat.zero_le _, Nat.zero_le _⟩ (fun H locs hP hD hS => ?_)
          refine lv_aload_n hx hb dX2_sheet_52 rfl (lv_at hl 0 rfl) ?_
          refine lv_iconst (v := 0) hx hb dX2_sheet_53 (by decide) ?_
          refine lv_iload_n hx hb dX2_sheet_54 rfl (lv_at hl 1 rfl) ?_
          refine lv_iload_n hx hb dX2_sheet_55 rfl (lv_at hl 2 rfl) ?_
          refine lv_imul hx hb dX2_sheet_56 ?_
          refine zw_cV (r := (0, 0, 0)) (As := [.int 0, .int (p0 * p1)]) (rest := []) (st1 := [.int (p0 * p1)]) ⟨hx, hb, hml, hown, hts⟩ (cd_end (σ := (zw_u (sp_s (sp_s σ (0, 0, 0) 5 p0) (0, 0, 0) 6 p1) (5, 0, 0) (fun j => if j < 256 then 0 else (sp_s (sp_s σ (0, 0, 0) 5 p0) (0, 0, 0) 6 p1) (5, 0, 0) j))) hR 0 (p0 * p1)) (cwV 2 hts gX2_sheet_X2_end rfl rfl rfl (by decide +kernel) ⟨Nat.le_of_ble_eq_true rfl, Nat.le_of_ble_eq_true rfl⟩) (hR.1 0 (by decide)) rfl rfl rfl hK hP hD hS hA hN rfl hl.1 rfl (Nat.le_of_ble_eq_true rfl) rfl dX2_sheet_57 ⟨Nat.zero_le _, Nat.zero_le _⟩ (fun H locs hP hD hS => ?_)
          exact zw_iret hx hb hr hlk hK hP hD hS dX2_sheet_60 (by simp only [sp_sheet, if_neg c_1, if_pos c_2, if_neg c_3, if_pos c_4] <;> rfl) (by simp only [sp_sheet, if_neg c_1, if_pos c_2, if_neg c_3, if_pos c_4] <;> rfl)
        · refine lv_aload_n hx hb dX2_sheet_27 rfl (lv_at hl 0 rfl) ?_
          refine lv_iconst (v := 4) hx hb dX2_sheet_28 (by decide) ?_
          refine lv_iconst (v := (-1)) hx hb dX2_sheet_29 (by decide) ?_
          refine zw_cV (r := (0, 0, 0)) (As := [.int 4, .int (-1)]) (rest := []) (st1 := [.int (-1)]) ⟨hx, hb, hml, hown, hts⟩ (cd_end (σ := σ) hR 4 (-1)) (cwV 2 hts gX2_sheet_X2_end rfl rfl rfl (by decide +kernel) ⟨Nat.le_of_ble_eq_true rfl, Nat.le_of_ble_eq_true rfl⟩) (hR.1 0 (by decide)) rfl rfl rfl hK hP hD hS hA hN rfl hl.1 rfl (Nat.le_of_ble_eq_true rfl) rfl dX2_sheet_30 ⟨Nat.zero_le _, Nat.zero_le _⟩ (fun H locs hP hD hS => ?_)
          exact zw_iret hx hb hr hlk hK hP hD hS dX2_sheet_33 (by simp only [sp_sheet, if_neg c_1, if_pos c_2, if_neg c_3, if_neg c_4] <;> rfl) (by simp only [sp_sheet, if_neg c_1, if_pos c_2, if_neg c_3, if_neg c_4] <;> rfl)
    · refine lv_aload_n hx hb dX2_sheet_12 rfl (lv_at hl 0 rfl) ?_
      refine lv_iconst (v := 1) hx hb dX2_sheet_13 (by decide) ?_
      refine lv_iconst (v := (-1)) hx hb dX2_sheet_14 (by decide) ?_
      refine zw_cV (r := (0, 0, 0)) (As := [.int 1, .int (-1)]) (rest := []) (st1 := [.int (-1)]) ⟨hx, hb, hml, hown, hts⟩ (cd_end (σ := σ) hR 1 (-1)) (cwV 2 hts gX2_sheet_X2_end rfl rfl rfl (by decide +kernel) ⟨Nat.le_of_ble_eq_true rfl, Nat.le_of_ble_eq_true rfl⟩) (hR.1 0 (by decide)) rfl rfl rfl hK hP hD hS hA hN rfl hl.1 rfl (Nat.le_of_ble_eq_true rfl) rfl dX2_sheet_15 ⟨Nat.zero_le _, Nat.zero_le _⟩ (fun H locs hP hD hS => ?_)
      exact zw_iret hx hb hr hlk hK hP hD hS dX2_sheet_18 (by simp only [sp_sheet, if_neg c_1, if_neg c_2] <;> rfl) (by simp only [sp_sheet, if_neg c_1, if_neg c_2] <;> rfl)
set_option maxHeartbeats 4000000 in
set_option maxRecDepth 100000 in
/-- moveHead -/
theorem cd_moveHead {l : Launch} {dC : Nat → ClassId} {dI : Nat → Nat → Nat} {cA : Nat → ClassId} {ad : zw_R → Nat} {R : List zw_R} {nr : Nat} {len : Nat → Nat} {σ : sp_S} {cM : zw_R → va_E} (hR : ze_R nr R) (hnr : nr ≤ 8) (hlen : ∀ i, i < nr → len i ≤ 64) (p0 : Int32) (h : sp_t p0) : zw_M l yX2_moveHead wsX2_moveHead { frames := 3, cells := 0, slots := 0, locals := 65 } (ze_E dC dI cA) [.ref (ad (0, 0, 0)), .int p0] ad R (ze_X (ze_D cA ad nr len σ) cM) (some (.int ((sp_mv nr len σ p0).1))) (ze_X (ze_D cA ad nr len (sp_mv nr len σ p0).2) cM) := by
  refine zw_body (cc := cX2_moveHead) (maxL := 7) (ret := (some .int)) (by decide) rfl (Nat.le_of_ble_eq_true rfl) ?_
  intro p e s m below meth c A ls hx hb hr hlk hml hts hown hnm hA hK hP hD hS hN hl
  have hl : lv_has ls 7 [(0, .ref (ad (0, 0, 0))), (1, .int p0)] := hl
  have hwX2 : ∀ w ∈ u_ws RX2 TX2 15, w ∈ wsX2_moveHead := by decide +kernel
  refine lv_aload_n hx hb dX2_moveHead_0 rfl (lv_at hl 0 rfl) ?_
  refine zw_getf (r := (0, 0, 0)) (v := .ref (ad (3, 0, 0))) (C := RX2) (T := TX2) (N := 15) (ci := 2) hx hb hts hwX2 hown hK hP (hR.1 0 (by decide)) rfl rfl 5 (by decide) (hts (.fieldLink RX2 29 "FourTrackDeck" "modes" "[I") (by decide +kernel)) (fun _ h9 => h9) rfl dX2_moveHead_1 ?_
  refine lv_iload_n hx hb dX2_moveHead_4 rfl (lv_at hl 1 rfl) ?_
  refine zw_iald (r := (3, 0, 0)) hx hb hK hP (hR.1 3 (by decide)) 0 rfl rfl (ze_ti h) dX2_moveHead_5 ?_
  refine lv_istore_n (lv' := [(2, .int (σ (3, 0, 0) p0.toNatClampNeg)), (0, .ref (ad (0, 0, 0))), (1, .int p0)]) hx hb dX2_moveHead_6 rfl hl (by decide) rfl (fun ls hl => ?_)
  refine lv_aload_n hx hb dX2_moveHead_7 rfl (lv_at hl 1 rfl) ?_
  refine lv_aload_n hx hb dX2_moveHead_8 rfl (lv_at hl 1 rfl) ?_
  refine zw_getf (r := (0, 0, 0)) (v := .int (σ (0, 0, 0) 1)) (C := RX2) (T := TX2) (N := 15) (ci := 2) hx hb hts hwX2 hown hK hP (hR.1 0 (by decide)) rfl rfl 2 (by decide) (hts (.fieldLink RX2 19 "FourTrackDeck" "onDeck" "I") (by decide +kernel)) (fun _ h9 => h9) rfl dX2_moveHead_9 ?_
  refine lv_iload_n hx hb dX2_moveHead_12 rfl (lv_at hl 2 rfl) ?_
  rcases Decidable.em (sp_v nr (σ (0, 0, 0) 1) p0) with h_1 | h_1
  · refine zw_cV (r := (0, 0, 0)) (As := [.int (σ (0, 0, 0) 1), .int p0]) (rest := []) (st1 := [.ref (ad (8, (σ (0, 0, 0) 1).toNatClampNeg, p0.toNatClampNeg))]) ⟨hx, hb, hml, hown, hts⟩ (cd_trackOf_1 (σ := σ) hR hnr (σ (0, 0, 0) 1) p0 h_1) (cwV 2 hts gX2_moveHead_X2_trackOf rfl rfl rfl (by decide +kernel) ⟨Nat.le_of_ble_eq_true rfl, Nat.le_of_ble_eq_true rfl⟩) (hR.1 0 (by decide)) rfl rfl rfl hK hP hD hS hA hN rfl hl.1 rfl (Nat.le_of_ble_eq_true rfl) rfl dX2_moveHead_13 ⟨Nat.zero_le _, Nat.zero_le _⟩ (fun H locs hP hD hS => ?_)
    refine lv_astore_n (lv' := [(3, .ref (ad (8, (σ (0, 0, 0) 1).toNatClampNeg, p0.toNatClampNeg))), (2, .int (σ (3, 0, 0) p0.toNatClampNeg)), (0, .ref (ad (0, 0, 0))), (1, .int p0)]) hx hb dX2_moveHead_16 rfl hl (by decide) rfl (fun ls hl => ?_)
    refine lv_iload_n hx hb dX2_moveHead_17 rfl (lv_at hl 1 rfl) ?_
    refine lv_if_eq (tgt := 25) hx hb dX2_moveHead_18 (by decide) (fun c_2 => ?_) (fun c_2 => ?_)
    · refine lv_iconst (v := 0) hx hb dX2_moveHead_25 (by decide) ?_
      exact zw_iret hx hb hr hlk hK hP hD hS dX2_moveHead_26 (by simp only [sp_mv, if_pos h_1, if_pos c_2] <;> rfl) (by simp only [sp_mv, if_pos h_1, if_pos c_2] <;> rfl)
    · refine lv_aload_n hx hb dX2_moveHead_21 rfl (lv_at hl 0 rfl) ?_
      refine lv_ifnonnull (tgt := 27) hx hb dX2_moveHead_22 (by decide) ?_
      refine lv_aload_n hx hb dX2_moveHead_27 rfl (lv_at hl 2 rfl) ?_
      refine lv_iload_n hx hb dX2_moveHead_28 rfl (lv_at hl 3 rfl) ?_
      refine zw_cV (r := (0, 0, 0)) (As := [.int p0]) (rest := []) (st1 := [.int (σ (0, 0, 0) 2 + σ (2, 0, 0) p0.toNatClampNeg)]) ⟨hx, hb, hml, hown, hts⟩ (cd_place (σ := σ) hR p0 h_1.2) (cwV 1 hts gX2_moveHead_X2_placeOfHead rfl rfl rfl (by decide +kernel) ⟨Nat.le_of_ble_eq_true rfl, Nat.le_of_ble_eq_true rfl⟩) (hR.1 0 (by decide)) rfl rfl rfl hK hP hD hS hA hN rfl hl.1 rfl (Nat.le_of_ble_eq_true rfl) rfl dX2_moveHead_29 ⟨Nat.zero_le _, Nat.zero_le _⟩ (fun H locs hP hD hS => ?_)
      refine lv_istore (lv' := [(4, .int (σ (0, 0, 0) 2 + σ (2, 0, 0) p0.toNatClampNeg)), (3, .ref (ad (8, (σ (0, 0, 0) 1).toNatClampNeg, p0.toNatClampNeg))), (2, .int (σ (3, 0, 0) p0.toNatClampNeg)), (0, .ref (ad (0, 0, 0))), (1, .int p0)]) hx hb dX2_moveHead_32 hl (by decide) rfl (fun ls hl => ?_)
      refine lv_aload_n hx hb dX2_moveHead_34 rfl (lv_at hl 1 rfl) ?_
      refine lv_iload hx hb dX2_moveHead_35 (lv_at hl 0 rfl) ?_
      refine zw_cVN (r := (8, (σ (0, 0, 0) 1).toNatClampNeg, p0.toNatClampNeg)) (As := [.int (σ (0, 0, 0) 2 + σ (2, 0, 0) p0.toNatClampNeg)]) (rest := []) (st1 := [.int (sp_f len σ (σ (0, 0, 0) 1).toNatClampNeg p0.toNatClampNeg (σ (0, 0, 0) 2 + σ (2, 0, 0) p0.toNatClampNeg))]) ⟨hx, hb, hml, hown, hts⟩ (cd_faultAt (σ := σ) hR (σ (0, 0, 0) 1).toNatClampNeg p0.toNatClampNeg (ze_vr h_1.1 hnr) (ze_vt h_1.2) (σ (0, 0, 0) 2 + σ (2, 0, 0) p0.toNatClampNeg)) ⟨va_cnB (host := "FourTrackDeck") 1 hts gX2_moveHead_X1_faultAt_n98 rfl rfl rfl (hN.2.1 ("FourTrackDeck", 98, yX1_faultAt, "FourTrackDeck") (by decide +kernel)) (hts (.initialized RX1) (by decide +kernel)) (by decide +kernel) ⟨Nat.le_of_ble_eq_true rfl, Nat.le_of_ble_eq_true rfl⟩, hts (.instanceMethod yX1_faultAt) (by decide +kernel), hts (.selects RX1 yX1_faultAt yX1_faultAt) (by decide +kernel)⟩ ((hR.2 (σ (0, 0, 0) 1).toNatClampNeg (ze_vr h_1.1 hnr)).2.2 p0.toNatClampNeg (ze_vt h_1.2)).1 rfl rfl rfl hK hP hD hS hA hN rfl hl.1 rfl (Nat.le_of_ble_eq_true rfl) rfl dX2_moveHead_37 ⟨Nat.zero_le _, Nat.zero_le _⟩ (fun H locs hP hD hS => ?_)
      refine lv_istore (lv' := [(5, .int (sp_f len σ (σ (0, 0, 0) 1).toNatClampNeg p0.toNatClampNeg (σ (0, 0, 0) 2 + σ (2, 0, 0) p0.toNatClampNeg))), (4, .int (σ (0, 0, 0) 2 + σ (2, 0, 0) p0.toNatClampNeg)), (3, .ref (ad (8, (σ (0, 0, 0) 1).toNatClampNeg, p0.toNatClampNeg))), (2, .int (σ (3, 0, 0) p0.toNatClampNeg)), (0, .ref (ad (0, 0, 0))), (1, .int p0)]) hx hb dX2_moveHead_40 hl (by decide) rfl (fun ls hl => ?_)
      refine lv_iload hx hb dX2_moveHead_42 (lv_at hl 0 rfl) ?_
      refine lv_if_eq (tgt := 50) hx hb dX2_moveHead_44 (by decide) (fun c_3 => ?_) (fun c_3 => ?_)
      · refine lv_aload_n hx hb dX2_moveHead_50 rfl (lv_at hl 2 rfl) ?_
        refine lv_iload hx hb dX2_moveHead_51 (lv_at hl 1 rfl) ?_
        refine zw_cVN (r := (8, (σ (0, 0, 0) 1).toNatClampNeg, p0.toNatClampNeg)) (As := [.int (σ (0, 0, 0) 2 + σ (2, 0, 0) p0.toNatClampNeg)]) (rest := []) (st1 := [.int (sp_n len σ (σ (0, 0, 0) 1).toNatClampNeg p0.toNatClampNeg (σ (0, 0, 0) 2 + σ (2, 0, 0) p0.toNatClampNeg))]) ⟨hx, hb, hml, hown, hts⟩ (cd_numberAt (σ := σ) hR (σ (0, 0, 0) 1).toNatClampNeg p0.toNatClampNeg (ze_vr h_1.1 hnr) (ze_vt h_1.2) (hlen _ (ze_vr h_1.1 hnr)) (σ (0, 0, 0) 2 + σ (2, 0, 0) p0.toNatClampNeg)) ⟨va_cnB (host := "FourTrackDeck") 1 hts gX2_moveHead_X1_numberAt_n101 rfl rfl rfl (hN.2.1 ("FourTrackDeck", 101, yX1_numberAt, "FourTrackDeck") (by decide +kernel)) (hts (.initialized RX1) (by decide +kernel)) (by decide +kernel) ⟨Nat.le_of_ble_eq_true rfl, Nat.le_of_ble_eq_true rfl⟩, hts (.instanceMethod yX1_numberAt) (by decide +kernel), hts (.selects RX1 yX1_numberAt yX1_numberAt) (by decide +kernel)⟩ ((hR.2 (σ (0, 0, 0) 1).toNatClampNeg (ze_vr h_1.1 hnr)).2.2 p0.toNatClampNeg (ze_vt h_1.2)).1 rfl rfl rfl hK hP hD hS hA hN rfl hl.1 rfl (Nat.le_of_ble_eq_true rfl) rfl dX2_moveHead_53 ⟨Nat.zero_le _, Nat.zero_le _⟩ (fun H locs hP hD hS => ?_)
        refine lv_istore (lv' := [(6, .int (sp_n len σ (σ (0, 0, 0) 1).toNatClampNeg p0.toNatClampNeg (σ (0, 0, 0) 2 + σ (2, 0, 0) p0.toNatClampNeg))), (5, .int (sp_f len σ (σ (0, 0, 0) 1).toNatClampNeg p0.toNatClampNeg (σ (0, 0, 0) 2 + σ (2, 0, 0) p0.toNatClampNeg))), (4, .int (σ (0, 0, 0) 2 + σ (2, 0, 0) p0.toNatClampNeg)), (3, .ref (ad (8, (σ (0, 0, 0) 1).toNatClampNeg, p0.toNatClampNeg))), (2, .int (σ (3, 0, 0) p0.toNatClampNeg)), (0, .ref (ad (0, 0, 0))), (1, .int p0)]) hx hb dX2_moveHead_56 hl (by decide) rfl (fun ls hl => ?_)
        refine lv_iload_n hx hb dX2_moveHead_58 rfl (lv_at hl 4 rfl) ?_
        refine lv_iconst (v := 1) hx hb dX2_moveHead_59 (by decide) ?_
        refine lv_icmp_ne (tgt := 76) hx hb dX2_moveHead_60 (by decide) (fun c_4 => ?_) (fun c_4 => ?_)
        · refine lv_aload_n hx hb dX2_moveHead_76 rfl (lv_at hl 3 rfl) ?_
          refine lv_iload hx hb dX2_moveHead_77 (lv_at hl 2 rfl) ?_
          refine lv_iload_n hx hb dX2_moveHead_79 rfl (lv_at hl 4 rfl) ?_
          refine lv_iconst (v := 3) hx hb dX2_moveHead_80 (by decide) ?_
          refine lv_icmp_ne (tgt := 94) hx hb dX2_moveHead_81 (by decide) (fun c_5 => ?_) (fun c_5 => ?_)
          · refine lv_aload_n hx hb dX2_moveHead_94 rfl (lv_at hl 5 rfl) ?_
            refine zw_getf (r := (0, 0, 0)) (v := .int (σ (0, 0, 0) 3)) (C := RX2) (T := TX2) (N := 15) (ci := 2) hx hb hts hwX2 hown hK hP (hR.1 0 (by decide)) rfl rfl 7 (by decide) (hts (.fieldLink RX2 35 "FourTrackDeck" "sourceNumber" "I") (by decide +kernel)) (fun _ h9 => h9) rfl dX2_moveHead_95 ?_
            refine zw_cVN (r := (8, (σ (0, 0, 0) 1).toNatClampNeg, p0.toNatClampNeg)) (As := [.int (σ (0, 0, 0) 2 + σ (2, 0, 0) p0.toNatClampNeg), .int (σ (0, 0, 0) 3)]) (rest := []) (st1 := []) ⟨hx, hb, hml, hown, hts⟩ (cd_put (σ := σ) hR (σ (0, 0, 0) 1).toNatClampNeg p0.toNatClampNeg (ze_vr h_1.1 hnr) (ze_vt h_1.2) (hlen _ (ze_vr h_1.1 hnr)) (σ (0, 0, 0) 2 + σ (2, 0, 0) p0.toNatClampNeg) (σ (0, 0, 0) 3)) ⟨va_cnB (host := "FourTrackDeck") 2 hts gX2_moveHead_X1_put_n104 rfl rfl rfl (hN.2.1 ("FourTrackDeck", 104, yX1_put, "FourTrackDeck") (by decide +kernel)) (hts (.initialized RX1) (by decide +kernel)) (by decide +kernel) ⟨Nat.le_of_ble_eq_true rfl, Nat.le_of_ble_eq_true rfl⟩, hts (.instanceMethod yX1_put) (by decide +kernel), hts (.selects RX1 yX1_put yX1_put) (by decide +kernel)⟩ ((hR.2 (σ (0, 0, 0) 1).toNatClampNeg (ze_vr h_1.1 hnr)).2.2 p0.toNatClampNeg (ze_vt h_1.2)).1 rfl rfl rfl hK hP hD hS hA hN rfl hl.1 rfl (Nat.le_of_ble_eq_true rfl) rfl dX2_moveHead_98 ⟨Nat.zero_le _, Nat.zero_le _⟩ (fun H locs hP hD hS => ?_)
            refine lv_aload_n hx hb dX2_moveHead_101 rfl (lv_at hl 5 rfl) ?_
            refine lv_dup hx hb dX2_moveHead_102 rfl ?_
            refine zw_getf (r := (0, 0, 0)) (v := .int ((sp_put len σ (σ (0, 0, 0) 1).toNatClampNeg p0.toNatClampNeg (σ (0, 0, 0) 2 + σ (2, 0, 0) p0.toNatClampNeg) (σ (0, 0, 0) 3)) (0, 0, 0) 3)) (C := RX2) (T := TX2) (N := 15) (ci := 2) hx hb hts hwX2 hown hK hP (hR.1 0 (by decide)) rfl rfl 7 (by decide) (hts (.fieldLink RX2 35 "FourTrackDeck" "sourceNumber" "I") (by decide +kernel)) (fun _ h9 => h9) rfl dX2_moveHead_103 ?_
            refine lv_aload_n hx hb dX2_moveHead_106 rfl (lv_at hl 5 rfl) ?_
            refine zw_getf (r := (0, 0, 0)) (v := .int ((sp_put len σ (σ (0, 0, 0) 1).toNatClampNeg p0.toNatClampNeg (σ (0, 0, 0) 2 + σ (2, 0, 0) p0.toNatClampNeg) (σ (0, 0, 0) 3)) (0, 0, 0) 4)) (C := RX2) (T := TX2) (N := 15) (ci := 2) hx hb hts hwX2 hown hK hP (hR.1 0 (by decide)) rfl rfl 8 (by decide) (hts (.fieldLink RX2 38 "FourTrackDeck" "sourceStep" "I") (by decide +kernel)) (fun _ h9 => h9) rfl dX2_moveHead_107 ?_
            refine lv_iadd hx hb dX2_moveHead_110 ?_
            refine zw_putf (r := (0, 0, 0)) (v := .int (((sp_put len σ (σ (0, 0, 0) 1).toNatClampNeg p0.toNatClampNeg (σ (0, 0, 0) 2 + σ (2, 0, 0) p0.toNatClampNeg) (σ (0, 0, 0) 3)) (0, 0, 0) 3) + ((sp_put len σ (σ (0, 0, 0) 1).toNatClampNeg p0.toNatClampNeg (σ (0, 0, 0) 2 + σ (2, 0, 0) p0.toNatClampNeg) (σ (0, 0, 0) 3)) (0, 0, 0) 4))) (C := RX2) (T := TX2) (N := 15) (ci := 2) hx hb hts hwX2 tyX2 tyX2_ok nmX2 hown hK hP hD hS (hR.1 0 (by decide)) rfl rfl 7 (by decide) (hts (.fieldLink RX2 35 "FourTrackDeck" "sourceNumber" "I") (by decide +kernel)) (fun _ h9 => h9) rfl (ty := .int) (by decide +kernel) rfl rfl (Nat.le_of_ble_eq_true rfl) dX2_moveHead_111 (cu1 := ze_X (ze_D cA ad nr len (sp_s (sp_put len σ (σ (0, 0, 0) 1).toNatClampNeg p0.toNatClampNeg (σ (0, 0, 0) 2 + σ (2, 0, 0) p0.toNatClampNeg) (σ (0, 0, 0) 3)) (0, 0, 0) 3 (((sp_put len σ (σ (0, 0, 0) 1).toNatClampNeg p0.toNatClampNeg (σ (0, 0, 0) 2 + σ (2, 0, 0) p0.toNatClampNeg) (σ (0, 0, 0) 3)) (0, 0, 0) 3) + ((sp_put len σ (σ (0, 0, 0) 1).toNatClampNeg p0.toNatClampNeg (σ (0, 0, 0) 2 + σ (2, 0, 0) p0.toNatClampNeg) (σ (0, 0, 0) 3)) (0, 0, 0) 4)))) cM) (ze_up rfl rfl) (fun H locs hP hD hS => ?_)
            refine lv_iconst (v := 0) hx hb dX2_moveHead_114 (by decide) ?_
            exact zw_iret hx hb hr hlk hK hP hD hS dX2_moveHead_115 (by simp only [sp_mv, if_pos h_1, if_neg c_2, if_pos c_3, if_neg c_4, if_neg c_5] <;> rfl) (by simp only [sp_mv, if_pos h_1, if_neg c_2, if_pos c_3, if_neg c_4, if_neg c_5] <;> rfl)
          · refine lv_iload hx hb dX2_moveHead_84 (lv_at hl 0 rfl) ?_
            refine lv_aload_n hx hb dX2_moveHead_86 rfl (lv_at hl 5 rfl) ?_
            refine zw_getf (r := (0, 0, 0)) (v := .int (σ (0, 0, 0) 3)) (C := RX2) (T := TX2) (N := 15) (ci := 2) hx hb hts hwX2 hown hK hP (hR.1 0 (by decide)) rfl rfl 7 (by decide) (hts (.fieldLink RX2 35 "FourTrackDeck" "sourceNumber" "I") (by decide +kernel)) (fun _ h9 => h9) rfl dX2_moveHead_87 ?_
            refine lv_iadd hx hb dX2_moveHead_90 ?_
            refine lv_goto (tgt := 98) hx hb dX2_moveHead_91 (by decide) ?_
            refine zw_cVN (r := (8, (σ (0, 0, 0) 1).toNatClampNeg, p0.toNatClampNeg)) (As := [.int (σ (0, 0, 0) 2 + σ (2, 0, 0) p0.toNatClampNeg), .int ((sp_n len σ (σ (0, 0, 0) 1).toNatClampNeg p0.toNatClampNeg (σ (0, 0, 0) 2 + σ (2, 0, 0) p0.toNatClampNeg)) + (σ (0, 0, 0) 3))]) (rest := []) (st1 := []) ⟨hx, hb, hml, hown, hts⟩ (cd_put (σ := σ) hR (σ (0, 0, 0) 1).toNatClampNeg p0.toNatClampNeg (ze_vr h_1.1 hnr) (ze_vt h_1.2) (hlen _ (ze_vr h_1.1 hnr)) (σ (0, 0, 0) 2 + σ (2, 0, 0) p0.toNatClampNeg) ((sp_n len σ (σ (0, 0, 0) 1).toNatClampNeg p0.toNatClampNeg (σ (0, 0, 0) 2 + σ (2, 0, 0) p0.toNatClampNeg)) + (σ (0, 0, 0) 3))) ⟨va_cnB (host := "FourTrackDeck") 2 hts gX2_moveHead_X1_put_n104 rfl rfl rfl (hN.2.1 ("FourTrackDeck", 104, yX1_put, "FourTrackDeck") (by decide +kernel)) (hts (.initialized RX1) (by decide +kernel)) (by decide +kernel) ⟨Nat.le_of_ble_eq_true rfl, Nat.le_of_ble_eq_true rfl⟩, hts (.instanceMethod yX1_put) (by decide +kernel), hts (.selects RX1 yX1_put yX1_put) (by decide +kernel)⟩ ((hR.2 (σ (0, 0, 0) 1).toNatClampNeg (ze_vr h_1.1 hnr)).2.2 p0.toNatClampNeg (ze_vt h_1.2)).1 rfl rfl rfl hK hP hD hS hA hN rfl hl.1 rfl (Nat.le_of_ble_eq_true rfl) rfl dX2_moveHead_98 ⟨Nat.zero_le _, Nat.zero_le _⟩ (fun H locs hP hD hS => ?_)
            refine lv_aload_n hx hb dX2_moveHead_101 rfl (lv_at hl 5 rfl) ?_
            refine lv_dup hx hb dX2_moveHead_102 rfl ?_
            refine zw_getf (r := (0, 0, 0)) (v := .int ((sp_put len σ (σ (0, 0, 0) 1).toNatClampNeg p0.toNatClampNeg (σ (0, 0, 0) 2 + σ (2, 0, 0) p0.toNatClampNeg) ((sp_n len σ (σ (0, 0, 0) 1).toNatClampNeg p0.toNatClampNeg (σ (0, 0, 0) 2 + σ (2, 0, 0) p0.toNatClampNeg)) + (σ (0, 0, 0) 3))) (0, 0, 0) 3)) (C := RX2) (T := TX2) (N := 15) (ci := 2) hx hb hts hwX2 hown hK hP (hR.1 0 (by decide)) rfl rfl 7 (by decide) (hts (.fieldLink RX2 35 "FourTrackDeck" "sourceNumber" "I") (by decide +kernel)) (fun _ h9 => h9) rfl dX2_moveHead_103 ?_
            refine lv_aload_n hx hb dX2_moveHead_106 rfl (lv_at hl 5 rfl) ?_
            refine zw_getf (r := (0, 0, 0)) (v := .int ((sp_put len σ (σ (0, 0, 0) 1).toNatClampNeg p0.toNatClampNeg (σ (0, 0, 0) 2 + σ (2, 0, 0) p0.toNatClampNeg) ((sp_n len σ (σ (0, 0, 0) 1).toNatClampNeg p0.toNatClampNeg (σ (0, 0, 0) 2 + σ (2, 0, 0) p0.toNatClampNeg)) + (σ (0, 0, 0) 3))) (0, 0, 0) 4)) (C := RX2) (T := TX2) (N := 15) (ci := 2) hx hb hts hwX2 hown hK hP (hR.1 0 (by decide)) rfl rfl 8 (by decide) (hts (.fieldLink RX2 38 "FourTrackDeck" "sourceStep" "I") (by decide +kernel)) (fun _ h9 => h9) rfl dX2_moveHead_107 ?_
            refine lv_iadd hx hb dX2_moveHead_110 ?_
            refine zw_putf (r := (0, 0, 0)) (v := .int (((sp_put len σ (σ (0, 0, 0) 1).toNatClampNeg p0.toNatClampNeg (σ (0, 0, 0) 2 + σ (2, 0, 0) p0.toNatClampNeg) ((sp_n len σ (σ (0, 0, 0) 1).toNatClampNeg p0.toNatClampNeg (σ (0, 0, 0) 2 + σ (2, 0, 0) p0.toNatClampNeg)) + (σ (0, 0, 0) 3))) (0, 0, 0) 3) + ((sp_put len σ (σ (0, 0, 0) 1).toNatClampNeg p0.toNatClampNeg (σ (0, 0, 0) 2 + σ (2, 0, 0) p0.toNatClampNeg) ((sp_n len σ (σ (0, 0, 0) 1).toNatClampNeg p0.toNatClampNeg (σ (0, 0, 0) 2 + σ (2, 0, 0) p0.toNatClampNeg)) + (σ (0, 0, 0) 3))) (0, 0, 0) 4))) (C := RX2) (T := TX2) (N := 15) (ci := 2) hx hb hts hwX2 tyX2 tyX2_ok nmX2 hown hK hP hD hS (hR.1 0 (by decide)) rfl rfl 7 (by decide) (hts (.fieldLink RX2 35 "FourTrackDeck" "sourceNumber" "I") (by decide +kernel)) (fun _ h9 => h9) rfl (ty := .int) (by decide +kernel) rfl rfl (Nat.le_of_ble_eq_true rfl) dX2_moveHead_111 (cu1 := ze_X (ze_D cA ad nr len (sp_s (sp_put len σ (σ (0, 0, 0) 1).toNatClampNeg p0.toNatClampNeg (σ (0, 0, 0) 2 + σ (2, 0, 0) p0.toNatClampNeg) ((sp_n len σ (σ (0, 0, 0) 1).toNatClampNeg p0.toNatClampNeg (σ (0, 0, 0) 2 + σ (2, 0, 0) p0.toNatClampNeg)) + (σ (0, 0, 0) 3))) (0, 0, 0) 3 (((sp_put len σ (σ (0, 0, 0) 1).toNatClampNeg p0.toNatClampNeg (σ (0, 0, 0) 2 + σ (2, 0, 0) p0.toNatClampNeg) ((sp_n len σ (σ (0, 0, 0) 1).toNatClampNeg p0.toNatClampNeg (σ (0, 0, 0) 2 + σ (2, 0, 0) p0.toNatClampNeg)) + (σ (0, 0, 0) 3))) (0, 0, 0) 3) + ((sp_put len σ (σ (0, 0, 0) 1).toNatClampNeg p0.toNatClampNeg (σ (0, 0, 0) 2 + σ (2, 0, 0) p0.toNatClampNeg) ((sp_n len σ (σ (0, 0, 0) 1).toNatClampNeg p0.toNatClampNeg (σ (0, 0, 0) 2 + σ (2, 0, 0) p0.toNatClampNeg)) + (σ (0, 0, 0) 3))) (0, 0, 0) 4)))) cM) (ze_up rfl rfl) (fun H locs hP hD hS => ?_)
            refine lv_iconst (v := 0) hx hb dX2_moveHead_114 (by decide) ?_
            exact zw_iret hx hb hr hlk hK hP hD hS dX2_moveHead_115 (by simp only [sp_mv, if_pos h_1, if_neg c_2, if_pos c_3, if_neg c_4, if_pos c_5] <;> rfl) (by simp only [sp_mv, if_pos h_1, if_neg c_2, if_pos c_3, if_neg c_4, if_pos c_5] <;> rfl)
        · refine lv_aload_n hx hb dX2_moveHead_63 rfl (lv_at hl 5 rfl) ?_
          refine zw_getf (r := (0, 0, 0)) (v := .ref (ad (4, 0, 0))) (C := RX2) (T := TX2) (N := 15) (ci := 2) hx hb hts hwX2 hown hK hP (hR.1 0 (by decide)) rfl rfl 6 (by decide) (hts (.fieldLink RX2 32 "FourTrackDeck" "meters" "[I") (by decide +kernel)) (fun _ h9 => h9) rfl dX2_moveHead_64 ?_
          refine lv_iload_n hx hb dX2_moveHead_67 rfl (lv_at hl 6 rfl) ?_
          refine lv_dup2_11 hx hb dX2_moveHead_68 rfl rfl ?_
          refine zw_iald (r := (4, 0, 0)) hx hb hK hP (hR.1 4 (by decide)) 0 rfl rfl (ze_ti h) dX2_moveHead_69 ?_
          refine lv_iload hx hb dX2_moveHead_70 (lv_at hl 0 rfl) ?_
          refine lv_iadd hx hb dX2_moveHead_72 ?_
          refine zw_iast (r := (4, 0, 0)) hx hb hK hP hD hS (hR.1 4 (by decide)) 0 rfl rfl (ze_ti h) dX2_moveHead_73 (cu1 := ze_X (ze_D cA ad nr len (sp_s σ (4, 0, 0) p0.toNatClampNeg ((σ (4, 0, 0) p0.toNatClampNeg) + (sp_n len σ (σ (0, 0, 0) 1).toNatClampNeg p0.toNatClampNeg (σ (0, 0, 0) 2 + σ (2, 0, 0) p0.toNatClampNeg))))) cM) (ze_up rfl rfl) (fun H locs hP hD hS => ?_)
          refine lv_iconst (v := 0) hx hb dX2_moveHead_74 (by decide) ?_
          exact zw_iret hx hb hr hlk hK hP hD hS dX2_moveHead_75 (by simp only [sp_mv, if_pos h_1, if_neg c_2, if_pos c_3, if_pos c_4] <;> rfl) (by simp only [sp_mv, if_pos h_1, if_neg c_2, if_pos c_3, if_pos c_4] <;> rfl)
      · refine lv_iload hx hb dX2_moveHead_47 (lv_at hl 0 rfl) ?_
        exact zw_iret hx hb hr hlk hK hP hD hS dX2_moveHead_49 (by simp only [sp_mv, if_pos h_1, if_neg c_2, if_neg c_3] <;> rfl) (by simp only [sp_mv, if_pos h_1, if_neg c_2, if_neg c_3] <;> rfl)
  · refine zw_cV (r := (0, 0, 0)) (As := [.int (σ (0, 0, 0) 1), .int p0]) (rest := []) (st1 := [.null]) ⟨hx, hb, hml, hown, hts⟩ (cd_trackOf_0 (σ := σ) hR hnr (σ (0, 0, 0) 1) p0 h_1) (cwV 2 hts gX2_moveHead_X2_trackOf rfl rfl rfl (by decide +kernel) ⟨Nat.le_of_ble_eq_true rfl, Nat.le_of_ble_eq_true rfl⟩) (hR.1 0 (by decide)) rfl rfl rfl hK hP hD hS hA hN rfl hl.1 rfl (Nat.le_of_ble_eq_true rfl) rfl dX2_moveHead_13 ⟨Nat.zero_le _, Nat.zero_le _⟩ (fun H locs hP hD hS => ?_)
    refine lv_astore_nN (lv' := [(3, .null), (2, .int (σ (3, 0, 0) p0.toNatClampNeg)), (0, .ref (ad (0, 0, 0))), (1, .int p0)]) hx hb dX2_moveHead_16 rfl hl (by decide) rfl (fun ls hl => ?_)
    refine lv_iload_n hx hb dX2_moveHead_17 rfl (lv_at hl 1 rfl) ?_
    refine lv_if_eq (tgt := 25) hx hb dX2_moveHead_18 (by decide) (fun c_6 => ?_) (fun c_6 => ?_)
    · refine lv_iconst (v := 0) hx hb dX2_moveHead_25 (by decide) ?_
      exact zw_iret hx hb hr hlk hK hP hD hS dX2_moveHead_26 (by simp only [sp_mv, if_neg h_1, if_pos c_6] <;> rfl) (by simp only [sp_mv, if_neg h_1, if_pos c_6] <;> rfl)
    · refine lv_aload_nN hx hb dX2_moveHead_21 rfl (lv_at hl 0 rfl) ?_
      refine lv_ifnonnullN hx hb dX2_moveHead_22 ?_
      refine lv_iconst (v := 0) hx hb dX2_moveHead_25 (by decide) ?_
      exact zw_iret hx hb hr hlk hK hP hD hS dX2_moveHead_26 (by simp only [sp_mv, if_neg h_1, if_neg c_6] <;> rfl) (by simp only [sp_mv, if_neg h_1, if_neg c_6] <;> rfl)
set_option maxHeartbeats 4000000 in
set_option maxRecDepth 100000 in
/-- tick -/
theorem cd_tick {l : Launch} {dC : Nat → ClassId} {dI : Nat → Nat → Nat} {cA : Nat → ClassId} {ad : zw_R → Nat} {R : List zw_R} {nr : Nat} {len : Nat → Nat} {σ : sp_S} {cM : zw_R → va_E} (hR : ze_R nr R) (hnr : nr ≤ 8) (hlen : ∀ i, i < nr → len i ≤ 64) : zw_M l yX2_tick wsX2_tick { frames := 4, cells := 0, slots := 0, locals := 91 } (ze_E dC dI cA) [.ref (ad (0, 0, 0))] ad R (ze_X (ze_D cA ad nr len σ) cM) none (ze_X (ze_D cA ad nr len (sp_tk nr len 4 0 σ)) cM) := by
  refine zw_body (cc := cX2_tick) (maxL := 3) (ret := none) (by decide) rfl (Nat.le_of_ble_eq_true rfl) ?_
  intro p e s m below meth c A ls hx hb hr hlk hml hts hown hnm hA hK hP hD hS hN hl
  have hl : lv_has ls 3 [(0, .ref (ad (0, 0, 0)))] := hl
  have hwX2 : ∀ w ∈ u_ws RX2 TX2 15, w ∈ wsX2_tick := by decide +kernel
  refine lv_iconst (v := 0) hx hb dX2_tick_0 (by decide) ?_
  refine lv_istore_n (lv' := [(1, .int 0), (0, .ref (ad (0, 0, 0)))]) hx hb dX2_tick_1 rfl hl (by decide) rfl (fun ls hl => ?_)
  refine lv_iload_n hx hb dX2_tick_2 rfl (lv_at hl 0 rfl) ?_
  refine lv_iconst (v := 4) hx hb dX2_tick_3 (by decide) ?_
  refine lv_icmp_ge (tgt := 34) hx hb dX2_tick_4 (by decide) (fun c_1 => absurd c_1 (by decide)) (fun c_1 => ?_)
  refine lv_aload_n hx hb dX2_tick_7 rfl (lv_at hl 1 rfl) ?_
  refine lv_iload_n hx hb dX2_tick_8 rfl (lv_at hl 0 rfl) ?_
  refine zw_cV (r := (0, 0, 0)) (As := [.int 0]) (rest := []) (st1 := [.int ((sp_mv nr len σ 0).1)]) ⟨hx, hb, hml, hown, hts⟩ (cd_moveHead (σ := σ) hR hnr hlen 0 (by decide)) (cwV 1 hts gX2_tick_X2_moveHead rfl rfl rfl (by decide +kernel) ⟨Nat.le_of_ble_eq_true rfl, Nat.le_of_ble_eq_true rfl⟩) (hR.1 0 (by decide)) rfl rfl rfl hK hP hD hS hA hN rfl hl.1 rfl (Nat.le_of_ble_eq_true rfl) rfl dX2_tick_9 ⟨Nat.zero_le _, Nat.zero_le _⟩ (fun H locs hP hD hS => ?_)
  refine lv_istore_n (lv' := [(2, .int ((sp_mv nr len σ 0).1)), (1, .int 0), (0, .ref (ad (0, 0, 0)))]) hx hb dX2_tick_12 rfl hl (by decide) rfl (fun ls hl => ?_)
  refine lv_iload_n hx hb dX2_tick_13 rfl (lv_at hl 0 rfl) ?_
  refine lv_if_eq (tgt := 28) hx hb dX2_tick_14 (by decide) (fun c_2 => ?_) (fun c_2 => ?_)
  · refine lv_iinc (v := 1) (lv' := [(1, .int 1), (2, .int ((sp_mv nr len σ 0).1)), (0, .ref (ad (0, 0, 0)))]) hx hb dX2_tick_28 hl (k := 1) rfl rfl (by decide) rfl (fun ls hl => ?_)
    refine lv_goto (tgt := 2) hx hb dX2_tick_31 (by decide) ?_
    refine lv_iload_n hx hb dX2_tick_2 rfl (lv_at hl 0 rfl) ?_
    refine lv_iconst (v := 4) hx hb dX2_tick_3 (by decide) ?_
    refine lv_icmp_ge (tgt := 34) hx hb dX2_tick_4 (by decide) (fun c_3 => absurd c_3 (by decide)) (fun c_3 => ?_)
    refine lv_aload_n hx hb dX2_tick_7 rfl (lv_at hl 2 rfl) ?_
    refine lv_iload_n hx hb dX2_tick_8 rfl (lv_at hl 0 rfl) ?_
    refine zw_cV (r := (0, 0, 0)) (As := [.int 1]) (rest := []) (st1 := [.int ((sp_mv nr len (sp_mv nr len σ 0).2 1).1)]) ⟨hx, hb, hml, hown, hts⟩ (cd_moveHead (σ := (sp_mv nr len σ 0).2) hR hnr hlen 1 (by decide)) (cwV 1 hts gX2_tick_X2_moveHead rfl rfl rfl (by decide +kernel) ⟨Nat.le_of_ble_eq_true rfl, Nat.le_of_ble_eq_true rfl⟩) (hR.1 0 (by decide)) rfl rfl rfl hK hP hD hS hA hN rfl hl.1 rfl (Nat.le_of_ble_eq_true rfl) rfl dX2_tick_9 ⟨Nat.zero_le _, Nat.zero_le _⟩ (fun H locs hP hD hS => ?_)
    refine lv_istore_n (lv' := [(2, .int ((sp_mv nr len (sp_mv nr len σ 0).2 1).1)), (1, .int 1), (0, .ref (ad (0, 0, 0)))]) hx hb dX2_tick_12 rfl hl (by decide) rfl (fun ls hl => ?_)
    refine lv_iload_n hx hb dX2_tick_13 rfl (lv_at hl 0 rfl) ?_
    refine lv_if_eq (tgt := 28) hx hb dX2_tick_14 (by decide) (fun c_4 => ?_) (fun c_4 => ?_)
    · refine lv_iinc (v := 2) (lv' := [(1, .int 2), (2, .int ((sp_mv nr len (sp_mv nr len σ 0).2 1).1)), (0, .ref (ad (0, 0, 0)))]) hx hb dX2_tick_28 hl (k := 1) rfl rfl (by decide) rfl (fun ls hl => ?_)
      refine lv_goto (tgt := 2) hx hb dX2_tick_31 (by decide) ?_
      refine lv_iload_n hx hb dX2_tick_2 rfl (lv_at hl 0 rfl) ?_
      refine lv_iconst (v := 4) hx hb dX2_tick_3 (by decide) ?_
      refine lv_icmp_ge (tgt := 34) hx hb dX2_tick_4 (by decide) (fun c_5 => absurd c_5 (by decide)) (fun c_5 => ?_)
      refine lv_aload_n hx hb dX2_tick_7 rfl (lv_at hl 2 rfl) ?_
      refine lv_iload_n hx hb dX2_tick_8 rfl (lv_at hl 0 rfl) ?_
      refine zw_cV (r := (0, 0, 0)) (As := [.int 2]) (rest := []) (st1 := [.int ((sp_mv nr len (sp_mv nr len (sp_mv nr len σ 0).2 1).2 2).1)]) ⟨hx, hb, hml, hown, hts⟩ (cd_moveHead (σ := (sp_mv nr len (sp_mv nr len σ 0).2 1).2) hR hnr hlen 2 (by decide)) (cwV 1 hts gX2_tick_X2_moveHead rfl rfl rfl (by decide +kernel) ⟨Nat.le_of_ble_eq_true rfl, Nat.le_of_ble_eq_true rfl⟩) (hR.1 0 (by decide)) rfl rfl rfl hK hP hD hS hA hN rfl hl.1 rfl (Nat.le_of_ble_eq_true rfl) rfl dX2_tick_9 ⟨Nat.zero_le _, Nat.zero_le _⟩ (fun H locs hP hD hS => ?_)
      refine lv_istore_n (lv' := [(2, .int ((sp_mv nr len (sp_mv nr len (sp_mv nr len σ 0).2 1).2 2).1)), (1, .int 2), (0, .ref (ad (0, 0, 0)))]) hx hb dX2_tick_12 rfl hl (by decide) rfl (fun ls hl => ?_)
      refine lv_iload_n hx hb dX2_tick_13 rfl (lv_at hl 0 rfl) ?_
      refine lv_if_eq (tgt := 28) hx hb dX2_tick_14 (by decide) (fun c_6 => ?_) (fun c_6 => ?_)
      · refine lv_iinc (v := 3) (lv' := [(1, .int 3), (2, .int ((sp_mv nr len (sp_mv nr len (sp_mv nr len σ 0).2 1).2 2).1)), (0, .ref (ad (0, 0, 0)))]) hx hb dX2_tick_28 hl (k := 1) rfl rfl (by decide) rfl (fun ls hl => ?_)
        refine lv_goto (tgt := 2) hx hb dX2_tick_31 (by decide) ?_
        refine lv_iload_n hx hb dX2_tick_2 rfl (lv_at hl 0 rfl) ?_
        refine lv_iconst (v := 4) hx hb dX2_tick_3 (by decide) ?_
        refine lv_icmp_ge (tgt := 34) hx hb dX2_tick_4 (by decide) (fun c_7 => absurd c_7 (by decide)) (fun c_7 => ?_)
        refine lv_aload_n hx hb dX2_tick_7 rfl (lv_at hl 2 rfl) ?_
        refine lv_iload_n hx hb dX2_tick_8 rfl (lv_at hl 0 rfl) ?_
        refine zw_cV (r := (0, 0, 0)) (As := [.int 3]) (rest := []) (st1 := [.int ((sp_mv nr len (sp_mv nr len (sp_mv nr len (sp_mv nr len σ 0).2 1).2 2).2 3).1)]) ⟨hx, hb, hml, hown, hts⟩ (cd_moveHead (σ := (sp_mv nr len (sp_mv nr len (sp_mv nr len σ 0).2 1).2 2).2) hR hnr hlen 3 (by decide)) (cwV 1 hts gX2_tick_X2_moveHead rfl rfl rfl (by decide +kernel) ⟨Nat.le_of_ble_eq_true rfl, Nat.le_of_ble_eq_true rfl⟩) (hR.1 0 (by decide)) rfl rfl rfl hK hP hD hS hA hN rfl hl.1 rfl (Nat.le_of_ble_eq_true rfl) rfl dX2_tick_9 ⟨Nat.zero_le _, Nat.zero_le _⟩ (fun H locs hP hD hS => ?_)
        refine lv_istore_n (lv' := [(2, .int ((sp_mv nr len (sp_mv nr len (sp_mv nr len (sp_mv nr len σ 0).2 1).2 2).2 3).1)), (1, .int 3), (0, .ref (ad (0, 0, 0)))]) hx hb dX2_tick_12 rfl hl (by decide) rfl (fun ls hl => ?_)
        refine lv_iload_n hx hb dX2_tick_13 rfl (lv_at hl 0 rfl) ?_
        refine lv_if_eq (tgt := 28) hx hb dX2_tick_14 (by decide) (fun c_8 => ?_) (fun c_8 => ?_)
        · refine lv_iinc (v := 4) (lv' := [(1, .int 4), (2, .int ((sp_mv nr len (sp_mv nr len (sp_mv nr len (sp_mv nr len σ 0).2 1).2 2).2 3).1)), (0, .ref (ad (0, 0, 0)))]) hx hb dX2_tick_28 hl (k := 1) rfl rfl (by decide) rfl (fun ls hl => ?_)
          refine lv_goto (tgt := 2) hx hb dX2_tick_31 (by decide) ?_
          refine lv_iload_n hx hb dX2_tick_2 rfl (lv_at hl 0 rfl) ?_
          refine lv_iconst (v := 4) hx hb dX2_tick_3 (by decide) ?_
          refine lv_icmp_ge (tgt := 34) hx hb dX2_tick_4 (by decide) (fun c_9 => ?_) (fun c_9 => absurd (by decide) c_9)
          refine lv_aload_n hx hb dX2_tick_34 rfl (lv_at hl 2 rfl) ?_
          refine lv_dup hx hb dX2_tick_35 rfl ?_
          refine zw_getf (r := (0, 0, 0)) (v := .int ((sp_mv nr len (sp_mv nr len (sp_mv nr len (sp_mv nr len σ 0).2 1).2 2).2 3).2 (0, 0, 0) 2)) (C := RX2) (T := TX2) (N := 15) (ci := 2) hx hb hts hwX2 hown hK hP (hR.1 0 (by decide)) rfl rfl 3 (by decide) (hts (.fieldLink RX2 22 "FourTrackDeck" "tapeAt" "I") (by decide +kernel)) (fun _ h9 => h9) rfl dX2_tick_36 ?_
          refine lv_iconst (v := 1) hx hb dX2_tick_39 (by decide) ?_
          refine lv_iadd hx hb dX2_tick_40 ?_
          refine zw_putf (r := (0, 0, 0)) (v := .int (((sp_mv nr len (sp_mv nr len (sp_mv nr len (sp_mv nr len σ 0).2 1).2 2).2 3).2 (0, 0, 0) 2) + 1)) (C := RX2) (T := TX2) (N := 15) (ci := 2) hx hb hts hwX2 tyX2 tyX2_ok nmX2 hown hK hP hD hS (hR.1 0 (by decide)) rfl rfl 3 (by decide) (hts (.fieldLink RX2 22 "FourTrackDeck" "tapeAt" "I") (by decide +kernel)) (fun _ h9 => h9) rfl (ty := .int) (by decide +kernel) rfl rfl (Nat.le_of_ble_eq_true rfl) dX2_tick_41 (cu1 := ze_X (ze_D cA ad nr len (sp_s (sp_mv nr len (sp_mv nr len (sp_mv nr len (sp_mv nr len σ 0).2 1).2 2).2 3).2 (0, 0, 0) 2 (((sp_mv nr len (sp_mv nr len (sp_mv nr len (sp_mv nr len σ 0).2 1).2 2).2 3).2 (0, 0, 0) 2) + 1))) cM) (ze_up rfl rfl) (fun H locs hP hD hS => ?_)
          exact zw_vret hx hb hr hlk hK hP hD hS dX2_tick_44 rfl (by simp only [sp_tk, sp_01, sp_12, sp_23, if_pos c_2, if_pos c_4, if_pos c_6, if_pos c_8] <;> rfl)
        · refine lv_aload_n hx hb dX2_tick_17 rfl (lv_at hl 2 rfl) ?_
          refine lv_iload_n hx hb dX2_tick_18 rfl (lv_at hl 1 rfl) ?_
          refine zw_putf (r := (0, 0, 0)) (v := .int 3) (C := RX2) (T := TX2) (N := 15) (ci := 2) hx hb hts hwX2 tyX2 tyX2_ok nmX2 hown hK hP hD hS (hR.1 0 (by decide)) rfl rfl 12 (by decide) (hts (.fieldLink RX2 50 "FourTrackDeck" "tripTrack" "I") (by decide +kernel)) (fun _ h9 => h9) rfl (ty := .int) (by decide +kernel) rfl rfl (Nat.le_of_ble_eq_true rfl) dX2_tick_19 (cu1 := ze_X (ze_D cA ad nr len (sp_s (sp_mv nr len (sp_mv nr len (sp_mv nr len (sp_mv nr len σ 0).2 1).2 2).2 3).2 (0, 0, 0) 7 3)) cM) (ze_up rfl rfl) (fun H locs hP hD hS => ?_)
          refine lv_aload_n hx hb dX2_tick_22 rfl (lv_at hl 2 rfl) ?_
          refine lv_iload_n hx hb dX2_tick_23 rfl (lv_at hl 0 rfl) ?_
          refine zw_putf (r := (0, 0, 0)) (v := .int ((sp_mv nr len (sp_mv nr len (sp_mv nr len (sp_mv nr len σ 0).2 1).2 2).2 3).1)) (C := RX2) (T := TX2) (N := 15) (ci := 2) hx hb hts hwX2 tyX2 tyX2_ok nmX2 hown hK hP hD hS (hR.1 0 (by decide)) rfl rfl 13 (by decide) (hts (.fieldLink RX2 53 "FourTrackDeck" "tripStatus" "I") (by decide +kernel)) (fun _ h9 => h9) rfl (ty := .int) (by decide +kernel) rfl rfl (Nat.le_of_ble_eq_true rfl) dX2_tick_24 (cu1 := ze_X (ze_D cA ad nr len (sp_s (sp_s (sp_mv nr len (sp_mv nr len (sp_mv nr len (sp_mv nr len σ 0).2 1).2 2).2 3).2 (0, 0, 0) 7 3) (0, 0, 0) 8 ((sp_mv nr len (sp_mv nr len (sp_mv nr len (sp_mv nr len σ 0).2 1).2 2).2 3).1))) cM) (ze_up rfl rfl) (fun H locs hP hD hS => ?_)
          exact zw_vret hx hb hr hlk hK hP hD hS dX2_tick_27 rfl (by simp only [sp_tk, sp_01, sp_12, sp_23, if_pos c_2, if_pos c_4, if_pos c_6, if_neg c_8] <;> rfl)
      · refine lv_aload_n hx hb dX2_tick_17 rfl (lv_at hl 2 rfl) ?_
        refine lv_iload_n hx hb dX2_tick_18 rfl (lv_at hl 1 rfl) ?_
        refine zw_putf (r := (0, 0, 0)) (v := .int 2) (C := RX2) (T := TX2) (N := 15) (ci := 2) hx hb hts hwX2 tyX2 tyX2_ok nmX2 hown hK hP hD hS (hR.1 0 (by decide)) rfl rfl 12 (by decide) (hts (.fieldLink RX2 50 "FourTrackDeck" "tripTrack" "I") (by decide +kernel)) (fun _ h9 => h9) rfl (ty := .int) (by decide +kernel) rfl rfl (Nat.le_of_ble_eq_true rfl) dX2_tick_19 (cu1 := ze_X (ze_D cA ad nr len (sp_s (sp_mv nr len (sp_mv nr len (sp_mv nr len σ 0).2 1).2 2).2 (0, 0, 0) 7 2)) cM) (ze_up rfl rfl) (fun H locs hP hD hS => ?_)
        refine lv_aload_n hx hb dX2_tick_22 rfl (lv_at hl 2 rfl) ?_
        refine lv_iload_n hx hb dX2_tick_23 rfl (lv_at hl 0 rfl) ?_
        refine zw_putf (r := (0, 0, 0)) (v := .int ((sp_mv nr len (sp_mv nr len (sp_mv nr len σ 0).2 1).2 2).1)) (C := RX2) (T := TX2) (N := 15) (ci := 2) hx hb hts hwX2 tyX2 tyX2_ok nmX2 hown hK hP hD hS (hR.1 0 (by decide)) rfl rfl 13 (by decide) (hts (.fieldLink RX2 53 "FourTrackDeck" "tripStatus" "I") (by decide +kernel)) (fun _ h9 => h9) rfl (ty := .int) (by decide +kernel) rfl rfl (Nat.le_of_ble_eq_true rfl) dX2_tick_24 (cu1 := ze_X (ze_D cA ad nr len (sp_s (sp_s (sp_mv nr len (sp_mv nr len (sp_mv nr len σ 0).2 1).2 2).2 (0, 0, 0) 7 2) (0, 0, 0) 8 ((sp_mv nr len (sp_mv nr len (sp_mv nr len σ 0).2 1).2 2).1))) cM) (ze_up rfl rfl) (fun H locs hP hD hS => ?_)
        exact zw_vret hx hb hr hlk hK hP hD hS dX2_tick_27 rfl (by simp only [sp_tk, sp_01, sp_12, sp_23, if_pos c_2, if_pos c_4, if_neg c_6] <;> rfl)
    · refine lv_aload_n hx hb dX2_tick_17 rfl (lv_at hl 2 rfl) ?_
      refine lv_iload_n hx hb dX2_tick_18 rfl (lv_at hl 1 rfl) ?_
      refine zw_putf (r := (0, 0, 0)) (v := .int 1) (C := RX2) (T := TX2) (N := 15) (ci := 2) hx hb hts hwX2 tyX2 tyX2_ok nmX2 hown hK hP hD hS (hR.1 0 (by decide)) rfl rfl 12 (by decide) (hts (.fieldLink RX2 50 "FourTrackDeck" "tripTrack" "I") (by decide +kernel)) (fun _ h9 => h9) rfl (ty := .int) (by decide +kernel) rfl rfl (Nat.le_of_ble_eq_true rfl) dX2_tick_19 (cu1 := ze_X (ze_D cA ad nr len (sp_s (sp_mv nr len (sp_mv nr len σ 0).2 1).2 (0, 0, 0) 7 1)) cM) (ze_up rfl rfl) (fun H locs hP hD hS => ?_)
      refine lv_aload_n hx hb dX2_tick_22 rfl (lv_at hl 2 rfl) ?_
      refine lv_iload_n hx hb dX2_tick_23 rfl (lv_at hl 0 rfl) ?_
      refine zw_putf (r := (0, 0, 0)) (v := .int ((sp_mv nr len (sp_mv nr len σ 0).2 1).1)) (C := RX2) (T := TX2) (N := 15) (ci := 2) hx hb hts hwX2 tyX2 tyX2_ok nmX2 hown hK hP hD hS (hR.1 0 (by decide)) rfl rfl 13 (by decide) (hts (.fieldLink RX2 53 "FourTrackDeck" "tripStatus" "I") (by decide +kernel)) (fun _ h9 => h9) rfl (ty := .int) (by decide +kernel) rfl rfl (Nat.le_of_ble_eq_true rfl) dX2_tick_24 (cu1 := ze_X (ze_D cA ad nr len (sp_s (sp_s (sp_mv nr len (sp_mv nr len σ 0).2 1).2 (0, 0, 0) 7 1) (0, 0, 0) 8 ((sp_mv nr len (sp_mv nr len σ 0).2 1).1))) cM) (ze_up rfl rfl) (fun H locs hP hD hS => ?_)
      exact zw_vret hx hb hr hlk hK hP hD hS dX2_tick_27 rfl (by simp only [sp_tk, sp_01, sp_12, sp_23, if_pos c_2, if_neg c_4] <;> rfl)
  · refine lv_aload_n hx hb dX2_tick_17 rfl (lv_at hl 2 rfl) ?_
    refine lv_iload_n hx hb dX2_tick_18 rfl (lv_at hl 1 rfl) ?_
    refine zw_putf (r := (0, 0, 0)) (v := .int 0) (C := RX2) (T := TX2) (N := 15) (ci := 2) hx hb hts hwX2 tyX2 tyX2_ok nmX2 hown hK hP hD hS (hR.1 0 (by decide)) rfl rfl 12 (by decide) (hts (.fieldLink RX2 50 "FourTrackDeck" "tripTrack" "I") (by decide +kernel)) (fun _ h9 => h9) rfl (ty := .int) (by decide +kernel) rfl rfl (Nat.le_of_ble_eq_true rfl) dX2_tick_19 (cu1 := ze_X (ze_D cA ad nr len (sp_s (sp_mv nr len σ 0).2 (0, 0, 0) 7 0)) cM) (ze_up rfl rfl) (fun H locs hP hD hS => ?_)
    refine lv_aload_n hx hb dX2_tick_22 rfl (lv_at hl 2 rfl) ?_
    refine lv_iload_n hx hb dX2_tick_23 rfl (lv_at hl 0 rfl) ?_
    refine zw_putf (r := (0, 0, 0)) (v := .int ((sp_mv nr len σ 0).1)) (C := RX2) (T := TX2) (N := 15) (ci := 2) hx hb hts hwX2 tyX2 tyX2_ok nmX2 hown hK hP hD hS (hR.1 0 (by decide)) rfl rfl 13 (by decide) (hts (.fieldLink RX2 53 "FourTrackDeck" "tripStatus" "I") (by decide +kernel)) (fun _ h9 => h9) rfl (ty := .int) (by decide +kernel) rfl rfl (Nat.le_of_ble_eq_true rfl) dX2_tick_24 (cu1 := ze_X (ze_D cA ad nr len (sp_s (sp_s (sp_mv nr len σ 0).2 (0, 0, 0) 7 0) (0, 0, 0) 8 ((sp_mv nr len σ 0).1))) cM) (ze_up rfl rfl) (fun H locs hP hD hS => ?_)
    exact zw_vret hx hb hr hlk hK hP hD hS dX2_tick_27 rfl (by simp only [sp_tk, sp_01, sp_12, sp_23, if_neg c_2] <;> rfl)
set_option maxHeartbeats 4000000 in
set_option maxRecDepth 100000 in
theorem cd_run {l : Launch} {dC : Nat → ClassId} {dI : Nat → Nat → Nat} {cA : Nat → ClassId} {ad : zw_R → Nat} {R : List zw_R} {nr : Nat} {len : Nat → Nat} {σ : sp_S} {cM : zw_R → va_E} (hR : ze_R nr R) (hnr : nr ≤ 8) (hlen : ∀ i, i < nr → len i ≤ 64) (p0 : Int32) : zw_M l yX2_run wsX2_run { frames := 5, cells := 0, slots := 0, locals := 113 } (ze_E dC dI cA) [.ref (ad (0, 0, 0)), .int p0] ad R (ze_X (ze_D cA ad nr len σ) cM) (some (.int ((sp_run nr len σ p0).1))) (ze_X (ze_D cA ad nr len (sp_run nr len σ p0).2) cM) := by
  refine zw_body (cc := cX2_run) (maxL := 3) (ret := (some .int)) (by decide) rfl (Nat.le_of_ble_eq_true rfl) ?_
  intro p e s m below meth c A ls hx hb hr hlk hml hts hown hnm hA hK hP hD hS hN hl
  have hl : lv_has ls 3 [(0, .ref (ad (0, 0, 0))), (1, .int p0)] := hl
  have hwX2 : ∀ w ∈ u_ws RX2 TX2 15, w ∈ wsX2_run := by decide +kernel
  refine lv_iload_n hx hb dX2_run_0 rfl (lv_at hl 1 rfl) ?_
  refine lv_iconst (v := 1) hx hb dX2_run_1 (by decide) ?_
  refine lv_bipush (v := 100) hx hb dX2_run_2 (by decide) ?_
  rcases Decidable.em (sp_w p0 1 100) with h_1 | h_1
  · refine zw_cS (As := [.int p0, .int 1, .int 100]) (rest := []) (st1 := [.int 1]) ⟨hx, hb, hml, hown, hts⟩ (cd_isWithin_1 p0 1 100 h_1) (va_cwS 3 hts gX2_run_X2_isWithin rfl rfl rfl (by decide +kernel) ⟨Nat.le_of_ble_eq_true rfl, Nat.le_of_ble_eq_true rfl⟩) hK hP hD hS hA hN rfl hl.1 rfl (Nat.le_of_ble_eq_true rfl) rfl dX2_run_4 ⟨Nat.zero_le _, Nat.zero_le _⟩ (fun H locs hP hD hS => ?_)
    refine lv_if_ne (tgt := 17) hx hb dX2_run_7 (by decide) (fun c_2 => ?_) (fun c_2 => absurd c_2 (by decide))
    refine lv_aload_n hx hb dX2_run_17 rfl (lv_at hl 0 rfl) ?_
    refine zw_getf (r := (0, 0, 0)) (v := .int (σ (0, 0, 0) 1)) (C := RX2) (T := TX2) (N := 15) (ci := 2) hx hb hts hwX2 hown hK hP (hR.1 0 (by decide)) rfl rfl 2 (by decide) (hts (.fieldLink RX2 19 "FourTrackDeck" "onDeck" "I") (by decide +kernel)) (fun _ h9 => h9) rfl dX2_run_18 ?_
    refine lv_iconst (v := (-1)) hx hb dX2_run_21 (by decide) ?_
    refine lv_icmp_ne (tgt := 32) hx hb dX2_run_22 (by decide) (fun c_3 => ?_) (fun c_3 => ?_)
    · refine lv_aload_n hx hb dX2_run_32 rfl (lv_at hl 0 rfl) ?_
      refine lv_iconst (v := (-1)) hx hb dX2_run_33 (by decide) ?_
      refine zw_putf (r := (0, 0, 0)) (v := .int (-1)) (C := RX2) (T := TX2) (N := 15) (ci := 2) hx hb hts hwX2 tyX2 tyX2_ok nmX2 hown hK hP hD hS (hR.1 0 (by decide)) rfl rfl 12 (by decide) (hts (.fieldLink RX2 50 "FourTrackDeck" "tripTrack" "I") (by decide +kernel)) (fun _ h9 => h9) rfl (ty := .int) (by decide +kernel) rfl rfl (Nat.le_of_ble_eq_true rfl) dX2_run_34 (cu1 := ze_X (ze_D cA ad nr len (sp_s σ (0, 0, 0) 7 (-1))) cM) (ze_up rfl rfl) (fun H locs hP hD hS => ?_)
      refine lv_aload_n hx hb dX2_run_37 rfl (lv_at hl 0 rfl) ?_
      refine lv_iconst (v := 0) hx hb dX2_run_38 (by decide) ?_
      refine zw_putf (r := (0, 0, 0)) (v := .int 0) (C := RX2) (T := TX2) (N := 15) (ci := 2) hx hb hts hwX2 tyX2 tyX2_ok nmX2 hown hK hP hD hS (hR.1 0 (by decide)) rfl rfl 13 (by decide) (hts (.fieldLink RX2 53 "FourTrackDeck" "tripStatus" "I") (by decide +kernel)) (fun _ h9 => h9) rfl (ty := .int) (by decide +kernel) rfl rfl (Nat.le_of_ble_eq_true rfl) dX2_run_39 (cu1 := ze_X (ze_D cA ad nr len (sp_s (sp_s σ (0, 0, 0) 7 (-1)) (0, 0, 0) 8 0)) cM) (ze_up rfl rfl) (fun H locs hP hD hS => ?_)
      refine lv_iconst (v := 0) hx hb dX2_run_42 (by decide) ?_
      refine lv_istore_n (lv' := [(2, .int 0), (0, .ref (ad (0, 0, 0))), (1, .int p0)]) hx hb dX2_run_43 rfl hl (by decide) rfl (fun ls hl => ?_)
      have h0 : (0 : Int32) ≤ p0 := Int32.le_trans (by decide) h_1.1
      have eN : p0 = nI p0.toNatClampNeg := (ze_nn h0).symm
      have hNb := ze_nb (n := 100) rfl h0 h_1.2
      have key : ∀ (mm j : Nat) (k : Int32) (τ : sp_S) (H : Heap) (locs : List Loc) (ls : Array Slot), k = nI j → j + mm = p0.toNatClampNeg → sp_run nr len σ p0 = sp_rl nr len mm k τ → va_P (ze_E dC dI cA).1 (ze_E dC dI cA).2.1 (zw_l ad R (ze_X (ze_D cA ad nr len τ) cM)) H → va_D A (zw_l ad R (ze_X (ze_D cA ad nr len τ) cM)) → va_S A s.heap H locs → lv_has ls 3 [(2, .int k), (0, .ref (ad (0, 0, 0))), (1, .int p0)] → W p l e ({ frames := 5, cells := 0, slots := 0, locals := 113 } : Room) s m [Value.ref (ad (0, 0, 0)), Value.int p0].toArray below meth c H locs 0 0 (MQ below (zw_Q (some (.int (sp_run nr len σ p0).1)) (zw_B (ze_E dC dI cA) A ad R (ze_X (ze_D cA ad nr len (sp_run nr len σ p0).2) cM)) A) [Value.ref (ad (0, 0, 0)), Value.int p0].toArray s 0 0 A) (F0 m 44 ls []) := by
        intro mm
        induction mm with
        | zero =>
          intro j k τ H locs ls hk hj hE hP hD hS hl
          have hge : p0 ≤ k := by rw [hk, eN]; exact nI_le (by omega) (by omega)
          refine lv_iload_n hx hb dX2_run_44 rfl (lv_at hl 0 rfl) ?_
          refine lv_iload_n hx hb dX2_run_45 rfl (lv_at hl 2 rfl) ?_
          refine lv_icmp_ge (tgt := 76) hx hb dX2_run_46 (by decide) (fun c_4 => ?_) (fun c_4 => absurd hge c_4)
          refine lv_aload_n hx hb dX2_run_76 rfl (lv_at hl 1 rfl) ?_
          refine lv_iconst (v := 0) hx hb dX2_run_77 (by decide) ?_
          refine lv_iload_n hx hb dX2_run_78 rfl (lv_at hl 2 rfl) ?_
          refine zw_cV (r := (0, 0, 0)) (As := [.int 0, .int p0]) (rest := []) (st1 := [.int p0]) ⟨hx, hb, hml, hown, hts⟩ (cd_end (σ := τ) hR 0 p0) (cwV 2 hts gX2_run_X2_end rfl rfl rfl (by decide +kernel) ⟨Nat.le_of_ble_eq_true rfl, Nat.le_of_ble_eq_true rfl⟩) (hR.1 0 (by decide)) rfl rfl rfl hK hP hD hS hA hN rfl hl.1 rfl (Nat.le_of_ble_eq_true rfl) rfl dX2_run_79 ⟨Nat.zero_le _, Nat.zero_le _⟩ (fun H locs hP hD hS => ?_)
          exact zw_iret hx hb hr hlk hK hP hD hS dX2_run_82 (by rw [hE]; simp only [sp_rl]; rw [hk, show j = p0.toNatClampNeg by omega, ← eN]) (by rw [hE]; simp only [sp_rl] <;> rfl)
        | succ mm ih =>
          intro j k τ H locs ls hk hj hE hP hD hS hl
          have hlt : ¬ p0 ≤ k := by rw [hk, eN]; exact nI_ge (by omega) (by omega)
          refine lv_iload_n hx hb dX2_run_44 rfl (lv_at hl 0 rfl) ?_
          refine lv_iload_n hx hb dX2_run_45 rfl (lv_at hl 2 rfl) ?_
          refine lv_icmp_ge (tgt := 76) hx hb dX2_run_46 (by decide) (fun c_5 => absurd c_5 hlt) (fun c_5 => ?_)
          refine lv_aload_n hx hb dX2_run_49 rfl (lv_at hl 1 rfl) ?_
          refine zw_cV (r := (0, 0, 0)) (As := []) (rest := []) (st1 := []) ⟨hx, hb, hml, hown, hts⟩ (cd_tick (σ := τ) hR hnr hlen) (cwV 0 hts gX2_run_X2_tick rfl rfl rfl (by decide +kernel) ⟨Nat.le_of_ble_eq_true rfl, Nat.le_of_ble_eq_true rfl⟩) (hR.1 0 (by decide)) rfl rfl rfl hK hP hD hS hA hN rfl hl.1 rfl (Nat.le_of_ble_eq_true rfl) rfl dX2_run_50 ⟨Nat.zero_le _, Nat.zero_le _⟩ (fun H locs hP hD hS => ?_)
          refine lv_aload_n hx hb dX2_run_53 rfl (lv_at hl 1 rfl) ?_
          refine zw_getf (r := (0, 0, 0)) (v := .int ((sp_tk nr len 4 0 τ) (0, 0, 0) 8)) (C := RX2) (T := TX2) (N := 15) (ci := 2) hx hb hts hwX2 hown hK hP (hR.1 0 (by decide)) rfl rfl 13 (by decide) (hts (.fieldLink RX2 53 "FourTrackDeck" "tripStatus" "I") (by decide +kernel)) (fun _ h9 => h9) rfl dX2_run_54 ?_
          refine lv_if_eq (tgt := 70) hx hb dX2_run_57 (by decide) (fun c_6 => ?_) (fun c_6 => ?_)
          · refine lv_iinc (v := (k + 1)) (lv' := [(2, .int (k + 1)), (0, .ref (ad (0, 0, 0))), (1, .int p0)]) hx hb dX2_run_70 hl (k := 0) rfl rfl (by decide) rfl (fun ls hl => ?_)
            refine lv_goto (tgt := 44) hx hb dX2_run_73 (by decide) ?_
            exact ih (j + 1) (k + 1) (sp_tk nr len 4 0 τ) _ _ _ (by rw [hk, nI_1]) (by omega) (hE.trans (by simp only [sp_rl, if_pos c_6] <;> rfl)) hP hD hS (lv_sub hl [0, 1, 2] rfl)
          · refine lv_aload_n hx hb dX2_run_60 rfl (lv_at hl 1 rfl) ?_
            refine lv_aload_n hx hb dX2_run_61 rfl (lv_at hl 1 rfl) ?_
            refine zw_getf (r := (0, 0, 0)) (v := .int ((sp_tk nr len 4 0 τ) (0, 0, 0) 8)) (C := RX2) (T := TX2) (N := 15) (ci := 2) hx hb hts hwX2 hown hK hP (hR.1 0 (by decide)) rfl rfl 13 (by decide) (hts (.fieldLink RX2 53 "FourTrackDeck" "tripStatus" "I") (by decide +kernel)) (fun _ h9 => h9) rfl dX2_run_62 ?_
            refine lv_iload_n hx hb dX2_run_65 rfl (lv_at hl 0 rfl) ?_
            refine zw_cV (r := (0, 0, 0)) (As := [.int ((sp_tk nr len 4 0 τ) (0, 0, 0) 8), .int k]) (rest := []) (st1 := [.int k]) ⟨hx, hb, hml, hown, hts⟩ (cd_end (σ := (sp_tk nr len 4 0 τ)) hR ((sp_tk nr len 4 0 τ) (0, 0, 0) 8) k) (cwV 2 hts gX2_run_X2_end rfl rfl rfl (by decide +kernel) ⟨Nat.le_of_ble_eq_true rfl, Nat.le_of_ble_eq_true rfl⟩) (hR.1 0 (by decide)) rfl rfl rfl hK hP hD hS hA hN rfl hl.1 rfl (Nat.le_of_ble_eq_true rfl) rfl dX2_run_66 ⟨Nat.zero_le _, Nat.zero_le _⟩ (fun H locs hP hD hS => ?_)
            exact zw_iret hx hb hr hlk hK hP hD hS dX2_run_69 (by rw [hE]; simp only [sp_rl, if_neg c_6] <;> rfl) (by rw [hE]; simp only [sp_rl, if_neg c_6] <;> rfl)
      exact key p0.toNatClampNeg 0 0 (sp_s (sp_s σ (0, 0, 0) 7 (-1)) (0, 0, 0) 8 0) _ _ _ nI_0.symm (by omega) (by simp only [sp_run, if_pos h_1, if_neg c_3] <;> rfl) hP hD hS hl
    · refine lv_aload_n hx hb dX2_run_25 rfl (lv_at hl 0 rfl) ?_
      refine lv_iconst (v := 5) hx hb dX2_run_26 (by decide) ?_
      refine lv_iconst (v := 0) hx hb dX2_run_27 (by decide) ?_
      refine zw_cV (r := (0, 0, 0)) (As := [.int 5, .int 0]) (rest := []) (st1 := [.int 0]) ⟨hx, hb, hml, hown, hts⟩ (cd_end (σ := σ) hR 5 0) (cwV 2 hts gX2_run_X2_end rfl rfl rfl (by decide +kernel) ⟨Nat.le_of_ble_eq_true rfl, Nat.le_of_ble_eq_true rfl⟩) (hR.1 0 (by decide)) rfl rfl rfl hK hP hD hS hA hN rfl hl.1 rfl (Nat.le_of_ble_eq_true rfl) rfl dX2_run_28 ⟨Nat.zero_le _, Nat.zero_le _⟩ (fun H locs hP hD hS => ?_)
      exact zw_iret hx hb hr hlk hK hP hD hS dX2_run_31 (by simp only [sp_run, if_pos h_1, if_pos c_3] <;> rfl) (by simp only [sp_run, if_pos h_1, if_pos c_3] <;> rfl)
  · refine zw_cS (As := [.int p0, .int 1, .int 100]) (rest := []) (st1 := [.int 0]) ⟨hx, hb, hml, hown, hts⟩ (cd_isWithin_0 p0 1 100 h_1) (va_cwS 3 hts gX2_run_X2_isWithin rfl rfl rfl (by decide +kernel) ⟨Nat.le_of_ble_eq_true rfl, Nat.le_of_ble_eq_true rfl⟩) hK hP hD hS hA hN rfl hl.1 rfl (Nat.le_of_ble_eq_true rfl) rfl dX2_run_4 ⟨Nat.zero_le _, Nat.zero_le _⟩ (fun H locs hP hD hS => ?_)
    refine lv_if_ne (tgt := 17) hx hb dX2_run_7 (by decide) (fun c_7 => absurd (by decide) c_7) (fun c_7 => ?_)
    refine lv_aload_n hx hb dX2_run_10 rfl (lv_at hl 0 rfl) ?_
    refine lv_iconst (v := 1) hx hb dX2_run_11 (by decide) ?_
    refine lv_iconst (v := 0) hx hb dX2_run_12 (by decide) ?_
    refine zw_cV (r := (0, 0, 0)) (As := [.int 1, .int 0]) (rest := []) (st1 := [.int 0]) ⟨hx, hb, hml, hown, hts⟩ (cd_end (σ := σ) hR 1 0) (cwV 2 hts gX2_run_X2_end rfl rfl rfl (by decide +kernel) ⟨Nat.le_of_ble_eq_true rfl, Nat.le_of_ble_eq_true rfl⟩) (hR.1 0 (by decide)) rfl rfl rfl hK hP hD hS hA hN rfl hl.1 rfl (Nat.le_of_ble_eq_true rfl) rfl dX2_run_13 ⟨Nat.zero_le _, Nat.zero_le _⟩ (fun H locs hP hD hS => ?_)
    exact zw_iret hx hb hr hlk hK hP hD hS dX2_run_16 (by simp only [sp_run, if_neg h_1] <;> rfl) (by simp only [sp_run, if_neg h_1] <;> rfl)
set_option maxHeartbeats 4000000 in
set_option maxRecDepth 100000 in
theorem cd_dub {l : Launch} {dC : Nat → ClassId} {dI : Nat → Nat → Nat} {cA : Nat → ClassId} {ad : zw_R → Nat} {R : List zw_R} {nr : Nat} {len : Nat → Nat} {σ : sp_S} {cM : zw_R → va_E} (hR : ze_R nr R) (hnr : nr ≤ 8) (hlen : ∀ i, i < nr → len i ≤ 64) (p0 p1 p2 p3 p4 p5 : Int32) : zw_M l yX2_dub wsX2_dub { frames := 3, cells := 0, slots := 0, locals := 65 } (ze_E dC dI cA) [.ref (ad (0, 0, 0)), .int p0, .int p1, .int p2, .int p3, .int p4, .int p5] ad R (ze_X (ze_D cA ad nr len σ) cM) (some (.int ((sp_dub nr len σ p0 p1 p2 p3 p4 p5).1))) (ze_X (ze_D cA ad nr len (sp_dub nr len σ p0 p1 p2 p3 p4 p5).2) cM) := by
  refine zw_body (cc := cX2_dub) (maxL := 11) (ret := (some .int)) (by decide) rfl (Nat.le_of_ble_eq_true rfl) ?_
  intro p e s m below meth c A ls hx hb hr hlk hml hts hown hnm hA hK hP hD hS hN hl
  have hl : lv_has ls 11 [(0, .ref (ad (0, 0, 0))), (1, .int p0), (2, .int p1), (3, .int p2), (4, .int p3), (5, .int p4), (6, .int p5)] := hl
  have hwX2 : ∀ w ∈ u_ws RX2 TX2 15, w ∈ wsX2_dub := by decide +kernel
  refine lv_aload_n hx hb dX2_dub_0 rfl (lv_at hl 0 rfl) ?_
  refine lv_iload_n hx hb dX2_dub_1 rfl (lv_at hl 1 rfl) ?_
  refine lv_iload_n hx hb dX2_dub_2 rfl (lv_at hl 2 rfl) ?_
  rcases Decidable.em (sp_v nr p0 p1) with h_1 | h_1
  · refine zw_cV (r := (0, 0, 0)) (As := [.int p0, .int p1]) (rest := []) (st1 := [.ref (ad (8, p0.toNatClampNeg, p1.toNatClampNeg))]) ⟨hx, hb, hml, hown, hts⟩ (cd_trackOf_1 (σ := σ) hR hnr p0 p1 h_1) (cwV 2 hts gX2_dub_X2_trackOf rfl rfl rfl (by decide +kernel) ⟨Nat.le_of_ble_eq_true rfl, Nat.le_of_ble_eq_true rfl⟩) (hR.1 0 (by decide)) rfl rfl rfl hK hP hD hS hA hN rfl hl.1 rfl (Nat.le_of_ble_eq_true rfl) rfl dX2_dub_3 ⟨Nat.zero_le _, Nat.zero_le _⟩ (fun H locs hP hD hS => ?_)
    refine lv_astore (lv' := [(7, .ref (ad (8, p0.toNatClampNeg, p1.toNatClampNeg))), (0, .ref (ad (0, 0, 0))), (1, .int p0), (2, .int p1), (3, .int p2), (4, .int p3), (5, .int p4), (6, .int p5)]) hx hb dX2_dub_6 hl (by decide) rfl (fun ls hl => ?_)
    refine lv_aload_n hx hb dX2_dub_8 rfl (lv_at hl 1 rfl) ?_
    refine lv_iload hx hb dX2_dub_9 (lv_at hl 6 rfl) ?_
    refine lv_iload hx hb dX2_dub_11 (lv_at hl 7 rfl) ?_
    rcases Decidable.em (sp_v nr p4 p5) with h_2 | h_2
    · refine zw_cV (r := (0, 0, 0)) (As := [.int p4, .int p5]) (rest := []) (st1 := [.ref (ad (8, p4.toNatClampNeg, p5.toNatClampNeg))]) ⟨hx, hb, hml, hown, hts⟩ (cd_trackOf_1 (σ := σ) hR hnr p4 p5 h_2) (cwV 2 hts gX2_dub_X2_trackOf rfl rfl rfl (by decide +kernel) ⟨Nat.le_of_ble_eq_true rfl, Nat.le_of_ble_eq_true rfl⟩) (hR.1 0 (by decide)) rfl rfl rfl hK hP hD hS hA hN rfl hl.1 rfl (Nat.le_of_ble_eq_true rfl) rfl dX2_dub_13 ⟨Nat.zero_le _, Nat.zero_le _⟩ (fun H locs hP hD hS => ?_)
      refine lv_astore (lv' := [(8, .ref (ad (8, p4.toNatClampNeg, p5.toNatClampNeg))), (7, .ref (ad (8, p0.toNatClampNeg, p1.toNatClampNeg))), (0, .ref (ad (0, 0, 0))), (1, .int p0), (2, .int p1), (3, .int p2), (4, .int p3), (5, .int p4), (6, .int p5)]) hx hb dX2_dub_16 hl (by decide) rfl (fun ls hl => ?_)
      refine lv_aload hx hb dX2_dub_18 (lv_at hl 1 rfl) ?_
      refine lv_ifnull hx hb dX2_dub_20 ?_
      refine lv_aload hx hb dX2_dub_23 (lv_at hl 0 rfl) ?_
      refine lv_ifnull hx hb dX2_dub_25 ?_
      refine lv_iload hx hb dX2_dub_28 (lv_at hl 6 rfl) ?_
      refine lv_iconst (v := 0) hx hb dX2_dub_30 (by decide) ?_
      refine lv_bipush (v := 64) hx hb dX2_dub_31 (by decide) ?_
      rcases Decidable.em (sp_w p3 0 64) with h_3 | h_3
      · refine zw_cS (As := [.int p3, .int 0, .int 64]) (rest := []) (st1 := [.int 1]) ⟨hx, hb, hml, hown, hts⟩ (cd_isWithin_1 p3 0 64 h_3) (va_cwS 3 hts gX2_dub_X2_isWithin rfl rfl rfl (by decide +kernel) ⟨Nat.le_of_ble_eq_true rfl, Nat.le_of_ble_eq_true rfl⟩) hK hP hD hS hA hN rfl hl.1 rfl (Nat.le_of_ble_eq_true rfl) rfl dX2_dub_33 ⟨Nat.zero_le _, Nat.zero_le _⟩ (fun H locs hP hD hS => ?_)
        refine lv_if_ne (tgt := 46) hx hb dX2_dub_36 (by decide) (fun c_4 => ?_) (fun c_4 => absurd c_4 (by decide))
        refine lv_iconst (v := 0) hx hb dX2_dub_46 (by decide) ?_
        refine lv_istore (lv' := [(9, .int 0), (8, .ref (ad (8, p4.toNatClampNeg, p5.toNatClampNeg))), (7, .ref (ad (8, p0.toNatClampNeg, p1.toNatClampNeg))), (0, .ref (ad (0, 0, 0))), (1, .int p0), (2, .int p1), (3, .int p2), (4, .int p3), (5, .int p4), (6, .int p5)]) hx hb dX2_dub_47 hl (by decide) rfl (fun ls hl => ?_)
        have h0 : (0 : Int32) ≤ p3 := h_3.1
        have eN : p3 = nI p3.toNatClampNeg := (ze_nn h0).symm
        have hNb := ze_nb (n := 64) rfl h0 h_3.2
        have key : ∀ (mm j : Nat) (k : Int32) (τ : sp_S) (H : Heap) (locs : List Loc) (ls : Array Slot), k = nI j → j + mm = p3.toNatClampNeg → sp_dub nr len σ p0 p1 p2 p3 p4 p5 = sp_dl len p0.toNatClampNeg p1.toNatClampNeg p2 p4.toNatClampNeg p5.toNatClampNeg mm k τ → va_P (ze_E dC dI cA).1 (ze_E dC dI cA).2.1 (zw_l ad R (ze_X (ze_D cA ad nr len τ) cM)) H → va_D A (zw_l ad R (ze_X (ze_D cA ad nr len τ) cM)) → va_S A s.heap H locs → lv_has ls 11 [(9, .int k), (8, .ref (ad (8, p4.toNatClampNeg, p5.toNatClampNeg))), (7, .ref (ad (8, p0.toNatClampNeg, p1.toNatClampNeg))), (0, .ref (ad (0, 0, 0))), (1, .int p0), (2, .int p1), (3, .int p2), (4, .int p3), (5, .int p4), (6, .int p5)] → W p l e ({ frames := 3, cells := 0, slots := 0, locals := 65 } : Room) s m [Value.ref (ad (0, 0, 0)), Value.int p0, Value.int p1, Value.int p2, Value.int p3, Value.int p4, Value.int p5].toArray below meth c H locs 0 0 (MQ below (zw_Q (some (.int (sp_dub nr len σ p0 p1 p2 p3 p4 p5).1)) (zw_B (ze_E dC dI cA) A ad R (ze_X (ze_D cA ad nr len (sp_dub nr len σ p0 p1 p2 p3 p4 p5).2) cM)) A) [Value.ref (ad (0, 0, 0)), Value.int p0, Value.int p1, Value.int p2, Value.int p3, Value.int p4, Value.int p5].toArray s 0 0 A) (F0 m 49 ls []) := by
          intro mm
          induction mm with
          | zero =>
            intro j k τ H locs ls hk hj hE hP hD hS hl
            have hge : p3 ≤ k := by rw [hk, eN]; exact nI_le (by omega) (by omega)
            refine lv_iload hx hb dX2_dub_49 (lv_at hl 0 rfl) ?_
            refine lv_iload hx hb dX2_dub_51 (lv_at hl 7 rfl) ?_
            refine lv_icmp_ge (tgt := 123) hx hb dX2_dub_53 (by decide) (fun c_5 => ?_) (fun c_5 => absurd hge c_5)
            refine lv_aload_n hx hb dX2_dub_123 rfl (lv_at hl 3 rfl) ?_
            refine lv_iconst (v := 0) hx hb dX2_dub_124 (by decide) ?_
            refine lv_iload hx hb dX2_dub_125 (lv_at hl 7 rfl) ?_
            refine zw_cV (r := (0, 0, 0)) (As := [.int 0, .int p3]) (rest := []) (st1 := [.int p3]) ⟨hx, hb, hml, hown, hts⟩ (cd_end (σ := τ) hR 0 p3) (cwV 2 hts gX2_dub_X2_end rfl rfl rfl (by decide +kernel) ⟨Nat.le_of_ble_eq_true rfl, Nat.le_of_ble_eq_true rfl⟩) (hR.1 0 (by decide)) rfl rfl rfl hK hP hD hS hA hN rfl hl.1 rfl (Nat.le_of_ble_eq_true rfl) rfl dX2_dub_127 ⟨Nat.zero_le _, Nat.zero_le _⟩ (fun H locs hP hD hS => ?_)
            exact zw_iret hx hb hr hlk hK hP hD hS dX2_dub_130 (by rw [hE]; simp only [sp_dl]; rw [hk, show j = p3.toNatClampNeg by omega, ← eN]) (by rw [hE]; simp only [sp_dl] <;> rfl)
          | succ mm ih =>
            intro j k τ H locs ls hk hj hE hP hD hS hl
            have hlt : ¬ p3 ≤ k := by rw [hk, eN]; exact nI_ge (by omega) (by omega)
            refine lv_iload hx hb dX2_dub_49 (lv_at hl 0 rfl) ?_
            refine lv_iload hx hb dX2_dub_51 (lv_at hl 7 rfl) ?_
            refine lv_icmp_ge (tgt := 123) hx hb dX2_dub_53 (by decide) (fun c_6 => absurd c_6 hlt) (fun c_6 => ?_)
            refine lv_aload hx hb dX2_dub_56 (lv_at hl 2 rfl) ?_
            refine lv_iload_n hx hb dX2_dub_58 rfl (lv_at hl 6 rfl) ?_
            refine lv_iload hx hb dX2_dub_59 (lv_at hl 0 rfl) ?_
            refine lv_iadd hx hb dX2_dub_61 ?_
            refine zw_cVN (r := (8, p0.toNatClampNeg, p1.toNatClampNeg)) (As := [.int (p2 + k)]) (rest := []) (st1 := [.int (sp_f len τ p0.toNatClampNeg p1.toNatClampNeg (p2 + k))]) ⟨hx, hb, hml, hown, hts⟩ (cd_faultAt (σ := τ) hR p0.toNatClampNeg p1.toNatClampNeg (ze_vr h_1.1 hnr) (ze_vt h_1.2) (p2 + k)) ⟨va_cnB (host := "FourTrackDeck") 1 hts gX2_dub_X1_faultAt_n98 rfl rfl rfl (hN.2.1 ("FourTrackDeck", 98, yX1_faultAt, "FourTrackDeck") (by decide +kernel)) (hts (.initialized RX1) (by decide +kernel)) (by decide +kernel) ⟨Nat.le_of_ble_eq_true rfl, Nat.le_of_ble_eq_true rfl⟩, hts (.instanceMethod yX1_faultAt) (by decide +kernel), hts (.selects RX1 yX1_faultAt yX1_faultAt) (by decide +kernel)⟩ ((hR.2 p0.toNatClampNeg (ze_vr h_1.1 hnr)).2.2 p1.toNatClampNeg (ze_vt h_1.2)).1 rfl rfl rfl hK hP hD hS hA hN rfl hl.1 rfl (Nat.le_of_ble_eq_true rfl) rfl dX2_dub_62 ⟨Nat.zero_le _, Nat.zero_le _⟩ (fun H locs hP hD hS => ?_)
            refine lv_aload hx hb dX2_dub_65 (lv_at hl 1 rfl) ?_
            refine lv_aload_n hx hb dX2_dub_67 rfl (lv_at hl 3 rfl) ?_
            refine zw_getf (r := (0, 0, 0)) (v := .int (τ (0, 0, 0) 2)) (C := RX2) (T := TX2) (N := 15) (ci := 2) hx hb hts hwX2 hown hK hP (hR.1 0 (by decide)) rfl rfl 3 (by decide) (hts (.fieldLink RX2 22 "FourTrackDeck" "tapeAt" "I") (by decide +kernel)) (fun _ h9 => h9) rfl dX2_dub_68 ?_
            refine lv_iload hx hb dX2_dub_71 (lv_at hl 0 rfl) ?_
            refine lv_iadd hx hb dX2_dub_73 ?_
            refine zw_cVN (r := (8, p4.toNatClampNeg, p5.toNatClampNeg)) (As := [.int ((τ (0, 0, 0) 2) + k)]) (rest := [.int (sp_f len τ p0.toNatClampNeg p1.toNatClampNeg (p2 + k))]) (st1 := [.int (sp_f len τ p4.toNatClampNeg p5.toNatClampNeg ((τ (0, 0, 0) 2) + k)), .int (sp_f len τ p0.toNatClampNeg p1.toNatClampNeg (p2 + k))]) ⟨hx, hb, hml, hown, hts⟩ (cd_faultAt (σ := τ) hR p4.toNatClampNeg p5.toNatClampNeg (ze_vr h_2.1 hnr) (ze_vt h_2.2) ((τ (0, 0, 0) 2) + k)) ⟨va_cnB (host := "FourTrackDeck") 1 hts gX2_dub_X1_faultAt_n98 rfl rfl rfl (hN.2.1 ("FourTrackDeck", 98, yX1_faultAt, "FourTrackDeck") (by decide +kernel)) (hts (.initialized RX1) (by decide +kernel)) (by decide +kernel) ⟨Nat.le_of_ble_eq_true rfl, Nat.le_of_ble_eq_true rfl⟩, hts (.instanceMethod yX1_faultAt) (by decide +kernel), hts (.selects RX1 yX1_faultAt yX1_faultAt) (by decide +kernel)⟩ ((hR.2 p4.toNatClampNeg (ze_vr h_2.1 hnr)).2.2 p5.toNatClampNeg (ze_vt h_2.2)).1 rfl rfl rfl hK hP hD hS hA hN rfl hl.1 rfl (Nat.le_of_ble_eq_true rfl) rfl dX2_dub_74 ⟨Nat.zero_le _, Nat.zero_le _⟩ (fun H locs hP hD hS => ?_)
            refine zw_cS (As := [.int (sp_f len τ p0.toNatClampNeg p1.toNatClampNeg (p2 + k)), .int (sp_f len τ p4.toNatClampNeg p5.toNatClampNeg ((τ (0, 0, 0) 2) + k))]) (rest := []) (st1 := [.int (if (sp_f len τ p0.toNatClampNeg p1.toNatClampNeg (p2 + k)) = 0 then (sp_f len τ p4.toNatClampNeg p5.toNatClampNeg ((τ (0, 0, 0) 2) + k)) else (sp_f len τ p0.toNatClampNeg p1.toNatClampNeg (p2 + k)))]) ⟨hx, hb, hml, hown, hts⟩ (cd_firstFault (sp_f len τ p0.toNatClampNeg p1.toNatClampNeg (p2 + k)) (sp_f len τ p4.toNatClampNeg p5.toNatClampNeg ((τ (0, 0, 0) 2) + k))) (va_cwS 2 hts gX2_dub_X2_firstFault rfl rfl rfl (by decide +kernel) ⟨Nat.le_of_ble_eq_true rfl, Nat.le_of_ble_eq_true rfl⟩) hK hP hD hS hA hN rfl hl.1 rfl (Nat.le_of_ble_eq_true rfl) rfl dX2_dub_77 ⟨Nat.zero_le _, Nat.zero_le _⟩ (fun H locs hP hD hS => ?_)
            refine lv_istore (lv' := [(10, .int (if (sp_f len τ p0.toNatClampNeg p1.toNatClampNeg (p2 + k)) = 0 then (sp_f len τ p4.toNatClampNeg p5.toNatClampNeg ((τ (0, 0, 0) 2) + k)) else (sp_f len τ p0.toNatClampNeg p1.toNatClampNeg (p2 + k)))), (9, .int k), (8, .ref (ad (8, p4.toNatClampNeg, p5.toNatClampNeg))), (7, .ref (ad (8, p0.toNatClampNeg, p1.toNatClampNeg))), (0, .ref (ad (0, 0, 0))), (1, .int p0), (2, .int p1), (3, .int p2), (4, .int p3), (5, .int p4), (6, .int p5)]) hx hb dX2_dub_80 hl (by decide) rfl (fun ls hl => ?_)
            refine lv_iload hx hb dX2_dub_82 (lv_at hl 0 rfl) ?_
            refine lv_if_eq (tgt := 96) hx hb dX2_dub_84 (by decide) (fun c_7 => ?_) (fun c_7 => ?_)
            · refine lv_aload hx hb dX2_dub_96 (lv_at hl 2 rfl) ?_
              refine lv_aload_n hx hb dX2_dub_98 rfl (lv_at hl 4 rfl) ?_
              refine zw_getf (r := (0, 0, 0)) (v := .int (τ (0, 0, 0) 2)) (C := RX2) (T := TX2) (N := 15) (ci := 2) hx hb hts hwX2 hown hK hP (hR.1 0 (by decide)) rfl rfl 3 (by decide) (hts (.fieldLink RX2 22 "FourTrackDeck" "tapeAt" "I") (by decide +kernel)) (fun _ h9 => h9) rfl dX2_dub_99 ?_
              refine lv_iload hx hb dX2_dub_102 (lv_at hl 1 rfl) ?_
              refine lv_iadd hx hb dX2_dub_104 ?_
              refine lv_aload hx hb dX2_dub_105 (lv_at hl 3 rfl) ?_
              refine lv_iload_n hx hb dX2_dub_107 rfl (lv_at hl 7 rfl) ?_
              refine lv_iload hx hb dX2_dub_108 (lv_at hl 1 rfl) ?_
              refine lv_iadd hx hb dX2_dub_110 ?_
              refine zw_cVN (r := (8, p0.toNatClampNeg, p1.toNatClampNeg)) (As := [.int (p2 + k)]) (rest := [.int ((τ (0, 0, 0) 2) + k), .ref (ad (8, p4.toNatClampNeg, p5.toNatClampNeg))]) (st1 := [.int (sp_n len τ p0.toNatClampNeg p1.toNatClampNeg (p2 + k)), .int ((τ (0, 0, 0) 2) + k), .ref (ad (8, p4.toNatClampNeg, p5.toNatClampNeg))]) ⟨hx, hb, hml, hown, hts⟩ (cd_numberAt (σ := τ) hR p0.toNatClampNeg p1.toNatClampNeg (ze_vr h_1.1 hnr) (ze_vt h_1.2) (hlen _ (ze_vr h_1.1 hnr)) (p2 + k)) ⟨va_cnB (host := "FourTrackDeck") 1 hts gX2_dub_X1_numberAt_n101 rfl rfl rfl (hN.2.1 ("FourTrackDeck", 101, yX1_numberAt, "FourTrackDeck") (by decide +kernel)) (hts (.initialized RX1) (by decide +kernel)) (by decide +kernel) ⟨Nat.le_of_ble_eq_true rfl, Nat.le_of_ble_eq_true rfl⟩, hts (.instanceMethod yX1_numberAt) (by decide +kernel), hts (.selects RX1 yX1_numberAt yX1_numberAt) (by decide +kernel)⟩ ((hR.2 p0.toNatClampNeg (ze_vr h_1.1 hnr)).2.2 p1.toNatClampNeg (ze_vt h_1.2)).1 rfl rfl rfl hK hP hD hS hA hN rfl hl.1 rfl (Nat.le_of_ble_eq_true rfl) rfl dX2_dub_111 ⟨Nat.zero_le _, Nat.zero_le _⟩ (fun H locs hP hD hS => ?_)
              refine zw_cVN (r := (8, p4.toNatClampNeg, p5.toNatClampNeg)) (As := [.int ((τ (0, 0, 0) 2) + k), .int (sp_n len τ p0.toNatClampNeg p1.toNatClampNeg (p2 + k))]) (rest := []) (st1 := []) ⟨hx, hb, hml, hown, hts⟩ (cd_put (σ := τ) hR p4.toNatClampNeg p5.toNatClampNeg (ze_vr h_2.1 hnr) (ze_vt h_2.2) (hlen _ (ze_vr h_2.1 hnr)) ((τ (0, 0, 0) 2) + k) (sp_n len τ p0.toNatClampNeg p1.toNatClampNeg (p2 + k))) ⟨va_cnB (host := "FourTrackDeck") 2 hts gX2_dub_X1_put_n104 rfl rfl rfl (hN.2.1 ("FourTrackDeck", 104, yX1_put, "FourTrackDeck") (by decide +kernel)) (hts (.initialized RX1) (by decide +kernel)) (by decide +kernel) ⟨Nat.le_of_ble_eq_true rfl, Nat.le_of_ble_eq_true rfl⟩, hts (.instanceMethod yX1_put) (by decide +kernel), hts (.selects RX1 yX1_put yX1_put) (by decide +kernel)⟩ ((hR.2 p4.toNatClampNeg (ze_vr h_2.1 hnr)).2.2 p5.toNatClampNeg (ze_vt h_2.2)).1 rfl rfl rfl hK hP hD hS hA hN rfl hl.1 rfl (Nat.le_of_ble_eq_true rfl) rfl dX2_dub_114 ⟨Nat.zero_le _, Nat.zero_le _⟩ (fun H locs hP hD hS => ?_)
              refine lv_iinc (v := (k + 1)) (lv' := [(9, .int (k + 1)), (10, .int (if (sp_f len τ p0.toNatClampNeg p1.toNatClampNeg (p2 + k)) = 0 then (sp_f len τ p4.toNatClampNeg p5.toNatClampNeg ((τ (0, 0, 0) 2) + k)) else (sp_f len τ p0.toNatClampNeg p1.toNatClampNeg (p2 + k)))), (8, .ref (ad (8, p4.toNatClampNeg, p5.toNatClampNeg))), (7, .ref (ad (8, p0.toNatClampNeg, p1.toNatClampNeg))), (0, .ref (ad (0, 0, 0))), (1, .int p0), (2, .int p1), (3, .int p2), (4, .int p3), (5, .int p4), (6, .int p5)]) hx hb dX2_dub_117 hl (k := 1) rfl rfl (by decide) rfl (fun ls hl => ?_)
              refine lv_goto (tgt := 49) hx hb dX2_dub_120 (by decide) ?_
              exact ih (j + 1) (k + 1) (sp_put len τ p4.toNatClampNeg p5.toNatClampNeg ((τ (0, 0, 0) 2) + k) (sp_n len τ p0.toNatClampNeg p1.toNatClampNeg (p2 + k))) _ _ _ (by rw [hk, nI_1]) (by omega) (hE.trans (by simp only [sp_dl, if_pos c_7] <;> rfl)) hP hD hS (lv_sub hl [0, 2, 3, 4, 5, 6, 7, 8, 9, 10] rfl)
            · refine lv_aload_n hx hb dX2_dub_87 rfl (lv_at hl 4 rfl) ?_
              refine lv_iload hx hb dX2_dub_88 (lv_at hl 0 rfl) ?_
              refine lv_iload hx hb dX2_dub_90 (lv_at hl 1 rfl) ?_
              refine zw_cV (r := (0, 0, 0)) (As := [.int (if (sp_f len τ p0.toNatClampNeg p1.toNatClampNeg (p2 + k)) = 0 then (sp_f len τ p4.toNatClampNeg p5.toNatClampNeg ((τ (0, 0, 0) 2) + k)) else (sp_f len τ p0.toNatClampNeg p1.toNatClampNeg (p2 + k))), .int k]) (rest := []) (st1 := [.int k]) ⟨hx, hb, hml, hown, hts⟩ (cd_end (σ := τ) hR (if (sp_f len τ p0.toNatClampNeg p1.toNatClampNeg (p2 + k)) = 0 then (sp_f len τ p4.toNatClampNeg p5.toNatClampNeg ((τ (0, 0, 0) 2) + k)) else (sp_f len τ p0.toNatClampNeg p1.toNatClampNeg (p2 + k))) k) (cwV 2 hts gX2_dub_X2_end rfl rfl rfl (by decide +kernel) ⟨Nat.le_of_ble_eq_true rfl, Nat.le_of_ble_eq_true rfl⟩) (hR.1 0 (by decide)) rfl rfl rfl hK hP hD hS hA hN rfl hl.1 rfl (Nat.le_of_ble_eq_true rfl) rfl dX2_dub_92 ⟨Nat.zero_le _, Nat.zero_le _⟩ (fun H locs hP hD hS => ?_)
              exact zw_iret hx hb hr hlk hK hP hD hS dX2_dub_95 (by rw [hE]; simp only [sp_dl, if_neg c_7] <;> rfl) (by rw [hE]; simp only [sp_dl, if_neg c_7] <;> rfl)
        exact key p3.toNatClampNeg 0 0 σ _ _ _ nI_0.symm (by omega) (by simp only [sp_dub, if_pos h_1, if_pos h_2, if_pos h_3] <;> rfl) hP hD hS hl
      · refine zw_cS (As := [.int p3, .int 0, .int 64]) (rest := []) (st1 := [.int 0]) ⟨hx, hb, hml, hown, hts⟩ (cd_isWithin_0 p3 0 64 h_3) (va_cwS 3 hts gX2_dub_X2_isWithin rfl rfl rfl (by decide +kernel) ⟨Nat.le_of_ble_eq_true rfl, Nat.le_of_ble_eq_true rfl⟩) hK hP hD hS hA hN rfl hl.1 rfl (Nat.le_of_ble_eq_true rfl) rfl dX2_dub_33 ⟨Nat.zero_le _, Nat.zero_le _⟩ (fun H locs hP hD hS => ?_)
        refine lv_if_ne (tgt := 46) hx hb dX2_dub_36 (by decide) (fun c_8 => absurd (by decide) c_8) (fun c_8 => ?_)
        refine lv_aload_n hx hb dX2_dub_39 rfl (lv_at hl 2 rfl) ?_
        refine lv_iconst (v := 1) hx hb dX2_dub_40 (by decide) ?_
        refine lv_iconst (v := 0) hx hb dX2_dub_41 (by decide) ?_
        refine zw_cV (r := (0, 0, 0)) (As := [.int 1, .int 0]) (rest := []) (st1 := [.int 0]) ⟨hx, hb, hml, hown, hts⟩ (cd_end (σ := σ) hR 1 0) (cwV 2 hts gX2_dub_X2_end rfl rfl rfl (by decide +kernel) ⟨Nat.le_of_ble_eq_true rfl, Nat.le_of_ble_eq_true rfl⟩) (hR.1 0 (by decide)) rfl rfl rfl hK hP hD hS hA hN rfl hl.1 rfl (Nat.le_of_ble_eq_true rfl) rfl dX2_dub_42 ⟨Nat.zero_le _, Nat.zero_le _⟩ (fun H locs hP hD hS => ?_)
        exact zw_iret hx hb hr hlk hK hP hD hS dX2_dub_45 (by simp only [sp_dub, if_pos h_1, if_pos h_2, if_neg h_3] <;> rfl) (by simp only [sp_dub, if_pos h_1, if_pos h_2, if_neg h_3] <;> rfl)
    · refine zw_cV (r := (0, 0, 0)) (As := [.int p4, .int p5]) (rest := []) (st1 := [.null]) ⟨hx, hb, hml, hown, hts⟩ (cd_trackOf_0 (σ := σ) hR hnr p4 p5 h_2) (cwV 2 hts gX2_dub_X2_trackOf rfl rfl rfl (by decide +kernel) ⟨Nat.le_of_ble_eq_true rfl, Nat.le_of_ble_eq_true rfl⟩) (hR.1 0 (by decide)) rfl rfl rfl hK hP hD hS hA hN rfl hl.1 rfl (Nat.le_of_ble_eq_true rfl) rfl dX2_dub_13 ⟨Nat.zero_le _, Nat.zero_le _⟩ (fun H locs hP hD hS => ?_)
      refine lv_astoreN (lv' := [(8, .null), (7, .ref (ad (8, p0.toNatClampNeg, p1.toNatClampNeg))), (0, .ref (ad (0, 0, 0))), (1, .int p0), (2, .int p1), (3, .int p2), (4, .int p3), (5, .int p4), (6, .int p5)]) hx hb dX2_dub_16 hl (by decide) rfl (fun ls hl => ?_)
      refine lv_aload hx hb dX2_dub_18 (lv_at hl 1 rfl) ?_
      refine lv_ifnull hx hb dX2_dub_20 ?_
      refine lv_aloadN hx hb dX2_dub_23 (lv_at hl 0 rfl) ?_
      refine lv_ifnullN (tgt := 39) hx hb dX2_dub_25 (by decide) ?_
      refine lv_aload_n hx hb dX2_dub_39 rfl (lv_at hl 2 rfl) ?_
      refine lv_iconst (v := 1) hx hb dX2_dub_40 (by decide) ?_
      refine lv_iconst (v := 0) hx hb dX2_dub_41 (by decide) ?_
      refine zw_cV (r := (0, 0, 0)) (As := [.int 1, .int 0]) (rest := []) (st1 := [.int 0]) ⟨hx, hb, hml, hown, hts⟩ (cd_end (σ := σ) hR 1 0) (cwV 2 hts gX2_dub_X2_end rfl rfl rfl (by decide +kernel) ⟨Nat.le_of_ble_eq_true rfl, Nat.le_of_ble_eq_true rfl⟩) (hR.1 0 (by decide)) rfl rfl rfl hK hP hD hS hA hN rfl hl.1 rfl (Nat.le_of_ble_eq_true rfl) rfl dX2_dub_42 ⟨Nat.zero_le _, Nat.zero_le _⟩ (fun H locs hP hD hS => ?_)
      exact zw_iret hx hb hr hlk hK hP hD hS dX2_dub_45 (by simp only [sp_dub, if_pos h_1, if_neg h_2] <;> rfl) (by simp only [sp_dub, if_pos h_1, if_neg h_2] <;> rfl)
  · refine zw_cV (r := (0, 0, 0)) (As := [.int p0, .int p1]) (rest := []) (st1 := [.null]) ⟨hx, hb, hml, hown, hts⟩ (cd_trackOf_0 (σ := σ) hR hnr p0 p1 h_1) (cwV 2 hts gX2_dub_X2_trackOf rfl rfl rfl (by decide +kernel) ⟨Nat.le_of_ble_eq_true rfl, Nat.le_of_ble_eq_true rfl⟩) (hR.1 0 (by decide)) rfl rfl rfl hK hP hD hS hA hN rfl hl.1 rfl (Nat.le_of_ble_eq_true rfl) rfl dX2_dub_3 ⟨Nat.zero_le _, Nat.zero_le _⟩ (fun H locs hP hD hS => ?_)
    refine lv_astoreN (lv' := [(7, .null), (0, .ref (ad (0, 0, 0))), (1, .int p0), (2, .int p1), (3, .int p2), (4, .int p3), (5, .int p4), (6, .int p5)]) hx hb dX2_dub_6 hl (by decide) rfl (fun ls hl => ?_)
    refine lv_aload_n hx hb dX2_dub_8 rfl (lv_at hl 1 rfl) ?_
    refine lv_iload hx hb dX2_dub_9 (lv_at hl 6 rfl) ?_
    refine lv_iload hx hb dX2_dub_11 (lv_at hl 7 rfl) ?_
    rcases Decidable.em (sp_v nr p4 p5) with h_9 | h_9
    · refine zw_cV (r := (0, 0, 0)) (As := [.int p4, .int p5]) (rest := []) (st1 := [.ref (ad (8, p4.toNatClampNeg, p5.toNatClampNeg))]) ⟨hx, hb, hml, hown, hts⟩ (cd_trackOf_1 (σ := σ) hR hnr p4 p5 h_9) (cwV 2 hts gX2_dub_X2_trackOf rfl rfl rfl (by decide +kernel) ⟨Nat.le_of_ble_eq_true rfl, Nat.le_of_ble_eq_true rfl⟩) (hR.1 0 (by decide)) rfl rfl rfl hK hP hD hS hA hN rfl hl.1 rfl (Nat.le_of_ble_eq_true rfl) rfl dX2_dub_13 ⟨Nat.zero_le _, Nat.zero_le _⟩ (fun H locs hP hD hS => ?_)
      refine lv_astore (lv' := [(8, .ref (ad (8, p4.toNatClampNeg, p5.toNatClampNeg))), (7, .null), (0, .ref (ad (0, 0, 0))), (1, .int p0), (2, .int p1), (3, .int p2), (4, .int p3), (5, .int p4), (6, .int p5)]) hx hb dX2_dub_16 hl (by decide) rfl (fun ls hl => ?_)
      refine lv_aloadN hx hb dX2_dub_18 (lv_at hl 1 rfl) ?_
      refine lv_ifnullN (tgt := 39) hx hb dX2_dub_20 (by decide) ?_
      refine lv_aload_n hx hb dX2_dub_39 rfl (lv_at hl 2 rfl) ?_
      refine lv_iconst (v := 1) hx hb dX2_dub_40 (by decide) ?_
      refine lv_iconst (v := 0) hx hb dX2_dub_41 (by decide) ?_
      refine zw_cV (r := (0, 0, 0)) (As := [.int 1, .int 0]) (rest := []) (st1 := [.int 0]) ⟨hx, hb, hml, hown, hts⟩ (cd_end (σ := σ) hR 1 0) (cwV 2 hts gX2_dub_X2_end rfl rfl rfl (by decide +kernel) ⟨Nat.le_of_ble_eq_true rfl, Nat.le_of_ble_eq_true rfl⟩) (hR.1 0 (by decide)) rfl rfl rfl hK hP hD hS hA hN rfl hl.1 rfl (Nat.le_of_ble_eq_true rfl) rfl dX2_dub_42 ⟨Nat.zero_le _, Nat.zero_le _⟩ (fun H locs hP hD hS => ?_)
      exact zw_iret hx hb hr hlk hK hP hD hS dX2_dub_45 (by simp only [sp_dub, if_neg h_1, if_pos h_9] <;> rfl) (by simp only [sp_dub, if_neg h_1, if_pos h_9] <;> rfl)
    · refine zw_cV (r := (0, 0, 0)) (As := [.int p4, .int p5]) (rest := []) (st1 := [.null]) ⟨hx, hb, hml, hown, hts⟩ (cd_trackOf_0 (σ := σ) hR hnr p4 p5 h_9) (cwV 2 hts gX2_dub_X2_trackOf rfl rfl rfl (by decide +kernel) ⟨Nat.le_of_ble_eq_true rfl, Nat.le_of_ble_eq_true rfl⟩) (hR.1 0 (by decide)) rfl rfl rfl hK hP hD hS hA hN rfl hl.1 rfl (Nat.le_of_ble_eq_true rfl) rfl dX2_dub_13 ⟨Nat.zero_le _, Nat.zero_le _⟩ (fun H locs hP hD hS => ?_)
      refine lv_astoreN (lv' := [(8, .null), (7, .null), (0, .ref (ad (0, 0, 0))), (1, .int p0), (2, .int p1), (3, .int p2), (4, .int p3), (5, .int p4), (6, .int p5)]) hx hb dX2_dub_16 hl (by decide) rfl (fun ls hl => ?_)
      refine lv_aloadN hx hb dX2_dub_18 (lv_at hl 1 rfl) ?_
      refine lv_ifnullN (tgt := 39) hx hb dX2_dub_20 (by decide) ?_
      refine lv_aload_n hx hb dX2_dub_39 rfl (lv_at hl 2 rfl) ?_
      refine lv_iconst (v := 1) hx hb dX2_dub_40 (by decide) ?_
      refine lv_iconst (v := 0) hx hb dX2_dub_41 (by decide) ?_
      refine zw_cV (r := (0, 0, 0)) (As := [.int 1, .int 0]) (rest := []) (st1 := [.int 0]) ⟨hx, hb, hml, hown, hts⟩ (cd_end (σ := σ) hR 1 0) (cwV 2 hts gX2_dub_X2_end rfl rfl rfl (by decide +kernel) ⟨Nat.le_of_ble_eq_true rfl, Nat.le_of_ble_eq_true rfl⟩) (hR.1 0 (by decide)) rfl rfl rfl hK hP hD hS hA hN rfl hl.1 rfl (Nat.le_of_ble_eq_true rfl) rfl dX2_dub_42 ⟨Nat.zero_le _, Nat.zero_le _⟩ (fun H locs hP hD hS => ?_)
      exact zw_iret hx hb hr hlk hK hP hD hS dX2_dub_45 (by simp only [sp_dub, if_neg h_1, if_neg h_9] <;> rfl) (by simp only [sp_dub, if_neg h_1, if_neg h_9] <;> rfl)
set_option maxHeartbeats 4000000 in
set_option maxRecDepth 100000 in
theorem cd_turn {l : Launch} {dC : Nat → ClassId} {dI : Nat → Nat → Nat} {cA : Nat → ClassId} {ad : zw_R → Nat} {R : List zw_R} {nr : Nat} {len : Nat → Nat} {σ : sp_S} {cM : zw_R → va_E} (hR : ze_R nr R) (hnr : nr ≤ 8) (hlen : ∀ i, i < nr → len i ≤ 64) (p0 p1 : Int32) : zw_M l yX2_turn wsX2_turn { frames := 4, cells := 0, slots := 0, locals := 82 } (ze_E dC dI cA) [.ref (ad (0, 0, 0)), .int p0, .int p1] ad R (ze_X (ze_D cA ad nr len σ) cM) (some (.int ((sp_turn nr len σ p0 p1).1))) (ze_X (ze_D cA ad nr len (sp_turn nr len σ p0 p1).2) cM) := by
  refine zw_body (cc := cX2_turn) (maxL := 9) (ret := (some .int)) (by decide) rfl (Nat.le_of_ble_eq_true rfl) ?_
  intro p e s m below meth c A ls hx hb hr hlk hml hts hown hnm hA hK hP hD hS hN hl
  have hl : lv_has ls 9 [(0, .ref (ad (0, 0, 0))), (1, .int p0), (2, .int p1)] := hl
  have hwX2 : ∀ w ∈ u_ws RX2 TX2 15, w ∈ wsX2_turn := by decide +kernel
  refine lv_iload_n hx hb dX2_turn_0 rfl (lv_at hl 2 rfl) ?_
  refine lv_iconst (v := 0) hx hb dX2_turn_1 (by decide) ?_
  refine lv_bipush (v := 64) hx hb dX2_turn_2 (by decide) ?_
  rcases Decidable.em (sp_w p1 0 64) with h_1 | h_1
  · refine zw_cS (As := [.int p1, .int 0, .int 64]) (rest := []) (st1 := [.int 1]) ⟨hx, hb, hml, hown, hts⟩ (cd_isWithin_1 p1 0 64 h_1) (va_cwS 3 hts gX2_turn_X2_isWithin rfl rfl rfl (by decide +kernel) ⟨Nat.le_of_ble_eq_true rfl, Nat.le_of_ble_eq_true rfl⟩) hK hP hD hS hA hN rfl hl.1 rfl (Nat.le_of_ble_eq_true rfl) rfl dX2_turn_4 ⟨Nat.zero_le _, Nat.zero_le _⟩ (fun H locs hP hD hS => ?_)
    refine lv_if_ne (tgt := 17) hx hb dX2_turn_7 (by decide) (fun c_2 => ?_) (fun c_2 => absurd c_2 (by decide))
    refine lv_aload_n hx hb dX2_turn_17 rfl (lv_at hl 0 rfl) ?_
    refine lv_aload_n hx hb dX2_turn_18 rfl (lv_at hl 0 rfl) ?_
    refine zw_getf (r := (0, 0, 0)) (v := .int (σ (0, 0, 0) 1)) (C := RX2) (T := TX2) (N := 15) (ci := 2) hx hb hts hwX2 hown hK hP (hR.1 0 (by decide)) rfl rfl 2 (by decide) (hts (.fieldLink RX2 19 "FourTrackDeck" "onDeck" "I") (by decide +kernel)) (fun _ h9 => h9) rfl dX2_turn_19 ?_
    refine lv_iload_n hx hb dX2_turn_22 rfl (lv_at hl 1 rfl) ?_
    rcases Decidable.em (sp_v nr (σ (0, 0, 0) 1) p0) with h_3 | h_3
    · refine zw_cV (r := (0, 0, 0)) (As := [.int (σ (0, 0, 0) 1), .int p0]) (rest := []) (st1 := [.ref (ad (8, (σ (0, 0, 0) 1).toNatClampNeg, p0.toNatClampNeg))]) ⟨hx, hb, hml, hown, hts⟩ (cd_trackOf_1 (σ := σ) hR hnr (σ (0, 0, 0) 1) p0 h_3) (cwV 2 hts gX2_turn_X2_trackOf rfl rfl rfl (by decide +kernel) ⟨Nat.le_of_ble_eq_true rfl, Nat.le_of_ble_eq_true rfl⟩) (hR.1 0 (by decide)) rfl rfl rfl hK hP hD hS hA hN rfl hl.1 rfl (Nat.le_of_ble_eq_true rfl) rfl dX2_turn_23 ⟨Nat.zero_le _, Nat.zero_le _⟩ (fun H locs hP hD hS => ?_)
      refine lv_astore_n (lv' := [(3, .ref (ad (8, (σ (0, 0, 0) 1).toNatClampNeg, p0.toNatClampNeg))), (0, .ref (ad (0, 0, 0))), (1, .int p0), (2, .int p1)]) hx hb dX2_turn_26 rfl hl (by decide) rfl (fun ls hl => ?_)
      refine lv_aload_n hx hb dX2_turn_27 rfl (lv_at hl 0 rfl) ?_
      refine lv_ifnonnull (tgt := 42) hx hb dX2_turn_28 (by decide) ?_
      refine lv_iload_n hx hb dX2_turn_42 rfl (lv_at hl 3 rfl) ?_
      refine lv_iconst (v := 2) hx hb dX2_turn_43 (by decide) ?_
      refine lv_idiv hx hb dX2_turn_44 (by decide) ?_
      refine lv_istore (lv' := [(4, .int (p1 / 2)), (3, .ref (ad (8, (σ (0, 0, 0) 1).toNatClampNeg, p0.toNatClampNeg))), (0, .ref (ad (0, 0, 0))), (1, .int p0), (2, .int p1)]) hx hb dX2_turn_45 hl (by decide) rfl (fun ls hl => ?_)
      refine lv_aload_n hx hb dX2_turn_47 rfl (lv_at hl 2 rfl) ?_
      refine lv_iload_n hx hb dX2_turn_48 rfl (lv_at hl 3 rfl) ?_
      refine zw_cV (r := (0, 0, 0)) (As := [.int p0]) (rest := []) (st1 := [.int (σ (0, 0, 0) 2 + σ (2, 0, 0) p0.toNatClampNeg)]) ⟨hx, hb, hml, hown, hts⟩ (cd_place (σ := σ) hR p0 h_3.2) (cwV 1 hts gX2_turn_X2_placeOfHead rfl rfl rfl (by decide +kernel) ⟨Nat.le_of_ble_eq_true rfl, Nat.le_of_ble_eq_true rfl⟩) (hR.1 0 (by decide)) rfl rfl rfl hK hP hD hS hA hN rfl hl.1 rfl (Nat.le_of_ble_eq_true rfl) rfl dX2_turn_49 ⟨Nat.zero_le _, Nat.zero_le _⟩ (fun H locs hP hD hS => ?_)
      refine lv_istore (lv' := [(5, .int (σ (0, 0, 0) 2 + σ (2, 0, 0) p0.toNatClampNeg)), (4, .int (p1 / 2)), (3, .ref (ad (8, (σ (0, 0, 0) 1).toNatClampNeg, p0.toNatClampNeg))), (0, .ref (ad (0, 0, 0))), (1, .int p0), (2, .int p1)]) hx hb dX2_turn_52 hl (by decide) rfl (fun ls hl => ?_)
      refine lv_iload hx hb dX2_turn_54 (lv_at hl 0 rfl) ?_
      refine lv_iload_n hx hb dX2_turn_56 rfl (lv_at hl 5 rfl) ?_
      refine lv_iadd hx hb dX2_turn_57 ?_
      refine lv_iconst (v := 1) hx hb dX2_turn_58 (by decide) ?_
      refine lv_isub hx hb dX2_turn_59 ?_
      refine lv_istore (lv' := [(6, .int (((σ (0, 0, 0) 2 + σ (2, 0, 0) p0.toNatClampNeg) + p1) - 1)), (5, .int (σ (0, 0, 0) 2 + σ (2, 0, 0) p0.toNatClampNeg)), (4, .int (p1 / 2)), (3, .ref (ad (8, (σ (0, 0, 0) 1).toNatClampNeg, p0.toNatClampNeg))), (0, .ref (ad (0, 0, 0))), (1, .int p0), (2, .int p1)]) hx hb dX2_turn_60 hl (by decide) rfl (fun ls hl => ?_)
      refine lv_iconst (v := 0) hx hb dX2_turn_62 (by decide) ?_
      refine lv_istore (lv' := [(7, .int 0), (6, .int (((σ (0, 0, 0) 2 + σ (2, 0, 0) p0.toNatClampNeg) + p1) - 1)), (5, .int (σ (0, 0, 0) 2 + σ (2, 0, 0) p0.toNatClampNeg)), (4, .int (p1 / 2)), (3, .ref (ad (8, (σ (0, 0, 0) 1).toNatClampNeg, p0.toNatClampNeg))), (0, .ref (ad (0, 0, 0))), (1, .int p0), (2, .int p1)]) hx hb dX2_turn_63 hl (by decide) rfl (fun ls hl => ?_)
      have eN : p1 / 2 = nI (p1.toNatClampNeg / 2) := (ze_half h_1.1 h_1.2).1
      have hNb := ze_nb (n := 64) rfl h_1.1 h_1.2
      have key : ∀ (mm j : Nat) (k : Int32) (τ : sp_S) (H : Heap) (locs : List Loc) (ls : Array Slot), k = nI j → j + mm = (p1.toNatClampNeg / 2) → sp_turn nr len σ p0 p1 = sp_ul len (σ (0, 0, 0) 1).toNatClampNeg p0.toNatClampNeg (σ (0, 0, 0) 2 + σ (2, 0, 0) p0.toNatClampNeg) ((σ (0, 0, 0) 2 + σ (2, 0, 0) p0.toNatClampNeg) + p1 - 1) mm k τ → va_P (ze_E dC dI cA).1 (ze_E dC dI cA).2.1 (zw_l ad R (ze_X (ze_D cA ad nr len τ) cM)) H → va_D A (zw_l ad R (ze_X (ze_D cA ad nr len τ) cM)) → va_S A s.heap H locs → lv_has ls 9 [(7, .int k), (6, .int (((σ (0, 0, 0) 2 + σ (2, 0, 0) p0.toNatClampNeg) + p1) - 1)), (5, .int (σ (0, 0, 0) 2 + σ (2, 0, 0) p0.toNatClampNeg)), (4, .int (p1 / 2)), (3, .ref (ad (8, (σ (0, 0, 0) 1).toNatClampNeg, p0.toNatClampNeg))), (0, .ref (ad (0, 0, 0))), (1, .int p0), (2, .int p1)] → W p l e ({ frames := 4, cells := 0, slots := 0, locals := 82 } : Room) s m [Value.ref (ad (0, 0, 0)), Value.int p0, Value.int p1].toArray below meth c H locs 0 0 (MQ below (zw_Q (some (.int (sp_turn nr len σ p0 p1).1)) (zw_B (ze_E dC dI cA) A ad R (ze_X (ze_D cA ad nr len (sp_turn nr len σ p0 p1).2) cM)) A) [Value.ref (ad (0, 0, 0)), Value.int p0, Value.int p1].toArray s 0 0 A) (F0 m 65 ls []) := by
        intro mm
        induction mm with
        | zero =>
          intro j k τ H locs ls hk hj hE hP hD hS hl
          have hge : (p1 / 2) ≤ k := by rw [hk, eN]; exact nI_le (by omega) (by omega)
          refine lv_iload hx hb dX2_turn_65 (lv_at hl 0 rfl) ?_
          refine lv_iload hx hb dX2_turn_67 (lv_at hl 3 rfl) ?_
          refine lv_icmp_ge (tgt := 129) hx hb dX2_turn_69 (by decide) (fun c_4 => ?_) (fun c_4 => absurd hge c_4)
          refine lv_aload_n hx hb dX2_turn_129 rfl (lv_at hl 5 rfl) ?_
          refine lv_iconst (v := 0) hx hb dX2_turn_130 (by decide) ?_
          refine lv_iload hx hb dX2_turn_131 (lv_at hl 3 rfl) ?_
          refine zw_cV (r := (0, 0, 0)) (As := [.int 0, .int (p1 / 2)]) (rest := []) (st1 := [.int (p1 / 2)]) ⟨hx, hb, hml, hown, hts⟩ (cd_end (σ := τ) hR 0 (p1 / 2)) (cwV 2 hts gX2_turn_X2_end rfl rfl rfl (by decide +kernel) ⟨Nat.le_of_ble_eq_true rfl, Nat.le_of_ble_eq_true rfl⟩) (hR.1 0 (by decide)) rfl rfl rfl hK hP hD hS hA hN rfl hl.1 rfl (Nat.le_of_ble_eq_true rfl) rfl dX2_turn_133 ⟨Nat.zero_le _, Nat.zero_le _⟩ (fun H locs hP hD hS => ?_)
          exact zw_iret hx hb hr hlk hK hP hD hS dX2_turn_136 (by rw [hE]; simp only [sp_ul]; rw [hk, show j = (p1.toNatClampNeg / 2) by omega, ← eN]) (by rw [hE]; simp only [sp_ul] <;> rfl)
        | succ mm ih =>
          intro j k τ H locs ls hk hj hE hP hD hS hl
          have hlt : ¬ (p1 / 2) ≤ k := by rw [hk, eN]; exact nI_ge (by omega) (by omega)
          refine lv_iload hx hb dX2_turn_65 (lv_at hl 0 rfl) ?_
          refine lv_iload hx hb dX2_turn_67 (lv_at hl 3 rfl) ?_
          refine lv_icmp_ge (tgt := 129) hx hb dX2_turn_69 (by decide) (fun c_5 => absurd c_5 hlt) (fun c_5 => ?_)
          refine lv_aload_n hx hb dX2_turn_72 rfl (lv_at hl 4 rfl) ?_
          refine lv_iload hx hb dX2_turn_73 (lv_at hl 2 rfl) ?_
          refine lv_iload hx hb dX2_turn_75 (lv_at hl 0 rfl) ?_
          refine lv_iadd hx hb dX2_turn_77 ?_
          refine zw_cVN (r := (8, (σ (0, 0, 0) 1).toNatClampNeg, p0.toNatClampNeg)) (As := [.int ((σ (0, 0, 0) 2 + σ (2, 0, 0) p0.toNatClampNeg) + k)]) (rest := []) (st1 := [.int (sp_f len τ (σ (0, 0, 0) 1).toNatClampNeg p0.toNatClampNeg ((σ (0, 0, 0) 2 + σ (2, 0, 0) p0.toNatClampNeg) + k))]) ⟨hx, hb, hml, hown, hts⟩ (cd_faultAt (σ := τ) hR (σ (0, 0, 0) 1).toNatClampNeg p0.toNatClampNeg (ze_vr h_3.1 hnr) (ze_vt h_3.2) ((σ (0, 0, 0) 2 + σ (2, 0, 0) p0.toNatClampNeg) + k)) ⟨va_cnB (host := "FourTrackDeck") 1 hts gX2_turn_X1_faultAt_n98 rfl rfl rfl (hN.2.1 ("FourTrackDeck", 98, yX1_faultAt, "FourTrackDeck") (by decide +kernel)) (hts (.initialized RX1) (by decide +kernel)) (by decide +kernel) ⟨Nat.le_of_ble_eq_true rfl, Nat.le_of_ble_eq_true rfl⟩, hts (.instanceMethod yX1_faultAt) (by decide +kernel), hts (.selects RX1 yX1_faultAt yX1_faultAt) (by decide +kernel)⟩ ((hR.2 (σ (0, 0, 0) 1).toNatClampNeg (ze_vr h_3.1 hnr)).2.2 p0.toNatClampNeg (ze_vt h_3.2)).1 rfl rfl rfl hK hP hD hS hA hN rfl hl.1 rfl (Nat.le_of_ble_eq_true rfl) rfl dX2_turn_78 ⟨Nat.zero_le _, Nat.zero_le _⟩ (fun H locs hP hD hS => ?_)
          refine lv_aload_n hx hb dX2_turn_81 rfl (lv_at hl 4 rfl) ?_
          refine lv_iload hx hb dX2_turn_82 (lv_at hl 1 rfl) ?_
          refine lv_iload hx hb dX2_turn_84 (lv_at hl 0 rfl) ?_
          refine lv_isub hx hb dX2_turn_86 ?_
          refine zw_cVN (r := (8, (σ (0, 0, 0) 1).toNatClampNeg, p0.toNatClampNeg)) (As := [.int ((((σ (0, 0, 0) 2 + σ (2, 0, 0) p0.toNatClampNeg) + p1) - 1) - k)]) (rest := [.int (sp_f len τ (σ (0, 0, 0) 1).toNatClampNeg p0.toNatClampNeg ((σ (0, 0, 0) 2 + σ (2, 0, 0) p0.toNatClampNeg) + k))]) (st1 := [.int (sp_f len τ (σ (0, 0, 0) 1).toNatClampNeg p0.toNatClampNeg ((((σ (0, 0, 0) 2 + σ (2, 0, 0) p0.toNatClampNeg) + p1) - 1) - k)), .int (sp_f len τ (σ (0, 0, 0) 1).toNatClampNeg p0.toNatClampNeg ((σ (0, 0, 0) 2 + σ (2, 0, 0) p0.toNatClampNeg) + k))]) ⟨hx, hb, hml, hown, hts⟩ (cd_faultAt (σ := τ) hR (σ (0, 0, 0) 1).toNatClampNeg p0.toNatClampNeg (ze_vr h_3.1 hnr) (ze_vt h_3.2) ((((σ (0, 0, 0) 2 + σ (2, 0, 0) p0.toNatClampNeg) + p1) - 1) - k)) ⟨va_cnB (host := "FourTrackDeck") 1 hts gX2_turn_X1_faultAt_n98 rfl rfl rfl (hN.2.1 ("FourTrackDeck", 98, yX1_faultAt, "FourTrackDeck") (by decide +kernel)) (hts (.initialized RX1) (by decide +kernel)) (by decide +kernel) ⟨Nat.le_of_ble_eq_true rfl, Nat.le_of_ble_eq_true rfl⟩, hts (.instanceMethod yX1_faultAt) (by decide +kernel), hts (.selects RX1 yX1_faultAt yX1_faultAt) (by decide +kernel)⟩ ((hR.2 (σ (0, 0, 0) 1).toNatClampNeg (ze_vr h_3.1 hnr)).2.2 p0.toNatClampNeg (ze_vt h_3.2)).1 rfl rfl rfl hK hP hD hS hA hN rfl hl.1 rfl (Nat.le_of_ble_eq_true rfl) rfl dX2_turn_87 ⟨Nat.zero_le _, Nat.zero_le _⟩ (fun H locs hP hD hS => ?_)
          refine zw_cS (As := [.int (sp_f len τ (σ (0, 0, 0) 1).toNatClampNeg p0.toNatClampNeg ((σ (0, 0, 0) 2 + σ (2, 0, 0) p0.toNatClampNeg) + k)), .int (sp_f len τ (σ (0, 0, 0) 1).toNatClampNeg p0.toNatClampNeg ((((σ (0, 0, 0) 2 + σ (2, 0, 0) p0.toNatClampNeg) + p1) - 1) - k))]) (rest := []) (st1 := [.int (if (sp_f len τ (σ (0, 0, 0) 1).toNatClampNeg p0.toNatClampNeg ((σ (0, 0, 0) 2 + σ (2, 0, 0) p0.toNatClampNeg) + k)) = 0 then (sp_f len τ (σ (0, 0, 0) 1).toNatClampNeg p0.toNatClampNeg ((((σ (0, 0, 0) 2 + σ (2, 0, 0) p0.toNatClampNeg) + p1) - 1) - k)) else (sp_f len τ (σ (0, 0, 0) 1).toNatClampNeg p0.toNatClampNeg ((σ (0, 0, 0) 2 + σ (2, 0, 0) p0.toNatClampNeg) + k)))]) ⟨hx, hb, hml, hown, hts⟩ (cd_firstFault (sp_f len τ (σ (0, 0, 0) 1).toNatClampNeg p0.toNatClampNeg ((σ (0, 0, 0) 2 + σ (2, 0, 0) p0.toNatClampNeg) + k)) (sp_f len τ (σ (0, 0, 0) 1).toNatClampNeg p0.toNatClampNeg ((((σ (0, 0, 0) 2 + σ (2, 0, 0) p0.toNatClampNeg) + p1) - 1) - k))) (va_cwS 2 hts gX2_turn_X2_firstFault rfl rfl rfl (by decide +kernel) ⟨Nat.le_of_ble_eq_true rfl, Nat.le_of_ble_eq_true rfl⟩) hK hP hD hS hA hN rfl hl.1 rfl (Nat.le_of_ble_eq_true rfl) rfl dX2_turn_90 ⟨Nat.zero_le _, Nat.zero_le _⟩ (fun H locs hP hD hS => ?_)
          refine lv_istore (lv' := [(8, .int (if (sp_f len τ (σ (0, 0, 0) 1).toNatClampNeg p0.toNatClampNeg ((σ (0, 0, 0) 2 + σ (2, 0, 0) p0.toNatClampNeg) + k)) = 0 then (sp_f len τ (σ (0, 0, 0) 1).toNatClampNeg p0.toNatClampNeg ((((σ (0, 0, 0) 2 + σ (2, 0, 0) p0.toNatClampNeg) + p1) - 1) - k)) else (sp_f len τ (σ (0, 0, 0) 1).toNatClampNeg p0.toNatClampNeg ((σ (0, 0, 0) 2 + σ (2, 0, 0) p0.toNatClampNeg) + k)))), (7, .int k), (6, .int (((σ (0, 0, 0) 2 + σ (2, 0, 0) p0.toNatClampNeg) + p1) - 1)), (5, .int (σ (0, 0, 0) 2 + σ (2, 0, 0) p0.toNatClampNeg)), (4, .int (p1 / 2)), (3, .ref (ad (8, (σ (0, 0, 0) 1).toNatClampNeg, p0.toNatClampNeg))), (0, .ref (ad (0, 0, 0))), (1, .int p0), (2, .int p1)]) hx hb dX2_turn_93 hl (by decide) rfl (fun ls hl => ?_)
          refine lv_iload hx hb dX2_turn_95 (lv_at hl 0 rfl) ?_
          refine lv_if_eq (tgt := 109) hx hb dX2_turn_97 (by decide) (fun c_6 => ?_) (fun c_6 => ?_)
          · refine lv_aload_n hx hb dX2_turn_109 rfl (lv_at hl 5 rfl) ?_
            refine lv_iload hx hb dX2_turn_110 (lv_at hl 3 rfl) ?_
            refine lv_iload hx hb dX2_turn_112 (lv_at hl 1 rfl) ?_
            refine lv_iadd hx hb dX2_turn_114 ?_
            refine lv_iload hx hb dX2_turn_115 (lv_at hl 2 rfl) ?_
            refine lv_iload hx hb dX2_turn_117 (lv_at hl 1 rfl) ?_
            refine lv_isub hx hb dX2_turn_119 ?_
            refine zw_cVN (r := (8, (σ (0, 0, 0) 1).toNatClampNeg, p0.toNatClampNeg)) (As := [.int ((σ (0, 0, 0) 2 + σ (2, 0, 0) p0.toNatClampNeg) + k), .int ((((σ (0, 0, 0) 2 + σ (2, 0, 0) p0.toNatClampNeg) + p1) - 1) - k)]) (rest := []) (st1 := []) ⟨hx, hb, hml, hown, hts⟩ (cd_exchange (σ := τ) hR (σ (0, 0, 0) 1).toNatClampNeg p0.toNatClampNeg (ze_vr h_3.1 hnr) (ze_vt h_3.2) (hlen _ (ze_vr h_3.1 hnr)) ((σ (0, 0, 0) 2 + σ (2, 0, 0) p0.toNatClampNeg) + k) ((((σ (0, 0, 0) 2 + σ (2, 0, 0) p0.toNatClampNeg) + p1) - 1) - k)) ⟨va_cnB (host := "FourTrackDeck") 2 hts gX2_turn_X1_exchange_n113 rfl rfl rfl (hN.2.1 ("FourTrackDeck", 113, yX1_exchange, "FourTrackDeck") (by decide +kernel)) (hts (.initialized RX1) (by decide +kernel)) (by decide +kernel) ⟨Nat.le_of_ble_eq_true rfl, Nat.le_of_ble_eq_true rfl⟩, hts (.instanceMethod yX1_exchange) (by decide +kernel), hts (.selects RX1 yX1_exchange yX1_exchange) (by decide +kernel)⟩ ((hR.2 (σ (0, 0, 0) 1).toNatClampNeg (ze_vr h_3.1 hnr)).2.2 p0.toNatClampNeg (ze_vt h_3.2)).1 rfl rfl rfl hK hP hD hS hA hN rfl hl.1 rfl (Nat.le_of_ble_eq_true rfl) rfl dX2_turn_120 ⟨Nat.zero_le _, Nat.zero_le _⟩ (fun H locs hP hD hS => ?_)
            refine lv_iinc (v := (k + 1)) (lv' := [(7, .int (k + 1)), (8, .int (if (sp_f len τ (σ (0, 0, 0) 1).toNatClampNeg p0.toNatClampNeg ((σ (0, 0, 0) 2 + σ (2, 0, 0) p0.toNatClampNeg) + k)) = 0 then (sp_f len τ (σ (0, 0, 0) 1).toNatClampNeg p0.toNatClampNeg ((((σ (0, 0, 0) 2 + σ (2, 0, 0) p0.toNatClampNeg) + p1) - 1) - k)) else (sp_f len τ (σ (0, 0, 0) 1).toNatClampNeg p0.toNatClampNeg ((σ (0, 0, 0) 2 + σ (2, 0, 0) p0.toNatClampNeg) + k)))), (6, .int (((σ (0, 0, 0) 2 + σ (2, 0, 0) p0.toNatClampNeg) + p1) - 1)), (5, .int (σ (0, 0, 0) 2 + σ (2, 0, 0) p0.toNatClampNeg)), (4, .int (p1 / 2)), (3, .ref (ad (8, (σ (0, 0, 0) 1).toNatClampNeg, p0.toNatClampNeg))), (0, .ref (ad (0, 0, 0))), (1, .int p0), (2, .int p1)]) hx hb dX2_turn_123 hl (k := 1) rfl rfl (by decide) rfl (fun ls hl => ?_)
            refine lv_goto (tgt := 65) hx hb dX2_turn_126 (by decide) ?_
            exact ih (j + 1) (k + 1) (sp_put len (sp_put len τ (σ (0, 0, 0) 1).toNatClampNeg p0.toNatClampNeg ((σ (0, 0, 0) 2 + σ (2, 0, 0) p0.toNatClampNeg) + k) (sp_n len τ (σ (0, 0, 0) 1).toNatClampNeg p0.toNatClampNeg ((((σ (0, 0, 0) 2 + σ (2, 0, 0) p0.toNatClampNeg) + p1) - 1) - k))) (σ (0, 0, 0) 1).toNatClampNeg p0.toNatClampNeg ((((σ (0, 0, 0) 2 + σ (2, 0, 0) p0.toNatClampNeg) + p1) - 1) - k) (sp_n len τ (σ (0, 0, 0) 1).toNatClampNeg p0.toNatClampNeg ((σ (0, 0, 0) 2 + σ (2, 0, 0) p0.toNatClampNeg) + k))) _ _ _ (by rw [hk, nI_1]) (by omega) (hE.trans (by simp only [sp_ul, if_pos c_6] <;> rfl)) hP hD hS (lv_sub hl [0, 2, 3, 4, 5, 6, 7, 8] rfl)
          · refine lv_aload_n hx hb dX2_turn_100 rfl (lv_at hl 6 rfl) ?_
            refine lv_iload hx hb dX2_turn_101 (lv_at hl 0 rfl) ?_
            refine lv_iload hx hb dX2_turn_103 (lv_at hl 1 rfl) ?_
            refine zw_cV (r := (0, 0, 0)) (As := [.int (if (sp_f len τ (σ (0, 0, 0) 1).toNatClampNeg p0.toNatClampNeg ((σ (0, 0, 0) 2 + σ (2, 0, 0) p0.toNatClampNeg) + k)) = 0 then (sp_f len τ (σ (0, 0, 0) 1).toNatClampNeg p0.toNatClampNeg ((((σ (0, 0, 0) 2 + σ (2, 0, 0) p0.toNatClampNeg) + p1) - 1) - k)) else (sp_f len τ (σ (0, 0, 0) 1).toNatClampNeg p0.toNatClampNeg ((σ (0, 0, 0) 2 + σ (2, 0, 0) p0.toNatClampNeg) + k))), .int k]) (rest := []) (st1 := [.int k]) ⟨hx, hb, hml, hown, hts⟩ (cd_end (σ := τ) hR (if (sp_f len τ (σ (0, 0, 0) 1).toNatClampNeg p0.toNatClampNeg ((σ (0, 0, 0) 2 + σ (2, 0, 0) p0.toNatClampNeg) + k)) = 0 then (sp_f len τ (σ (0, 0, 0) 1).toNatClampNeg p0.toNatClampNeg ((((σ (0, 0, 0) 2 + σ (2, 0, 0) p0.toNatClampNeg) + p1) - 1) - k)) else (sp_f len τ (σ (0, 0, 0) 1).toNatClampNeg p0.toNatClampNeg ((σ (0, 0, 0) 2 + σ (2, 0, 0) p0.toNatClampNeg) + k))) k) (cwV 2 hts gX2_turn_X2_end rfl rfl rfl (by decide +kernel) ⟨Nat.le_of_ble_eq_true rfl, Nat.le_of_ble_eq_true rfl⟩) (hR.1 0 (by decide)) rfl rfl rfl hK hP hD hS hA hN rfl hl.1 rfl (Nat.le_of_ble_eq_true rfl) rfl dX2_turn_105 ⟨Nat.zero_le _, Nat.zero_le _⟩ (fun H locs hP hD hS => ?_)
            exact zw_iret hx hb hr hlk hK hP hD hS dX2_turn_108 (by rw [hE]; simp only [sp_ul, if_neg c_6] <;> rfl) (by rw [hE]; simp only [sp_ul, if_neg c_6] <;> rfl)
      exact key (p1.toNatClampNeg / 2) 0 0 σ _ _ _ nI_0.symm (by omega) (by simp only [sp_turn, if_pos h_1, if_pos h_3] <;> rfl) hP hD hS hl
    · refine zw_cV (r := (0, 0, 0)) (As := [.int (σ (0, 0, 0) 1), .int p0]) (rest := []) (st1 := [.null]) ⟨hx, hb, hml, hown, hts⟩ (cd_trackOf_0 (σ := σ) hR hnr (σ (0, 0, 0) 1) p0 h_3) (cwV 2 hts gX2_turn_X2_trackOf rfl rfl rfl (by decide +kernel) ⟨Nat.le_of_ble_eq_true rfl, Nat.le_of_ble_eq_true rfl⟩) (hR.1 0 (by decide)) rfl rfl rfl hK hP hD hS hA hN rfl hl.1 rfl (Nat.le_of_ble_eq_true rfl) rfl dX2_turn_23 ⟨Nat.zero_le _, Nat.zero_le _⟩ (fun H locs hP hD hS => ?_)
      refine lv_astore_nN (lv' := [(3, .null), (0, .ref (ad (0, 0, 0))), (1, .int p0), (2, .int p1)]) hx hb dX2_turn_26 rfl hl (by decide) rfl (fun ls hl => ?_)
      refine lv_aload_nN hx hb dX2_turn_27 rfl (lv_at hl 0 rfl) ?_
      refine lv_ifnonnullN hx hb dX2_turn_28 ?_
      refine lv_aload_n hx hb dX2_turn_31 rfl (lv_at hl 1 rfl) ?_
      refine lv_aload_n hx hb dX2_turn_32 rfl (lv_at hl 1 rfl) ?_
      refine lv_iload_n hx hb dX2_turn_33 rfl (lv_at hl 2 rfl) ?_
      refine zw_cV (r := (0, 0, 0)) (As := [.int p0]) (rest := [.ref (ad (0, 0, 0))]) (st1 := [.int (if sp_t p0 then 5 else 1), .ref (ad (0, 0, 0))]) ⟨hx, hb, hml, hown, hts⟩ (cd_why (σ := σ) hR p0) (cwV 1 hts gX2_turn_X2_whyNoneUnderHead rfl rfl rfl (by decide +kernel) ⟨Nat.le_of_ble_eq_true rfl, Nat.le_of_ble_eq_true rfl⟩) (hR.1 0 (by decide)) rfl rfl rfl hK hP hD hS hA hN rfl hl.1 rfl (Nat.le_of_ble_eq_true rfl) rfl dX2_turn_34 ⟨Nat.zero_le _, Nat.zero_le _⟩ (fun H locs hP hD hS => ?_)
      refine lv_iconst (v := 0) hx hb dX2_turn_37 (by decide) ?_
      refine zw_cV (r := (0, 0, 0)) (As := [.int (if sp_t p0 then 5 else 1), .int 0]) (rest := []) (st1 := [.int 0]) ⟨hx, hb, hml, hown, hts⟩ (cd_end (σ := σ) hR (if sp_t p0 then 5 else 1) 0) (cwV 2 hts gX2_turn_X2_end rfl rfl rfl (by decide +kernel) ⟨Nat.le_of_ble_eq_true rfl, Nat.le_of_ble_eq_true rfl⟩) (hR.1 0 (by decide)) rfl rfl rfl hK hP hD hS hA hN rfl hl.1 rfl (Nat.le_of_ble_eq_true rfl) rfl dX2_turn_38 ⟨Nat.zero_le _, Nat.zero_le _⟩ (fun H locs hP hD hS => ?_)
      exact zw_iret hx hb hr hlk hK hP hD hS dX2_turn_41 (by simp only [sp_turn, if_pos h_1, if_neg h_3] <;> rfl) (by simp only [sp_turn, if_pos h_1, if_neg h_3] <;> rfl)
  · refine zw_cS (As := [.int p1, .int 0, .int 64]) (rest := []) (st1 := [.int 0]) ⟨hx, hb, hml, hown, hts⟩ (cd_isWithin_0 p1 0 64 h_1) (va_cwS 3 hts gX2_turn_X2_isWithin rfl rfl rfl (by decide +kernel) ⟨Nat.le_of_ble_eq_true rfl, Nat.le_of_ble_eq_true rfl⟩) hK hP hD hS hA hN rfl hl.1 rfl (Nat.le_of_ble_eq_true rfl) rfl dX2_turn_4 ⟨Nat.zero_le _, Nat.zero_le _⟩ (fun H locs hP hD hS => ?_)
    refine lv_if_ne (tgt := 17) hx hb dX2_turn_7 (by decide) (fun c_7 => absurd (by decide) c_7) (fun c_7 => ?_)
    refine lv_aload_n hx hb dX2_turn_10 rfl (lv_at hl 0 rfl) ?_
    refine lv_iconst (v := 1) hx hb dX2_turn_11 (by decide) ?_
    refine lv_iconst (v := 0) hx hb dX2_turn_12 (by decide) ?_
    refine zw_cV (r := (0, 0, 0)) (As := [.int 1, .int 0]) (rest := []) (st1 := [.int 0]) ⟨hx, hb, hml, hown, hts⟩ (cd_end (σ := σ) hR 1 0) (cwV 2 hts gX2_turn_X2_end rfl rfl rfl (by decide +kernel) ⟨Nat.le_of_ble_eq_true rfl, Nat.le_of_ble_eq_true rfl⟩) (hR.1 0 (by decide)) rfl rfl rfl hK hP hD hS hA hN rfl hl.1 rfl (Nat.le_of_ble_eq_true rfl) rfl dX2_turn_13 ⟨Nat.zero_le _, Nat.zero_le _⟩ (fun H locs hP hD hS => ?_)
    exact zw_iret hx hb hr hlk hK hP hD hS dX2_turn_16 (by simp only [sp_turn, if_neg h_1] <;> rfl) (by simp only [sp_turn, if_neg h_1] <;> rfl)
set_option maxHeartbeats 4000000 in
set_option maxRecDepth 100000 in
theorem cd_scan {l : Launch} {dC : Nat → ClassId} {dI : Nat → Nat → Nat} {cA : Nat → ClassId} {ad : zw_R → Nat} {R : List zw_R} {nr : Nat} {len : Nat → Nat} {σ : sp_S} {cM : zw_R → va_E} (hR : ze_R nr R) (hnr : nr ≤ 8) (hlen : ∀ i, i < nr → len i ≤ 64) (p0 p1 : Int32) : zw_M l yX2_scan wsX2_scan { frames := 3, cells := 0, slots := 0, locals := 65 } (ze_E dC dI cA) [.ref (ad (0, 0, 0)), .int p0, .int p1] ad R (ze_X (ze_D cA ad nr len σ) cM) (some (.int ((sp_scan nr len σ p0 p1).1))) (ze_X (ze_D cA ad nr len (sp_scan nr len σ p0 p1).2) cM) := by
  refine zw_body (cc := cX2_scan) (maxL := 7) (ret := (some .int)) (by decide) rfl (Nat.le_of_ble_eq_true rfl) ?_
  intro p e s m below meth c A ls hx hb hr hlk hml hts hown hnm hA hK hP hD hS hN hl
  have hl : lv_has ls 7 [(0, .ref (ad (0, 0, 0))), (1, .int p0), (2, .int p1)] := hl
  have hwX2 : ∀ w ∈ u_ws RX2 TX2 15, w ∈ wsX2_scan := by decide +kernel
  refine lv_aload_n hx hb dX2_scan_0 rfl (lv_at hl 0 rfl) ?_
  refine lv_aload_n hx hb dX2_scan_1 rfl (lv_at hl 0 rfl) ?_
  refine zw_getf (r := (0, 0, 0)) (v := .int (σ (0, 0, 0) 1)) (C := RX2) (T := TX2) (N := 15) (ci := 2) hx hb hts hwX2 hown hK hP (hR.1 0 (by decide)) rfl rfl 2 (by decide) (hts (.fieldLink RX2 19 "FourTrackDeck" "onDeck" "I") (by decide +kernel)) (fun _ h9 => h9) rfl dX2_scan_2 ?_
  refine lv_iload_n hx hb dX2_scan_5 rfl (lv_at hl 1 rfl) ?_
  rcases Decidable.em (sp_v nr (σ (0, 0, 0) 1) p0) with h_1 | h_1
  · refine zw_cV (r := (0, 0, 0)) (As := [.int (σ (0, 0, 0) 1), .int p0]) (rest := []) (st1 := [.ref (ad (8, (σ (0, 0, 0) 1).toNatClampNeg, p0.toNatClampNeg))]) ⟨hx, hb, hml, hown, hts⟩ (cd_trackOf_1 (σ := σ) hR hnr (σ (0, 0, 0) 1) p0 h_1) (cwV 2 hts gX2_scan_X2_trackOf rfl rfl rfl (by decide +kernel) ⟨Nat.le_of_ble_eq_true rfl, Nat.le_of_ble_eq_true rfl⟩) (hR.1 0 (by decide)) rfl rfl rfl hK hP hD hS hA hN rfl hl.1 rfl (Nat.le_of_ble_eq_true rfl) rfl dX2_scan_6 ⟨Nat.zero_le _, Nat.zero_le _⟩ (fun H locs hP hD hS => ?_)
    refine lv_astore_n (lv' := [(3, .ref (ad (8, (σ (0, 0, 0) 1).toNatClampNeg, p0.toNatClampNeg))), (0, .ref (ad (0, 0, 0))), (1, .int p0), (2, .int p1)]) hx hb dX2_scan_9 rfl hl (by decide) rfl (fun ls hl => ?_)
    refine lv_aload_n hx hb dX2_scan_10 rfl (lv_at hl 0 rfl) ?_
    refine lv_ifnonnull (tgt := 25) hx hb dX2_scan_11 (by decide) ?_
    refine lv_aload_n hx hb dX2_scan_25 rfl (lv_at hl 1 rfl) ?_
    refine lv_iload_n hx hb dX2_scan_26 rfl (lv_at hl 2 rfl) ?_
    refine zw_cV (r := (0, 0, 0)) (As := [.int p0]) (rest := []) (st1 := [.int (σ (0, 0, 0) 2 + σ (2, 0, 0) p0.toNatClampNeg)]) ⟨hx, hb, hml, hown, hts⟩ (cd_place (σ := σ) hR p0 h_1.2) (cwV 1 hts gX2_scan_X2_placeOfHead rfl rfl rfl (by decide +kernel) ⟨Nat.le_of_ble_eq_true rfl, Nat.le_of_ble_eq_true rfl⟩) (hR.1 0 (by decide)) rfl rfl rfl hK hP hD hS hA hN rfl hl.1 rfl (Nat.le_of_ble_eq_true rfl) rfl dX2_scan_27 ⟨Nat.zero_le _, Nat.zero_le _⟩ (fun H locs hP hD hS => ?_)
    refine lv_istore (lv' := [(4, .int (σ (0, 0, 0) 2 + σ (2, 0, 0) p0.toNatClampNeg)), (3, .ref (ad (8, (σ (0, 0, 0) 1).toNatClampNeg, p0.toNatClampNeg))), (0, .ref (ad (0, 0, 0))), (1, .int p0), (2, .int p1)]) hx hb dX2_scan_30 hl (by decide) rfl (fun ls hl => ?_)
    refine lv_iconst (v := 0) hx hb dX2_scan_32 (by decide) ?_
    refine lv_istore (lv' := [(5, .int 0), (4, .int (σ (0, 0, 0) 2 + σ (2, 0, 0) p0.toNatClampNeg)), (3, .ref (ad (8, (σ (0, 0, 0) 1).toNatClampNeg, p0.toNatClampNeg))), (0, .ref (ad (0, 0, 0))), (1, .int p0), (2, .int p1)]) hx hb dX2_scan_33 hl (by decide) rfl (fun ls hl => ?_)
    have eN : (64 : Int32) = nI 64 := rfl
    have key : ∀ (mm j : Nat) (k : Int32) (τ : sp_S) (H : Heap) (locs : List Loc) (ls : Array Slot), k = nI j → j + mm = 64 → sp_scan nr len σ p0 p1 = sp_sl len (σ (0, 0, 0) 1).toNatClampNeg p0.toNatClampNeg (σ (0, 0, 0) 2 + σ (2, 0, 0) p0.toNatClampNeg) p1 mm k τ → va_P (ze_E dC dI cA).1 (ze_E dC dI cA).2.1 (zw_l ad R (ze_X (ze_D cA ad nr len τ) cM)) H → va_D A (zw_l ad R (ze_X (ze_D cA ad nr len τ) cM)) → va_S A s.heap H locs → lv_has ls 7 [(5, .int k), (4, .int (σ (0, 0, 0) 2 + σ (2, 0, 0) p0.toNatClampNeg)), (3, .ref (ad (8, (σ (0, 0, 0) 1).toNatClampNeg, p0.toNatClampNeg))), (0, .ref (ad (0, 0, 0))), (1, .int p0), (2, .int p1)] → W p l e ({ frames := 3, cells := 0, slots := 0, locals := 65 } : Room) s m [Value.ref (ad (0, 0, 0)), Value.int p0, Value.int p1].toArray below meth c H locs 0 0 (MQ below (zw_Q (some (.int (sp_scan nr len σ p0 p1).1)) (zw_B (ze_E dC dI cA) A ad R (ze_X (ze_D cA ad nr len (sp_scan nr len σ p0 p1).2) cM)) A) [Value.ref (ad (0, 0, 0)), Value.int p0, Value.int p1].toArray s 0 0 A) (F0 m 35 ls []) := by
      intro mm
      induction mm with
      | zero =>
        intro j k τ H locs ls hk hj hE hP hD hS hl
        have hge : 64 ≤ k := by rw [hk, eN]; exact nI_le (by omega) (by omega)
        refine lv_iload hx hb dX2_scan_35 (lv_at hl 0 rfl) ?_
        refine lv_bipush (v := 64) hx hb dX2_scan_37 (by decide) ?_
        refine lv_icmp_ge (tgt := 93) hx hb dX2_scan_39 (by decide) (fun c_2 => ?_) (fun c_2 => absurd hge c_2)
        refine lv_aload_n hx hb dX2_scan_93 rfl (lv_at hl 3 rfl) ?_
        refine lv_iconst (v := 3) hx hb dX2_scan_94 (by decide) ?_
        refine lv_iconst (v := (-1)) hx hb dX2_scan_95 (by decide) ?_
        refine zw_cV (r := (0, 0, 0)) (As := [.int 3, .int (-1)]) (rest := []) (st1 := [.int (-1)]) ⟨hx, hb, hml, hown, hts⟩ (cd_end (σ := τ) hR 3 (-1)) (cwV 2 hts gX2_scan_X2_end rfl rfl rfl (by decide +kernel) ⟨Nat.le_of_ble_eq_true rfl, Nat.le_of_ble_eq_true rfl⟩) (hR.1 0 (by decide)) rfl rfl rfl hK hP hD hS hA hN rfl hl.1 rfl (Nat.le_of_ble_eq_true rfl) rfl dX2_scan_96 ⟨Nat.zero_le _, Nat.zero_le _⟩ (fun H locs hP hD hS => ?_)
        exact zw_iret hx hb hr hlk hK hP hD hS dX2_scan_99 (by rw [hE]; simp only [sp_sl] <;> rfl) (by rw [hE]; simp only [sp_sl] <;> rfl)
      | succ mm ih =>
        intro j k τ H locs ls hk hj hE hP hD hS hl
        have hlt : ¬ 64 ≤ k := by rw [hk, eN]; exact nI_ge (by omega) (by omega)
        refine lv_iload hx hb dX2_scan_35 (lv_at hl 0 rfl) ?_
        refine lv_bipush (v := 64) hx hb dX2_scan_37 (by decide) ?_
        refine lv_icmp_ge (tgt := 93) hx hb dX2_scan_39 (by decide) (fun c_3 => absurd c_3 hlt) (fun c_3 => ?_)
        refine lv_aload_n hx hb dX2_scan_42 rfl (lv_at hl 2 rfl) ?_
        refine lv_iload hx hb dX2_scan_43 (lv_at hl 1 rfl) ?_
        refine lv_iload hx hb dX2_scan_45 (lv_at hl 0 rfl) ?_
        refine lv_iadd hx hb dX2_scan_47 ?_
        refine zw_cVN (r := (8, (σ (0, 0, 0) 1).toNatClampNeg, p0.toNatClampNeg)) (As := [.int ((σ (0, 0, 0) 2 + σ (2, 0, 0) p0.toNatClampNeg) + k)]) (rest := []) (st1 := [.int (sp_f len τ (σ (0, 0, 0) 1).toNatClampNeg p0.toNatClampNeg ((σ (0, 0, 0) 2 + σ (2, 0, 0) p0.toNatClampNeg) + k))]) ⟨hx, hb, hml, hown, hts⟩ (cd_faultAt (σ := τ) hR (σ (0, 0, 0) 1).toNatClampNeg p0.toNatClampNeg (ze_vr h_1.1 hnr) (ze_vt h_1.2) ((σ (0, 0, 0) 2 + σ (2, 0, 0) p0.toNatClampNeg) + k)) ⟨va_cnB (host := "FourTrackDeck") 1 hts gX2_scan_X1_faultAt_n98 rfl rfl rfl (hN.2.1 ("FourTrackDeck", 98, yX1_faultAt, "FourTrackDeck") (by decide +kernel)) (hts (.initialized RX1) (by decide +kernel)) (by decide +kernel) ⟨Nat.le_of_ble_eq_true rfl, Nat.le_of_ble_eq_true rfl⟩, hts (.instanceMethod yX1_faultAt) (by decide +kernel), hts (.selects RX1 yX1_faultAt yX1_faultAt) (by decide +kernel)⟩ ((hR.2 (σ (0, 0, 0) 1).toNatClampNeg (ze_vr h_1.1 hnr)).2.2 p0.toNatClampNeg (ze_vt h_1.2)).1 rfl rfl rfl hK hP hD hS hA hN rfl hl.1 rfl (Nat.le_of_ble_eq_true rfl) rfl dX2_scan_48 ⟨Nat.zero_le _, Nat.zero_le _⟩ (fun H locs hP hD hS => ?_)
        refine lv_istore (lv' := [(6, .int (sp_f len τ (σ (0, 0, 0) 1).toNatClampNeg p0.toNatClampNeg ((σ (0, 0, 0) 2 + σ (2, 0, 0) p0.toNatClampNeg) + k))), (5, .int k), (4, .int (σ (0, 0, 0) 2 + σ (2, 0, 0) p0.toNatClampNeg)), (3, .ref (ad (8, (σ (0, 0, 0) 1).toNatClampNeg, p0.toNatClampNeg))), (0, .ref (ad (0, 0, 0))), (1, .int p0), (2, .int p1)]) hx hb dX2_scan_51 hl (by decide) rfl (fun ls hl => ?_)
        refine lv_iload hx hb dX2_scan_53 (lv_at hl 0 rfl) ?_
        refine lv_if_eq (tgt := 66) hx hb dX2_scan_55 (by decide) (fun c_4 => ?_) (fun c_4 => ?_)
        · refine lv_aload_n hx hb dX2_scan_66 rfl (lv_at hl 3 rfl) ?_
          refine lv_iload hx hb dX2_scan_67 (lv_at hl 2 rfl) ?_
          refine lv_iload hx hb dX2_scan_69 (lv_at hl 1 rfl) ?_
          refine lv_iadd hx hb dX2_scan_71 ?_
          refine zw_cVN (r := (8, (σ (0, 0, 0) 1).toNatClampNeg, p0.toNatClampNeg)) (As := [.int ((σ (0, 0, 0) 2 + σ (2, 0, 0) p0.toNatClampNeg) + k)]) (rest := []) (st1 := [.int (sp_n len τ (σ (0, 0, 0) 1).toNatClampNeg p0.toNatClampNeg ((σ (0, 0, 0) 2 + σ (2, 0, 0) p0.toNatClampNeg) + k))]) ⟨hx, hb, hml, hown, hts⟩ (cd_numberAt (σ := τ) hR (σ (0, 0, 0) 1).toNatClampNeg p0.toNatClampNeg (ze_vr h_1.1 hnr) (ze_vt h_1.2) (hlen _ (ze_vr h_1.1 hnr)) ((σ (0, 0, 0) 2 + σ (2, 0, 0) p0.toNatClampNeg) + k)) ⟨va_cnB (host := "FourTrackDeck") 1 hts gX2_scan_X1_numberAt_n101 rfl rfl rfl (hN.2.1 ("FourTrackDeck", 101, yX1_numberAt, "FourTrackDeck") (by decide +kernel)) (hts (.initialized RX1) (by decide +kernel)) (by decide +kernel) ⟨Nat.le_of_ble_eq_true rfl, Nat.le_of_ble_eq_true rfl⟩, hts (.instanceMethod yX1_numberAt) (by decide +kernel), hts (.selects RX1 yX1_numberAt yX1_numberAt) (by decide +kernel)⟩ ((hR.2 (σ (0, 0, 0) 1).toNatClampNeg (ze_vr h_1.1 hnr)).2.2 p0.toNatClampNeg (ze_vt h_1.2)).1 rfl rfl rfl hK hP hD hS hA hN rfl hl.1 rfl (Nat.le_of_ble_eq_true rfl) rfl dX2_scan_72 ⟨Nat.zero_le _, Nat.zero_le _⟩ (fun H locs hP hD hS => ?_)
          refine lv_iload_n hx hb dX2_scan_75 rfl (lv_at hl 6 rfl) ?_
          refine lv_icmp_ne (tgt := 87) hx hb dX2_scan_76 (by decide) (fun c_5 => ?_) (fun c_5 => ?_)
          · refine lv_iinc (v := (k + 1)) (lv' := [(5, .int (k + 1)), (6, .int (sp_f len τ (σ (0, 0, 0) 1).toNatClampNeg p0.toNatClampNeg ((σ (0, 0, 0) 2 + σ (2, 0, 0) p0.toNatClampNeg) + k))), (4, .int (σ (0, 0, 0) 2 + σ (2, 0, 0) p0.toNatClampNeg)), (3, .ref (ad (8, (σ (0, 0, 0) 1).toNatClampNeg, p0.toNatClampNeg))), (0, .ref (ad (0, 0, 0))), (1, .int p0), (2, .int p1)]) hx hb dX2_scan_87 hl (k := 1) rfl rfl (by decide) rfl (fun ls hl => ?_)
            refine lv_goto (tgt := 35) hx hb dX2_scan_90 (by decide) ?_
            exact ih (j + 1) (k + 1) τ _ _ _ (by rw [hk, nI_1]) (by omega) (hE.trans (by simp only [sp_sl, if_pos c_4, if_neg c_5] <;> rfl)) hP hD hS (lv_sub hl [0, 2, 3, 4, 5, 6] rfl)
          · refine lv_aload_n hx hb dX2_scan_79 rfl (lv_at hl 4 rfl) ?_
            refine lv_iconst (v := 0) hx hb dX2_scan_80 (by decide) ?_
            refine lv_iload hx hb dX2_scan_81 (lv_at hl 1 rfl) ?_
            refine zw_cV (r := (0, 0, 0)) (As := [.int 0, .int k]) (rest := []) (st1 := [.int k]) ⟨hx, hb, hml, hown, hts⟩ (cd_end (σ := τ) hR 0 k) (cwV 2 hts gX2_scan_X2_end rfl rfl rfl (by decide +kernel) ⟨Nat.le_of_ble_eq_true rfl, Nat.le_of_ble_eq_true rfl⟩) (hR.1 0 (by decide)) rfl rfl rfl hK hP hD hS hA hN rfl hl.1 rfl (Nat.le_of_ble_eq_true rfl) rfl dX2_scan_83 ⟨Nat.zero_le _, Nat.zero_le _⟩ (fun H locs hP hD hS => ?_)
            exact zw_iret hx hb hr hlk hK hP hD hS dX2_scan_86 (by rw [hE]; simp only [sp_sl, if_pos c_4, if_pos c_5] <;> rfl) (by rw [hE]; simp only [sp_sl, if_pos c_4, if_pos c_5] <;> rfl)
        · refine lv_aload_n hx hb dX2_scan_58 rfl (lv_at hl 4 rfl) ?_
          refine lv_iload hx hb dX2_scan_59 (lv_at hl 0 rfl) ?_
          refine lv_iconst (v := (-1)) hx hb dX2_scan_61 (by decide) ?_
          refine zw_cV (r := (0, 0, 0)) (As := [.int (sp_f len τ (σ (0, 0, 0) 1).toNatClampNeg p0.toNatClampNeg ((σ (0, 0, 0) 2 + σ (2, 0, 0) p0.toNatClampNeg) + k)), .int (-1)]) (rest := []) (st1 := [.int (-1)]) ⟨hx, hb, hml, hown, hts⟩ (cd_end (σ := τ) hR (sp_f len τ (σ (0, 0, 0) 1).toNatClampNeg p0.toNatClampNeg ((σ (0, 0, 0) 2 + σ (2, 0, 0) p0.toNatClampNeg) + k)) (-1)) (cwV 2 hts gX2_scan_X2_end rfl rfl rfl (by decide +kernel) ⟨Nat.le_of_ble_eq_true rfl, Nat.le_of_ble_eq_true rfl⟩) (hR.1 0 (by decide)) rfl rfl rfl hK hP hD hS hA hN rfl hl.1 rfl (Nat.le_of_ble_eq_true rfl) rfl dX2_scan_62 ⟨Nat.zero_le _, Nat.zero_le _⟩ (fun H locs hP hD hS => ?_)
          exact zw_iret hx hb hr hlk hK hP hD hS dX2_scan_65 (by rw [hE]; simp only [sp_sl, if_neg c_4] <;> rfl) (by rw [hE]; simp only [sp_sl, if_neg c_4] <;> rfl)
    exact key 64 0 0 σ _ _ _ nI_0.symm (by omega) (by simp only [sp_scan, if_pos h_1] <;> rfl) hP hD hS hl
  · refine zw_cV (r := (0, 0, 0)) (As := [.int (σ (0, 0, 0) 1), .int p0]) (rest := []) (st1 := [.null]) ⟨hx, hb, hml, hown, hts⟩ (cd_trackOf_0 (σ := σ) hR hnr (σ (0, 0, 0) 1) p0 h_1) (cwV 2 hts gX2_scan_X2_trackOf rfl rfl rfl (by decide +kernel) ⟨Nat.le_of_ble_eq_true rfl, Nat.le_of_ble_eq_true rfl⟩) (hR.1 0 (by decide)) rfl rfl rfl hK hP hD hS hA hN rfl hl.1 rfl (Nat.le_of_ble_eq_true rfl) rfl dX2_scan_6 ⟨Nat.zero_le _, Nat.zero_le _⟩ (fun H locs hP hD hS => ?_)
    refine lv_astore_nN (lv' := [(3, .null), (0, .ref (ad (0, 0, 0))), (1, .int p0), (2, .int p1)]) hx hb dX2_scan_9 rfl hl (by decide) rfl (fun ls hl => ?_)
    refine lv_aload_nN hx hb dX2_scan_10 rfl (lv_at hl 0 rfl) ?_
    refine lv_ifnonnullN hx hb dX2_scan_11 ?_
    refine lv_aload_n hx hb dX2_scan_14 rfl (lv_at hl 1 rfl) ?_
    refine lv_aload_n hx hb dX2_scan_15 rfl (lv_at hl 1 rfl) ?_
    refine lv_iload_n hx hb dX2_scan_16 rfl (lv_at hl 2 rfl) ?_
    refine zw_cV (r := (0, 0, 0)) (As := [.int p0]) (rest := [.ref (ad (0, 0, 0))]) (st1 := [.int (if sp_t p0 then 5 else 1), .ref (ad (0, 0, 0))]) ⟨hx, hb, hml, hown, hts⟩ (cd_why (σ := σ) hR p0) (cwV 1 hts gX2_scan_X2_whyNoneUnderHead rfl rfl rfl (by decide +kernel) ⟨Nat.le_of_ble_eq_true rfl, Nat.le_of_ble_eq_true rfl⟩) (hR.1 0 (by decide)) rfl rfl rfl hK hP hD hS hA hN rfl hl.1 rfl (Nat.le_of_ble_eq_true rfl) rfl dX2_scan_17 ⟨Nat.zero_le _, Nat.zero_le _⟩ (fun H locs hP hD hS => ?_)
    refine lv_iconst (v := (-1)) hx hb dX2_scan_20 (by decide) ?_
    refine zw_cV (r := (0, 0, 0)) (As := [.int (if sp_t p0 then 5 else 1), .int (-1)]) (rest := []) (st1 := [.int (-1)]) ⟨hx, hb, hml, hown, hts⟩ (cd_end (σ := σ) hR (if sp_t p0 then 5 else 1) (-1)) (cwV 2 hts gX2_scan_X2_end rfl rfl rfl (by decide +kernel) ⟨Nat.le_of_ble_eq_true rfl, Nat.le_of_ble_eq_true rfl⟩) (hR.1 0 (by decide)) rfl rfl rfl hK hP hD hS hA hN rfl hl.1 rfl (Nat.le_of_ble_eq_true rfl) rfl dX2_scan_21 ⟨Nat.zero_le _, Nat.zero_le _⟩ (fun H locs hP hD hS => ?_)
    exact zw_iret hx hb hr hlk hK hP hD hS dX2_scan_24 (by simp only [sp_scan, if_neg h_1] <;> rfl) (by simp only [sp_scan, if_neg h_1] <;> rfl)
end
section
/-! THE REFERENCE'S CELLS, read off the same numbers -/
def ze_M (cA : Nat → ClassId) (ad : zw_R → Nat) (len : Nat → Nat) (σ : sp_S) : zw_R → va_E := fun r => match r with
  | (20, 0, 0) => .inr (3, [.int (σ (0, 0, 0) 0), .ref (ad (21, 0, 0)), .ref (ad (22, 0, 0)), .ref (ad (23, 0, 0)), .int (σ (0, 0, 0) 1), .int (σ (0, 0, 0) 2), .ref (ad (24, 0, 0)), .ref (ad (25, 0, 0)), .ref (ad (26, 0, 0)), .int (σ (0, 0, 0) 3), .int (σ (0, 0, 0) 4), .int (σ (0, 0, 0) 7), .int (σ (0, 0, 0) 8), .int (σ (0, 0, 0) 5), .int (σ (0, 0, 0) 6), .ref (ad (27, 0, 0)), .int (σ (0, 0, 0) 9)])
  | (21, 0, 0) => .inl (cA 0, 8, .inl (fun i => nI (len i)))
  | (22, 0, 0) => .inl (cA 0, 8, .inl (fun i => sp_b σ i))
  | (23, 0, 0) => .inl (cA 0, 2048, .inl (fun k => σ (9, k / 256, k / 64 % 4) (k % 64)))
  | (24, 0, 0) => .inl (cA 0, 4, .inl (σ (2, 0, 0)))
  | (25, 0, 0) => .inl (cA 0, 4, .inl (σ (3, 0, 0)))
  | (26, 0, 0) => .inl (cA 0, 4, .inl (σ (4, 0, 0)))
  | (27, 0, 0) => .inl (cA 0, 256, .inl (σ (5, 0, 0)))
  | _ => .inr (0, [])
def zm_R (R : List zw_R) : Prop := ∀ k, k < 8 → (20 + k, 0, 0) ∈ R
theorem zm_X {cD cM cM' : zw_R → va_E} {r : zw_R} {e : va_E} (hr : Nat.blt r.1 20 = false) (h1 : cM' r = e) (h2 : ∀ q, q ≠ r → cM' q = cM q) : ze_X cD cM' = zw_u (ze_X cD cM) r e := by
  funext q
  by_cases h : q = r
  · subst h
    simp only [ze_X, zw_us, hr, cond_false, h1]
  · simp only [ze_X, zw_un _ _ h, h2 q h]
section ZM
variable {cA : Nat → ClassId} {ad : zw_R → Nat} {len : Nat → Nat} {σ : sp_S} {cD : zw_R → va_E}
theorem zm_D {j : Nat} {v : Int32} {e : va_E} (h1 : ze_M cA ad len (sp_s σ (0, 0, 0) j v) (20, 0, 0) = e) : ze_X cD (ze_M cA ad len (sp_s σ (0, 0, 0) j v)) = zw_u (ze_X cD (ze_M cA ad len σ)) (20, 0, 0) e := by
  refine zm_X rfl h1 (fun q h => ?_)
  unfold ze_M
  split
  · exact absurd rfl h
  all_goals rfl
theorem zm_A2 {x : Nat → Int32} {e : va_E} (h1 : ze_M cA ad len (zw_u σ (2, 0, 0) x) (24, 0, 0) = e) : ze_X cD (ze_M cA ad len (zw_u σ (2, 0, 0) x)) = zw_u (ze_X cD (ze_M cA ad len σ)) (24, 0, 0) e := by
  refine zm_X rfl h1 (fun q h => ?_)
  unfold ze_M
  split
  all_goals first | rfl | exact absurd rfl h
theorem zm_A3 {x : Nat → Int32} {e : va_E} (h1 : ze_M cA ad len (zw_u σ (3, 0, 0) x) (25, 0, 0) = e) : ze_X cD (ze_M cA ad len (zw_u σ (3, 0, 0) x)) = zw_u (ze_X cD (ze_M cA ad len σ)) (25, 0, 0) e := by
  refine zm_X rfl h1 (fun q h => ?_)
  unfold ze_M
  split
  all_goals first | rfl | exact absurd rfl h
theorem zm_A4 {x : Nat → Int32} {e : va_E} (h1 : ze_M cA ad len (zw_u σ (4, 0, 0) x) (26, 0, 0) = e) : ze_X cD (ze_M cA ad len (zw_u σ (4, 0, 0) x)) = zw_u (ze_X cD (ze_M cA ad len σ)) (26, 0, 0) e := by
  refine zm_X rfl h1 (fun q h => ?_)
  unfold ze_M
  split
  all_goals first | rfl | exact absurd rfl h
theorem zm_A5 {x : Nat → Int32} {e : va_E} (h1 : ze_M cA ad len (zw_u σ (5, 0, 0) x) (27, 0, 0) = e) : ze_X cD (ze_M cA ad len (zw_u σ (5, 0, 0) x)) = zw_u (ze_X cD (ze_M cA ad len σ)) (27, 0, 0) e := by
  refine zm_X rfl h1 (fun q h => ?_)
  unfold ze_M
  split
  all_goals first | rfl | exact absurd rfl h
/-- a number of a track -/
theorem zm_N {i t j k : Nat} {v : Int32} (hk : k = 256 * i + 64 * t + j) (ht : t < 4) (hj : j < 64) : ze_X cD (ze_M cA ad len (sp_s σ (9, i, t) j v)) = zw_u (ze_X cD (ze_M cA ad len σ)) (23, 0, 0) (.inl (cA 0, 2048, .inl (upd (fun k => σ (9, k / 256, k / 64 % 4) (k % 64)) k v))) := by
  refine zm_X rfl ?_ (fun q h => ?_)
  · show (Sum.inl (cA 0, 2048, Sum.inl (fun q => sp_s σ (9, i, t) j v (9, q / 256, q / 64 % 4) (q % 64))) : va_E) = _
    congr 4
    funext q
    unfold upd
    by_cases h : q = k
    · have h1 : q / 256 = i := by omega
      have h2 : q / 64 % 4 = t := by omega
      have h3 : q % 64 = j := by omega
      rw [if_pos h, h1, h2, h3]
      simp [sp_s, zw_u, upd]
    · rw [if_neg h]
      by_cases h4 : (9, q / 256, q / 64 % 4) = ((9, i, t) : zw_R)
      · have h5 : q / 256 = i := congrArg (fun z => z.2.1) h4
        have h6 : q / 64 % 4 = t := congrArg (fun z => z.2.2) h4
        have h7 : q % 64 ≠ j := by omega
        show _ = σ (9, q / 256, q / 64 % 4) (q % 64)
        rw [h5, h6]
        simp [sp_s, zw_u, upd, h7]
      · rw [show sp_s σ (9, i, t) j v (9, q / 256, q / 64 % 4) = σ (9, q / 256, q / 64 % 4) from zw_un _ _ h4]
  · unfold ze_M
    split
    all_goals first | rfl | exact absurd rfl h
theorem zm_T {i t : Nat} {x y : Int32} {w : Int32} (ht : t < 4) (hx : sp_b (sp_s σ (8, i, t) 1 x) i = w) : ze_X cD (ze_M cA ad len (sp_s σ (8, i, t) 1 x)) = zw_u (ze_X cD (ze_M cA ad len σ)) (22, 0, 0) (.inl (cA 0, 8, .inl (upd (fun i => sp_b σ i) i w))) := by
  refine zm_X rfl ?_ (fun q h => ?_)
  · show (Sum.inl (cA 0, 8, Sum.inl (fun q => sp_b (sp_s σ (8, i, t) 1 x) q)) : va_E) = _
    congr 4
    funext q
    unfold upd
    by_cases h : q = i
    · subst h
      rw [if_pos rfl, hx]
    · rw [if_neg h]
      have hne : ∀ b : Nat, sp_s σ (8, i, t) 1 x (8, q, b) = σ (8, q, b) := fun b => zw_un _ _ (fun z => h (congrArg (fun z => z.2.1) z))
      unfold sp_b
      rw [hne, hne, hne, hne]
  · unfold ze_M
    split
    all_goals first | rfl | exact absurd rfl h
end ZM
theorem zm_bit {σ : sp_S} {i t : Nat} (ht : t < 4) : (sp_b σ i >>> (nI t &&& 31)) &&& 1 = if σ (8, i, t) 1 = 0 then 0 else 1 := by
  unfold sp_b
  match t, ht with
  | 0, _ => split <;> split <;> split <;> split <;> rfl
  | 1, _ => split <;> split <;> split <;> split <;> rfl
  | 2, _ => split <;> split <;> split <;> split <;> rfl
  | 3, _ => split <;> split <;> split <;> split <;> rfl
  | k + 4, h => exact absurd h (by omega)
theorem zm_off {σ : sp_S} {i t : Nat} (ht : t < 4) : sp_b (sp_s σ (8, i, t) 1 0) i = sp_b σ i &&& (((1 : Int32) <<< (nI t &&& 31)) ^^^ (-1)) := by
  unfold sp_b
  match t, ht with
  | 0, _ => simp [sp_s, zw_u, upd]; split <;> split <;> split <;> split <;> rfl
  | 1, _ => simp [sp_s, zw_u, upd]; split <;> split <;> split <;> split <;> rfl
  | 2, _ => simp [sp_s, zw_u, upd]; split <;> split <;> split <;> split <;> rfl
  | 3, _ => simp [sp_s, zw_u, upd]; split <;> split <;> split <;> split <;> rfl
  | k + 4, h => exact absurd h (by omega)
theorem zm_on {σ : sp_S} {i t : Nat} (ht : t < 4) : sp_b (sp_s σ (8, i, t) 1 1) i = sp_b σ i ||| ((1 : Int32) <<< (nI t &&& 31)) := by
  unfold sp_b
  match t, ht with
  | 0, _ => simp [sp_s, zw_u, upd]; split <;> split <;> split <;> split <;> rfl
  | 1, _ => simp [sp_s, zw_u, upd]; split <;> split <;> split <;> split <;> rfl
  | 2, _ => simp [sp_s, zw_u, upd]; split <;> split <;> split <;> split <;> rfl
  | 3, _ => simp [sp_s, zw_u, upd]; split <;> split <;> split <;> split <;> rfl
  | k + 4, h => exact absurd h (by omega)
/-- where a number lies in the reference -/
theorem zm_at {a b p : Int32} {nr n : Nat} (ha : sp_r nr a) (hn : nr ≤ 8) (hb : sp_t b) (hp : vp_in p n) (h64 : n ≤ 64) : ((4 * a + b) * 64 + p).toNatClampNeg = 256 * a.toNatClampNeg + 64 * b.toNatClampNeg + p.toNatClampNeg ∧ vp_in ((4 * a + b) * 64 + p) 2048 ∧ p.toNatClampNeg < 64 := by
  have h1 := ze_vr ha hn
  have h2 := ze_vt hb
  obtain ⟨j, hj, ej⟩ := vp_in_of hp (by omega)
  have e : (4 * a + b) * 64 + p = nI ((4 * a.toNatClampNeg + b.toNatClampNeg) * 64 + j) := by
    conv => lhs; rw [← ze_nn ha.1, ← ze_nn hb.1, ej, show (4 : Int32) = nI 4 from rfl, show (64 : Int32) = nI 64 from rfl]
    rw [pk_mul, nI_add, pk_mul, nI_add]
  rw [e, ej, nI_clamp (by omega), nI_clamp (by omega)]
  exact ⟨by omega, vp_in_nI (by omega) (by decide), by omega⟩
theorem zm_rd {σ : sp_S} {a b p : Int32} {nr n : Nat} (ha : sp_r nr a) (hn : nr ≤ 8) (hb : sp_t b) (hp : vp_in p n) (h64 : n ≤ 64) : σ (9, ((4 * a + b) * 64 + p).toNatClampNeg / 256, ((4 * a + b) * 64 + p).toNatClampNeg / 64 % 4) (((4 * a + b) * 64 + p).toNatClampNeg % 64) = σ (9, a.toNatClampNeg, b.toNatClampNeg) p.toNatClampNeg := by
  obtain ⟨h1, h2, h3⟩ := zm_at ha hn hb hp h64
  have h4 := ze_vt hb
  rw [h1]
  rw [show (256 * a.toNatClampNeg + 64 * b.toNatClampNeg + p.toNatClampNeg) / 256 = a.toNatClampNeg by omega, show (256 * a.toNatClampNeg + 64 * b.toNatClampNeg + p.toNatClampNeg) / 64 % 4 = b.toNatClampNeg by omega, show (256 * a.toNatClampNeg + 64 * b.toNatClampNeg + p.toNatClampNeg) % 64 = p.toNatClampNeg by omega]
theorem zm_xor {a : Nat} (h : a < 65536) : a ^^^ 2 ^ 15 = (a + 32768) % 65536 := by
  have h1 : (a ^^^ 2 ^ 15) % 2 ^ 15 = a % 2 ^ 15 := by rw [Nat.xor_mod_two_pow, Nat.mod_self, Nat.xor_zero]
  have h2 : (a ^^^ 2 ^ 15) / 2 ^ 15 = (a / 2 ^ 15) ^^^ 1 := by rw [Nat.xor_div_two_pow, Nat.div_self (Nat.two_pow_pos 15)]
  have h3 : a / 2 ^ 15 = 0 ∨ a / 2 ^ 15 = 1 := by omega
  generalize a ^^^ 2 ^ 15 = t at h1 h2
  rcases h3 with h3 | h3
  · rw [h3] at h2
    have h2 : t / 2 ^ 15 = 1 := h2
    omega
  · rw [h3] at h2
    have h2 : t / 2 ^ 15 = 0 := h2
    omega
theorem zm_nx (a b : Nat) : nI a ^^^ nI b = nI (a ^^^ b) := by
  apply Int32.toBitVec_inj.mp
  show BitVec.ofNat 32 a ^^^ BitVec.ofNat 32 b = BitVec.ofNat 32 (a ^^^ b)
  rw [BitVec.ofNat_xor]
theorem zm_short (v : Int32) : ((v &&& 65535) ^^^ 32768) - 32768 = v.toInt16.toInt32 := by
  have e := pk_and v (m := 65535) 16 (by decide)
  rw [e, show (32768 : Int32) = nI (2 ^ 15) from rfl, zm_nx, zm_xor (Nat.mod_lt _ (by decide))]
  apply Int32.toInt_inj.mp
  rw [Int16.toInt_toInt32, Int32.toInt_toInt16, pk_sub_toInt (by omega) (by omega)]
  have hv : v.toInt = if 2 * v.toBitVec.toNat < 2 ^ 32 then (v.toBitVec.toNat : Int) else (v.toBitVec.toNat : Int) - (2 ^ 32 : Nat) := BitVec.toInt_eq_toNat_cond _
  have hb : v.toBitVec.toNat < 2 ^ 32 := v.toBitVec.isLt
  rw [hv, Int.bmod_def]
  omega
theorem zm_lev (v : Int32) : (if v < -32768 then -32768 else if 32768 < v then 32768 else v) = sp_as 2 v := by
  show _ = (if (-32768 : Int32) < (if v < 32768 then v else 32768) then (if v < 32768 then v else 32768) else -32768)
  have a1 : (-32768 : Int32).toInt = -32768 := rfl
  have a2 : (32768 : Int32).toInt = 32768 := rfl
  by_cases h1 : v < 32768
  · rw [if_pos h1]
    have b1 := ze_lt h1
    have h2 : ¬ (32768 : Int32) < v := fun q => by have := ze_lt q; omega
    rw [if_neg h2]
    by_cases h3 : (-32768 : Int32) < v
    · rw [if_pos h3, if_neg (fun q => by have := ze_lt q; have := ze_lt h3; omega)]
    · rw [if_neg h3]
      by_cases h4 : v < -32768
      · rw [if_pos h4]
      · rw [if_neg h4]
        exact Int32.toInt_inj.mp (by have := ze_nl h3; have := ze_nl h4; omega)
  · rw [if_neg h1, if_pos (show (-32768 : Int32) < 32768 by decide)]
    have b1 := ze_nl h1
    rw [if_neg (show ¬ v < -32768 from fun q => by have := ze_lt q; omega)]
    by_cases h2 : (32768 : Int32) < v
    · rw [if_pos h2]
    · rw [if_neg h2]
      exact Int32.toInt_inj.mp (by have := ze_nl h2; omega)
end
section
theorem ze_t4 {x : Int32} (h : sp_t x) : ¬ (4 : Int32) ≤ x := fun q => by
  have h1 := ze_le h.2
  have h2 := ze_le q
  have a1 : (3 : Int32).toInt = 3 := rfl
  have a2 : (4 : Int32).toInt = 4 := rfl
  omega
theorem ze_t3 {x : Int32} (h : ¬ (4 : Int32) ≤ x) : x ≤ 3 := by
  have h2 := ze_nle h
  have a1 : (3 : Int32).toInt = 3 := rfl
  have a2 : (4 : Int32).toInt = 4 := rfl
  exact Int32.le_iff_toInt_le.mpr (by omega)
theorem ze_t9 {x : Int32} (h : sp_t x) (h0 : ¬ x = 0) (h1 : ¬ x = 1) (h2 : ¬ x = 2) : x = 3 := by
  have b1 := ze_le h.1
  have b2 := ze_le h.2
  have a0 : (0 : Int32).toInt = 0 := rfl
  have a1 : (1 : Int32).toInt = 1 := rfl
  have a2 : (2 : Int32).toInt = 2 := rfl
  have a3 : (3 : Int32).toInt = 3 := rfl
  have c0 : ¬ x.toInt = 0 := fun q => h0 (Int32.toInt_inj.mp (q.trans a0.symm))
  have c1 : ¬ x.toInt = 1 := fun q => h1 (Int32.toInt_inj.mp (q.trans a1.symm))
  have c2 : ¬ x.toInt = 2 := fun q => h2 (Int32.toInt_inj.mp (q.trans a2.symm))
  exact Int32.toInt_inj.mp (by omega)
theorem ze_rn {nr : Nat} {x : Int32} (h : sp_r nr x) : ¬ x = -1 := fun q => by
  have h1 := h.1
  rw [q] at h1
  exact absurd h1 (by decide)
theorem zm_b1 {σ : sp_S} {i : Nat} {x : Int32} (ht : sp_t x) (h : ¬ σ (8, i, x.toNatClampNeg) 1 = 0) : (sp_b σ i >>> (x &&& 31)) &&& 1 = 1 := by
  have e := zm_bit (σ := σ) (i := i) (ze_vt ht)
  rw [ze_tn ht, if_neg h] at e
  exact e
theorem zm_b0 {σ : sp_S} {i : Nat} {x : Int32} (ht : sp_t x) (h : σ (8, i, x.toNatClampNeg) 1 = 0) : ¬ (sp_b σ i >>> (x &&& 31)) &&& 1 = 1 := by
  have e := zm_bit (σ := σ) (i := i) (ze_vt ht)
  rw [ze_tn ht, if_pos h] at e
  rw [e]
  decide
section ZV
variable {p : Program} {l : Launch} {e : Env} {RM : Room} {s : State} {m : MethodId} {args : Array Value} {below : List Frame} {meth : Method} {c : Code} {H : Heap} {locs : List Loc} {cells slots : Nat} {Q : State → Prop}
variable {cc : ByteArray} {pc : Nat} {ls : Array Slot} {rest : List Value} {E : zw_E} {A : Nat → Prop} {H0 : Heap} {ad : zw_R → Nat} {R : List zw_R} {cu : zw_R → va_E}
theorem zw_ialdv (hexec : p.tables.exec = Jvm.exec) (hb : c.code = cc) (hK : va_K E.1 E.2.1 E.2.2 s) (hP : va_P E.1 E.2.1 (zw_l ad R cu) H) {r : zw_R} (hr : r ∈ R) (t0 : Nat) {cA : ClassId} {n : Nat} {f : Nat → Int32} (he : cu r = .inl (cA, n, .inl f)) (ht : E.2.2[t0]? = some (cA, .int)) {i : Int32} (hin : vp_in i n) {v : Int32} (hv : f i.toNatClampNeg = v) (hdg : decode cc pc = .ok (.iaload, 1))
    (kk : W p l e RM s m args below meth c H locs cells slots Q (F0 m (pc + 1) ls (.int v :: rest))) : W p l e RM s m args below meth c H locs cells slots Q (F0 m pc ls (.int i :: .ref (ad r) :: rest)) := by
  subst hv
  exact zw_iald hexec hb hK hP hr t0 he ht hin hdg kk
end ZV
set_option maxHeartbeats 4000000 in
set_option maxRecDepth 100000 in
theorem cm_done {l : Launch} {dC : Nat → ClassId} {dI : Nat → Nat → Nat} {cA : Nat → ClassId} {ad : zw_R → Nat} {R : List zw_R} {len : Nat → Nat} {σ : sp_S} {cD : zw_R → va_E} (hM : zm_R R) (p0 : Int32) : zw_M l yX3_done wsX3_done { frames := 0, cells := 0, slots := 0, locals := 0 } (ze_E dC dI cA) [.ref (ad (20, 0, 0)), .int p0] ad R (ze_X cD (ze_M cA ad len σ)) (some (.int p0)) (ze_X cD (ze_M cA ad len (sp_e σ 0))) := by
  refine zw_body (cc := cX3_done) (maxL := 2) (ret := (some .int)) (by decide) rfl (Nat.le_of_ble_eq_true rfl) ?_
  intro p e s m below meth c A ls hx hb hr hlk hml hts hown hnm hA hK hP hD hS hN hl
  have hl : lv_has ls 2 [(0, .ref (ad (20, 0, 0))), (1, .int p0)] := hl
  have hwX3 : ∀ w ∈ u_ws RX3 TX3 17, w ∈ wsX3_done := by decide +kernel
  refine lv_aload_n hx hb dX3_done_0 rfl (lv_at hl 0 rfl) ?_
  refine lv_iconst (v := 0) hx hb dX3_done_1 (by decide) ?_
  refine zw_putf (r := (20, 0, 0)) (v := .int 0) (C := RX3) (T := TX3) (N := 17) (ci := 3) hx hb hts hwX3 tyX3 tyX3_ok nmX3 hown hK hP hD hS (hM 0 (by decide)) rfl rfl 16 (by decide) (hts (.fieldLink RX3 44 "FourTrackDeckModel" "status" "I") (by decide +kernel)) (fun _ h9 => h9) rfl (ty := .int) (by decide +kernel) rfl rfl (Nat.le_of_ble_eq_true rfl) dX3_done_2 (cu1 := ze_X cD (ze_M cA ad len (sp_s σ (0, 0, 0) 9 0))) (zm_D rfl) (fun H locs hP hD hS => ?_)
  refine lv_iload_n hx hb dX3_done_5 rfl (lv_at hl 1 rfl) ?_
  exact zw_iret hx hb hr hlk hK hP hD hS dX3_done_6 rfl rfl
set_option maxHeartbeats 4000000 in
set_option maxRecDepth 100000 in
theorem cm_fails {l : Launch} {dC : Nat → ClassId} {dI : Nat → Nat → Nat} {cA : Nat → ClassId} {ad : zw_R → Nat} {R : List zw_R} {len : Nat → Nat} {σ : sp_S} {cD : zw_R → va_E} (hM : zm_R R) (p0 p1 : Int32) : zw_M l yX3_fails wsX3_fails { frames := 0, cells := 0, slots := 0, locals := 0 } (ze_E dC dI cA) [.ref (ad (20, 0, 0)), .int p0, .int p1] ad R (ze_X cD (ze_M cA ad len σ)) (some (.int p1)) (ze_X cD (ze_M cA ad len (sp_e σ p0))) := by
  refine zw_body (cc := cX3_fails) (maxL := 3) (ret := (some .int)) (by decide) rfl (Nat.le_of_ble_eq_true rfl) ?_
  intro p e s m below meth c A ls hx hb hr hlk hml hts hown hnm hA hK hP hD hS hN hl
  have hl : lv_has ls 3 [(0, .ref (ad (20, 0, 0))), (1, .int p0), (2, .int p1)] := hl
  have hwX3 : ∀ w ∈ u_ws RX3 TX3 17, w ∈ wsX3_fails := by decide +kernel
  refine lv_aload_n hx hb dX3_fails_0 rfl (lv_at hl 0 rfl) ?_
  refine lv_iload_n hx hb dX3_fails_1 rfl (lv_at hl 1 rfl) ?_
  refine zw_putf (r := (20, 0, 0)) (v := .int p0) (C := RX3) (T := TX3) (N := 17) (ci := 3) hx hb hts hwX3 tyX3 tyX3_ok nmX3 hown hK hP hD hS (hM 0 (by decide)) rfl rfl 16 (by decide) (hts (.fieldLink RX3 44 "FourTrackDeckModel" "status" "I") (by decide +kernel)) (fun _ h9 => h9) rfl (ty := .int) (by decide +kernel) rfl rfl (Nat.le_of_ble_eq_true rfl) dX3_fails_2 (cu1 := ze_X cD (ze_M cA ad len (sp_s σ (0, 0, 0) 9 p0))) (zm_D rfl) (fun H locs hP hD hS => ?_)
  refine lv_iload_n hx hb dX3_fails_5 rfl (lv_at hl 2 rfl) ?_
  exact zw_iret hx hb hr hlk hK hP hD hS dX3_fails_6 rfl rfl
set_option maxHeartbeats 4000000 in
set_option maxRecDepth 100000 in
theorem cm_isReel_1 {l : Launch} {dC : Nat → ClassId} {dI : Nat → Nat → Nat} {cA : Nat → ClassId} {ad : zw_R → Nat} {R : List zw_R} {nr : Nat} {len : Nat → Nat} {σ : sp_S} {cD : zw_R → va_E} (hM : zm_R R) (hI0 : σ (0, 0, 0) 0 = nI nr) (p0 : Int32) (h : sp_r nr p0) : zw_M l yX3_isReel wsX3_isReel { frames := 0, cells := 0, slots := 0, locals := 0 } (ze_E dC dI cA) [.ref (ad (20, 0, 0)), .int p0] ad R (ze_X cD (ze_M cA ad len σ)) (some (.int 1)) (ze_X cD (ze_M cA ad len σ)) := by
  refine zw_body (cc := cX3_isReel) (maxL := 2) (ret := (some .boolean)) (by decide) rfl (Nat.le_of_ble_eq_true rfl) ?_
  intro p e s m below meth c A ls hx hb hr hlk hml hts hown hnm hA hK hP hD hS hN hl
  have hl : lv_has ls 2 [(0, .ref (ad (20, 0, 0))), (1, .int p0)] := hl
  have hwX3 : ∀ w ∈ u_ws RX3 TX3 17, w ∈ wsX3_isReel := by decide +kernel
  refine lv_iload_n hx hb dX3_isReel_0 rfl (lv_at hl 1 rfl) ?_
  refine lv_if_lt (tgt := 16) hx hb dX3_isReel_1 (by decide) (fun c_1 => absurd c_1 (Int32.not_lt.mpr h.1)) (fun c_1 => ?_)
  refine lv_iload_n hx hb dX3_isReel_4 rfl (lv_at hl 1 rfl) ?_
  refine lv_aload_n hx hb dX3_isReel_5 rfl (lv_at hl 0 rfl) ?_
  refine zw_getf (r := (20, 0, 0)) (v := .int (σ (0, 0, 0) 0)) (C := RX3) (T := TX3) (N := 17) (ci := 3) hx hb hts hwX3 hown hK hP (hM 0 (by decide)) rfl rfl 0 (by decide) (hts (.fieldLink RX3 47 "FourTrackDeckModel" "reels" "I") (by decide +kernel)) (fun _ h9 => h9) rfl dX3_isReel_6 ?_
  refine lv_icmp_ge (tgt := 16) hx hb dX3_isReel_9 (by decide) (fun c_2 => absurd c_2 (by rw [hI0]; exact Int32.not_le.mpr h.2)) (fun c_2 => ?_)
  refine lv_iconst (v := 1) hx hb dX3_isReel_12 (by decide) ?_
  refine lv_goto (tgt := 17) hx hb dX3_isReel_13 (by decide) ?_
  exact zw_zret hx hb hr rfl hlk hK hP hD hS dX3_isReel_17 rfl rfl
set_option maxHeartbeats 4000000 in
set_option maxRecDepth 100000 in
theorem cm_isReel_0 {l : Launch} {dC : Nat → ClassId} {dI : Nat → Nat → Nat} {cA : Nat → ClassId} {ad : zw_R → Nat} {R : List zw_R} {nr : Nat} {len : Nat → Nat} {σ : sp_S} {cD : zw_R → va_E} (hM : zm_R R) (hI0 : σ (0, 0, 0) 0 = nI nr) (p0 : Int32) (h : ¬ sp_r nr p0) : zw_M l yX3_isReel wsX3_isReel { frames := 0, cells := 0, slots := 0, locals := 0 } (ze_E dC dI cA) [.ref (ad (20, 0, 0)), .int p0] ad R (ze_X cD (ze_M cA ad len σ)) (some (.int 0)) (ze_X cD (ze_M cA ad len σ)) := by
  refine zw_body (cc := cX3_isReel) (maxL := 2) (ret := (some .boolean)) (by decide) rfl (Nat.le_of_ble_eq_true rfl) ?_
  intro p e s m below meth c A ls hx hb hr hlk hml hts hown hnm hA hK hP hD hS hN hl
  have hl : lv_has ls 2 [(0, .ref (ad (20, 0, 0))), (1, .int p0)] := hl
  have hwX3 : ∀ w ∈ u_ws RX3 TX3 17, w ∈ wsX3_isReel := by decide +kernel
  refine lv_iload_n hx hb dX3_isReel_0 rfl (lv_at hl 1 rfl) ?_
  refine lv_if_lt (tgt := 16) hx hb dX3_isReel_1 (by decide) (fun c_1 => ?_) (fun c_1 => ?_)
  · refine lv_iconst (v := 0) hx hb dX3_isReel_16 (by decide) ?_
    exact zw_zret hx hb hr rfl hlk hK hP hD hS dX3_isReel_17 rfl rfl
  · refine lv_iload_n hx hb dX3_isReel_4 rfl (lv_at hl 1 rfl) ?_
    refine lv_aload_n hx hb dX3_isReel_5 rfl (lv_at hl 0 rfl) ?_
    refine zw_getf (r := (20, 0, 0)) (v := .int (σ (0, 0, 0) 0)) (C := RX3) (T := TX3) (N := 17) (ci := 3) hx hb hts hwX3 hown hK hP (hM 0 (by decide)) rfl rfl 0 (by decide) (hts (.fieldLink RX3 47 "FourTrackDeckModel" "reels" "I") (by decide +kernel)) (fun _ h9 => h9) rfl dX3_isReel_6 ?_
    refine lv_icmp_ge (tgt := 16) hx hb dX3_isReel_9 (by decide) (fun c_2 => ?_) (fun c_2 => ?_)
    · refine lv_iconst (v := 0) hx hb dX3_isReel_16 (by decide) ?_
      exact zw_zret hx hb hr rfl hlk hK hP hD hS dX3_isReel_17 rfl rfl
    · exact absurd ⟨Int32.not_lt.mp c_1, by rw [← hI0]; exact Int32.not_le.mp c_2⟩ h
set_option maxHeartbeats 4000000 in
set_option maxRecDepth 100000 in
theorem cm_isTrack_1 {l : Launch} {dC : Nat → ClassId} {dI : Nat → Nat → Nat} {cA : Nat → ClassId} {ad : zw_R → Nat} {R : List zw_R} {len : Nat → Nat} {σ : sp_S} {cD : zw_R → va_E} (p0 : Int32) (h : sp_t p0) : zw_M l yX3_isTrack wsX3_isTrack { frames := 0, cells := 0, slots := 0, locals := 0 } (ze_E dC dI cA) [.ref (ad (20, 0, 0)), .int p0] ad R (ze_X cD (ze_M cA ad len σ)) (some (.int 1)) (ze_X cD (ze_M cA ad len σ)) := by
  refine zw_body (cc := cX3_isTrack) (maxL := 2) (ret := (some .boolean)) (by decide) rfl (Nat.le_of_ble_eq_true rfl) ?_
  intro p e s m below meth c A ls hx hb hr hlk hml hts hown hnm hA hK hP hD hS hN hl
  have hl : lv_has ls 2 [(0, .ref (ad (20, 0, 0))), (1, .int p0)] := hl
  refine lv_iload_n hx hb dX3_isTrack_0 rfl (lv_at hl 1 rfl) ?_
  refine lv_if_lt (tgt := 13) hx hb dX3_isTrack_1 (by decide) (fun c_1 => absurd c_1 (Int32.not_lt.mpr h.1)) (fun c_1 => ?_)
  refine lv_iload_n hx hb dX3_isTrack_4 rfl (lv_at hl 1 rfl) ?_
  refine lv_iconst (v := 4) hx hb dX3_isTrack_5 (by decide) ?_
  refine lv_icmp_ge (tgt := 13) hx hb dX3_isTrack_6 (by decide) (fun c_2 => absurd c_2 (ze_t4 h)) (fun c_2 => ?_)
  refine lv_iconst (v := 1) hx hb dX3_isTrack_9 (by decide) ?_
  refine lv_goto (tgt := 14) hx hb dX3_isTrack_10 (by decide) ?_
  exact zw_zret hx hb hr rfl hlk hK hP hD hS dX3_isTrack_14 rfl rfl
set_option maxHeartbeats 4000000 in
set_option maxRecDepth 100000 in
theorem cm_isTrack_0 {l : Launch} {dC : Nat → ClassId} {dI : Nat → Nat → Nat} {cA : Nat → ClassId} {ad : zw_R → Nat} {R : List zw_R} {len : Nat → Nat} {σ : sp_S} {cD : zw_R → va_E} (p0 : Int32) (h : ¬ sp_t p0) : zw_M l yX3_isTrack wsX3_isTrack { frames := 0, cells := 0, slots := 0, locals := 0 } (ze_E dC dI cA) [.ref (ad (20, 0, 0)), .int p0] ad R (ze_X cD (ze_M cA ad len σ)) (some (.int 0)) (ze_X cD (ze_M cA ad len σ)) := by
  refine zw_body (cc := cX3_isTrack) (maxL := 2) (ret := (some .boolean)) (by decide) rfl (Nat.le_of_ble_eq_true rfl) ?_
  intro p e s m below meth c A ls hx hb hr hlk hml hts hown hnm hA hK hP hD hS hN hl
  have hl : lv_has ls 2 [(0, .ref (ad (20, 0, 0))), (1, .int p0)] := hl
  refine lv_iload_n hx hb dX3_isTrack_0 rfl (lv_at hl 1 rfl) ?_
  refine lv_if_lt (tgt := 13) hx hb dX3_isTrack_1 (by decide) (fun c_1 => ?_) (fun c_1 => ?_)
  · refine lv_iconst (v := 0) hx hb dX3_isTrack_13 (by decide) ?_
    exact zw_zret hx hb hr rfl hlk hK hP hD hS dX3_isTrack_14 rfl rfl
  · refine lv_iload_n hx hb dX3_isTrack_4 rfl (lv_at hl 1 rfl) ?_
    refine lv_iconst (v := 4) hx hb dX3_isTrack_5 (by decide) ?_
    refine lv_icmp_ge (tgt := 13) hx hb dX3_isTrack_6 (by decide) (fun c_2 => ?_) (fun c_2 => ?_)
    · refine lv_iconst (v := 0) hx hb dX3_isTrack_13 (by decide) ?_
      exact zw_zret hx hb hr rfl hlk hK hP hD hS dX3_isTrack_14 rfl rfl
    · exact absurd ⟨Int32.not_lt.mp c_1, ze_t3 c_2⟩ h
set_option maxHeartbeats 4000000 in
set_option maxRecDepth 100000 in
theorem cm_isThere_1 {l : Launch} {dC : Nat → ClassId} {dI : Nat → Nat → Nat} {cA : Nat → ClassId} {ad : zw_R → Nat} {R : List zw_R} {nr : Nat} {len : Nat → Nat} {σ : sp_S} {cD : zw_R → va_E} (hM : zm_R R) (hnr : nr ≤ 8) (p0 p1 : Int32) (hre : sp_r nr p0) (htr : sp_t p1) (h : ¬ σ (8, p0.toNatClampNeg, p1.toNatClampNeg) 1 = 0) : zw_M l yX3_isThere wsX3_isThere { frames := 0, cells := 0, slots := 0, locals := 0 } (ze_E dC dI cA) [.ref (ad (20, 0, 0)), .int p0, .int p1] ad R (ze_X cD (ze_M cA ad len σ)) (some (.int 1)) (ze_X cD (ze_M cA ad len σ)) := by
  refine zw_body (cc := cX3_isThere) (maxL := 3) (ret := (some .boolean)) (by decide) rfl (Nat.le_of_ble_eq_true rfl) ?_
  intro p e s m below meth c A ls hx hb hr hlk hml hts hown hnm hA hK hP hD hS hN hl
  have hl : lv_has ls 3 [(0, .ref (ad (20, 0, 0))), (1, .int p0), (2, .int p1)] := hl
  have hwX3 : ∀ w ∈ u_ws RX3 TX3 17, w ∈ wsX3_isThere := by decide +kernel
  refine lv_aload_n hx hb dX3_isThere_0 rfl (lv_at hl 0 rfl) ?_
  refine zw_getf (r := (20, 0, 0)) (v := .ref (ad (22, 0, 0))) (C := RX3) (T := TX3) (N := 17) (ci := 3) hx hb hts hwX3 hown hK hP (hM 0 (by decide)) rfl rfl 2 (by decide) (hts (.fieldLink RX3 13 "FourTrackDeckModel" "there" "[I") (by decide +kernel)) (fun _ h9 => h9) rfl dX3_isThere_1 ?_
  refine lv_iload_n hx hb dX3_isThere_4 rfl (lv_at hl 1 rfl) ?_
  refine zw_iald (r := (22, 0, 0)) hx hb hK hP (hM 2 (by decide)) 0 rfl rfl (ze_r8 hre hnr).1 dX3_isThere_5 ?_
  refine lv_iload_n hx hb dX3_isThere_6 rfl (lv_at hl 2 rfl) ?_
  refine lv_ishr hx hb dX3_isThere_7 ?_
  refine lv_iconst (v := 1) hx hb dX3_isThere_8 (by decide) ?_
  refine lv_iand hx hb dX3_isThere_9 ?_
  refine lv_iconst (v := 1) hx hb dX3_isThere_10 (by decide) ?_
  refine lv_icmp_ne (tgt := 18) hx hb dX3_isThere_11 (by decide) (fun c_1 => absurd (zm_b1 htr h) c_1) (fun c_1 => ?_)
  refine lv_iconst (v := 1) hx hb dX3_isThere_14 (by decide) ?_
  refine lv_goto (tgt := 19) hx hb dX3_isThere_15 (by decide) ?_
  exact zw_zret hx hb hr rfl hlk hK hP hD hS dX3_isThere_19 rfl rfl
set_option maxHeartbeats 4000000 in
set_option maxRecDepth 100000 in
theorem cm_isThere_0 {l : Launch} {dC : Nat → ClassId} {dI : Nat → Nat → Nat} {cA : Nat → ClassId} {ad : zw_R → Nat} {R : List zw_R} {nr : Nat} {len : Nat → Nat} {σ : sp_S} {cD : zw_R → va_E} (hM : zm_R R) (hnr : nr ≤ 8) (p0 p1 : Int32) (hre : sp_r nr p0) (htr : sp_t p1) (h : σ (8, p0.toNatClampNeg, p1.toNatClampNeg) 1 = 0) : zw_M l yX3_isThere wsX3_isThere { frames := 0, cells := 0, slots := 0, locals := 0 } (ze_E dC dI cA) [.ref (ad (20, 0, 0)), .int p0, .int p1] ad R (ze_X cD (ze_M cA ad len σ)) (some (.int 0)) (ze_X cD (ze_M cA ad len σ)) := by
  refine zw_body (cc := cX3_isThere) (maxL := 3) (ret := (some .boolean)) (by decide) rfl (Nat.le_of_ble_eq_true rfl) ?_
  intro p e s m below meth c A ls hx hb hr hlk hml hts hown hnm hA hK hP hD hS hN hl
  have hl : lv_has ls 3 [(0, .ref (ad (20, 0, 0))), (1, .int p0), (2, .int p1)] := hl
  have hwX3 : ∀ w ∈ u_ws RX3 TX3 17, w ∈ wsX3_isThere := by decide +kernel
  refine lv_aload_n hx hb dX3_isThere_0 rfl (lv_at hl 0 rfl) ?_
  refine zw_getf (r := (20, 0, 0)) (v := .ref (ad (22, 0, 0))) (C := RX3) (T := TX3) (N := 17) (ci := 3) hx hb hts hwX3 hown hK hP (hM 0 (by decide)) rfl rfl 2 (by decide) (hts (.fieldLink RX3 13 "FourTrackDeckModel" "there" "[I") (by decide +kernel)) (fun _ h9 => h9) rfl dX3_isThere_1 ?_
  refine lv_iload_n hx hb dX3_isThere_4 rfl (lv_at hl 1 rfl) ?_
  refine zw_iald (r := (22, 0, 0)) hx hb hK hP (hM 2 (by decide)) 0 rfl rfl (ze_r8 hre hnr).1 dX3_isThere_5 ?_
  refine lv_iload_n hx hb dX3_isThere_6 rfl (lv_at hl 2 rfl) ?_
  refine lv_ishr hx hb dX3_isThere_7 ?_
  refine lv_iconst (v := 1) hx hb dX3_isThere_8 (by decide) ?_
  refine lv_iand hx hb dX3_isThere_9 ?_
  refine lv_iconst (v := 1) hx hb dX3_isThere_10 (by decide) ?_
  refine lv_icmp_ne (tgt := 18) hx hb dX3_isThere_11 (by decide) (fun c_1 => ?_) (fun c_1 => absurd c_1 (zm_b0 htr h))
  refine lv_iconst (v := 0) hx hb dX3_isThere_18 (by decide) ?_
  exact zw_zret hx hb hr rfl hlk hK hP hD hS dX3_isThere_19 rfl rfl
set_option maxHeartbeats 4000000 in
set_option maxRecDepth 100000 in
theorem cm_at {l : Launch} {dC : Nat → ClassId} {dI : Nat → Nat → Nat} {cA : Nat → ClassId} {ad : zw_R → Nat} {R : List zw_R} {len : Nat → Nat} {σ : sp_S} {cD : zw_R → va_E} (p0 p1 p2 : Int32) : zw_M l yX3_at wsX3_at { frames := 0, cells := 0, slots := 0, locals := 0 } (ze_E dC dI cA) [.ref (ad (20, 0, 0)), .int p0, .int p1, .int p2] ad R (ze_X cD (ze_M cA ad len σ)) (some (.int ((4 * p0 + p1) * 64 + p2))) (ze_X cD (ze_M cA ad len σ)) := by
  refine zw_body (cc := cX3_at) (maxL := 4) (ret := (some .int)) (by decide) rfl (Nat.le_of_ble_eq_true rfl) ?_
  intro p e s m below meth c A ls hx hb hr hlk hml hts hown hnm hA hK hP hD hS hN hl
  have hl : lv_has ls 4 [(0, .ref (ad (20, 0, 0))), (1, .int p0), (2, .int p1), (3, .int p2)] := hl
  refine lv_iconst (v := 4) hx hb dX3_at_0 (by decide) ?_
  refine lv_iload_n hx hb dX3_at_1 rfl (lv_at hl 1 rfl) ?_
  refine lv_imul hx hb dX3_at_2 ?_
  refine lv_iload_n hx hb dX3_at_3 rfl (lv_at hl 2 rfl) ?_
  refine lv_iadd hx hb dX3_at_4 ?_
  refine lv_bipush (v := 64) hx hb dX3_at_5 (by decide) ?_
  refine lv_imul hx hb dX3_at_7 ?_
  refine lv_iload_n hx hb dX3_at_8 rfl (lv_at hl 3 rfl) ?_
  refine lv_iadd hx hb dX3_at_9 ?_
  exact zw_iret hx hb hr hlk hK hP hD hS dX3_at_10 rfl rfl
set_option maxHeartbeats 4000000 in
set_option maxRecDepth 100000 in
theorem cm_fault {l : Launch} {dC : Nat → ClassId} {dI : Nat → Nat → Nat} {cA : Nat → ClassId} {ad : zw_R → Nat} {R : List zw_R} {nr : Nat} {len : Nat → Nat} {σ : sp_S} {cD : zw_R → va_E} (hM : zm_R R) (hnr : nr ≤ 8) (p0 p1 p2 : Int32) (hre : sp_r nr p0) (htr : sp_t p1) : zw_M l yX3_fault wsX3_fault { frames := 1, cells := 0, slots := 0, locals := 22 } (ze_E dC dI cA) [.ref (ad (20, 0, 0)), .int p0, .int p1, .int p2] ad R (ze_X cD (ze_M cA ad len σ)) (some (.int (sp_f len σ p0.toNatClampNeg p1.toNatClampNeg p2))) (ze_X cD (ze_M cA ad len σ)) := by
  refine zw_body (cc := cX3_fault) (maxL := 4) (ret := (some .int)) (by decide) rfl (Nat.le_of_ble_eq_true rfl) ?_
  intro p e s m below meth c A ls hx hb hr hlk hml hts hown hnm hA hK hP hD hS hN hl
  have hl : lv_has ls 4 [(0, .ref (ad (20, 0, 0))), (1, .int p0), (2, .int p1), (3, .int p2)] := hl
  have hwX3 : ∀ w ∈ u_ws RX3 TX3 17, w ∈ wsX3_fault := by decide +kernel
  refine lv_aload_n hx hb dX3_fault_0 rfl (lv_at hl 0 rfl) ?_
  refine lv_iload_n hx hb dX3_fault_1 rfl (lv_at hl 1 rfl) ?_
  refine lv_iload_n hx hb dX3_fault_2 rfl (lv_at hl 2 rfl) ?_
  rcases Decidable.em (σ (8, p0.toNatClampNeg, p1.toNatClampNeg) 1 = 0) with h_1 | h_1
  · refine zw_cV (r := (20, 0, 0)) (As := [.int p0, .int p1]) (rest := []) (st1 := [.int 0]) ⟨hx, hb, hml, hown, hts⟩ (cm_isThere_0 (σ := σ) hM hnr p0 p1 hre htr h_1) (cwV 2 hts gX3_fault_X3_isThere rfl rfl rfl (by decide +kernel) ⟨Nat.le_of_ble_eq_true rfl, Nat.le_of_ble_eq_true rfl⟩) (hM 0 (by decide)) rfl rfl rfl hK hP hD hS hA hN rfl hl.1 rfl (Nat.le_of_ble_eq_true rfl) rfl dX3_fault_3 ⟨Nat.zero_le _, Nat.zero_le _⟩ (fun H locs hP hD hS => ?_)
    refine lv_if_ne (tgt := 11) hx hb dX3_fault_6 (by decide) (fun c_2 => absurd (by decide) c_2) (fun c_2 => ?_)
    refine lv_iconst (v := 2) hx hb dX3_fault_9 (by decide) ?_
    exact zw_iret hx hb hr hlk hK hP hD hS dX3_fault_10 (by unfold sp_f; rw [if_pos h_1]) rfl
  · refine zw_cV (r := (20, 0, 0)) (As := [.int p0, .int p1]) (rest := []) (st1 := [.int 1]) ⟨hx, hb, hml, hown, hts⟩ (cm_isThere_1 (σ := σ) hM hnr p0 p1 hre htr h_1) (cwV 2 hts gX3_fault_X3_isThere rfl rfl rfl (by decide +kernel) ⟨Nat.le_of_ble_eq_true rfl, Nat.le_of_ble_eq_true rfl⟩) (hM 0 (by decide)) rfl rfl rfl hK hP hD hS hA hN rfl hl.1 rfl (Nat.le_of_ble_eq_true rfl) rfl dX3_fault_3 ⟨Nat.zero_le _, Nat.zero_le _⟩ (fun H locs hP hD hS => ?_)
    refine lv_if_ne (tgt := 11) hx hb dX3_fault_6 (by decide) (fun c_3 => ?_) (fun c_3 => absurd c_3 (by decide))
    refine lv_iload_n hx hb dX3_fault_11 rfl (lv_at hl 3 rfl) ?_
    refine lv_if_lt (tgt := 25) hx hb dX3_fault_12 (by decide) (fun c_4 => ?_) (fun c_4 => ?_)
    · refine lv_iconst (v := 3) hx hb dX3_fault_25 (by decide) ?_
      refine lv_goto (tgt := 30) hx hb dX3_fault_26 (by decide) ?_
      exact zw_iret hx hb hr hlk hK hP hD hS dX3_fault_30 (by unfold sp_f; rw [if_neg h_1, if_neg (fun q => Int32.not_lt.mpr q.1 c_4)]) rfl
    · refine lv_iload_n hx hb dX3_fault_15 rfl (lv_at hl 3 rfl) ?_
      refine lv_aload_n hx hb dX3_fault_16 rfl (lv_at hl 0 rfl) ?_
      refine zw_getf (r := (20, 0, 0)) (v := .ref (ad (21, 0, 0))) (C := RX3) (T := TX3) (N := 17) (ci := 3) hx hb hts hwX3 hown hK hP (hM 0 (by decide)) rfl rfl 1 (by decide) (hts (.fieldLink RX3 7 "FourTrackDeckModel" "length" "[I") (by decide +kernel)) (fun _ h9 => h9) rfl dX3_fault_17 ?_
      refine lv_iload_n hx hb dX3_fault_20 rfl (lv_at hl 1 rfl) ?_
      refine zw_iald (r := (21, 0, 0)) hx hb hK hP (hM 1 (by decide)) 0 rfl rfl (ze_r8 hre hnr).1 dX3_fault_21 ?_
      refine lv_icmp_lt (tgt := 29) hx hb dX3_fault_22 (by decide) (fun c_5 => ?_) (fun c_5 => ?_)
      · refine lv_iconst (v := 0) hx hb dX3_fault_29 (by decide) ?_
        exact zw_iret hx hb hr hlk hK hP hD hS dX3_fault_30 (by unfold sp_f; rw [if_neg h_1, if_pos ⟨Int32.not_lt.mp c_4, c_5⟩]) rfl
      · refine lv_iconst (v := 3) hx hb dX3_fault_25 (by decide) ?_
        refine lv_goto (tgt := 30) hx hb dX3_fault_26 (by decide) ?_
        exact zw_iret hx hb hr hlk hK hP hD hS dX3_fault_30 (by unfold sp_f; rw [if_neg h_1, if_neg (fun q => c_5 q.2)]) rfl
set_option maxHeartbeats 4000000 in
set_option maxRecDepth 100000 in
theorem cm_fit {l : Launch} {dC : Nat → ClassId} {dI : Nat → Nat → Nat} {cA : Nat → ClassId} {ad : zw_R → Nat} {R : List zw_R} {len : Nat → Nat} {σ : sp_S} {cD : zw_R → va_E} (p0 p1 : Int32) (htr : sp_t p0) : zw_M l yX3_fit wsX3_fit { frames := 0, cells := 0, slots := 0, locals := 0 } (ze_E dC dI cA) [.ref (ad (20, 0, 0)), .int p0, .int p1] ad R (ze_X cD (ze_M cA ad len σ)) (some (.int (sp_as p0.toNatClampNeg p1))) (ze_X cD (ze_M cA ad len σ)) := by
  refine zw_body (cc := cX3_fit) (maxL := 3) (ret := (some .int)) (by decide) rfl (Nat.le_of_ble_eq_true rfl) ?_
  intro p e s m below meth c A ls hx hb hr hlk hml hts hown hnm hA hK hP hD hS hN hl
  have hl : lv_has ls 3 [(0, .ref (ad (20, 0, 0))), (1, .int p0), (2, .int p1)] := hl
  refine lv_iload_n hx hb dX3_fit_0 rfl (lv_at hl 1 rfl) ?_
  refine lv_if_ne (tgt := 9) hx hb dX3_fit_1 (by decide) (fun c_1 => ?_) (fun c_1 => ?_)
  · refine lv_iload_n hx hb dX3_fit_9 rfl (lv_at hl 1 rfl) ?_
    refine lv_iconst (v := 1) hx hb dX3_fit_10 (by decide) ?_
    refine lv_icmp_ne (tgt := 25) hx hb dX3_fit_11 (by decide) (fun c_2 => ?_) (fun c_2 => ?_)
    · refine lv_iload_n hx hb dX3_fit_25 rfl (lv_at hl 1 rfl) ?_
      refine lv_iconst (v := 2) hx hb dX3_fit_26 (by decide) ?_
      refine lv_icmp_ne (tgt := 56) hx hb dX3_fit_27 (by decide) (fun c_3 => ?_) (fun c_3 => ?_)
      · refine lv_iload_n hx hb dX3_fit_56 rfl (lv_at hl 2 rfl) ?_
        refine lv_iconst (v := 1) hx hb dX3_fit_57 (by decide) ?_
        refine lv_iand hx hb dX3_fit_58 ?_
        exact zw_iret hx hb hr hlk hK hP hD hS dX3_fit_59 (by rw [ze_t9 htr c_1 c_2 c_3]; rfl) rfl
      · refine lv_iload_n hx hb dX3_fit_30 rfl (lv_at hl 2 rfl) ?_
        refine lv_sipush (v := (-32768)) hx hb dX3_fit_31 (by decide) ?_
        refine lv_icmp_ge (tgt := 43) hx hb dX3_fit_34 (by decide) (fun c_4 => ?_) (fun c_4 => ?_)
        · refine lv_iload_n hx hb dX3_fit_43 rfl (lv_at hl 2 rfl) ?_
          refine lv_ldc (v := 32768) hx hb hown (hts (.constant RX3 55 32768) (by decide +kernel)) dX3_fit_44 ?_
          refine lv_icmp_le (tgt := 54) hx hb dX3_fit_46 (by decide) (fun c_5 => ?_) (fun c_5 => ?_)
          · refine lv_iload_n hx hb dX3_fit_54 rfl (lv_at hl 2 rfl) ?_
            exact zw_iret hx hb hr hlk hK hP hD hS dX3_fit_55 (by rw [c_3]; exact congrArg (fun z => some (Value.int z)) ((zm_lev p1).symm.trans (by rw [if_neg (Int32.not_lt.mpr c_4), if_neg (Int32.not_lt.mpr c_5)]))) rfl
          · refine lv_ldc (v := 32768) hx hb hown (hts (.constant RX3 55 32768) (by decide +kernel)) dX3_fit_49 ?_
            refine lv_goto (tgt := 55) hx hb dX3_fit_51 (by decide) ?_
            exact zw_iret hx hb hr hlk hK hP hD hS dX3_fit_55 (by rw [c_3]; exact congrArg (fun z => some (Value.int z)) ((zm_lev p1).symm.trans (by rw [if_neg (Int32.not_lt.mpr c_4), if_pos (Int32.not_le.mp c_5)]))) rfl
        · refine lv_sipush (v := (-32768)) hx hb dX3_fit_37 (by decide) ?_
          refine lv_goto (tgt := 55) hx hb dX3_fit_40 (by decide) ?_
          exact zw_iret hx hb hr hlk hK hP hD hS dX3_fit_55 (by rw [c_3]; exact congrArg (fun z => some (Value.int z)) ((zm_lev p1).symm.trans (by rw [if_pos (Int32.not_le.mp c_4)]))) rfl
    · refine lv_iload_n hx hb dX3_fit_14 rfl (lv_at hl 2 rfl) ?_
      refine lv_ldc (v := 65535) hx hb hown (hts (.constant RX3 54 65535) (by decide +kernel)) dX3_fit_15 ?_
      refine lv_iand hx hb dX3_fit_17 ?_
      refine lv_ldc (v := 32768) hx hb hown (hts (.constant RX3 55 32768) (by decide +kernel)) dX3_fit_18 ?_
      refine lv_ixor hx hb dX3_fit_20 ?_
      refine lv_ldc (v := 32768) hx hb hown (hts (.constant RX3 55 32768) (by decide +kernel)) dX3_fit_21 ?_
      refine lv_isub hx hb dX3_fit_23 ?_
      exact zw_iret hx hb hr hlk hK hP hD hS dX3_fit_24 (by rw [c_2]; exact congrArg (fun z => some (Value.int z)) (zm_short p1).symm) rfl
  · refine lv_iload_n hx hb dX3_fit_4 rfl (lv_at hl 2 rfl) ?_
    refine lv_ldc (v := 65535) hx hb hown (hts (.constant RX3 54 65535) (by decide +kernel)) dX3_fit_5 ?_
    refine lv_iand hx hb dX3_fit_7 ?_
    exact zw_iret hx hb hr hlk hK hP hD hS dX3_fit_8 (by rw [c_1]; rfl) rfl
set_option maxHeartbeats 4000000 in
set_option maxRecDepth 100000 in
theorem cm_place {l : Launch} {dC : Nat → ClassId} {dI : Nat → Nat → Nat} {cA : Nat → ClassId} {ad : zw_R → Nat} {R : List zw_R} {len : Nat → Nat} {σ : sp_S} {cD : zw_R → va_E} (hM : zm_R R) (p0 : Int32) (htr : sp_t p0) : zw_M l yX3_place wsX3_place { frames := 0, cells := 0, slots := 0, locals := 0 } (ze_E dC dI cA) [.ref (ad (20, 0, 0)), .int p0] ad R (ze_X cD (ze_M cA ad len σ)) (some (.int (σ (0, 0, 0) 2 + σ (2, 0, 0) p0.toNatClampNeg))) (ze_X cD (ze_M cA ad len σ)) := by
  refine zw_body (cc := cX3_place) (maxL := 2) (ret := (some .int)) (by decide) rfl (Nat.le_of_ble_eq_true rfl) ?_
  intro p e s m below meth c A ls hx hb hr hlk hml hts hown hnm hA hK hP hD hS hN hl
  have hl : lv_has ls 2 [(0, .ref (ad (20, 0, 0))), (1, .int p0)] := hl
  have hwX3 : ∀ w ∈ u_ws RX3 TX3 17, w ∈ wsX3_place := by decide +kernel
  refine lv_aload_n hx hb dX3_place_0 rfl (lv_at hl 0 rfl) ?_
  refine zw_getf (r := (20, 0, 0)) (v := .int (σ (0, 0, 0) 2)) (C := RX3) (T := TX3) (N := 17) (ci := 3) hx hb hts hwX3 hown hK hP (hM 0 (by decide)) rfl rfl 5 (by decide) (hts (.fieldLink RX3 56 "FourTrackDeckModel" "p" "I") (by decide +kernel)) (fun _ h9 => h9) rfl dX3_place_1 ?_
  refine lv_aload_n hx hb dX3_place_4 rfl (lv_at hl 0 rfl) ?_
  refine zw_getf (r := (20, 0, 0)) (v := .ref (ad (24, 0, 0))) (C := RX3) (T := TX3) (N := 17) (ci := 3) hx hb hts hwX3 hown hK hP (hM 0 (by decide)) rfl rfl 6 (by decide) (hts (.fieldLink RX3 23 "FourTrackDeckModel" "offset" "[I") (by decide +kernel)) (fun _ h9 => h9) rfl dX3_place_5 ?_
  refine lv_iload_n hx hb dX3_place_8 rfl (lv_at hl 1 rfl) ?_
  refine zw_iald (r := (24, 0, 0)) hx hb hK hP (hM 4 (by decide)) 0 rfl rfl (ze_ti htr) dX3_place_9 ?_
  refine lv_iadd hx hb dX3_place_10 ?_
  exact zw_iret hx hb hr hlk hK hP hD hS dX3_place_11 rfl rfl
set_option maxHeartbeats 4000000 in
set_option maxRecDepth 100000 in
theorem cm_headFault_v {l : Launch} {dC : Nat → ClassId} {dI : Nat → Nat → Nat} {cA : Nat → ClassId} {ad : zw_R → Nat} {R : List zw_R} {nr : Nat} {len : Nat → Nat} {σ : sp_S} {cD : zw_R → va_E} (hM : zm_R R) (hnr : nr ≤ 8) (p0 : Int32) (h : sp_v nr (σ (0, 0, 0) 1) p0) : zw_M l yX3_headFault wsX3_headFault { frames := 2, cells := 0, slots := 0, locals := 45 } (ze_E dC dI cA) [.ref (ad (20, 0, 0)), .int p0] ad R (ze_X cD (ze_M cA ad len σ)) (some (.int (sp_f len σ (σ (0, 0, 0) 1).toNatClampNeg p0.toNatClampNeg (σ (0, 0, 0) 2 + σ (2, 0, 0) p0.toNatClampNeg)))) (ze_X cD (ze_M cA ad len σ)) := by
  refine zw_body (cc := cX3_headFault) (maxL := 2) (ret := (some .int)) (by decide) rfl (Nat.le_of_ble_eq_true rfl) ?_
  intro p e s m below meth c A ls hx hb hr hlk hml hts hown hnm hA hK hP hD hS hN hl
  have hl : lv_has ls 2 [(0, .ref (ad (20, 0, 0))), (1, .int p0)] := hl
  have hwX3 : ∀ w ∈ u_ws RX3 TX3 17, w ∈ wsX3_headFault := by decide +kernel
  refine lv_aload_n hx hb dX3_headFault_0 rfl (lv_at hl 0 rfl) ?_
  refine lv_iload_n hx hb dX3_headFault_1 rfl (lv_at hl 1 rfl) ?_
  refine zw_cV (r := (20, 0, 0)) (As := [.int p0]) (rest := []) (st1 := [.int 1]) ⟨hx, hb, hml, hown, hts⟩ (cm_isTrack_1 p0 h.2) (cwV 1 hts gX3_headFault_X3_isTrack rfl rfl rfl (by decide +kernel) ⟨Nat.le_of_ble_eq_true rfl, Nat.le_of_ble_eq_true rfl⟩) (hM 0 (by decide)) rfl rfl rfl hK hP hD hS hA hN rfl hl.1 rfl (Nat.le_of_ble_eq_true rfl) rfl dX3_headFault_2 ⟨Nat.zero_le _, Nat.zero_le _⟩ (fun H locs hP hD hS => ?_)
  refine lv_if_ne (tgt := 10) hx hb dX3_headFault_5 (by decide) (fun c_1 => ?_) (fun c_1 => absurd c_1 (by decide))
  refine lv_aload_n hx hb dX3_headFault_10 rfl (lv_at hl 0 rfl) ?_
  refine zw_getf (r := (20, 0, 0)) (v := .int (σ (0, 0, 0) 1)) (C := RX3) (T := TX3) (N := 17) (ci := 3) hx hb hts hwX3 hown hK hP (hM 0 (by decide)) rfl rfl 4 (by decide) (hts (.fieldLink RX3 19 "FourTrackDeckModel" "onDeck" "I") (by decide +kernel)) (fun _ h9 => h9) rfl dX3_headFault_11 ?_
  refine lv_iconst (v := (-1)) hx hb dX3_headFault_14 (by decide) ?_
  refine lv_icmp_ne (tgt := 22) hx hb dX3_headFault_15 (by decide) (fun c_2 => ?_) (fun c_2 => absurd c_2 (ze_rn h.1))
  refine lv_aload_n hx hb dX3_headFault_22 rfl (lv_at hl 0 rfl) ?_
  refine lv_aload_n hx hb dX3_headFault_23 rfl (lv_at hl 0 rfl) ?_
  refine zw_getf (r := (20, 0, 0)) (v := .int (σ (0, 0, 0) 1)) (C := RX3) (T := TX3) (N := 17) (ci := 3) hx hb hts hwX3 hown hK hP (hM 0 (by decide)) rfl rfl 4 (by decide) (hts (.fieldLink RX3 19 "FourTrackDeckModel" "onDeck" "I") (by decide +kernel)) (fun _ h9 => h9) rfl dX3_headFault_24 ?_
  refine lv_iload_n hx hb dX3_headFault_27 rfl (lv_at hl 1 rfl) ?_
  refine lv_aload_n hx hb dX3_headFault_28 rfl (lv_at hl 0 rfl) ?_
  refine lv_iload_n hx hb dX3_headFault_29 rfl (lv_at hl 1 rfl) ?_
  refine zw_cV (r := (20, 0, 0)) (As := [.int p0]) (rest := [.int p0, .int (σ (0, 0, 0) 1), .ref (ad (20, 0, 0))]) (st1 := [.int (σ (0, 0, 0) 2 + σ (2, 0, 0) p0.toNatClampNeg), .int p0, .int (σ (0, 0, 0) 1), .ref (ad (20, 0, 0))]) ⟨hx, hb, hml, hown, hts⟩ (cm_place (σ := σ) hM p0 h.2) (cwV 1 hts gX3_headFault_X3_place rfl rfl rfl (by decide +kernel) ⟨Nat.le_of_ble_eq_true rfl, Nat.le_of_ble_eq_true rfl⟩) (hM 0 (by decide)) rfl rfl rfl hK hP hD hS hA hN rfl hl.1 rfl (Nat.le_of_ble_eq_true rfl) rfl dX3_headFault_30 ⟨Nat.zero_le _, Nat.zero_le _⟩ (fun H locs hP hD hS => ?_)
  refine zw_cV (r := (20, 0, 0)) (As := [.int (σ (0, 0, 0) 1), .int p0, .int (σ (0, 0, 0) 2 + σ (2, 0, 0) p0.toNatClampNeg)]) (rest := []) (st1 := [.int (sp_f len σ (σ (0, 0, 0) 1).toNatClampNeg p0.toNatClampNeg (σ (0, 0, 0) 2 + σ (2, 0, 0) p0.toNatClampNeg))]) ⟨hx, hb, hml, hown, hts⟩ (cm_fault (σ := σ) hM hnr (σ (0, 0, 0) 1) p0 (σ (0, 0, 0) 2 + σ (2, 0, 0) p0.toNatClampNeg) h.1 h.2) (cwV 3 hts gX3_headFault_X3_fault rfl rfl rfl (by decide +kernel) ⟨Nat.le_of_ble_eq_true rfl, Nat.le_of_ble_eq_true rfl⟩) (hM 0 (by decide)) rfl rfl rfl hK hP hD hS hA hN rfl hl.1 rfl (Nat.le_of_ble_eq_true rfl) rfl dX3_headFault_33 ⟨Nat.zero_le _, Nat.zero_le _⟩ (fun H locs hP hD hS => ?_)
  exact zw_iret hx hb hr hlk hK hP hD hS dX3_headFault_36 rfl rfl
set_option maxHeartbeats 4000000 in
set_option maxRecDepth 100000 in
theorem cm_headFault_5 {l : Launch} {dC : Nat → ClassId} {dI : Nat → Nat → Nat} {cA : Nat → ClassId} {ad : zw_R → Nat} {R : List zw_R} {len : Nat → Nat} {σ : sp_S} {cD : zw_R → va_E} (hM : zm_R R) (p0 : Int32) (h : sp_t p0) (h1 : σ (0, 0, 0) 1 = -1) : zw_M l yX3_headFault wsX3_headFault { frames := 2, cells := 0, slots := 0, locals := 45 } (ze_E dC dI cA) [.ref (ad (20, 0, 0)), .int p0] ad R (ze_X cD (ze_M cA ad len σ)) (some (.int 5)) (ze_X cD (ze_M cA ad len σ)) := by
  refine zw_body (cc := cX3_headFault) (maxL := 2) (ret := (some .int)) (by decide) rfl (Nat.le_of_ble_eq_true rfl) ?_
  intro p e s m below meth c A ls hx hb hr hlk hml hts hown hnm hA hK hP hD hS hN hl
  have hl : lv_has ls 2 [(0, .ref (ad (20, 0, 0))), (1, .int p0)] := hl
  have hwX3 : ∀ w ∈ u_ws RX3 TX3 17, w ∈ wsX3_headFault := by decide +kernel
  refine lv_aload_n hx hb dX3_headFault_0 rfl (lv_at hl 0 rfl) ?_
  refine lv_iload_n hx hb dX3_headFault_1 rfl (lv_at hl 1 rfl) ?_
  refine zw_cV (r := (20, 0, 0)) (As := [.int p0]) (rest := []) (st1 := [.int 1]) ⟨hx, hb, hml, hown, hts⟩ (cm_isTrack_1 p0 h) (cwV 1 hts gX3_headFault_X3_isTrack rfl rfl rfl (by decide +kernel) ⟨Nat.le_of_ble_eq_true rfl, Nat.le_of_ble_eq_true rfl⟩) (hM 0 (by decide)) rfl rfl rfl hK hP hD hS hA hN rfl hl.1 rfl (Nat.le_of_ble_eq_true rfl) rfl dX3_headFault_2 ⟨Nat.zero_le _, Nat.zero_le _⟩ (fun H locs hP hD hS => ?_)
  refine lv_if_ne (tgt := 10) hx hb dX3_headFault_5 (by decide) (fun c_1 => ?_) (fun c_1 => absurd c_1 (by decide))
  refine lv_aload_n hx hb dX3_headFault_10 rfl (lv_at hl 0 rfl) ?_
  refine zw_getf (r := (20, 0, 0)) (v := .int (σ (0, 0, 0) 1)) (C := RX3) (T := TX3) (N := 17) (ci := 3) hx hb hts hwX3 hown hK hP (hM 0 (by decide)) rfl rfl 4 (by decide) (hts (.fieldLink RX3 19 "FourTrackDeckModel" "onDeck" "I") (by decide +kernel)) (fun _ h9 => h9) rfl dX3_headFault_11 ?_
  refine lv_iconst (v := (-1)) hx hb dX3_headFault_14 (by decide) ?_
  refine lv_icmp_ne (tgt := 22) hx hb dX3_headFault_15 (by decide) (fun c_2 => absurd h1 c_2) (fun c_2 => ?_)
  refine lv_iconst (v := 5) hx hb dX3_headFault_18 (by decide) ?_
  refine lv_goto (tgt := 36) hx hb dX3_headFault_19 (by decide) ?_
  exact zw_iret hx hb hr hlk hK hP hD hS dX3_headFault_36 rfl rfl
set_option maxHeartbeats 4000000 in
set_option maxRecDepth 100000 in
theorem cm_headFault_1 {l : Launch} {dC : Nat → ClassId} {dI : Nat → Nat → Nat} {cA : Nat → ClassId} {ad : zw_R → Nat} {R : List zw_R} {len : Nat → Nat} {σ : sp_S} {cD : zw_R → va_E} (hM : zm_R R) (p0 : Int32) (h : ¬ sp_t p0) : zw_M l yX3_headFault wsX3_headFault { frames := 2, cells := 0, slots := 0, locals := 45 } (ze_E dC dI cA) [.ref (ad (20, 0, 0)), .int p0] ad R (ze_X cD (ze_M cA ad len σ)) (some (.int 1)) (ze_X cD (ze_M cA ad len σ)) := by
  refine zw_body (cc := cX3_headFault) (maxL := 2) (ret := (some .int)) (by decide) rfl (Nat.le_of_ble_eq_true rfl) ?_
  intro p e s m below meth c A ls hx hb hr hlk hml hts hown hnm hA hK hP hD hS hN hl
  have hl : lv_has ls 2 [(0, .ref (ad (20, 0, 0))), (1, .int p0)] := hl
  refine lv_aload_n hx hb dX3_headFault_0 rfl (lv_at hl 0 rfl) ?_
  refine lv_iload_n hx hb dX3_headFault_1 rfl (lv_at hl 1 rfl) ?_
  refine zw_cV (r := (20, 0, 0)) (As := [.int p0]) (rest := []) (st1 := [.int 0]) ⟨hx, hb, hml, hown, hts⟩ (cm_isTrack_0 p0 h) (cwV 1 hts gX3_headFault_X3_isTrack rfl rfl rfl (by decide +kernel) ⟨Nat.le_of_ble_eq_true rfl, Nat.le_of_ble_eq_true rfl⟩) (hM 0 (by decide)) rfl rfl rfl hK hP hD hS hA hN rfl hl.1 rfl (Nat.le_of_ble_eq_true rfl) rfl dX3_headFault_2 ⟨Nat.zero_le _, Nat.zero_le _⟩ (fun H locs hP hD hS => ?_)
  refine lv_if_ne (tgt := 10) hx hb dX3_headFault_5 (by decide) (fun c_1 => absurd (by decide) c_1) (fun c_1 => ?_)
  refine lv_iconst (v := 1) hx hb dX3_headFault_8 (by decide) ?_
  exact zw_iret hx hb hr hlk hK hP hD hS dX3_headFault_9 rfl rfl
end
section
theorem sp_fs {len : Nat → Nat} {σ : sp_S} {i t i2 t2 j : Nat} {p v : Int32} : sp_f len (sp_s σ (9, i2, t2) j v) i t p = sp_f len σ i t p := rfl
theorem sp_ss {σ : sp_S} {r : zw_R} {j : Nat} {v : Int32} : sp_s σ r j v r j = v := by simp [sp_s, zw_u, upd]
theorem sp_write_1 {nr : Nat} {len : Nat → Nat} {σ : sp_S} {p0 p1 : Int32} (h : sp_v nr (σ (0, 0, 0) 1) p0) (c : sp_f len σ (σ (0, 0, 0) 1).toNatClampNeg p0.toNatClampNeg (σ (0, 0, 0) 2 + σ (2, 0, 0) p0.toNatClampNeg) = 0) : sp_write nr len σ p0 p1 = (sp_as p0.toNatClampNeg p1, sp_e (sp_s σ (9, (σ (0, 0, 0) 1).toNatClampNeg, p0.toNatClampNeg) (σ (0, 0, 0) 2 + σ (2, 0, 0) p0.toNatClampNeg).toNatClampNeg (sp_as p0.toNatClampNeg p1)) 0) := by
  unfold sp_write sp_n
  rw [if_pos h]
  have e : sp_put len σ (σ (0, 0, 0) 1).toNatClampNeg p0.toNatClampNeg (σ (0, 0, 0) 2 + σ (2, 0, 0) p0.toNatClampNeg) p1 = sp_s σ (9, (σ (0, 0, 0) 1).toNatClampNeg, p0.toNatClampNeg) (σ (0, 0, 0) 2 + σ (2, 0, 0) p0.toNatClampNeg).toNatClampNeg (sp_as p0.toNatClampNeg p1) := by unfold sp_put; rw [if_pos c]
  rw [e, sp_fs, c, if_pos rfl, sp_ss]
theorem sp_write_0 {nr : Nat} {len : Nat → Nat} {σ : sp_S} {p0 p1 : Int32} (h : sp_v nr (σ (0, 0, 0) 1) p0) (c : ¬ sp_f len σ (σ (0, 0, 0) 1).toNatClampNeg p0.toNatClampNeg (σ (0, 0, 0) 2 + σ (2, 0, 0) p0.toNatClampNeg) = 0) : sp_write nr len σ p0 p1 = (0, sp_e σ (sp_f len σ (σ (0, 0, 0) 1).toNatClampNeg p0.toNatClampNeg (σ (0, 0, 0) 2 + σ (2, 0, 0) p0.toNatClampNeg))) := by
  unfold sp_write sp_n
  rw [if_pos h]
  have e : sp_put len σ (σ (0, 0, 0) 1).toNatClampNeg p0.toNatClampNeg (σ (0, 0, 0) 2 + σ (2, 0, 0) p0.toNatClampNeg) p1 = σ := by unfold sp_put; rw [if_neg c]
  rw [e, if_neg c]
theorem zm_ct {nr : Nat} {x : Int32} (h : sp_r nr (x - 10)) (hn : nr ≤ 8) : 10 ≤ x ∧ x ≤ 17 := by
  have h1 := ze_vr h hn
  have e : x = nI ((x - 10).toNatClampNeg + 10) := by
    have e1 := ze_nn h.1
    have e2 : x - 10 + 10 = x := Int32.sub_add_cancel x 10
    rw [← nI_add, e1]
    exact e2.symm
  have e3 : x.toInt = ((x - 10).toNatClampNeg + 10 : Nat) := by
    conv => lhs; rw [e]
    exact nI_toInt (by omega)
  have a1 : (10 : Int32).toInt = 10 := rfl
  have a2 : (17 : Int32).toInt = 17 := rfl
  exact ⟨Int32.le_iff_toInt_le.mpr (by omega), Int32.le_iff_toInt_le.mpr (by omega)⟩
set_option maxHeartbeats 4000000 in
set_option maxRecDepth 100000 in
theorem cm_strip {l : Launch} {dC : Nat → ClassId} {dI : Nat → Nat → Nat} {cA : Nat → ClassId} {ad : zw_R → Nat} {R : List zw_R} {nr : Nat} {len : Nat → Nat} {σ : sp_S} {cD : zw_R → va_E} (hM : zm_R R) (hnr : nr ≤ 8) (hI0 : σ (0, 0, 0) 0 = nI nr) (p0 p1 : Int32) : zw_M l yX3_strip wsX3_strip { frames := 1, cells := 0, slots := 0, locals := 22 } (ze_E dC dI cA) [.ref (ad (20, 0, 0)), .int p0, .int p1] ad R (ze_X cD (ze_M cA ad len σ)) (some (.int ((sp_strip nr len σ p0 p1).1))) (ze_X cD (ze_M cA ad len (sp_strip nr len σ p0 p1).2)) := by
  refine zw_body (cc := cX3_strip) (maxL := 4) (ret := (some .int)) (by decide) rfl (Nat.le_of_ble_eq_true rfl) ?_
  intro p e s m below meth c A ls hx hb hr hlk hml hts hown hnm hA hK hP hD hS hN hl
  have hl : lv_has ls 4 [(0, .ref (ad (20, 0, 0))), (1, .int p0), (2, .int p1)] := hl
  have hwX3 : ∀ w ∈ u_ws RX3 TX3 17, w ∈ wsX3_strip := by decide +kernel
  refine lv_aload_n hx hb dX3_strip_0 rfl (lv_at hl 0 rfl) ?_
  refine lv_iload_n hx hb dX3_strip_1 rfl (lv_at hl 1 rfl) ?_
  rcases Decidable.em (sp_r nr p0) with h_1 | h_1
  · refine zw_cV (r := (20, 0, 0)) (As := [.int p0]) (rest := []) (st1 := [.int 1]) ⟨hx, hb, hml, hown, hts⟩ (cm_isReel_1 (σ := σ) hM hI0 p0 h_1) (cwV 1 hts gX3_strip_X3_isReel rfl rfl rfl (by decide +kernel) ⟨Nat.le_of_ble_eq_true rfl, Nat.le_of_ble_eq_true rfl⟩) (hM 0 (by decide)) rfl rfl rfl hK hP hD hS hA hN rfl hl.1 rfl (Nat.le_of_ble_eq_true rfl) rfl dX3_strip_2 ⟨Nat.zero_le _, Nat.zero_le _⟩ (fun H locs hP hD hS => ?_)
    refine lv_if_eq (tgt := 16) hx hb dX3_strip_5 (by decide) (fun c_2 => absurd c_2 (by decide)) (fun c_2 => ?_)
    refine lv_aload_n hx hb dX3_strip_8 rfl (lv_at hl 0 rfl) ?_
    refine lv_iload_n hx hb dX3_strip_9 rfl (lv_at hl 2 rfl) ?_
    rcases Decidable.em (sp_t p1) with h_3 | h_3
    · refine zw_cV (r := (20, 0, 0)) (As := [.int p1]) (rest := []) (st1 := [.int 1]) ⟨hx, hb, hml, hown, hts⟩ (cm_isTrack_1 (σ := σ) p1 h_3) (cwV 1 hts gX3_strip_X3_isTrack rfl rfl rfl (by decide +kernel) ⟨Nat.le_of_ble_eq_true rfl, Nat.le_of_ble_eq_true rfl⟩) (hM 0 (by decide)) rfl rfl rfl hK hP hD hS hA hN rfl hl.1 rfl (Nat.le_of_ble_eq_true rfl) rfl dX3_strip_10 ⟨Nat.zero_le _, Nat.zero_le _⟩ (fun H locs hP hD hS => ?_)
      refine lv_if_ne (tgt := 23) hx hb dX3_strip_13 (by decide) (fun c_4 => ?_) (fun c_4 => absurd c_4 (by decide))
      refine lv_aload_n hx hb dX3_strip_23 rfl (lv_at hl 0 rfl) ?_
      refine lv_iload_n hx hb dX3_strip_24 rfl (lv_at hl 1 rfl) ?_
      refine lv_iload_n hx hb dX3_strip_25 rfl (lv_at hl 2 rfl) ?_
      rcases Decidable.em (σ (8, p0.toNatClampNeg, p1.toNatClampNeg) 1 = 0) with h_5 | h_5
      · refine zw_cV (r := (20, 0, 0)) (As := [.int p0, .int p1]) (rest := []) (st1 := [.int 0]) ⟨hx, hb, hml, hown, hts⟩ (cm_isThere_0 (σ := σ) hM hnr p0 p1 h_1 h_3 h_5) (cwV 2 hts gX3_strip_X3_isThere rfl rfl rfl (by decide +kernel) ⟨Nat.le_of_ble_eq_true rfl, Nat.le_of_ble_eq_true rfl⟩) (hM 0 (by decide)) rfl rfl rfl hK hP hD hS hA hN rfl hl.1 rfl (Nat.le_of_ble_eq_true rfl) rfl dX3_strip_26 ⟨Nat.zero_le _, Nat.zero_le _⟩ (fun H locs hP hD hS => ?_)
        refine lv_if_eq (tgt := 36) hx hb dX3_strip_29 (by decide) (fun c_6 => ?_) (fun c_6 => absurd (by decide) c_6)
        refine lv_iconst (v := 0) hx hb dX3_strip_36 (by decide) ?_
        refine lv_istore_n (lv' := [(3, .int 0), (0, .ref (ad (20, 0, 0))), (1, .int p0), (2, .int p1)]) hx hb dX3_strip_37 rfl hl (by decide) rfl (fun ls hl => ?_)
        refine lv_aload_n hx hb dX3_strip_38 rfl (lv_at hl 1 rfl) ?_
        refine zw_getf (r := (20, 0, 0)) (v := .ref (ad (22, 0, 0))) (C := RX3) (T := TX3) (N := 17) (ci := 3) hx hb hts hwX3 hown hK hP (hM 0 (by decide)) rfl rfl 2 (by decide) (hts (.fieldLink RX3 13 "FourTrackDeckModel" "there" "[I") (by decide +kernel)) (fun _ h9 => h9) rfl dX3_strip_39 ?_
        refine lv_iload_n hx hb dX3_strip_42 rfl (lv_at hl 2 rfl) ?_
        refine lv_aload_n hx hb dX3_strip_43 rfl (lv_at hl 1 rfl) ?_
        refine zw_getf (r := (20, 0, 0)) (v := .ref (ad (22, 0, 0))) (C := RX3) (T := TX3) (N := 17) (ci := 3) hx hb hts hwX3 hown hK hP (hM 0 (by decide)) rfl rfl 2 (by decide) (hts (.fieldLink RX3 13 "FourTrackDeckModel" "there" "[I") (by decide +kernel)) (fun _ h9 => h9) rfl dX3_strip_44 ?_
        refine lv_iload_n hx hb dX3_strip_47 rfl (lv_at hl 2 rfl) ?_
        refine zw_iald (r := (22, 0, 0)) hx hb hK hP (hM 2 (by decide)) 0 rfl rfl (ze_r8 h_1 hnr).1 dX3_strip_48 ?_
        refine lv_iconst (v := 1) hx hb dX3_strip_49 (by decide) ?_
        refine lv_iload_n hx hb dX3_strip_50 rfl (lv_at hl 3 rfl) ?_
        refine lv_ishl hx hb dX3_strip_51 ?_
        refine lv_iconst (v := (-1)) hx hb dX3_strip_52 (by decide) ?_
        refine lv_ixor hx hb dX3_strip_53 ?_
        refine lv_iand hx hb dX3_strip_54 ?_
        refine zw_iast (r := (22, 0, 0)) hx hb hK hP hD hS (hM 2 (by decide)) 0 rfl rfl (ze_r8 h_1 hnr).1 dX3_strip_55 (cu1 := ze_X cD (ze_M cA ad len (sp_s σ (8, p0.toNatClampNeg, p1.toNatClampNeg) 1 0))) (zm_T (y := 0) (ze_vt h_3) (by have e := zm_off (σ := σ) (i := p0.toNatClampNeg) (ze_vt h_3); rw [ze_tn h_3] at e; exact e)) (fun H locs hP hD hS => ?_)
        refine lv_aload_n hx hb dX3_strip_56 rfl (lv_at hl 1 rfl) ?_
        refine lv_iload_n hx hb dX3_strip_57 rfl (lv_at hl 0 rfl) ?_
        refine zw_cV (r := (20, 0, 0)) (As := [.int 0]) (rest := []) (st1 := [.int 0]) ⟨hx, hb, hml, hown, hts⟩ (cm_done (σ := (sp_s σ (8, p0.toNatClampNeg, p1.toNatClampNeg) 1 0)) hM 0) (cwV 1 hts gX3_strip_X3_done rfl rfl rfl (by decide +kernel) ⟨Nat.le_of_ble_eq_true rfl, Nat.le_of_ble_eq_true rfl⟩) (hM 0 (by decide)) rfl rfl rfl hK hP hD hS hA hN rfl hl.1 rfl (Nat.le_of_ble_eq_true rfl) rfl dX3_strip_58 ⟨Nat.zero_le _, Nat.zero_le _⟩ (fun H locs hP hD hS => ?_)
        exact zw_iret hx hb hr hlk hK hP hD hS dX3_strip_61 (by simp only [sp_strip, if_pos (show sp_v nr p0 p1 from ⟨h_1, h_3⟩), if_pos h_1, if_pos h_3, if_pos h_5] <;> rfl) (by simp only [sp_strip, if_pos (show sp_v nr p0 p1 from ⟨h_1, h_3⟩), if_pos h_1, if_pos h_3, if_pos h_5] <;> rfl)
      · refine zw_cV (r := (20, 0, 0)) (As := [.int p0, .int p1]) (rest := []) (st1 := [.int 1]) ⟨hx, hb, hml, hown, hts⟩ (cm_isThere_1 (σ := σ) hM hnr p0 p1 h_1 h_3 h_5) (cwV 2 hts gX3_strip_X3_isThere rfl rfl rfl (by decide +kernel) ⟨Nat.le_of_ble_eq_true rfl, Nat.le_of_ble_eq_true rfl⟩) (hM 0 (by decide)) rfl rfl rfl hK hP hD hS hA hN rfl hl.1 rfl (Nat.le_of_ble_eq_true rfl) rfl dX3_strip_26 ⟨Nat.zero_le _, Nat.zero_le _⟩ (fun H locs hP hD hS => ?_)
        refine lv_if_eq (tgt := 36) hx hb dX3_strip_29 (by decide) (fun c_7 => absurd c_7 (by decide)) (fun c_7 => ?_)
        refine lv_iconst (v := 1) hx hb dX3_strip_32 (by decide) ?_
        refine lv_goto (tgt := 37) hx hb dX3_strip_33 (by decide) ?_
        refine lv_istore_n (lv' := [(3, .int 1), (0, .ref (ad (20, 0, 0))), (1, .int p0), (2, .int p1)]) hx hb dX3_strip_37 rfl hl (by decide) rfl (fun ls hl => ?_)
        refine lv_aload_n hx hb dX3_strip_38 rfl (lv_at hl 1 rfl) ?_
        refine zw_getf (r := (20, 0, 0)) (v := .ref (ad (22, 0, 0))) (C := RX3) (T := TX3) (N := 17) (ci := 3) hx hb hts hwX3 hown hK hP (hM 0 (by decide)) rfl rfl 2 (by decide) (hts (.fieldLink RX3 13 "FourTrackDeckModel" "there" "[I") (by decide +kernel)) (fun _ h9 => h9) rfl dX3_strip_39 ?_
        refine lv_iload_n hx hb dX3_strip_42 rfl (lv_at hl 2 rfl) ?_
        refine lv_aload_n hx hb dX3_strip_43 rfl (lv_at hl 1 rfl) ?_
        refine zw_getf (r := (20, 0, 0)) (v := .ref (ad (22, 0, 0))) (C := RX3) (T := TX3) (N := 17) (ci := 3) hx hb hts hwX3 hown hK hP (hM 0 (by decide)) rfl rfl 2 (by decide) (hts (.fieldLink RX3 13 "FourTrackDeckModel" "there" "[I") (by decide +kernel)) (fun _ h9 => h9) rfl dX3_strip_44 ?_
        refine lv_iload_n hx hb dX3_strip_47 rfl (lv_at hl 2 rfl) ?_
        refine zw_iald (r := (22, 0, 0)) hx hb hK hP (hM 2 (by decide)) 0 rfl rfl (ze_r8 h_1 hnr).1 dX3_strip_48 ?_
        refine lv_iconst (v := 1) hx hb dX3_strip_49 (by decide) ?_
        refine lv_iload_n hx hb dX3_strip_50 rfl (lv_at hl 3 rfl) ?_
        refine lv_ishl hx hb dX3_strip_51 ?_
        refine lv_iconst (v := (-1)) hx hb dX3_strip_52 (by decide) ?_
        refine lv_ixor hx hb dX3_strip_53 ?_
        refine lv_iand hx hb dX3_strip_54 ?_
        refine zw_iast (r := (22, 0, 0)) hx hb hK hP hD hS (hM 2 (by decide)) 0 rfl rfl (ze_r8 h_1 hnr).1 dX3_strip_55 (cu1 := ze_X cD (ze_M cA ad len (sp_s σ (8, p0.toNatClampNeg, p1.toNatClampNeg) 1 0))) (zm_T (y := 0) (ze_vt h_3) (by have e := zm_off (σ := σ) (i := p0.toNatClampNeg) (ze_vt h_3); rw [ze_tn h_3] at e; exact e)) (fun H locs hP hD hS => ?_)
        refine lv_aload_n hx hb dX3_strip_56 rfl (lv_at hl 1 rfl) ?_
        refine lv_iload_n hx hb dX3_strip_57 rfl (lv_at hl 0 rfl) ?_
        refine zw_cV (r := (20, 0, 0)) (As := [.int 1]) (rest := []) (st1 := [.int 1]) ⟨hx, hb, hml, hown, hts⟩ (cm_done (σ := (sp_s σ (8, p0.toNatClampNeg, p1.toNatClampNeg) 1 0)) hM 1) (cwV 1 hts gX3_strip_X3_done rfl rfl rfl (by decide +kernel) ⟨Nat.le_of_ble_eq_true rfl, Nat.le_of_ble_eq_true rfl⟩) (hM 0 (by decide)) rfl rfl rfl hK hP hD hS hA hN rfl hl.1 rfl (Nat.le_of_ble_eq_true rfl) rfl dX3_strip_58 ⟨Nat.zero_le _, Nat.zero_le _⟩ (fun H locs hP hD hS => ?_)
        exact zw_iret hx hb hr hlk hK hP hD hS dX3_strip_61 (by simp only [sp_strip, if_pos (show sp_v nr p0 p1 from ⟨h_1, h_3⟩), if_pos h_1, if_pos h_3, if_neg h_5] <;> rfl) (by simp only [sp_strip, if_pos (show sp_v nr p0 p1 from ⟨h_1, h_3⟩), if_pos h_1, if_pos h_3, if_neg h_5] <;> rfl)
    · refine zw_cV (r := (20, 0, 0)) (As := [.int p1]) (rest := []) (st1 := [.int 0]) ⟨hx, hb, hml, hown, hts⟩ (cm_isTrack_0 (σ := σ) p1 h_3) (cwV 1 hts gX3_strip_X3_isTrack rfl rfl rfl (by decide +kernel) ⟨Nat.le_of_ble_eq_true rfl, Nat.le_of_ble_eq_true rfl⟩) (hM 0 (by decide)) rfl rfl rfl hK hP hD hS hA hN rfl hl.1 rfl (Nat.le_of_ble_eq_true rfl) rfl dX3_strip_10 ⟨Nat.zero_le _, Nat.zero_le _⟩ (fun H locs hP hD hS => ?_)
      refine lv_if_ne (tgt := 23) hx hb dX3_strip_13 (by decide) (fun c_8 => absurd (by decide) c_8) (fun c_8 => ?_)
      refine lv_aload_n hx hb dX3_strip_16 rfl (lv_at hl 0 rfl) ?_
      refine lv_iconst (v := 1) hx hb dX3_strip_17 (by decide) ?_
      refine lv_iconst (v := (-1)) hx hb dX3_strip_18 (by decide) ?_
      refine zw_cV (r := (20, 0, 0)) (As := [.int 1, .int (-1)]) (rest := []) (st1 := [.int (-1)]) ⟨hx, hb, hml, hown, hts⟩ (cm_fails (σ := σ) hM 1 (-1)) (cwV 2 hts gX3_strip_X3_fails rfl rfl rfl (by decide +kernel) ⟨Nat.le_of_ble_eq_true rfl, Nat.le_of_ble_eq_true rfl⟩) (hM 0 (by decide)) rfl rfl rfl hK hP hD hS hA hN rfl hl.1 rfl (Nat.le_of_ble_eq_true rfl) rfl dX3_strip_19 ⟨Nat.zero_le _, Nat.zero_le _⟩ (fun H locs hP hD hS => ?_)
      exact zw_iret hx hb hr hlk hK hP hD hS dX3_strip_22 (by simp only [sp_strip, if_neg (show ¬ sp_v nr p0 p1 from fun q => h_3 q.2), if_pos h_1, if_neg h_3] <;> rfl) (by simp only [sp_strip, if_neg (show ¬ sp_v nr p0 p1 from fun q => h_3 q.2), if_pos h_1, if_neg h_3] <;> rfl)
  · refine zw_cV (r := (20, 0, 0)) (As := [.int p0]) (rest := []) (st1 := [.int 0]) ⟨hx, hb, hml, hown, hts⟩ (cm_isReel_0 (σ := σ) hM hI0 p0 h_1) (cwV 1 hts gX3_strip_X3_isReel rfl rfl rfl (by decide +kernel) ⟨Nat.le_of_ble_eq_true rfl, Nat.le_of_ble_eq_true rfl⟩) (hM 0 (by decide)) rfl rfl rfl hK hP hD hS hA hN rfl hl.1 rfl (Nat.le_of_ble_eq_true rfl) rfl dX3_strip_2 ⟨Nat.zero_le _, Nat.zero_le _⟩ (fun H locs hP hD hS => ?_)
    refine lv_if_eq (tgt := 16) hx hb dX3_strip_5 (by decide) (fun c_9 => ?_) (fun c_9 => absurd (by decide) c_9)
    refine lv_aload_n hx hb dX3_strip_16 rfl (lv_at hl 0 rfl) ?_
    refine lv_iconst (v := 1) hx hb dX3_strip_17 (by decide) ?_
    refine lv_iconst (v := (-1)) hx hb dX3_strip_18 (by decide) ?_
    refine zw_cV (r := (20, 0, 0)) (As := [.int 1, .int (-1)]) (rest := []) (st1 := [.int (-1)]) ⟨hx, hb, hml, hown, hts⟩ (cm_fails (σ := σ) hM 1 (-1)) (cwV 2 hts gX3_strip_X3_fails rfl rfl rfl (by decide +kernel) ⟨Nat.le_of_ble_eq_true rfl, Nat.le_of_ble_eq_true rfl⟩) (hM 0 (by decide)) rfl rfl rfl hK hP hD hS hA hN rfl hl.1 rfl (Nat.le_of_ble_eq_true rfl) rfl dX3_strip_19 ⟨Nat.zero_le _, Nat.zero_le _⟩ (fun H locs hP hD hS => ?_)
    exact zw_iret hx hb hr hlk hK hP hD hS dX3_strip_22 (by simp only [sp_strip, if_neg (show ¬ sp_v nr p0 p1 from fun q => h_1 q.1), if_neg h_1] <;> rfl) (by simp only [sp_strip, if_neg (show ¬ sp_v nr p0 p1 from fun q => h_1 q.1), if_neg h_1] <;> rfl)
set_option maxHeartbeats 4000000 in
set_option maxRecDepth 100000 in
theorem cm_thread {l : Launch} {dC : Nat → ClassId} {dI : Nat → Nat → Nat} {cA : Nat → ClassId} {ad : zw_R → Nat} {R : List zw_R} {nr : Nat} {len : Nat → Nat} {σ : sp_S} {cD : zw_R → va_E} (hM : zm_R R) (hI0 : σ (0, 0, 0) 0 = nI nr) (p0 : Int32) : zw_M l yX3_thread wsX3_thread { frames := 1, cells := 0, slots := 0, locals := 22 } (ze_E dC dI cA) [.ref (ad (20, 0, 0)), .int p0] ad R (ze_X cD (ze_M cA ad len σ)) (some (.int ((sp_thread nr len σ p0).1))) (ze_X cD (ze_M cA ad len (sp_thread nr len σ p0).2)) := by
  refine zw_body (cc := cX3_thread) (maxL := 3) (ret := (some .int)) (by decide) rfl (Nat.le_of_ble_eq_true rfl) ?_
  intro p e s m below meth c A ls hx hb hr hlk hml hts hown hnm hA hK hP hD hS hN hl
  have hl : lv_has ls 3 [(0, .ref (ad (20, 0, 0))), (1, .int p0)] := hl
  have hwX3 : ∀ w ∈ u_ws RX3 TX3 17, w ∈ wsX3_thread := by decide +kernel
  refine lv_iload_n hx hb dX3_thread_0 rfl (lv_at hl 1 rfl) ?_
  refine lv_iconst (v := (-1)) hx hb dX3_thread_1 (by decide) ?_
  refine lv_icmp_eq (tgt := 20) hx hb dX3_thread_2 (by decide) (fun c_1 => ?_) (fun c_1 => ?_)
  · refine lv_aload_n hx hb dX3_thread_20 rfl (lv_at hl 0 rfl) ?_
    refine zw_getf (r := (20, 0, 0)) (v := .int (σ (0, 0, 0) 1)) (C := RX3) (T := TX3) (N := 17) (ci := 3) hx hb hts hwX3 hown hK hP (hM 0 (by decide)) rfl rfl 4 (by decide) (hts (.fieldLink RX3 19 "FourTrackDeckModel" "onDeck" "I") (by decide +kernel)) (fun _ h9 => h9) rfl dX3_thread_21 ?_
    refine lv_istore_n (lv' := [(2, .int (σ (0, 0, 0) 1)), (0, .ref (ad (20, 0, 0))), (1, .int p0)]) hx hb dX3_thread_24 rfl hl (by decide) rfl (fun ls hl => ?_)
    refine lv_aload_n hx hb dX3_thread_25 rfl (lv_at hl 1 rfl) ?_
    refine lv_iload_n hx hb dX3_thread_26 rfl (lv_at hl 2 rfl) ?_
    refine zw_putf (r := (20, 0, 0)) (v := .int p0) (C := RX3) (T := TX3) (N := 17) (ci := 3) hx hb hts hwX3 tyX3 tyX3_ok nmX3 hown hK hP hD hS (hM 0 (by decide)) rfl rfl 4 (by decide) (hts (.fieldLink RX3 19 "FourTrackDeckModel" "onDeck" "I") (by decide +kernel)) (fun _ h9 => h9) rfl (ty := .int) (by decide +kernel) rfl rfl (Nat.le_of_ble_eq_true rfl) dX3_thread_27 (cu1 := ze_X cD (ze_M cA ad len (sp_s σ (0, 0, 0) 1 p0))) (zm_D rfl) (fun H locs hP hD hS => ?_)
    refine lv_aload_n hx hb dX3_thread_30 rfl (lv_at hl 1 rfl) ?_
    refine lv_iload_n hx hb dX3_thread_31 rfl (lv_at hl 0 rfl) ?_
    refine zw_cV (r := (20, 0, 0)) (As := [.int (σ (0, 0, 0) 1)]) (rest := []) (st1 := [.int (σ (0, 0, 0) 1)]) ⟨hx, hb, hml, hown, hts⟩ (cm_done (σ := (sp_s σ (0, 0, 0) 1 p0)) hM (σ (0, 0, 0) 1)) (cwV 1 hts gX3_thread_X3_done rfl rfl rfl (by decide +kernel) ⟨Nat.le_of_ble_eq_true rfl, Nat.le_of_ble_eq_true rfl⟩) (hM 0 (by decide)) rfl rfl rfl hK hP hD hS hA hN rfl hl.1 rfl (Nat.le_of_ble_eq_true rfl) rfl dX3_thread_32 ⟨Nat.zero_le _, Nat.zero_le _⟩ (fun H locs hP hD hS => ?_)
    exact zw_iret hx hb hr hlk hK hP hD hS dX3_thread_35 (by simp only [sp_thread, if_pos c_1] <;> rfl) (by simp only [sp_thread, if_pos c_1] <;> rfl)
  · refine lv_aload_n hx hb dX3_thread_5 rfl (lv_at hl 0 rfl) ?_
    refine lv_iload_n hx hb dX3_thread_6 rfl (lv_at hl 1 rfl) ?_
    rcases Decidable.em (sp_r nr p0) with h_2 | h_2
    · refine zw_cV (r := (20, 0, 0)) (As := [.int p0]) (rest := []) (st1 := [.int 1]) ⟨hx, hb, hml, hown, hts⟩ (cm_isReel_1 (σ := σ) hM hI0 p0 h_2) (cwV 1 hts gX3_thread_X3_isReel rfl rfl rfl (by decide +kernel) ⟨Nat.le_of_ble_eq_true rfl, Nat.le_of_ble_eq_true rfl⟩) (hM 0 (by decide)) rfl rfl rfl hK hP hD hS hA hN rfl hl.1 rfl (Nat.le_of_ble_eq_true rfl) rfl dX3_thread_7 ⟨Nat.zero_le _, Nat.zero_le _⟩ (fun H locs hP hD hS => ?_)
      refine lv_if_ne (tgt := 20) hx hb dX3_thread_10 (by decide) (fun c_3 => ?_) (fun c_3 => absurd c_3 (by decide))
      refine lv_aload_n hx hb dX3_thread_20 rfl (lv_at hl 0 rfl) ?_
      refine zw_getf (r := (20, 0, 0)) (v := .int (σ (0, 0, 0) 1)) (C := RX3) (T := TX3) (N := 17) (ci := 3) hx hb hts hwX3 hown hK hP (hM 0 (by decide)) rfl rfl 4 (by decide) (hts (.fieldLink RX3 19 "FourTrackDeckModel" "onDeck" "I") (by decide +kernel)) (fun _ h9 => h9) rfl dX3_thread_21 ?_
      refine lv_istore_n (lv' := [(2, .int (σ (0, 0, 0) 1)), (0, .ref (ad (20, 0, 0))), (1, .int p0)]) hx hb dX3_thread_24 rfl hl (by decide) rfl (fun ls hl => ?_)
      refine lv_aload_n hx hb dX3_thread_25 rfl (lv_at hl 1 rfl) ?_
      refine lv_iload_n hx hb dX3_thread_26 rfl (lv_at hl 2 rfl) ?_
      refine zw_putf (r := (20, 0, 0)) (v := .int p0) (C := RX3) (T := TX3) (N := 17) (ci := 3) hx hb hts hwX3 tyX3 tyX3_ok nmX3 hown hK hP hD hS (hM 0 (by decide)) rfl rfl 4 (by decide) (hts (.fieldLink RX3 19 "FourTrackDeckModel" "onDeck" "I") (by decide +kernel)) (fun _ h9 => h9) rfl (ty := .int) (by decide +kernel) rfl rfl (Nat.le_of_ble_eq_true rfl) dX3_thread_27 (cu1 := ze_X cD (ze_M cA ad len (sp_s σ (0, 0, 0) 1 p0))) (zm_D rfl) (fun H locs hP hD hS => ?_)
      refine lv_aload_n hx hb dX3_thread_30 rfl (lv_at hl 1 rfl) ?_
      refine lv_iload_n hx hb dX3_thread_31 rfl (lv_at hl 0 rfl) ?_
      refine zw_cV (r := (20, 0, 0)) (As := [.int (σ (0, 0, 0) 1)]) (rest := []) (st1 := [.int (σ (0, 0, 0) 1)]) ⟨hx, hb, hml, hown, hts⟩ (cm_done (σ := (sp_s σ (0, 0, 0) 1 p0)) hM (σ (0, 0, 0) 1)) (cwV 1 hts gX3_thread_X3_done rfl rfl rfl (by decide +kernel) ⟨Nat.le_of_ble_eq_true rfl, Nat.le_of_ble_eq_true rfl⟩) (hM 0 (by decide)) rfl rfl rfl hK hP hD hS hA hN rfl hl.1 rfl (Nat.le_of_ble_eq_true rfl) rfl dX3_thread_32 ⟨Nat.zero_le _, Nat.zero_le _⟩ (fun H locs hP hD hS => ?_)
      exact zw_iret hx hb hr hlk hK hP hD hS dX3_thread_35 (by simp only [sp_thread, if_neg c_1, if_pos h_2] <;> rfl) (by simp only [sp_thread, if_neg c_1, if_pos h_2] <;> rfl)
    · refine zw_cV (r := (20, 0, 0)) (As := [.int p0]) (rest := []) (st1 := [.int 0]) ⟨hx, hb, hml, hown, hts⟩ (cm_isReel_0 (σ := σ) hM hI0 p0 h_2) (cwV 1 hts gX3_thread_X3_isReel rfl rfl rfl (by decide +kernel) ⟨Nat.le_of_ble_eq_true rfl, Nat.le_of_ble_eq_true rfl⟩) (hM 0 (by decide)) rfl rfl rfl hK hP hD hS hA hN rfl hl.1 rfl (Nat.le_of_ble_eq_true rfl) rfl dX3_thread_7 ⟨Nat.zero_le _, Nat.zero_le _⟩ (fun H locs hP hD hS => ?_)
      refine lv_if_ne (tgt := 20) hx hb dX3_thread_10 (by decide) (fun c_4 => absurd (by decide) c_4) (fun c_4 => ?_)
      refine lv_aload_n hx hb dX3_thread_13 rfl (lv_at hl 0 rfl) ?_
      refine lv_iconst (v := 1) hx hb dX3_thread_14 (by decide) ?_
      refine lv_iconst (v := (-1)) hx hb dX3_thread_15 (by decide) ?_
      refine zw_cV (r := (20, 0, 0)) (As := [.int 1, .int (-1)]) (rest := []) (st1 := [.int (-1)]) ⟨hx, hb, hml, hown, hts⟩ (cm_fails (σ := σ) hM 1 (-1)) (cwV 2 hts gX3_thread_X3_fails rfl rfl rfl (by decide +kernel) ⟨Nat.le_of_ble_eq_true rfl, Nat.le_of_ble_eq_true rfl⟩) (hM 0 (by decide)) rfl rfl rfl hK hP hD hS hA hN rfl hl.1 rfl (Nat.le_of_ble_eq_true rfl) rfl dX3_thread_16 ⟨Nat.zero_le _, Nat.zero_le _⟩ (fun H locs hP hD hS => ?_)
      exact zw_iret hx hb hr hlk hK hP hD hS dX3_thread_19 (by simp only [sp_thread, if_neg c_1, if_neg h_2] <;> rfl) (by simp only [sp_thread, if_neg c_1, if_neg h_2] <;> rfl)
set_option maxHeartbeats 4000000 in
set_option maxRecDepth 100000 in
theorem cm_head {l : Launch} {dC : Nat → ClassId} {dI : Nat → Nat → Nat} {cA : Nat → ClassId} {ad : zw_R → Nat} {R : List zw_R} {nr : Nat} {len : Nat → Nat} {σ : sp_S} {cD : zw_R → va_E} (hM : zm_R R) (p0 p1 : Int32) : zw_M l yX3_head wsX3_head { frames := 1, cells := 0, slots := 0, locals := 22 } (ze_E dC dI cA) [.ref (ad (20, 0, 0)), .int p0, .int p1] ad R (ze_X cD (ze_M cA ad len σ)) (some (.int ((sp_head nr len σ p0 p1).1))) (ze_X cD (ze_M cA ad len (sp_head nr len σ p0 p1).2)) := by
  refine zw_body (cc := cX3_head) (maxL := 4) (ret := (some .int)) (by decide) rfl (Nat.le_of_ble_eq_true rfl) ?_
  intro p e s m below meth c A ls hx hb hr hlk hml hts hown hnm hA hK hP hD hS hN hl
  have hl : lv_has ls 4 [(0, .ref (ad (20, 0, 0))), (1, .int p0), (2, .int p1)] := hl
  have hwX3 : ∀ w ∈ u_ws RX3 TX3 17, w ∈ wsX3_head := by decide +kernel
  refine lv_aload_n hx hb dX3_head_0 rfl (lv_at hl 0 rfl) ?_
  refine lv_iload_n hx hb dX3_head_1 rfl (lv_at hl 1 rfl) ?_
  rcases Decidable.em (sp_t p0) with h_1 | h_1
  · refine zw_cV (r := (20, 0, 0)) (As := [.int p0]) (rest := []) (st1 := [.int 1]) ⟨hx, hb, hml, hown, hts⟩ (cm_isTrack_1 (σ := σ) p0 h_1) (cwV 1 hts gX3_head_X3_isTrack rfl rfl rfl (by decide +kernel) ⟨Nat.le_of_ble_eq_true rfl, Nat.le_of_ble_eq_true rfl⟩) (hM 0 (by decide)) rfl rfl rfl hK hP hD hS hA hN rfl hl.1 rfl (Nat.le_of_ble_eq_true rfl) rfl dX3_head_2 ⟨Nat.zero_le _, Nat.zero_le _⟩ (fun H locs hP hD hS => ?_)
    refine lv_if_eq (tgt := 20) hx hb dX3_head_5 (by decide) (fun c_2 => absurd c_2 (by decide)) (fun c_2 => ?_)
    refine lv_iload_n hx hb dX3_head_8 rfl (lv_at hl 2 rfl) ?_
    refine lv_bipush (v := (-8)) hx hb dX3_head_9 (by decide) ?_
    refine lv_icmp_lt (tgt := 20) hx hb dX3_head_11 (by decide) (fun c_3 => ?_) (fun c_3 => ?_)
    · refine lv_aload_n hx hb dX3_head_20 rfl (lv_at hl 0 rfl) ?_
      refine lv_iconst (v := 1) hx hb dX3_head_21 (by decide) ?_
      refine lv_iconst (v := 0) hx hb dX3_head_22 (by decide) ?_
      refine zw_cV (r := (20, 0, 0)) (As := [.int 1, .int 0]) (rest := []) (st1 := [.int 0]) ⟨hx, hb, hml, hown, hts⟩ (cm_fails (σ := σ) hM 1 0) (cwV 2 hts gX3_head_X3_fails rfl rfl rfl (by decide +kernel) ⟨Nat.le_of_ble_eq_true rfl, Nat.le_of_ble_eq_true rfl⟩) (hM 0 (by decide)) rfl rfl rfl hK hP hD hS hA hN rfl hl.1 rfl (Nat.le_of_ble_eq_true rfl) rfl dX3_head_23 ⟨Nat.zero_le _, Nat.zero_le _⟩ (fun H locs hP hD hS => ?_)
      exact zw_iret hx hb hr hlk hK hP hD hS dX3_head_26 (by simp only [sp_head, if_neg (show ¬ sp_w p1 (-8) 8 from fun q => Int32.not_lt.mpr q.1 c_3), if_pos h_1, if_pos c_3] <;> rfl) (by simp only [sp_head, if_neg (show ¬ sp_w p1 (-8) 8 from fun q => Int32.not_lt.mpr q.1 c_3), if_pos h_1, if_pos c_3] <;> rfl)
    · refine lv_iload_n hx hb dX3_head_14 rfl (lv_at hl 2 rfl) ?_
      refine lv_bipush (v := 8) hx hb dX3_head_15 (by decide) ?_
      refine lv_icmp_le (tgt := 27) hx hb dX3_head_17 (by decide) (fun c_4 => ?_) (fun c_4 => ?_)
      · refine lv_aload_n hx hb dX3_head_27 rfl (lv_at hl 0 rfl) ?_
        refine zw_getf (r := (20, 0, 0)) (v := .ref (ad (24, 0, 0))) (C := RX3) (T := TX3) (N := 17) (ci := 3) hx hb hts hwX3 hown hK hP (hM 0 (by decide)) rfl rfl 6 (by decide) (hts (.fieldLink RX3 23 "FourTrackDeckModel" "offset" "[I") (by decide +kernel)) (fun _ h9 => h9) rfl dX3_head_28 ?_
        refine lv_iload_n hx hb dX3_head_31 rfl (lv_at hl 1 rfl) ?_
        refine zw_iald (r := (24, 0, 0)) hx hb hK hP (hM 4 (by decide)) 0 rfl rfl (ze_ti h_1) dX3_head_32 ?_
        refine lv_istore_n (lv' := [(3, .int (σ (2, 0, 0) p0.toNatClampNeg)), (0, .ref (ad (20, 0, 0))), (1, .int p0), (2, .int p1)]) hx hb dX3_head_33 rfl hl (by decide) rfl (fun ls hl => ?_)
        refine lv_aload_n hx hb dX3_head_34 rfl (lv_at hl 1 rfl) ?_
        refine zw_getf (r := (20, 0, 0)) (v := .ref (ad (24, 0, 0))) (C := RX3) (T := TX3) (N := 17) (ci := 3) hx hb hts hwX3 hown hK hP (hM 0 (by decide)) rfl rfl 6 (by decide) (hts (.fieldLink RX3 23 "FourTrackDeckModel" "offset" "[I") (by decide +kernel)) (fun _ h9 => h9) rfl dX3_head_35 ?_
        refine lv_iload_n hx hb dX3_head_38 rfl (lv_at hl 2 rfl) ?_
        refine lv_iload_n hx hb dX3_head_39 rfl (lv_at hl 3 rfl) ?_
        refine zw_iast (r := (24, 0, 0)) hx hb hK hP hD hS (hM 4 (by decide)) 0 rfl rfl (ze_ti h_1) dX3_head_40 (cu1 := ze_X cD (ze_M cA ad len (sp_s σ (2, 0, 0) p0.toNatClampNeg p1))) (zm_A2 rfl) (fun H locs hP hD hS => ?_)
        refine lv_aload_n hx hb dX3_head_41 rfl (lv_at hl 1 rfl) ?_
        refine lv_iload_n hx hb dX3_head_42 rfl (lv_at hl 0 rfl) ?_
        refine zw_cV (r := (20, 0, 0)) (As := [.int (σ (2, 0, 0) p0.toNatClampNeg)]) (rest := []) (st1 := [.int (σ (2, 0, 0) p0.toNatClampNeg)]) ⟨hx, hb, hml, hown, hts⟩ (cm_done (σ := (sp_s σ (2, 0, 0) p0.toNatClampNeg p1)) hM (σ (2, 0, 0) p0.toNatClampNeg)) (cwV 1 hts gX3_head_X3_done rfl rfl rfl (by decide +kernel) ⟨Nat.le_of_ble_eq_true rfl, Nat.le_of_ble_eq_true rfl⟩) (hM 0 (by decide)) rfl rfl rfl hK hP hD hS hA hN rfl hl.1 rfl (Nat.le_of_ble_eq_true rfl) rfl dX3_head_43 ⟨Nat.zero_le _, Nat.zero_le _⟩ (fun H locs hP hD hS => ?_)
        exact zw_iret hx hb hr hlk hK hP hD hS dX3_head_46 (by simp only [sp_head, if_pos (show sp_w p1 (-8) 8 from ⟨Int32.not_lt.mp c_3, c_4⟩), if_pos h_1, if_neg c_3, if_pos c_4] <;> rfl) (by simp only [sp_head, if_pos (show sp_w p1 (-8) 8 from ⟨Int32.not_lt.mp c_3, c_4⟩), if_pos h_1, if_neg c_3, if_pos c_4] <;> rfl)
      · refine lv_aload_n hx hb dX3_head_20 rfl (lv_at hl 0 rfl) ?_
        refine lv_iconst (v := 1) hx hb dX3_head_21 (by decide) ?_
        refine lv_iconst (v := 0) hx hb dX3_head_22 (by decide) ?_
        refine zw_cV (r := (20, 0, 0)) (As := [.int 1, .int 0]) (rest := []) (st1 := [.int 0]) ⟨hx, hb, hml, hown, hts⟩ (cm_fails (σ := σ) hM 1 0) (cwV 2 hts gX3_head_X3_fails rfl rfl rfl (by decide +kernel) ⟨Nat.le_of_ble_eq_true rfl, Nat.le_of_ble_eq_true rfl⟩) (hM 0 (by decide)) rfl rfl rfl hK hP hD hS hA hN rfl hl.1 rfl (Nat.le_of_ble_eq_true rfl) rfl dX3_head_23 ⟨Nat.zero_le _, Nat.zero_le _⟩ (fun H locs hP hD hS => ?_)
        exact zw_iret hx hb hr hlk hK hP hD hS dX3_head_26 (by simp only [sp_head, if_neg (show ¬ sp_w p1 (-8) 8 from fun q => c_4 q.2), if_pos h_1, if_neg c_3, if_neg c_4] <;> rfl) (by simp only [sp_head, if_neg (show ¬ sp_w p1 (-8) 8 from fun q => c_4 q.2), if_pos h_1, if_neg c_3, if_neg c_4] <;> rfl)
  · refine zw_cV (r := (20, 0, 0)) (As := [.int p0]) (rest := []) (st1 := [.int 0]) ⟨hx, hb, hml, hown, hts⟩ (cm_isTrack_0 (σ := σ) p0 h_1) (cwV 1 hts gX3_head_X3_isTrack rfl rfl rfl (by decide +kernel) ⟨Nat.le_of_ble_eq_true rfl, Nat.le_of_ble_eq_true rfl⟩) (hM 0 (by decide)) rfl rfl rfl hK hP hD hS hA hN rfl hl.1 rfl (Nat.le_of_ble_eq_true rfl) rfl dX3_head_2 ⟨Nat.zero_le _, Nat.zero_le _⟩ (fun H locs hP hD hS => ?_)
    refine lv_if_eq (tgt := 20) hx hb dX3_head_5 (by decide) (fun c_5 => ?_) (fun c_5 => absurd (by decide) c_5)
    refine lv_aload_n hx hb dX3_head_20 rfl (lv_at hl 0 rfl) ?_
    refine lv_iconst (v := 1) hx hb dX3_head_21 (by decide) ?_
    refine lv_iconst (v := 0) hx hb dX3_head_22 (by decide) ?_
    refine zw_cV (r := (20, 0, 0)) (As := [.int 1, .int 0]) (rest := []) (st1 := [.int 0]) ⟨hx, hb, hml, hown, hts⟩ (cm_fails (σ := σ) hM 1 0) (cwV 2 hts gX3_head_X3_fails rfl rfl rfl (by decide +kernel) ⟨Nat.le_of_ble_eq_true rfl, Nat.le_of_ble_eq_true rfl⟩) (hM 0 (by decide)) rfl rfl rfl hK hP hD hS hA hN rfl hl.1 rfl (Nat.le_of_ble_eq_true rfl) rfl dX3_head_23 ⟨Nat.zero_le _, Nat.zero_le _⟩ (fun H locs hP hD hS => ?_)
    exact zw_iret hx hb hr hlk hK hP hD hS dX3_head_26 (by simp only [sp_head, if_neg h_1] <;> rfl) (by simp only [sp_head, if_neg h_1] <;> rfl)
set_option maxHeartbeats 4000000 in
set_option maxRecDepth 100000 in
theorem cm_arm {l : Launch} {dC : Nat → ClassId} {dI : Nat → Nat → Nat} {cA : Nat → ClassId} {ad : zw_R → Nat} {R : List zw_R} {nr : Nat} {len : Nat → Nat} {σ : sp_S} {cD : zw_R → va_E} (hM : zm_R R) (p0 p1 : Int32) : zw_M l yX3_arm wsX3_arm { frames := 1, cells := 0, slots := 0, locals := 22 } (ze_E dC dI cA) [.ref (ad (20, 0, 0)), .int p0, .int p1] ad R (ze_X cD (ze_M cA ad len σ)) (some (.int ((sp_arm nr len σ p0 p1).1))) (ze_X cD (ze_M cA ad len (sp_arm nr len σ p0 p1).2)) := by
  refine zw_body (cc := cX3_arm) (maxL := 4) (ret := (some .int)) (by decide) rfl (Nat.le_of_ble_eq_true rfl) ?_
  intro p e s m below meth c A ls hx hb hr hlk hml hts hown hnm hA hK hP hD hS hN hl
  have hl : lv_has ls 4 [(0, .ref (ad (20, 0, 0))), (1, .int p0), (2, .int p1)] := hl
  have hwX3 : ∀ w ∈ u_ws RX3 TX3 17, w ∈ wsX3_arm := by decide +kernel
  refine lv_aload_n hx hb dX3_arm_0 rfl (lv_at hl 0 rfl) ?_
  refine lv_iload_n hx hb dX3_arm_1 rfl (lv_at hl 1 rfl) ?_
  rcases Decidable.em (sp_t p0) with h_1 | h_1
  · refine zw_cV (r := (20, 0, 0)) (As := [.int p0]) (rest := []) (st1 := [.int 1]) ⟨hx, hb, hml, hown, hts⟩ (cm_isTrack_1 (σ := σ) p0 h_1) (cwV 1 hts gX3_arm_X3_isTrack rfl rfl rfl (by decide +kernel) ⟨Nat.le_of_ble_eq_true rfl, Nat.le_of_ble_eq_true rfl⟩) (hM 0 (by decide)) rfl rfl rfl hK hP hD hS hA hN rfl hl.1 rfl (Nat.le_of_ble_eq_true rfl) rfl dX3_arm_2 ⟨Nat.zero_le _, Nat.zero_le _⟩ (fun H locs hP hD hS => ?_)
    refine lv_if_eq (tgt := 17) hx hb dX3_arm_5 (by decide) (fun c_2 => absurd c_2 (by decide)) (fun c_2 => ?_)
    refine lv_iload_n hx hb dX3_arm_8 rfl (lv_at hl 2 rfl) ?_
    refine lv_if_lt (tgt := 17) hx hb dX3_arm_9 (by decide) (fun c_3 => ?_) (fun c_3 => ?_)
    · refine lv_aload_n hx hb dX3_arm_17 rfl (lv_at hl 0 rfl) ?_
      refine lv_iconst (v := 1) hx hb dX3_arm_18 (by decide) ?_
      refine lv_iconst (v := 0) hx hb dX3_arm_19 (by decide) ?_
      refine zw_cV (r := (20, 0, 0)) (As := [.int 1, .int 0]) (rest := []) (st1 := [.int 0]) ⟨hx, hb, hml, hown, hts⟩ (cm_fails (σ := σ) hM 1 0) (cwV 2 hts gX3_arm_X3_fails rfl rfl rfl (by decide +kernel) ⟨Nat.le_of_ble_eq_true rfl, Nat.le_of_ble_eq_true rfl⟩) (hM 0 (by decide)) rfl rfl rfl hK hP hD hS hA hN rfl hl.1 rfl (Nat.le_of_ble_eq_true rfl) rfl dX3_arm_20 ⟨Nat.zero_le _, Nat.zero_le _⟩ (fun H locs hP hD hS => ?_)
      exact zw_iret hx hb hr hlk hK hP hD hS dX3_arm_23 (by simp only [sp_arm, if_neg (show ¬ sp_w p1 0 3 from fun q => Int32.not_lt.mpr q.1 c_3), if_pos h_1, if_pos c_3] <;> rfl) (by simp only [sp_arm, if_neg (show ¬ sp_w p1 0 3 from fun q => Int32.not_lt.mpr q.1 c_3), if_pos h_1, if_pos c_3] <;> rfl)
    · refine lv_iload_n hx hb dX3_arm_12 rfl (lv_at hl 2 rfl) ?_
      refine lv_iconst (v := 3) hx hb dX3_arm_13 (by decide) ?_
      refine lv_icmp_le (tgt := 24) hx hb dX3_arm_14 (by decide) (fun c_4 => ?_) (fun c_4 => ?_)
      · refine lv_aload_n hx hb dX3_arm_24 rfl (lv_at hl 0 rfl) ?_
        refine zw_getf (r := (20, 0, 0)) (v := .ref (ad (25, 0, 0))) (C := RX3) (T := TX3) (N := 17) (ci := 3) hx hb hts hwX3 hown hK hP (hM 0 (by decide)) rfl rfl 7 (by decide) (hts (.fieldLink RX3 26 "FourTrackDeckModel" "mode" "[I") (by decide +kernel)) (fun _ h9 => h9) rfl dX3_arm_25 ?_
        refine lv_iload_n hx hb dX3_arm_28 rfl (lv_at hl 1 rfl) ?_
        refine zw_iald (r := (25, 0, 0)) hx hb hK hP (hM 5 (by decide)) 0 rfl rfl (ze_ti h_1) dX3_arm_29 ?_
        refine lv_istore_n (lv' := [(3, .int (σ (3, 0, 0) p0.toNatClampNeg)), (0, .ref (ad (20, 0, 0))), (1, .int p0), (2, .int p1)]) hx hb dX3_arm_30 rfl hl (by decide) rfl (fun ls hl => ?_)
        refine lv_aload_n hx hb dX3_arm_31 rfl (lv_at hl 1 rfl) ?_
        refine zw_getf (r := (20, 0, 0)) (v := .ref (ad (25, 0, 0))) (C := RX3) (T := TX3) (N := 17) (ci := 3) hx hb hts hwX3 hown hK hP (hM 0 (by decide)) rfl rfl 7 (by decide) (hts (.fieldLink RX3 26 "FourTrackDeckModel" "mode" "[I") (by decide +kernel)) (fun _ h9 => h9) rfl dX3_arm_32 ?_
        refine lv_iload_n hx hb dX3_arm_35 rfl (lv_at hl 2 rfl) ?_
        refine lv_iload_n hx hb dX3_arm_36 rfl (lv_at hl 3 rfl) ?_
        refine zw_iast (r := (25, 0, 0)) hx hb hK hP hD hS (hM 5 (by decide)) 0 rfl rfl (ze_ti h_1) dX3_arm_37 (cu1 := ze_X cD (ze_M cA ad len (sp_s σ (3, 0, 0) p0.toNatClampNeg p1))) (zm_A3 rfl) (fun H locs hP hD hS => ?_)
        refine lv_aload_n hx hb dX3_arm_38 rfl (lv_at hl 1 rfl) ?_
        refine lv_iload_n hx hb dX3_arm_39 rfl (lv_at hl 0 rfl) ?_
        refine zw_cV (r := (20, 0, 0)) (As := [.int (σ (3, 0, 0) p0.toNatClampNeg)]) (rest := []) (st1 := [.int (σ (3, 0, 0) p0.toNatClampNeg)]) ⟨hx, hb, hml, hown, hts⟩ (cm_done (σ := (sp_s σ (3, 0, 0) p0.toNatClampNeg p1)) hM (σ (3, 0, 0) p0.toNatClampNeg)) (cwV 1 hts gX3_arm_X3_done rfl rfl rfl (by decide +kernel) ⟨Nat.le_of_ble_eq_true rfl, Nat.le_of_ble_eq_true rfl⟩) (hM 0 (by decide)) rfl rfl rfl hK hP hD hS hA hN rfl hl.1 rfl (Nat.le_of_ble_eq_true rfl) rfl dX3_arm_40 ⟨Nat.zero_le _, Nat.zero_le _⟩ (fun H locs hP hD hS => ?_)
        exact zw_iret hx hb hr hlk hK hP hD hS dX3_arm_43 (by simp only [sp_arm, if_pos (show sp_w p1 0 3 from ⟨Int32.not_lt.mp c_3, c_4⟩), if_pos h_1, if_neg c_3, if_pos c_4] <;> rfl) (by simp only [sp_arm, if_pos (show sp_w p1 0 3 from ⟨Int32.not_lt.mp c_3, c_4⟩), if_pos h_1, if_neg c_3, if_pos c_4] <;> rfl)
      · refine lv_aload_n hx hb dX3_arm_17 rfl (lv_at hl 0 rfl) ?_
        refine lv_iconst (v := 1) hx hb dX3_arm_18 (by decide) ?_
        refine lv_iconst (v := 0) hx hb dX3_arm_19 (by decide) ?_
        refine zw_cV (r := (20, 0, 0)) (As := [.int 1, .int 0]) (rest := []) (st1 := [.int 0]) ⟨hx, hb, hml, hown, hts⟩ (cm_fails (σ := σ) hM 1 0) (cwV 2 hts gX3_arm_X3_fails rfl rfl rfl (by decide +kernel) ⟨Nat.le_of_ble_eq_true rfl, Nat.le_of_ble_eq_true rfl⟩) (hM 0 (by decide)) rfl rfl rfl hK hP hD hS hA hN rfl hl.1 rfl (Nat.le_of_ble_eq_true rfl) rfl dX3_arm_20 ⟨Nat.zero_le _, Nat.zero_le _⟩ (fun H locs hP hD hS => ?_)
        exact zw_iret hx hb hr hlk hK hP hD hS dX3_arm_23 (by simp only [sp_arm, if_neg (show ¬ sp_w p1 0 3 from fun q => c_4 q.2), if_pos h_1, if_neg c_3, if_neg c_4] <;> rfl) (by simp only [sp_arm, if_neg (show ¬ sp_w p1 0 3 from fun q => c_4 q.2), if_pos h_1, if_neg c_3, if_neg c_4] <;> rfl)
  · refine zw_cV (r := (20, 0, 0)) (As := [.int p0]) (rest := []) (st1 := [.int 0]) ⟨hx, hb, hml, hown, hts⟩ (cm_isTrack_0 (σ := σ) p0 h_1) (cwV 1 hts gX3_arm_X3_isTrack rfl rfl rfl (by decide +kernel) ⟨Nat.le_of_ble_eq_true rfl, Nat.le_of_ble_eq_true rfl⟩) (hM 0 (by decide)) rfl rfl rfl hK hP hD hS hA hN rfl hl.1 rfl (Nat.le_of_ble_eq_true rfl) rfl dX3_arm_2 ⟨Nat.zero_le _, Nat.zero_le _⟩ (fun H locs hP hD hS => ?_)
    refine lv_if_eq (tgt := 17) hx hb dX3_arm_5 (by decide) (fun c_5 => ?_) (fun c_5 => absurd (by decide) c_5)
    refine lv_aload_n hx hb dX3_arm_17 rfl (lv_at hl 0 rfl) ?_
    refine lv_iconst (v := 1) hx hb dX3_arm_18 (by decide) ?_
    refine lv_iconst (v := 0) hx hb dX3_arm_19 (by decide) ?_
    refine zw_cV (r := (20, 0, 0)) (As := [.int 1, .int 0]) (rest := []) (st1 := [.int 0]) ⟨hx, hb, hml, hown, hts⟩ (cm_fails (σ := σ) hM 1 0) (cwV 2 hts gX3_arm_X3_fails rfl rfl rfl (by decide +kernel) ⟨Nat.le_of_ble_eq_true rfl, Nat.le_of_ble_eq_true rfl⟩) (hM 0 (by decide)) rfl rfl rfl hK hP hD hS hA hN rfl hl.1 rfl (Nat.le_of_ble_eq_true rfl) rfl dX3_arm_20 ⟨Nat.zero_le _, Nat.zero_le _⟩ (fun H locs hP hD hS => ?_)
    exact zw_iret hx hb hr hlk hK hP hD hS dX3_arm_23 (by simp only [sp_arm, if_neg h_1] <;> rfl) (by simp only [sp_arm, if_neg h_1] <;> rfl)
set_option maxHeartbeats 4000000 in
set_option maxRecDepth 100000 in
theorem cm_source {l : Launch} {dC : Nat → ClassId} {dI : Nat → Nat → Nat} {cA : Nat → ClassId} {ad : zw_R → Nat} {R : List zw_R} {nr : Nat} {len : Nat → Nat} {σ : sp_S} {cD : zw_R → va_E} (hM : zm_R R) (p0 p1 : Int32) : zw_M l yX3_source wsX3_source { frames := 1, cells := 0, slots := 0, locals := 21 } (ze_E dC dI cA) [.ref (ad (20, 0, 0)), .int p0, .int p1] ad R (ze_X cD (ze_M cA ad len σ)) (some (.int ((sp_source nr len σ p0 p1).1))) (ze_X cD (ze_M cA ad len (sp_source nr len σ p0 p1).2)) := by
  refine zw_body (cc := cX3_source) (maxL := 4) (ret := (some .int)) (by decide) rfl (Nat.le_of_ble_eq_true rfl) ?_
  intro p e s m below meth c A ls hx hb hr hlk hml hts hown hnm hA hK hP hD hS hN hl
  have hl : lv_has ls 4 [(0, .ref (ad (20, 0, 0))), (1, .int p0), (2, .int p1)] := hl
  have hwX3 : ∀ w ∈ u_ws RX3 TX3 17, w ∈ wsX3_source := by decide +kernel
  refine lv_aload_n hx hb dX3_source_0 rfl (lv_at hl 0 rfl) ?_
  refine zw_getf (r := (20, 0, 0)) (v := .int (σ (0, 0, 0) 3)) (C := RX3) (T := TX3) (N := 17) (ci := 3) hx hb hts hwX3 hown hK hP (hM 0 (by decide)) rfl rfl 9 (by decide) (hts (.fieldLink RX3 78 "FourTrackDeckModel" "s" "I") (by decide +kernel)) (fun _ h9 => h9) rfl dX3_source_1 ?_
  refine lv_istore_n (lv' := [(3, .int (σ (0, 0, 0) 3)), (0, .ref (ad (20, 0, 0))), (1, .int p0), (2, .int p1)]) hx hb dX3_source_4 rfl hl (by decide) rfl (fun ls hl => ?_)
  refine lv_aload_n hx hb dX3_source_5 rfl (lv_at hl 1 rfl) ?_
  refine lv_iload_n hx hb dX3_source_6 rfl (lv_at hl 2 rfl) ?_
  refine zw_putf (r := (20, 0, 0)) (v := .int p0) (C := RX3) (T := TX3) (N := 17) (ci := 3) hx hb hts hwX3 tyX3 tyX3_ok nmX3 hown hK hP hD hS (hM 0 (by decide)) rfl rfl 9 (by decide) (hts (.fieldLink RX3 78 "FourTrackDeckModel" "s" "I") (by decide +kernel)) (fun _ h9 => h9) rfl (ty := .int) (by decide +kernel) rfl rfl (Nat.le_of_ble_eq_true rfl) dX3_source_7 (cu1 := ze_X cD (ze_M cA ad len (sp_s σ (0, 0, 0) 3 p0))) (zm_D rfl) (fun H locs hP hD hS => ?_)
  refine lv_aload_n hx hb dX3_source_10 rfl (lv_at hl 1 rfl) ?_
  refine lv_iload_n hx hb dX3_source_11 rfl (lv_at hl 3 rfl) ?_
  refine zw_putf (r := (20, 0, 0)) (v := .int p1) (C := RX3) (T := TX3) (N := 17) (ci := 3) hx hb hts hwX3 tyX3 tyX3_ok nmX3 hown hK hP hD hS (hM 0 (by decide)) rfl rfl 10 (by decide) (hts (.fieldLink RX3 81 "FourTrackDeckModel" "step" "I") (by decide +kernel)) (fun _ h9 => h9) rfl (ty := .int) (by decide +kernel) rfl rfl (Nat.le_of_ble_eq_true rfl) dX3_source_12 (cu1 := ze_X cD (ze_M cA ad len (sp_s (sp_s σ (0, 0, 0) 3 p0) (0, 0, 0) 4 p1))) (zm_D rfl) (fun H locs hP hD hS => ?_)
  refine lv_aload_n hx hb dX3_source_15 rfl (lv_at hl 1 rfl) ?_
  refine lv_iload_n hx hb dX3_source_16 rfl (lv_at hl 0 rfl) ?_
  refine zw_cV (r := (20, 0, 0)) (As := [.int (σ (0, 0, 0) 3)]) (rest := []) (st1 := [.int (σ (0, 0, 0) 3)]) ⟨hx, hb, hml, hown, hts⟩ (cm_done (σ := (sp_s (sp_s σ (0, 0, 0) 3 p0) (0, 0, 0) 4 p1)) hM (σ (0, 0, 0) 3)) (cwV 1 hts gX3_source_X3_done rfl rfl rfl (by decide +kernel) ⟨Nat.le_of_ble_eq_true rfl, Nat.le_of_ble_eq_true rfl⟩) (hM 0 (by decide)) rfl rfl rfl hK hP hD hS hA hN rfl hl.1 rfl (Nat.le_of_ble_eq_true rfl) rfl dX3_source_17 ⟨Nat.zero_le _, Nat.zero_le _⟩ (fun H locs hP hD hS => ?_)
  exact zw_iret hx hb hr hlk hK hP hD hS dX3_source_20 rfl rfl
set_option maxHeartbeats 4000000 in
set_option maxRecDepth 100000 in
theorem cm_wind {l : Launch} {dC : Nat → ClassId} {dI : Nat → Nat → Nat} {cA : Nat → ClassId} {ad : zw_R → Nat} {R : List zw_R} {nr : Nat} {len : Nat → Nat} {σ : sp_S} {cD : zw_R → va_E} (hM : zm_R R) (p0 : Int32) : zw_M l yX3_wind wsX3_wind { frames := 1, cells := 0, slots := 0, locals := 22 } (ze_E dC dI cA) [.ref (ad (20, 0, 0)), .int p0] ad R (ze_X cD (ze_M cA ad len σ)) (some (.int ((sp_wind nr len σ p0).1))) (ze_X cD (ze_M cA ad len (sp_wind nr len σ p0).2)) := by
  refine zw_body (cc := cX3_wind) (maxL := 2) (ret := (some .int)) (by decide) rfl (Nat.le_of_ble_eq_true rfl) ?_
  intro p e s m below meth c A ls hx hb hr hlk hml hts hown hnm hA hK hP hD hS hN hl
  have hl : lv_has ls 2 [(0, .ref (ad (20, 0, 0))), (1, .int p0)] := hl
  have hwX3 : ∀ w ∈ u_ws RX3 TX3 17, w ∈ wsX3_wind := by decide +kernel
  refine lv_iload_n hx hb dX3_wind_0 rfl (lv_at hl 1 rfl) ?_
  refine lv_sipush (v := (-1000)) hx hb dX3_wind_1 (by decide) ?_
  refine lv_icmp_lt (tgt := 14) hx hb dX3_wind_4 (by decide) (fun c_1 => ?_) (fun c_1 => ?_)
  · refine lv_aload_n hx hb dX3_wind_14 rfl (lv_at hl 0 rfl) ?_
    refine lv_iconst (v := 1) hx hb dX3_wind_15 (by decide) ?_
    refine lv_aload_n hx hb dX3_wind_16 rfl (lv_at hl 0 rfl) ?_
    refine zw_getf (r := (20, 0, 0)) (v := .int (σ (0, 0, 0) 2)) (C := RX3) (T := TX3) (N := 17) (ci := 3) hx hb hts hwX3 hown hK hP (hM 0 (by decide)) rfl rfl 5 (by decide) (hts (.fieldLink RX3 56 "FourTrackDeckModel" "p" "I") (by decide +kernel)) (fun _ h9 => h9) rfl dX3_wind_17 ?_
    refine zw_cV (r := (20, 0, 0)) (As := [.int 1, .int (σ (0, 0, 0) 2)]) (rest := []) (st1 := [.int (σ (0, 0, 0) 2)]) ⟨hx, hb, hml, hown, hts⟩ (cm_fails (σ := σ) hM 1 (σ (0, 0, 0) 2)) (cwV 2 hts gX3_wind_X3_fails rfl rfl rfl (by decide +kernel) ⟨Nat.le_of_ble_eq_true rfl, Nat.le_of_ble_eq_true rfl⟩) (hM 0 (by decide)) rfl rfl rfl hK hP hD hS hA hN rfl hl.1 rfl (Nat.le_of_ble_eq_true rfl) rfl dX3_wind_20 ⟨Nat.zero_le _, Nat.zero_le _⟩ (fun H locs hP hD hS => ?_)
    exact zw_iret hx hb hr hlk hK hP hD hS dX3_wind_23 (by simp only [sp_wind, if_neg (show ¬ sp_w p0 (-1000) 1000 from fun q => Int32.not_lt.mpr q.1 c_1), if_pos c_1] <;> rfl) (by simp only [sp_wind, if_neg (show ¬ sp_w p0 (-1000) 1000 from fun q => Int32.not_lt.mpr q.1 c_1), if_pos c_1] <;> rfl)
  · refine lv_iload_n hx hb dX3_wind_7 rfl (lv_at hl 1 rfl) ?_
    refine lv_sipush (v := 1000) hx hb dX3_wind_8 (by decide) ?_
    refine lv_icmp_le (tgt := 24) hx hb dX3_wind_11 (by decide) (fun c_2 => ?_) (fun c_2 => ?_)
    · refine lv_aload_n hx hb dX3_wind_24 rfl (lv_at hl 0 rfl) ?_
      refine lv_dup hx hb dX3_wind_25 rfl ?_
      refine zw_getf (r := (20, 0, 0)) (v := .int (σ (0, 0, 0) 2)) (C := RX3) (T := TX3) (N := 17) (ci := 3) hx hb hts hwX3 hown hK hP (hM 0 (by decide)) rfl rfl 5 (by decide) (hts (.fieldLink RX3 56 "FourTrackDeckModel" "p" "I") (by decide +kernel)) (fun _ h9 => h9) rfl dX3_wind_26 ?_
      refine lv_iload_n hx hb dX3_wind_29 rfl (lv_at hl 1 rfl) ?_
      refine lv_iadd hx hb dX3_wind_30 ?_
      refine zw_putf (r := (20, 0, 0)) (v := .int ((σ (0, 0, 0) 2) + p0)) (C := RX3) (T := TX3) (N := 17) (ci := 3) hx hb hts hwX3 tyX3 tyX3_ok nmX3 hown hK hP hD hS (hM 0 (by decide)) rfl rfl 5 (by decide) (hts (.fieldLink RX3 56 "FourTrackDeckModel" "p" "I") (by decide +kernel)) (fun _ h9 => h9) rfl (ty := .int) (by decide +kernel) rfl rfl (Nat.le_of_ble_eq_true rfl) dX3_wind_31 (cu1 := ze_X cD (ze_M cA ad len (sp_s σ (0, 0, 0) 2 ((σ (0, 0, 0) 2) + p0)))) (zm_D rfl) (fun H locs hP hD hS => ?_)
      refine lv_aload_n hx hb dX3_wind_34 rfl (lv_at hl 0 rfl) ?_
      refine lv_aload_n hx hb dX3_wind_35 rfl (lv_at hl 0 rfl) ?_
      refine zw_getf (r := (20, 0, 0)) (v := .int ((sp_s σ (0, 0, 0) 2 ((σ (0, 0, 0) 2) + p0)) (0, 0, 0) 2)) (C := RX3) (T := TX3) (N := 17) (ci := 3) hx hb hts hwX3 hown hK hP (hM 0 (by decide)) rfl rfl 5 (by decide) (hts (.fieldLink RX3 56 "FourTrackDeckModel" "p" "I") (by decide +kernel)) (fun _ h9 => h9) rfl dX3_wind_36 ?_
      refine zw_cV (r := (20, 0, 0)) (As := [.int ((sp_s σ (0, 0, 0) 2 ((σ (0, 0, 0) 2) + p0)) (0, 0, 0) 2)]) (rest := []) (st1 := [.int ((sp_s σ (0, 0, 0) 2 ((σ (0, 0, 0) 2) + p0)) (0, 0, 0) 2)]) ⟨hx, hb, hml, hown, hts⟩ (cm_done (σ := (sp_s σ (0, 0, 0) 2 ((σ (0, 0, 0) 2) + p0))) hM ((sp_s σ (0, 0, 0) 2 ((σ (0, 0, 0) 2) + p0)) (0, 0, 0) 2)) (cwV 1 hts gX3_wind_X3_done rfl rfl rfl (by decide +kernel) ⟨Nat.le_of_ble_eq_true rfl, Nat.le_of_ble_eq_true rfl⟩) (hM 0 (by decide)) rfl rfl rfl hK hP hD hS hA hN rfl hl.1 rfl (Nat.le_of_ble_eq_true rfl) rfl dX3_wind_39 ⟨Nat.zero_le _, Nat.zero_le _⟩ (fun H locs hP hD hS => ?_)
      exact zw_iret hx hb hr hlk hK hP hD hS dX3_wind_42 (by simp only [sp_wind, if_pos (show sp_w p0 (-1000) 1000 from ⟨Int32.not_lt.mp c_1, c_2⟩), if_neg c_1, if_pos c_2] <;> rfl) (by simp only [sp_wind, if_pos (show sp_w p0 (-1000) 1000 from ⟨Int32.not_lt.mp c_1, c_2⟩), if_neg c_1, if_pos c_2] <;> rfl)
    · refine lv_aload_n hx hb dX3_wind_14 rfl (lv_at hl 0 rfl) ?_
      refine lv_iconst (v := 1) hx hb dX3_wind_15 (by decide) ?_
      refine lv_aload_n hx hb dX3_wind_16 rfl (lv_at hl 0 rfl) ?_
      refine zw_getf (r := (20, 0, 0)) (v := .int (σ (0, 0, 0) 2)) (C := RX3) (T := TX3) (N := 17) (ci := 3) hx hb hts hwX3 hown hK hP (hM 0 (by decide)) rfl rfl 5 (by decide) (hts (.fieldLink RX3 56 "FourTrackDeckModel" "p" "I") (by decide +kernel)) (fun _ h9 => h9) rfl dX3_wind_17 ?_
      refine zw_cV (r := (20, 0, 0)) (As := [.int 1, .int (σ (0, 0, 0) 2)]) (rest := []) (st1 := [.int (σ (0, 0, 0) 2)]) ⟨hx, hb, hml, hown, hts⟩ (cm_fails (σ := σ) hM 1 (σ (0, 0, 0) 2)) (cwV 2 hts gX3_wind_X3_fails rfl rfl rfl (by decide +kernel) ⟨Nat.le_of_ble_eq_true rfl, Nat.le_of_ble_eq_true rfl⟩) (hM 0 (by decide)) rfl rfl rfl hK hP hD hS hA hN rfl hl.1 rfl (Nat.le_of_ble_eq_true rfl) rfl dX3_wind_20 ⟨Nat.zero_le _, Nat.zero_le _⟩ (fun H locs hP hD hS => ?_)
      exact zw_iret hx hb hr hlk hK hP hD hS dX3_wind_23 (by simp only [sp_wind, if_neg (show ¬ sp_w p0 (-1000) 1000 from fun q => c_2 q.2), if_neg c_1, if_neg c_2] <;> rfl) (by simp only [sp_wind, if_neg (show ¬ sp_w p0 (-1000) 1000 from fun q => c_2 q.2), if_neg c_1, if_neg c_2] <;> rfl)
set_option maxHeartbeats 4000000 in
set_option maxRecDepth 100000 in
theorem cm_read {l : Launch} {dC : Nat → ClassId} {dI : Nat → Nat → Nat} {cA : Nat → ClassId} {ad : zw_R → Nat} {R : List zw_R} {nr : Nat} {len : Nat → Nat} {σ : sp_S} {cD : zw_R → va_E} (hM : zm_R R) (hnr : nr ≤ 8) (hlen : ∀ i, i < nr → len i ≤ 64) (hod : σ (0, 0, 0) 1 = -1 ∨ sp_r nr (σ (0, 0, 0) 1)) (p0 : Int32) : zw_M l yX3_read wsX3_read { frames := 3, cells := 0, slots := 0, locals := 66 } (ze_E dC dI cA) [.ref (ad (20, 0, 0)), .int p0] ad R (ze_X cD (ze_M cA ad len σ)) (some (.int ((sp_read nr len σ p0).1))) (ze_X cD (ze_M cA ad len (sp_read nr len σ p0).2)) := by
  refine zw_body (cc := cX3_read) (maxL := 3) (ret := (some .int)) (by decide) rfl (Nat.le_of_ble_eq_true rfl) ?_
  intro p e s m below meth c A ls hx hb hr hlk hml hts hown hnm hA hK hP hD hS hN hl
  have hl : lv_has ls 3 [(0, .ref (ad (20, 0, 0))), (1, .int p0)] := hl
  have hwX3 : ∀ w ∈ u_ws RX3 TX3 17, w ∈ wsX3_read := by decide +kernel
  refine lv_aload_n hx hb dX3_read_0 rfl (lv_at hl 0 rfl) ?_
  refine lv_iload_n hx hb dX3_read_1 rfl (lv_at hl 1 rfl) ?_
  rcases Decidable.em (sp_v nr (σ (0, 0, 0) 1) p0) with h_1 | h_1
  · refine zw_cV (r := (20, 0, 0)) (As := [.int p0]) (rest := []) (st1 := [.int (sp_f len σ (σ (0, 0, 0) 1).toNatClampNeg p0.toNatClampNeg (σ (0, 0, 0) 2 + σ (2, 0, 0) p0.toNatClampNeg))]) ⟨hx, hb, hml, hown, hts⟩ (cm_headFault_v (σ := σ) hM hnr p0 h_1) (cwV 1 hts gX3_read_X3_headFault rfl rfl rfl (by decide +kernel) ⟨Nat.le_of_ble_eq_true rfl, Nat.le_of_ble_eq_true rfl⟩) (hM 0 (by decide)) rfl rfl rfl hK hP hD hS hA hN rfl hl.1 rfl (Nat.le_of_ble_eq_true rfl) rfl dX3_read_2 ⟨Nat.zero_le _, Nat.zero_le _⟩ (fun H locs hP hD hS => ?_)
    refine lv_istore_n (lv' := [(2, .int (sp_f len σ (σ (0, 0, 0) 1).toNatClampNeg p0.toNatClampNeg (σ (0, 0, 0) 2 + σ (2, 0, 0) p0.toNatClampNeg))), (0, .ref (ad (20, 0, 0))), (1, .int p0)]) hx hb dX3_read_5 rfl hl (by decide) rfl (fun ls hl => ?_)
    refine lv_iload_n hx hb dX3_read_6 rfl (lv_at hl 0 rfl) ?_
    refine lv_if_eq (tgt := 17) hx hb dX3_read_7 (by decide) (fun c_2 => ?_) (fun c_2 => ?_)
    · refine lv_aload_n hx hb dX3_read_17 rfl (lv_at hl 1 rfl) ?_
      refine lv_aload_n hx hb dX3_read_18 rfl (lv_at hl 1 rfl) ?_
      refine zw_getf (r := (20, 0, 0)) (v := .ref (ad (23, 0, 0))) (C := RX3) (T := TX3) (N := 17) (ci := 3) hx hb hts hwX3 hown hK hP (hM 0 (by decide)) rfl rfl 3 (by decide) (hts (.fieldLink RX3 16 "FourTrackDeckModel" "number" "[I") (by decide +kernel)) (fun _ h9 => h9) rfl dX3_read_19 ?_
      refine lv_aload_n hx hb dX3_read_22 rfl (lv_at hl 1 rfl) ?_
      refine lv_aload_n hx hb dX3_read_23 rfl (lv_at hl 1 rfl) ?_
      refine zw_getf (r := (20, 0, 0)) (v := .int (σ (0, 0, 0) 1)) (C := RX3) (T := TX3) (N := 17) (ci := 3) hx hb hts hwX3 hown hK hP (hM 0 (by decide)) rfl rfl 4 (by decide) (hts (.fieldLink RX3 19 "FourTrackDeckModel" "onDeck" "I") (by decide +kernel)) (fun _ h9 => h9) rfl dX3_read_24 ?_
      refine lv_iload_n hx hb dX3_read_27 rfl (lv_at hl 2 rfl) ?_
      refine lv_aload_n hx hb dX3_read_28 rfl (lv_at hl 1 rfl) ?_
      refine lv_iload_n hx hb dX3_read_29 rfl (lv_at hl 2 rfl) ?_
      refine zw_cV (r := (20, 0, 0)) (As := [.int p0]) (rest := [.int p0, .int (σ (0, 0, 0) 1), .ref (ad (20, 0, 0)), .ref (ad (23, 0, 0)), .ref (ad (20, 0, 0))]) (st1 := [.int (σ (0, 0, 0) 2 + σ (2, 0, 0) p0.toNatClampNeg), .int p0, .int (σ (0, 0, 0) 1), .ref (ad (20, 0, 0)), .ref (ad (23, 0, 0)), .ref (ad (20, 0, 0))]) ⟨hx, hb, hml, hown, hts⟩ (cm_place (σ := σ) hM p0 h_1.2) (cwV 1 hts gX3_read_X3_place rfl rfl rfl (by decide +kernel) ⟨Nat.le_of_ble_eq_true rfl, Nat.le_of_ble_eq_true rfl⟩) (hM 0 (by decide)) rfl rfl rfl hK hP hD hS hA hN rfl hl.1 rfl (Nat.le_of_ble_eq_true rfl) rfl dX3_read_30 ⟨Nat.zero_le _, Nat.zero_le _⟩ (fun H locs hP hD hS => ?_)
      refine zw_cV (r := (20, 0, 0)) (As := [.int (σ (0, 0, 0) 1), .int p0, .int (σ (0, 0, 0) 2 + σ (2, 0, 0) p0.toNatClampNeg)]) (rest := [.ref (ad (23, 0, 0)), .ref (ad (20, 0, 0))]) (st1 := [.int ((4 * (σ (0, 0, 0) 1) + p0) * 64 + (σ (0, 0, 0) 2 + σ (2, 0, 0) p0.toNatClampNeg)), .ref (ad (23, 0, 0)), .ref (ad (20, 0, 0))]) ⟨hx, hb, hml, hown, hts⟩ (cm_at (σ := σ) (σ (0, 0, 0) 1) p0 (σ (0, 0, 0) 2 + σ (2, 0, 0) p0.toNatClampNeg)) (cwV 3 hts gX3_read_X3_at rfl rfl rfl (by decide +kernel) ⟨Nat.le_of_ble_eq_true rfl, Nat.le_of_ble_eq_true rfl⟩) (hM 0 (by decide)) rfl rfl rfl hK hP hD hS hA hN rfl hl.1 rfl (Nat.le_of_ble_eq_true rfl) rfl dX3_read_33 ⟨Nat.zero_le _, Nat.zero_le _⟩ (fun H locs hP hD hS => ?_)
      refine zw_ialdv (r := (23, 0, 0)) (v := (σ (9, (σ (0, 0, 0) 1).toNatClampNeg, p0.toNatClampNeg) (σ (0, 0, 0) 2 + σ (2, 0, 0) p0.toNatClampNeg).toNatClampNeg)) hx hb hK hP (hM 3 (by decide)) 0 rfl rfl (zm_at h_1.1 hnr h_1.2 (ze_fi (hlen _ (ze_vr h_1.1 hnr)) c_2) (hlen _ (ze_vr h_1.1 hnr))).2.1 (zm_rd h_1.1 hnr h_1.2 (ze_fi (hlen _ (ze_vr h_1.1 hnr)) c_2) (hlen _ (ze_vr h_1.1 hnr))) dX3_read_36 ?_
      refine zw_cV (r := (20, 0, 0)) (As := [.int (σ (9, (σ (0, 0, 0) 1).toNatClampNeg, p0.toNatClampNeg) (σ (0, 0, 0) 2 + σ (2, 0, 0) p0.toNatClampNeg).toNatClampNeg)]) (rest := []) (st1 := [.int (σ (9, (σ (0, 0, 0) 1).toNatClampNeg, p0.toNatClampNeg) (σ (0, 0, 0) 2 + σ (2, 0, 0) p0.toNatClampNeg).toNatClampNeg)]) ⟨hx, hb, hml, hown, hts⟩ (cm_done (σ := σ) hM (σ (9, (σ (0, 0, 0) 1).toNatClampNeg, p0.toNatClampNeg) (σ (0, 0, 0) 2 + σ (2, 0, 0) p0.toNatClampNeg).toNatClampNeg)) (cwV 1 hts gX3_read_X3_done rfl rfl rfl (by decide +kernel) ⟨Nat.le_of_ble_eq_true rfl, Nat.le_of_ble_eq_true rfl⟩) (hM 0 (by decide)) rfl rfl rfl hK hP hD hS hA hN rfl hl.1 rfl (Nat.le_of_ble_eq_true rfl) rfl dX3_read_37 ⟨Nat.zero_le _, Nat.zero_le _⟩ (fun H locs hP hD hS => ?_)
      exact zw_iret hx hb hr hlk hK hP hD hS dX3_read_40 (by simp only [sp_read, sp_n, if_pos h_1, if_pos c_2, c_2, ↓reduceIte] <;> rfl) (by simp only [sp_read, sp_n, if_pos h_1, if_pos c_2, c_2, ↓reduceIte] <;> rfl)
    · refine lv_aload_n hx hb dX3_read_10 rfl (lv_at hl 1 rfl) ?_
      refine lv_iload_n hx hb dX3_read_11 rfl (lv_at hl 0 rfl) ?_
      refine lv_iconst (v := 0) hx hb dX3_read_12 (by decide) ?_
      refine zw_cV (r := (20, 0, 0)) (As := [.int (sp_f len σ (σ (0, 0, 0) 1).toNatClampNeg p0.toNatClampNeg (σ (0, 0, 0) 2 + σ (2, 0, 0) p0.toNatClampNeg)), .int 0]) (rest := []) (st1 := [.int 0]) ⟨hx, hb, hml, hown, hts⟩ (cm_fails (σ := σ) hM (sp_f len σ (σ (0, 0, 0) 1).toNatClampNeg p0.toNatClampNeg (σ (0, 0, 0) 2 + σ (2, 0, 0) p0.toNatClampNeg)) 0) (cwV 2 hts gX3_read_X3_fails rfl rfl rfl (by decide +kernel) ⟨Nat.le_of_ble_eq_true rfl, Nat.le_of_ble_eq_true rfl⟩) (hM 0 (by decide)) rfl rfl rfl hK hP hD hS hA hN rfl hl.1 rfl (Nat.le_of_ble_eq_true rfl) rfl dX3_read_13 ⟨Nat.zero_le _, Nat.zero_le _⟩ (fun H locs hP hD hS => ?_)
      exact zw_iret hx hb hr hlk hK hP hD hS dX3_read_16 (by simp only [sp_read, sp_n, if_pos h_1, if_neg c_2, ↓reduceIte] <;> rfl) (by simp only [sp_read, sp_n, if_pos h_1, if_neg c_2, ↓reduceIte] <;> rfl)
  rcases Decidable.em (sp_t p0) with h_3 | h_3
  · refine zw_cV (r := (20, 0, 0)) (As := [.int p0]) (rest := []) (st1 := [.int 5]) ⟨hx, hb, hml, hown, hts⟩ (cm_headFault_5 (σ := σ) hM p0 h_3 (hod.resolve_right (fun q => h_1 ⟨q, h_3⟩))) (cwV 1 hts gX3_read_X3_headFault rfl rfl rfl (by decide +kernel) ⟨Nat.le_of_ble_eq_true rfl, Nat.le_of_ble_eq_true rfl⟩) (hM 0 (by decide)) rfl rfl rfl hK hP hD hS hA hN rfl hl.1 rfl (Nat.le_of_ble_eq_true rfl) rfl dX3_read_2 ⟨Nat.zero_le _, Nat.zero_le _⟩ (fun H locs hP hD hS => ?_)
    refine lv_istore_n (lv' := [(2, .int 5), (0, .ref (ad (20, 0, 0))), (1, .int p0)]) hx hb dX3_read_5 rfl hl (by decide) rfl (fun ls hl => ?_)
    refine lv_iload_n hx hb dX3_read_6 rfl (lv_at hl 0 rfl) ?_
    refine lv_if_eq (tgt := 17) hx hb dX3_read_7 (by decide) (fun c_4 => absurd c_4 (by decide)) (fun c_4 => ?_)
    refine lv_aload_n hx hb dX3_read_10 rfl (lv_at hl 1 rfl) ?_
    refine lv_iload_n hx hb dX3_read_11 rfl (lv_at hl 0 rfl) ?_
    refine lv_iconst (v := 0) hx hb dX3_read_12 (by decide) ?_
    refine zw_cV (r := (20, 0, 0)) (As := [.int 5, .int 0]) (rest := []) (st1 := [.int 0]) ⟨hx, hb, hml, hown, hts⟩ (cm_fails (σ := σ) hM 5 0) (cwV 2 hts gX3_read_X3_fails rfl rfl rfl (by decide +kernel) ⟨Nat.le_of_ble_eq_true rfl, Nat.le_of_ble_eq_true rfl⟩) (hM 0 (by decide)) rfl rfl rfl hK hP hD hS hA hN rfl hl.1 rfl (Nat.le_of_ble_eq_true rfl) rfl dX3_read_13 ⟨Nat.zero_le _, Nat.zero_le _⟩ (fun H locs hP hD hS => ?_)
    exact zw_iret hx hb hr hlk hK hP hD hS dX3_read_16 (by simp only [sp_read, sp_n, if_neg h_1, if_pos h_3, ↓reduceIte] <;> rfl) (by simp only [sp_read, sp_n, if_neg h_1, if_pos h_3, ↓reduceIte] <;> rfl)
  · refine zw_cV (r := (20, 0, 0)) (As := [.int p0]) (rest := []) (st1 := [.int 1]) ⟨hx, hb, hml, hown, hts⟩ (cm_headFault_1 (σ := σ) hM p0 h_3) (cwV 1 hts gX3_read_X3_headFault rfl rfl rfl (by decide +kernel) ⟨Nat.le_of_ble_eq_true rfl, Nat.le_of_ble_eq_true rfl⟩) (hM 0 (by decide)) rfl rfl rfl hK hP hD hS hA hN rfl hl.1 rfl (Nat.le_of_ble_eq_true rfl) rfl dX3_read_2 ⟨Nat.zero_le _, Nat.zero_le _⟩ (fun H locs hP hD hS => ?_)
    refine lv_istore_n (lv' := [(2, .int 1), (0, .ref (ad (20, 0, 0))), (1, .int p0)]) hx hb dX3_read_5 rfl hl (by decide) rfl (fun ls hl => ?_)
    refine lv_iload_n hx hb dX3_read_6 rfl (lv_at hl 0 rfl) ?_
    refine lv_if_eq (tgt := 17) hx hb dX3_read_7 (by decide) (fun c_5 => absurd c_5 (by decide)) (fun c_5 => ?_)
    refine lv_aload_n hx hb dX3_read_10 rfl (lv_at hl 1 rfl) ?_
    refine lv_iload_n hx hb dX3_read_11 rfl (lv_at hl 0 rfl) ?_
    refine lv_iconst (v := 0) hx hb dX3_read_12 (by decide) ?_
    refine zw_cV (r := (20, 0, 0)) (As := [.int 1, .int 0]) (rest := []) (st1 := [.int 0]) ⟨hx, hb, hml, hown, hts⟩ (cm_fails (σ := σ) hM 1 0) (cwV 2 hts gX3_read_X3_fails rfl rfl rfl (by decide +kernel) ⟨Nat.le_of_ble_eq_true rfl, Nat.le_of_ble_eq_true rfl⟩) (hM 0 (by decide)) rfl rfl rfl hK hP hD hS hA hN rfl hl.1 rfl (Nat.le_of_ble_eq_true rfl) rfl dX3_read_13 ⟨Nat.zero_le _, Nat.zero_le _⟩ (fun H locs hP hD hS => ?_)
    exact zw_iret hx hb hr hlk hK hP hD hS dX3_read_16 (by simp only [sp_read, sp_n, if_neg h_1, if_neg h_3, ↓reduceIte] <;> rfl) (by simp only [sp_read, sp_n, if_neg h_1, if_neg h_3, ↓reduceIte] <;> rfl)
set_option maxHeartbeats 4000000 in
set_option maxRecDepth 100000 in
theorem cm_write {l : Launch} {dC : Nat → ClassId} {dI : Nat → Nat → Nat} {cA : Nat → ClassId} {ad : zw_R → Nat} {R : List zw_R} {nr : Nat} {len : Nat → Nat} {σ : sp_S} {cD : zw_R → va_E} (hM : zm_R R) (hnr : nr ≤ 8) (hlen : ∀ i, i < nr → len i ≤ 64) (hod : σ (0, 0, 0) 1 = -1 ∨ sp_r nr (σ (0, 0, 0) 1)) (p0 p1 : Int32) : zw_M l yX3_write wsX3_write { frames := 3, cells := 0, slots := 0, locals := 66 } (ze_E dC dI cA) [.ref (ad (20, 0, 0)), .int p0, .int p1] ad R (ze_X cD (ze_M cA ad len σ)) (some (.int ((sp_write nr len σ p0 p1).1))) (ze_X cD (ze_M cA ad len (sp_write nr len σ p0 p1).2)) := by
  refine zw_body (cc := cX3_write) (maxL := 4) (ret := (some .int)) (by decide) rfl (Nat.le_of_ble_eq_true rfl) ?_
  intro p e s m below meth c A ls hx hb hr hlk hml hts hown hnm hA hK hP hD hS hN hl
  have hl : lv_has ls 4 [(0, .ref (ad (20, 0, 0))), (1, .int p0), (2, .int p1)] := hl
  have hwX3 : ∀ w ∈ u_ws RX3 TX3 17, w ∈ wsX3_write := by decide +kernel
  refine lv_aload_n hx hb dX3_write_0 rfl (lv_at hl 0 rfl) ?_
  refine lv_iload_n hx hb dX3_write_1 rfl (lv_at hl 1 rfl) ?_
  rcases Decidable.em (sp_v nr (σ (0, 0, 0) 1) p0) with h_1 | h_1
  · refine zw_cV (r := (20, 0, 0)) (As := [.int p0]) (rest := []) (st1 := [.int (sp_f len σ (σ (0, 0, 0) 1).toNatClampNeg p0.toNatClampNeg (σ (0, 0, 0) 2 + σ (2, 0, 0) p0.toNatClampNeg))]) ⟨hx, hb, hml, hown, hts⟩ (cm_headFault_v (σ := σ) hM hnr p0 h_1) (cwV 1 hts gX3_write_X3_headFault rfl rfl rfl (by decide +kernel) ⟨Nat.le_of_ble_eq_true rfl, Nat.le_of_ble_eq_true rfl⟩) (hM 0 (by decide)) rfl rfl rfl hK hP hD hS hA hN rfl hl.1 rfl (Nat.le_of_ble_eq_true rfl) rfl dX3_write_2 ⟨Nat.zero_le _, Nat.zero_le _⟩ (fun H locs hP hD hS => ?_)
    refine lv_istore_n (lv' := [(3, .int (sp_f len σ (σ (0, 0, 0) 1).toNatClampNeg p0.toNatClampNeg (σ (0, 0, 0) 2 + σ (2, 0, 0) p0.toNatClampNeg))), (0, .ref (ad (20, 0, 0))), (1, .int p0), (2, .int p1)]) hx hb dX3_write_5 rfl hl (by decide) rfl (fun ls hl => ?_)
    refine lv_iload_n hx hb dX3_write_6 rfl (lv_at hl 0 rfl) ?_
    refine lv_if_eq (tgt := 17) hx hb dX3_write_7 (by decide) (fun c_2 => ?_) (fun c_2 => ?_)
    · refine lv_aload_n hx hb dX3_write_17 rfl (lv_at hl 1 rfl) ?_
      refine zw_getf (r := (20, 0, 0)) (v := .ref (ad (23, 0, 0))) (C := RX3) (T := TX3) (N := 17) (ci := 3) hx hb hts hwX3 hown hK hP (hM 0 (by decide)) rfl rfl 3 (by decide) (hts (.fieldLink RX3 16 "FourTrackDeckModel" "number" "[I") (by decide +kernel)) (fun _ h9 => h9) rfl dX3_write_18 ?_
      refine lv_aload_n hx hb dX3_write_21 rfl (lv_at hl 1 rfl) ?_
      refine lv_aload_n hx hb dX3_write_22 rfl (lv_at hl 1 rfl) ?_
      refine zw_getf (r := (20, 0, 0)) (v := .int (σ (0, 0, 0) 1)) (C := RX3) (T := TX3) (N := 17) (ci := 3) hx hb hts hwX3 hown hK hP (hM 0 (by decide)) rfl rfl 4 (by decide) (hts (.fieldLink RX3 19 "FourTrackDeckModel" "onDeck" "I") (by decide +kernel)) (fun _ h9 => h9) rfl dX3_write_23 ?_
      refine lv_iload_n hx hb dX3_write_26 rfl (lv_at hl 2 rfl) ?_
      refine lv_aload_n hx hb dX3_write_27 rfl (lv_at hl 1 rfl) ?_
      refine lv_iload_n hx hb dX3_write_28 rfl (lv_at hl 2 rfl) ?_
      refine zw_cV (r := (20, 0, 0)) (As := [.int p0]) (rest := [.int p0, .int (σ (0, 0, 0) 1), .ref (ad (20, 0, 0)), .ref (ad (23, 0, 0))]) (st1 := [.int (σ (0, 0, 0) 2 + σ (2, 0, 0) p0.toNatClampNeg), .int p0, .int (σ (0, 0, 0) 1), .ref (ad (20, 0, 0)), .ref (ad (23, 0, 0))]) ⟨hx, hb, hml, hown, hts⟩ (cm_place (σ := σ) hM p0 h_1.2) (cwV 1 hts gX3_write_X3_place rfl rfl rfl (by decide +kernel) ⟨Nat.le_of_ble_eq_true rfl, Nat.le_of_ble_eq_true rfl⟩) (hM 0 (by decide)) rfl rfl rfl hK hP hD hS hA hN rfl hl.1 rfl (Nat.le_of_ble_eq_true rfl) rfl dX3_write_29 ⟨Nat.zero_le _, Nat.zero_le _⟩ (fun H locs hP hD hS => ?_)
      refine zw_cV (r := (20, 0, 0)) (As := [.int (σ (0, 0, 0) 1), .int p0, .int (σ (0, 0, 0) 2 + σ (2, 0, 0) p0.toNatClampNeg)]) (rest := [.ref (ad (23, 0, 0))]) (st1 := [.int ((4 * (σ (0, 0, 0) 1) + p0) * 64 + (σ (0, 0, 0) 2 + σ (2, 0, 0) p0.toNatClampNeg)), .ref (ad (23, 0, 0))]) ⟨hx, hb, hml, hown, hts⟩ (cm_at (σ := σ) (σ (0, 0, 0) 1) p0 (σ (0, 0, 0) 2 + σ (2, 0, 0) p0.toNatClampNeg)) (cwV 3 hts gX3_write_X3_at rfl rfl rfl (by decide +kernel) ⟨Nat.le_of_ble_eq_true rfl, Nat.le_of_ble_eq_true rfl⟩) (hM 0 (by decide)) rfl rfl rfl hK hP hD hS hA hN rfl hl.1 rfl (Nat.le_of_ble_eq_true rfl) rfl dX3_write_32 ⟨Nat.zero_le _, Nat.zero_le _⟩ (fun H locs hP hD hS => ?_)
      refine lv_aload_n hx hb dX3_write_35 rfl (lv_at hl 1 rfl) ?_
      refine lv_iload_n hx hb dX3_write_36 rfl (lv_at hl 2 rfl) ?_
      refine lv_iload_n hx hb dX3_write_37 rfl (lv_at hl 3 rfl) ?_
      refine zw_cV (r := (20, 0, 0)) (As := [.int p0, .int p1]) (rest := [.int ((4 * (σ (0, 0, 0) 1) + p0) * 64 + (σ (0, 0, 0) 2 + σ (2, 0, 0) p0.toNatClampNeg)), .ref (ad (23, 0, 0))]) (st1 := [.int (sp_as p0.toNatClampNeg p1), .int ((4 * (σ (0, 0, 0) 1) + p0) * 64 + (σ (0, 0, 0) 2 + σ (2, 0, 0) p0.toNatClampNeg)), .ref (ad (23, 0, 0))]) ⟨hx, hb, hml, hown, hts⟩ (cm_fit (σ := σ) p0 p1 h_1.2) (cwV 2 hts gX3_write_X3_fit rfl rfl rfl (by decide +kernel) ⟨Nat.le_of_ble_eq_true rfl, Nat.le_of_ble_eq_true rfl⟩) (hM 0 (by decide)) rfl rfl rfl hK hP hD hS hA hN rfl hl.1 rfl (Nat.le_of_ble_eq_true rfl) rfl dX3_write_38 ⟨Nat.zero_le _, Nat.zero_le _⟩ (fun H locs hP hD hS => ?_)
      refine zw_iast (r := (23, 0, 0)) hx hb hK hP hD hS (hM 3 (by decide)) 0 rfl rfl (zm_at h_1.1 hnr h_1.2 (ze_fi (hlen _ (ze_vr h_1.1 hnr)) c_2) (hlen _ (ze_vr h_1.1 hnr))).2.1 dX3_write_41 (cu1 := ze_X cD (ze_M cA ad len (sp_s σ (9, (σ (0, 0, 0) 1).toNatClampNeg, p0.toNatClampNeg) (σ (0, 0, 0) 2 + σ (2, 0, 0) p0.toNatClampNeg).toNatClampNeg (sp_as p0.toNatClampNeg p1)))) (zm_N (zm_at h_1.1 hnr h_1.2 (ze_fi (hlen _ (ze_vr h_1.1 hnr)) c_2) (hlen _ (ze_vr h_1.1 hnr))).1 (ze_vt h_1.2) (zm_at h_1.1 hnr h_1.2 (ze_fi (hlen _ (ze_vr h_1.1 hnr)) c_2) (hlen _ (ze_vr h_1.1 hnr))).2.2) (fun H locs hP hD hS => ?_)
      refine lv_aload_n hx hb dX3_write_42 rfl (lv_at hl 1 rfl) ?_
      refine lv_aload_n hx hb dX3_write_43 rfl (lv_at hl 1 rfl) ?_
      refine lv_iload_n hx hb dX3_write_44 rfl (lv_at hl 2 rfl) ?_
      refine lv_iload_n hx hb dX3_write_45 rfl (lv_at hl 3 rfl) ?_
      refine zw_cV (r := (20, 0, 0)) (As := [.int p0, .int p1]) (rest := [.ref (ad (20, 0, 0))]) (st1 := [.int (sp_as p0.toNatClampNeg p1), .ref (ad (20, 0, 0))]) ⟨hx, hb, hml, hown, hts⟩ (cm_fit (σ := (sp_s σ (9, (σ (0, 0, 0) 1).toNatClampNeg, p0.toNatClampNeg) (σ (0, 0, 0) 2 + σ (2, 0, 0) p0.toNatClampNeg).toNatClampNeg (sp_as p0.toNatClampNeg p1))) p0 p1 h_1.2) (cwV 2 hts gX3_write_X3_fit rfl rfl rfl (by decide +kernel) ⟨Nat.le_of_ble_eq_true rfl, Nat.le_of_ble_eq_true rfl⟩) (hM 0 (by decide)) rfl rfl rfl hK hP hD hS hA hN rfl hl.1 rfl (Nat.le_of_ble_eq_true rfl) rfl dX3_write_46 ⟨Nat.zero_le _, Nat.zero_le _⟩ (fun H locs hP hD hS => ?_)
      refine zw_cV (r := (20, 0, 0)) (As := [.int (sp_as p0.toNatClampNeg p1)]) (rest := []) (st1 := [.int (sp_as p0.toNatClampNeg p1)]) ⟨hx, hb, hml, hown, hts⟩ (cm_done (σ := (sp_s σ (9, (σ (0, 0, 0) 1).toNatClampNeg, p0.toNatClampNeg) (σ (0, 0, 0) 2 + σ (2, 0, 0) p0.toNatClampNeg).toNatClampNeg (sp_as p0.toNatClampNeg p1))) hM (sp_as p0.toNatClampNeg p1)) (cwV 1 hts gX3_write_X3_done rfl rfl rfl (by decide +kernel) ⟨Nat.le_of_ble_eq_true rfl, Nat.le_of_ble_eq_true rfl⟩) (hM 0 (by decide)) rfl rfl rfl hK hP hD hS hA hN rfl hl.1 rfl (Nat.le_of_ble_eq_true rfl) rfl dX3_write_49 ⟨Nat.zero_le _, Nat.zero_le _⟩ (fun H locs hP hD hS => ?_)
      exact zw_iret hx hb hr hlk hK hP hD hS dX3_write_52 (by rw [sp_write_1 h_1 c_2]) (by rw [sp_write_1 h_1 c_2])
    · refine lv_aload_n hx hb dX3_write_10 rfl (lv_at hl 1 rfl) ?_
      refine lv_iload_n hx hb dX3_write_11 rfl (lv_at hl 0 rfl) ?_
      refine lv_iconst (v := 0) hx hb dX3_write_12 (by decide) ?_
      refine zw_cV (r := (20, 0, 0)) (As := [.int (sp_f len σ (σ (0, 0, 0) 1).toNatClampNeg p0.toNatClampNeg (σ (0, 0, 0) 2 + σ (2, 0, 0) p0.toNatClampNeg)), .int 0]) (rest := []) (st1 := [.int 0]) ⟨hx, hb, hml, hown, hts⟩ (cm_fails (σ := σ) hM (sp_f len σ (σ (0, 0, 0) 1).toNatClampNeg p0.toNatClampNeg (σ (0, 0, 0) 2 + σ (2, 0, 0) p0.toNatClampNeg)) 0) (cwV 2 hts gX3_write_X3_fails rfl rfl rfl (by decide +kernel) ⟨Nat.le_of_ble_eq_true rfl, Nat.le_of_ble_eq_true rfl⟩) (hM 0 (by decide)) rfl rfl rfl hK hP hD hS hA hN rfl hl.1 rfl (Nat.le_of_ble_eq_true rfl) rfl dX3_write_13 ⟨Nat.zero_le _, Nat.zero_le _⟩ (fun H locs hP hD hS => ?_)
      exact zw_iret hx hb hr hlk hK hP hD hS dX3_write_16 (by rw [sp_write_0 h_1 c_2]) (by rw [sp_write_0 h_1 c_2])
  rcases Decidable.em (sp_t p0) with h_3 | h_3
  · refine zw_cV (r := (20, 0, 0)) (As := [.int p0]) (rest := []) (st1 := [.int 5]) ⟨hx, hb, hml, hown, hts⟩ (cm_headFault_5 (σ := σ) hM p0 h_3 (hod.resolve_right (fun q => h_1 ⟨q, h_3⟩))) (cwV 1 hts gX3_write_X3_headFault rfl rfl rfl (by decide +kernel) ⟨Nat.le_of_ble_eq_true rfl, Nat.le_of_ble_eq_true rfl⟩) (hM 0 (by decide)) rfl rfl rfl hK hP hD hS hA hN rfl hl.1 rfl (Nat.le_of_ble_eq_true rfl) rfl dX3_write_2 ⟨Nat.zero_le _, Nat.zero_le _⟩ (fun H locs hP hD hS => ?_)
    refine lv_istore_n (lv' := [(3, .int 5), (0, .ref (ad (20, 0, 0))), (1, .int p0), (2, .int p1)]) hx hb dX3_write_5 rfl hl (by decide) rfl (fun ls hl => ?_)
    refine lv_iload_n hx hb dX3_write_6 rfl (lv_at hl 0 rfl) ?_
    refine lv_if_eq (tgt := 17) hx hb dX3_write_7 (by decide) (fun c_4 => absurd c_4 (by decide)) (fun c_4 => ?_)
    refine lv_aload_n hx hb dX3_write_10 rfl (lv_at hl 1 rfl) ?_
    refine lv_iload_n hx hb dX3_write_11 rfl (lv_at hl 0 rfl) ?_
    refine lv_iconst (v := 0) hx hb dX3_write_12 (by decide) ?_
    refine zw_cV (r := (20, 0, 0)) (As := [.int 5, .int 0]) (rest := []) (st1 := [.int 0]) ⟨hx, hb, hml, hown, hts⟩ (cm_fails (σ := σ) hM 5 0) (cwV 2 hts gX3_write_X3_fails rfl rfl rfl (by decide +kernel) ⟨Nat.le_of_ble_eq_true rfl, Nat.le_of_ble_eq_true rfl⟩) (hM 0 (by decide)) rfl rfl rfl hK hP hD hS hA hN rfl hl.1 rfl (Nat.le_of_ble_eq_true rfl) rfl dX3_write_13 ⟨Nat.zero_le _, Nat.zero_le _⟩ (fun H locs hP hD hS => ?_)
    exact zw_iret hx hb hr hlk hK hP hD hS dX3_write_16 (by simp only [sp_write, if_neg h_1, if_pos h_3] <;> rfl) (by simp only [sp_write, if_neg h_1, if_pos h_3] <;> rfl)
  · refine zw_cV (r := (20, 0, 0)) (As := [.int p0]) (rest := []) (st1 := [.int 1]) ⟨hx, hb, hml, hown, hts⟩ (cm_headFault_1 (σ := σ) hM p0 h_3) (cwV 1 hts gX3_write_X3_headFault rfl rfl rfl (by decide +kernel) ⟨Nat.le_of_ble_eq_true rfl, Nat.le_of_ble_eq_true rfl⟩) (hM 0 (by decide)) rfl rfl rfl hK hP hD hS hA hN rfl hl.1 rfl (Nat.le_of_ble_eq_true rfl) rfl dX3_write_2 ⟨Nat.zero_le _, Nat.zero_le _⟩ (fun H locs hP hD hS => ?_)
    refine lv_istore_n (lv' := [(3, .int 1), (0, .ref (ad (20, 0, 0))), (1, .int p0), (2, .int p1)]) hx hb dX3_write_5 rfl hl (by decide) rfl (fun ls hl => ?_)
    refine lv_iload_n hx hb dX3_write_6 rfl (lv_at hl 0 rfl) ?_
    refine lv_if_eq (tgt := 17) hx hb dX3_write_7 (by decide) (fun c_5 => absurd c_5 (by decide)) (fun c_5 => ?_)
    refine lv_aload_n hx hb dX3_write_10 rfl (lv_at hl 1 rfl) ?_
    refine lv_iload_n hx hb dX3_write_11 rfl (lv_at hl 0 rfl) ?_
    refine lv_iconst (v := 0) hx hb dX3_write_12 (by decide) ?_
    refine zw_cV (r := (20, 0, 0)) (As := [.int 1, .int 0]) (rest := []) (st1 := [.int 0]) ⟨hx, hb, hml, hown, hts⟩ (cm_fails (σ := σ) hM 1 0) (cwV 2 hts gX3_write_X3_fails rfl rfl rfl (by decide +kernel) ⟨Nat.le_of_ble_eq_true rfl, Nat.le_of_ble_eq_true rfl⟩) (hM 0 (by decide)) rfl rfl rfl hK hP hD hS hA hN rfl hl.1 rfl (Nat.le_of_ble_eq_true rfl) rfl dX3_write_13 ⟨Nat.zero_le _, Nat.zero_le _⟩ (fun H locs hP hD hS => ?_)
    exact zw_iret hx hb hr hlk hK hP hD hS dX3_write_16 (by simp only [sp_write, if_neg h_1, if_neg h_3] <;> rfl) (by simp only [sp_write, if_neg h_1, if_neg h_3] <;> rfl)
set_option maxHeartbeats 4000000 in
set_option maxRecDepth 100000 in
theorem cm_cellFault {l : Launch} {dC : Nat → ClassId} {dI : Nat → Nat → Nat} {cA : Nat → ClassId} {ad : zw_R → Nat} {R : List zw_R} {len : Nat → Nat} {σ : sp_S} {cD : zw_R → va_E} (hM : zm_R R) (p0 p1 : Int32) : zw_M l yX3_cellFault wsX3_cellFault { frames := 0, cells := 0, slots := 0, locals := 0 } (ze_E dC dI cA) [.ref (ad (20, 0, 0)), .int p0, .int p1] ad R (ze_X cD (ze_M cA ad len σ)) (some (.int (sp_c σ p0 p1))) (ze_X cD (ze_M cA ad len σ)) := by
  refine zw_body (cc := cX3_cellFault) (maxL := 3) (ret := (some .int)) (by decide) rfl (Nat.le_of_ble_eq_true rfl) ?_
  intro p e s m below meth c A ls hx hb hr hlk hml hts hown hnm hA hK hP hD hS hN hl
  have hl : lv_has ls 3 [(0, .ref (ad (20, 0, 0))), (1, .int p0), (2, .int p1)] := hl
  have hwX3 : ∀ w ∈ u_ws RX3 TX3 17, w ∈ wsX3_cellFault := by decide +kernel
  refine lv_aload_n hx hb dX3_cellFault_0 rfl (lv_at hl 0 rfl) ?_
  refine zw_getf (r := (20, 0, 0)) (v := .int (σ (0, 0, 0) 5)) (C := RX3) (T := TX3) (N := 17) (ci := 3) hx hb hts hwX3 hown hK hP (hM 0 (by decide)) rfl rfl 13 (by decide) (hts (.fieldLink RX3 35 "FourTrackDeckModel" "rows" "I") (by decide +kernel)) (fun _ h9 => h9) rfl dX3_cellFault_1 ?_
  refine lv_iconst (v := (-1)) hx hb dX3_cellFault_4 (by decide) ?_
  refine lv_icmp_ne (tgt := 10) hx hb dX3_cellFault_5 (by decide) (fun c_1 => ?_) (fun c_1 => ?_)
  · refine lv_iload_n hx hb dX3_cellFault_10 rfl (lv_at hl 1 rfl) ?_
    refine lv_if_lt (tgt := 34) hx hb dX3_cellFault_11 (by decide) (fun c_2 => ?_) (fun c_2 => ?_)
    · refine lv_iconst (v := 3) hx hb dX3_cellFault_34 (by decide) ?_
      refine lv_goto (tgt := 39) hx hb dX3_cellFault_35 (by decide) ?_
      exact zw_iret hx hb hr hlk hK hP hD hS dX3_cellFault_39 (by unfold sp_c; rw [if_neg c_1, if_neg (fun q => Int32.not_lt.mpr q.1.1 c_2)]) rfl
    · refine lv_iload_n hx hb dX3_cellFault_14 rfl (lv_at hl 1 rfl) ?_
      refine lv_aload_n hx hb dX3_cellFault_15 rfl (lv_at hl 0 rfl) ?_
      refine zw_getf (r := (20, 0, 0)) (v := .int (σ (0, 0, 0) 5)) (C := RX3) (T := TX3) (N := 17) (ci := 3) hx hb hts hwX3 hown hK hP (hM 0 (by decide)) rfl rfl 13 (by decide) (hts (.fieldLink RX3 35 "FourTrackDeckModel" "rows" "I") (by decide +kernel)) (fun _ h9 => h9) rfl dX3_cellFault_16 ?_
      refine lv_icmp_ge (tgt := 34) hx hb dX3_cellFault_19 (by decide) (fun c_3 => ?_) (fun c_3 => ?_)
      · refine lv_iconst (v := 3) hx hb dX3_cellFault_34 (by decide) ?_
        refine lv_goto (tgt := 39) hx hb dX3_cellFault_35 (by decide) ?_
        exact zw_iret hx hb hr hlk hK hP hD hS dX3_cellFault_39 (by unfold sp_c; rw [if_neg c_1, if_neg (fun q => Int32.not_lt.mpr c_3 q.1.2)]) rfl
      · refine lv_iload_n hx hb dX3_cellFault_22 rfl (lv_at hl 2 rfl) ?_
        refine lv_if_lt (tgt := 34) hx hb dX3_cellFault_23 (by decide) (fun c_4 => ?_) (fun c_4 => ?_)
        · refine lv_iconst (v := 3) hx hb dX3_cellFault_34 (by decide) ?_
          refine lv_goto (tgt := 39) hx hb dX3_cellFault_35 (by decide) ?_
          exact zw_iret hx hb hr hlk hK hP hD hS dX3_cellFault_39 (by unfold sp_c; rw [if_neg c_1, if_neg (fun q => Int32.not_lt.mpr q.2.1 c_4)]) rfl
        · refine lv_iload_n hx hb dX3_cellFault_26 rfl (lv_at hl 2 rfl) ?_
          refine lv_aload_n hx hb dX3_cellFault_27 rfl (lv_at hl 0 rfl) ?_
          refine zw_getf (r := (20, 0, 0)) (v := .int (σ (0, 0, 0) 6)) (C := RX3) (T := TX3) (N := 17) (ci := 3) hx hb hts hwX3 hown hK hP (hM 0 (by decide)) rfl rfl 14 (by decide) (hts (.fieldLink RX3 38 "FourTrackDeckModel" "cells" "I") (by decide +kernel)) (fun _ h9 => h9) rfl dX3_cellFault_28 ?_
          refine lv_icmp_lt (tgt := 38) hx hb dX3_cellFault_31 (by decide) (fun c_5 => ?_) (fun c_5 => ?_)
          · refine lv_iconst (v := 0) hx hb dX3_cellFault_38 (by decide) ?_
            exact zw_iret hx hb hr hlk hK hP hD hS dX3_cellFault_39 (by unfold sp_c; rw [if_neg c_1, if_pos ⟨⟨Int32.not_lt.mp c_2, Int32.not_le.mp c_3⟩, Int32.not_lt.mp c_4, c_5⟩]) rfl
          · refine lv_iconst (v := 3) hx hb dX3_cellFault_34 (by decide) ?_
            refine lv_goto (tgt := 39) hx hb dX3_cellFault_35 (by decide) ?_
            exact zw_iret hx hb hr hlk hK hP hD hS dX3_cellFault_39 (by unfold sp_c; rw [if_neg c_1, if_neg (fun q => c_5 q.2.2)]) rfl
  · refine lv_iconst (v := 2) hx hb dX3_cellFault_8 (by decide) ?_
    exact zw_iret hx hb hr hlk hK hP hD hS dX3_cellFault_9 (by unfold sp_c; rw [if_pos c_1]) rfl
set_option maxHeartbeats 4000000 in
set_option maxRecDepth 100000 in
theorem cm_cue {l : Launch} {dC : Nat → ClassId} {dI : Nat → Nat → Nat} {cA : Nat → ClassId} {ad : zw_R → Nat} {R : List zw_R} {nr : Nat} {len : Nat → Nat} {σ : sp_S} {cD : zw_R → va_E} (hM : zm_R R) (h5 : σ (0, 0, 0) 5 ≤ 16) (h6 : σ (0, 0, 0) 6 ≤ 16) (p0 p1 p2 : Int32) : zw_M l yX3_cue wsX3_cue { frames := 1, cells := 0, slots := 0, locals := 22 } (ze_E dC dI cA) [.ref (ad (20, 0, 0)), .int p0, .int p1, .int p2] ad R (ze_X cD (ze_M cA ad len σ)) (some (.int ((sp_cue nr len σ p0 p1 p2).1))) (ze_X cD (ze_M cA ad len (sp_cue nr len σ p0 p1 p2).2)) := by
  refine zw_body (cc := cX3_cue) (maxL := 6) (ret := (some .int)) (by decide) rfl (Nat.le_of_ble_eq_true rfl) ?_
  intro p e s m below meth c A ls hx hb hr hlk hml hts hown hnm hA hK hP hD hS hN hl
  have hl : lv_has ls 6 [(0, .ref (ad (20, 0, 0))), (1, .int p0), (2, .int p1), (3, .int p2)] := hl
  have hwX3 : ∀ w ∈ u_ws RX3 TX3 17, w ∈ wsX3_cue := by decide +kernel
  refine lv_aload_n hx hb dX3_cue_0 rfl (lv_at hl 0 rfl) ?_
  refine lv_iload_n hx hb dX3_cue_1 rfl (lv_at hl 1 rfl) ?_
  refine lv_iload_n hx hb dX3_cue_2 rfl (lv_at hl 2 rfl) ?_
  refine zw_cV (r := (20, 0, 0)) (As := [.int p0, .int p1]) (rest := []) (st1 := [.int (sp_c σ p0 p1)]) ⟨hx, hb, hml, hown, hts⟩ (cm_cellFault (σ := σ) hM p0 p1) (cwV 2 hts gX3_cue_X3_cellFault rfl rfl rfl (by decide +kernel) ⟨Nat.le_of_ble_eq_true rfl, Nat.le_of_ble_eq_true rfl⟩) (hM 0 (by decide)) rfl rfl rfl hK hP hD hS hA hN rfl hl.1 rfl (Nat.le_of_ble_eq_true rfl) rfl dX3_cue_3 ⟨Nat.zero_le _, Nat.zero_le _⟩ (fun H locs hP hD hS => ?_)
  refine lv_istore (lv' := [(4, .int (sp_c σ p0 p1)), (0, .ref (ad (20, 0, 0))), (1, .int p0), (2, .int p1), (3, .int p2)]) hx hb dX3_cue_6 hl (by decide) rfl (fun ls hl => ?_)
  refine lv_iload hx hb dX3_cue_8 (lv_at hl 0 rfl) ?_
  refine lv_if_eq (tgt := 21) hx hb dX3_cue_10 (by decide) (fun c_1 => ?_) (fun c_1 => ?_)
  · refine lv_aload_n hx hb dX3_cue_21 rfl (lv_at hl 1 rfl) ?_
    refine zw_getf (r := (20, 0, 0)) (v := .ref (ad (27, 0, 0))) (C := RX3) (T := TX3) (N := 17) (ci := 3) hx hb hts hwX3 hown hK hP (hM 0 (by decide)) rfl rfl 15 (by decide) (hts (.fieldLink RX3 41 "FourTrackDeckModel" "cue" "[I") (by decide +kernel)) (fun _ h9 => h9) rfl dX3_cue_22 ?_
    refine lv_bipush (v := 16) hx hb dX3_cue_25 (by decide) ?_
    refine lv_iload_n hx hb dX3_cue_27 rfl (lv_at hl 2 rfl) ?_
    refine lv_imul hx hb dX3_cue_28 ?_
    refine lv_iload_n hx hb dX3_cue_29 rfl (lv_at hl 3 rfl) ?_
    refine lv_iadd hx hb dX3_cue_30 ?_
    refine zw_iald (r := (27, 0, 0)) hx hb hK hP (hM 7 (by decide)) 0 rfl rfl (by rw [Int32.mul_comm]; exact ze_ci c_1 h5 h6) dX3_cue_31 ?_
    refine lv_istore (lv' := [(5, .int (σ (5, 0, 0) ((16 * p0) + p1).toNatClampNeg)), (4, .int (sp_c σ p0 p1)), (0, .ref (ad (20, 0, 0))), (1, .int p0), (2, .int p1), (3, .int p2)]) hx hb dX3_cue_32 hl (by decide) rfl (fun ls hl => ?_)
    refine lv_aload_n hx hb dX3_cue_34 rfl (lv_at hl 2 rfl) ?_
    refine zw_getf (r := (20, 0, 0)) (v := .ref (ad (27, 0, 0))) (C := RX3) (T := TX3) (N := 17) (ci := 3) hx hb hts hwX3 hown hK hP (hM 0 (by decide)) rfl rfl 15 (by decide) (hts (.fieldLink RX3 41 "FourTrackDeckModel" "cue" "[I") (by decide +kernel)) (fun _ h9 => h9) rfl dX3_cue_35 ?_
    refine lv_bipush (v := 16) hx hb dX3_cue_38 (by decide) ?_
    refine lv_iload_n hx hb dX3_cue_40 rfl (lv_at hl 3 rfl) ?_
    refine lv_imul hx hb dX3_cue_41 ?_
    refine lv_iload_n hx hb dX3_cue_42 rfl (lv_at hl 4 rfl) ?_
    refine lv_iadd hx hb dX3_cue_43 ?_
    refine lv_iload_n hx hb dX3_cue_44 rfl (lv_at hl 5 rfl) ?_
    refine zw_iast (r := (27, 0, 0)) hx hb hK hP hD hS (hM 7 (by decide)) 0 rfl rfl (by rw [Int32.mul_comm]; exact ze_ci c_1 h5 h6) dX3_cue_45 (cu1 := ze_X cD (ze_M cA ad len (sp_s σ (5, 0, 0) ((16 * p0) + p1).toNatClampNeg p2))) (zm_A5 rfl) (fun H locs hP hD hS => ?_)
    refine lv_aload_n hx hb dX3_cue_46 rfl (lv_at hl 2 rfl) ?_
    refine lv_iload hx hb dX3_cue_47 (lv_at hl 0 rfl) ?_
    refine zw_cV (r := (20, 0, 0)) (As := [.int (σ (5, 0, 0) ((16 * p0) + p1).toNatClampNeg)]) (rest := []) (st1 := [.int (σ (5, 0, 0) ((16 * p0) + p1).toNatClampNeg)]) ⟨hx, hb, hml, hown, hts⟩ (cm_done (σ := (sp_s σ (5, 0, 0) ((16 * p0) + p1).toNatClampNeg p2)) hM (σ (5, 0, 0) ((16 * p0) + p1).toNatClampNeg)) (cwV 1 hts gX3_cue_X3_done rfl rfl rfl (by decide +kernel) ⟨Nat.le_of_ble_eq_true rfl, Nat.le_of_ble_eq_true rfl⟩) (hM 0 (by decide)) rfl rfl rfl hK hP hD hS hA hN rfl hl.1 rfl (Nat.le_of_ble_eq_true rfl) rfl dX3_cue_49 ⟨Nat.zero_le _, Nat.zero_le _⟩ (fun H locs hP hD hS => ?_)
    exact zw_iret hx hb hr hlk hK hP hD hS dX3_cue_52 (by simp only [sp_cue, if_pos c_1, Int32.mul_comm 16 p0] <;> rfl) (by simp only [sp_cue, if_pos c_1, Int32.mul_comm 16 p0] <;> rfl)
  · refine lv_aload_n hx hb dX3_cue_13 rfl (lv_at hl 1 rfl) ?_
    refine lv_iload hx hb dX3_cue_14 (lv_at hl 0 rfl) ?_
    refine lv_iconst (v := 0) hx hb dX3_cue_16 (by decide) ?_
    refine zw_cV (r := (20, 0, 0)) (As := [.int (sp_c σ p0 p1), .int 0]) (rest := []) (st1 := [.int 0]) ⟨hx, hb, hml, hown, hts⟩ (cm_fails (σ := σ) hM (sp_c σ p0 p1) 0) (cwV 2 hts gX3_cue_X3_fails rfl rfl rfl (by decide +kernel) ⟨Nat.le_of_ble_eq_true rfl, Nat.le_of_ble_eq_true rfl⟩) (hM 0 (by decide)) rfl rfl rfl hK hP hD hS hA hN rfl hl.1 rfl (Nat.le_of_ble_eq_true rfl) rfl dX3_cue_17 ⟨Nat.zero_le _, Nat.zero_le _⟩ (fun H locs hP hD hS => ?_)
    exact zw_iret hx hb hr hlk hK hP hD hS dX3_cue_20 (by simp only [sp_cue, if_neg c_1, Int32.mul_comm 16 p0] <;> rfl) (by simp only [sp_cue, if_neg c_1, Int32.mul_comm 16 p0] <;> rfl)
set_option maxHeartbeats 4000000 in
set_option maxRecDepth 100000 in
theorem cm_seek {l : Launch} {dC : Nat → ClassId} {dI : Nat → Nat → Nat} {cA : Nat → ClassId} {ad : zw_R → Nat} {R : List zw_R} {nr : Nat} {len : Nat → Nat} {σ : sp_S} {cD : zw_R → va_E} (hM : zm_R R) (h5 : σ (0, 0, 0) 5 ≤ 16) (h6 : σ (0, 0, 0) 6 ≤ 16) (p0 p1 : Int32) : zw_M l yX3_seek wsX3_seek { frames := 1, cells := 0, slots := 0, locals := 22 } (ze_E dC dI cA) [.ref (ad (20, 0, 0)), .int p0, .int p1] ad R (ze_X cD (ze_M cA ad len σ)) (some (.int ((sp_seek nr len σ p0 p1).1))) (ze_X cD (ze_M cA ad len (sp_seek nr len σ p0 p1).2)) := by
  refine zw_body (cc := cX3_seek) (maxL := 4) (ret := (some .int)) (by decide) rfl (Nat.le_of_ble_eq_true rfl) ?_
  intro p e s m below meth c A ls hx hb hr hlk hml hts hown hnm hA hK hP hD hS hN hl
  have hl : lv_has ls 4 [(0, .ref (ad (20, 0, 0))), (1, .int p0), (2, .int p1)] := hl
  have hwX3 : ∀ w ∈ u_ws RX3 TX3 17, w ∈ wsX3_seek := by decide +kernel
  refine lv_aload_n hx hb dX3_seek_0 rfl (lv_at hl 0 rfl) ?_
  refine lv_iload_n hx hb dX3_seek_1 rfl (lv_at hl 1 rfl) ?_
  refine lv_iload_n hx hb dX3_seek_2 rfl (lv_at hl 2 rfl) ?_
  refine zw_cV (r := (20, 0, 0)) (As := [.int p0, .int p1]) (rest := []) (st1 := [.int (sp_c σ p0 p1)]) ⟨hx, hb, hml, hown, hts⟩ (cm_cellFault (σ := σ) hM p0 p1) (cwV 2 hts gX3_seek_X3_cellFault rfl rfl rfl (by decide +kernel) ⟨Nat.le_of_ble_eq_true rfl, Nat.le_of_ble_eq_true rfl⟩) (hM 0 (by decide)) rfl rfl rfl hK hP hD hS hA hN rfl hl.1 rfl (Nat.le_of_ble_eq_true rfl) rfl dX3_seek_3 ⟨Nat.zero_le _, Nat.zero_le _⟩ (fun H locs hP hD hS => ?_)
  refine lv_istore_n (lv' := [(3, .int (sp_c σ p0 p1)), (0, .ref (ad (20, 0, 0))), (1, .int p0), (2, .int p1)]) hx hb dX3_seek_6 rfl hl (by decide) rfl (fun ls hl => ?_)
  refine lv_iload_n hx hb dX3_seek_7 rfl (lv_at hl 0 rfl) ?_
  refine lv_if_eq (tgt := 21) hx hb dX3_seek_8 (by decide) (fun c_1 => ?_) (fun c_1 => ?_)
  · refine lv_aload_n hx hb dX3_seek_21 rfl (lv_at hl 1 rfl) ?_
    refine lv_aload_n hx hb dX3_seek_22 rfl (lv_at hl 1 rfl) ?_
    refine zw_getf (r := (20, 0, 0)) (v := .ref (ad (27, 0, 0))) (C := RX3) (T := TX3) (N := 17) (ci := 3) hx hb hts hwX3 hown hK hP (hM 0 (by decide)) rfl rfl 15 (by decide) (hts (.fieldLink RX3 41 "FourTrackDeckModel" "cue" "[I") (by decide +kernel)) (fun _ h9 => h9) rfl dX3_seek_23 ?_
    refine lv_bipush (v := 16) hx hb dX3_seek_26 (by decide) ?_
    refine lv_iload_n hx hb dX3_seek_28 rfl (lv_at hl 2 rfl) ?_
    refine lv_imul hx hb dX3_seek_29 ?_
    refine lv_iload_n hx hb dX3_seek_30 rfl (lv_at hl 3 rfl) ?_
    refine lv_iadd hx hb dX3_seek_31 ?_
    refine zw_iald (r := (27, 0, 0)) hx hb hK hP (hM 7 (by decide)) 0 rfl rfl (by rw [Int32.mul_comm]; exact ze_ci c_1 h5 h6) dX3_seek_32 ?_
    refine zw_putf (r := (20, 0, 0)) (v := .int (σ (5, 0, 0) ((16 * p0) + p1).toNatClampNeg)) (C := RX3) (T := TX3) (N := 17) (ci := 3) hx hb hts hwX3 tyX3 tyX3_ok nmX3 hown hK hP hD hS (hM 0 (by decide)) rfl rfl 5 (by decide) (hts (.fieldLink RX3 56 "FourTrackDeckModel" "p" "I") (by decide +kernel)) (fun _ h9 => h9) rfl (ty := .int) (by decide +kernel) rfl rfl (Nat.le_of_ble_eq_true rfl) dX3_seek_33 (cu1 := ze_X cD (ze_M cA ad len (sp_s σ (0, 0, 0) 2 (σ (5, 0, 0) ((16 * p0) + p1).toNatClampNeg)))) (zm_D rfl) (fun H locs hP hD hS => ?_)
    refine lv_aload_n hx hb dX3_seek_36 rfl (lv_at hl 1 rfl) ?_
    refine lv_aload_n hx hb dX3_seek_37 rfl (lv_at hl 1 rfl) ?_
    refine zw_getf (r := (20, 0, 0)) (v := .int ((sp_s σ (0, 0, 0) 2 (σ (5, 0, 0) ((16 * p0) + p1).toNatClampNeg)) (0, 0, 0) 2)) (C := RX3) (T := TX3) (N := 17) (ci := 3) hx hb hts hwX3 hown hK hP (hM 0 (by decide)) rfl rfl 5 (by decide) (hts (.fieldLink RX3 56 "FourTrackDeckModel" "p" "I") (by decide +kernel)) (fun _ h9 => h9) rfl dX3_seek_38 ?_
    refine zw_cV (r := (20, 0, 0)) (As := [.int ((sp_s σ (0, 0, 0) 2 (σ (5, 0, 0) ((16 * p0) + p1).toNatClampNeg)) (0, 0, 0) 2)]) (rest := []) (st1 := [.int ((sp_s σ (0, 0, 0) 2 (σ (5, 0, 0) ((16 * p0) + p1).toNatClampNeg)) (0, 0, 0) 2)]) ⟨hx, hb, hml, hown, hts⟩ (cm_done (σ := (sp_s σ (0, 0, 0) 2 (σ (5, 0, 0) ((16 * p0) + p1).toNatClampNeg))) hM ((sp_s σ (0, 0, 0) 2 (σ (5, 0, 0) ((16 * p0) + p1).toNatClampNeg)) (0, 0, 0) 2)) (cwV 1 hts gX3_seek_X3_done rfl rfl rfl (by decide +kernel) ⟨Nat.le_of_ble_eq_true rfl, Nat.le_of_ble_eq_true rfl⟩) (hM 0 (by decide)) rfl rfl rfl hK hP hD hS hA hN rfl hl.1 rfl (Nat.le_of_ble_eq_true rfl) rfl dX3_seek_41 ⟨Nat.zero_le _, Nat.zero_le _⟩ (fun H locs hP hD hS => ?_)
    exact zw_iret hx hb hr hlk hK hP hD hS dX3_seek_44 (by simp only [sp_seek, if_pos c_1, Int32.mul_comm 16 p0] <;> rfl) (by simp only [sp_seek, if_pos c_1, Int32.mul_comm 16 p0] <;> rfl)
  · refine lv_aload_n hx hb dX3_seek_11 rfl (lv_at hl 1 rfl) ?_
    refine lv_iload_n hx hb dX3_seek_12 rfl (lv_at hl 0 rfl) ?_
    refine lv_aload_n hx hb dX3_seek_13 rfl (lv_at hl 1 rfl) ?_
    refine zw_getf (r := (20, 0, 0)) (v := .int (σ (0, 0, 0) 2)) (C := RX3) (T := TX3) (N := 17) (ci := 3) hx hb hts hwX3 hown hK hP (hM 0 (by decide)) rfl rfl 5 (by decide) (hts (.fieldLink RX3 56 "FourTrackDeckModel" "p" "I") (by decide +kernel)) (fun _ h9 => h9) rfl dX3_seek_14 ?_
    refine zw_cV (r := (20, 0, 0)) (As := [.int (sp_c σ p0 p1), .int (σ (0, 0, 0) 2)]) (rest := []) (st1 := [.int (σ (0, 0, 0) 2)]) ⟨hx, hb, hml, hown, hts⟩ (cm_fails (σ := σ) hM (sp_c σ p0 p1) (σ (0, 0, 0) 2)) (cwV 2 hts gX3_seek_X3_fails rfl rfl rfl (by decide +kernel) ⟨Nat.le_of_ble_eq_true rfl, Nat.le_of_ble_eq_true rfl⟩) (hM 0 (by decide)) rfl rfl rfl hK hP hD hS hA hN rfl hl.1 rfl (Nat.le_of_ble_eq_true rfl) rfl dX3_seek_17 ⟨Nat.zero_le _, Nat.zero_le _⟩ (fun H locs hP hD hS => ?_)
    exact zw_iret hx hb hr hlk hK hP hD hS dX3_seek_20 (by simp only [sp_seek, if_neg c_1, Int32.mul_comm 16 p0] <;> rfl) (by simp only [sp_seek, if_neg c_1, Int32.mul_comm 16 p0] <;> rfl)
set_option maxHeartbeats 4000000 in
set_option maxRecDepth 100000 in
theorem cm_trip {l : Launch} {dC : Nat → ClassId} {dI : Nat → Nat → Nat} {cA : Nat → ClassId} {ad : zw_R → Nat} {R : List zw_R} {nr : Nat} {len : Nat → Nat} {σ : sp_S} {cD : zw_R → va_E} (hM : zm_R R) (p0 : Int32) : zw_M l yX3_trip wsX3_trip { frames := 0, cells := 0, slots := 0, locals := 0 } (ze_E dC dI cA) [.ref (ad (20, 0, 0)), .int p0] ad R (ze_X cD (ze_M cA ad len σ)) (some (.int ((sp_trip nr len σ p0).1))) (ze_X cD (ze_M cA ad len (sp_trip nr len σ p0).2)) := by
  refine zw_body (cc := cX3_trip) (maxL := 2) (ret := (some .int)) (by decide) rfl (Nat.le_of_ble_eq_true rfl) ?_
  intro p e s m below meth c A ls hx hb hr hlk hml hts hown hnm hA hK hP hD hS hN hl
  have hl : lv_has ls 2 [(0, .ref (ad (20, 0, 0))), (1, .int p0)] := hl
  have hwX3 : ∀ w ∈ u_ws RX3 TX3 17, w ∈ wsX3_trip := by decide +kernel
  refine lv_iload_n hx hb dX3_trip_0 rfl (lv_at hl 1 rfl) ?_
  refine lv_if_ne (tgt := 11) hx hb dX3_trip_1 (by decide) (fun c_1 => ?_) (fun c_1 => ?_)
  · refine lv_iload_n hx hb dX3_trip_11 rfl (lv_at hl 1 rfl) ?_
    refine lv_iconst (v := 1) hx hb dX3_trip_12 (by decide) ?_
    refine lv_icmp_ne (tgt := 23) hx hb dX3_trip_13 (by decide) (fun c_2 => ?_) (fun c_2 => ?_)
    · refine lv_iconst (v := (-1)) hx hb dX3_trip_23 (by decide) ?_
      exact zw_iret hx hb hr hlk hK hP hD hS dX3_trip_24 (by simp only [sp_trip, if_neg c_1, if_neg c_2] <;> rfl) (by simp only [sp_trip, if_neg c_1, if_neg c_2] <;> rfl)
    · refine lv_aload_n hx hb dX3_trip_16 rfl (lv_at hl 0 rfl) ?_
      refine zw_getf (r := (20, 0, 0)) (v := .int (σ (0, 0, 0) 8)) (C := RX3) (T := TX3) (N := 17) (ci := 3) hx hb hts hwX3 hown hK hP (hM 0 (by decide)) rfl rfl 12 (by decide) (hts (.fieldLink RX3 96 "FourTrackDeckModel" "tripStatus" "I") (by decide +kernel)) (fun _ h9 => h9) rfl dX3_trip_17 ?_
      refine lv_goto (tgt := 24) hx hb dX3_trip_20 (by decide) ?_
      exact zw_iret hx hb hr hlk hK hP hD hS dX3_trip_24 (by simp only [sp_trip, if_neg c_1, if_pos c_2] <;> rfl) (by simp only [sp_trip, if_neg c_1, if_pos c_2] <;> rfl)
  · refine lv_aload_n hx hb dX3_trip_4 rfl (lv_at hl 0 rfl) ?_
    refine zw_getf (r := (20, 0, 0)) (v := .int (σ (0, 0, 0) 7)) (C := RX3) (T := TX3) (N := 17) (ci := 3) hx hb hts hwX3 hown hK hP (hM 0 (by decide)) rfl rfl 11 (by decide) (hts (.fieldLink RX3 32 "FourTrackDeckModel" "tripTrack" "I") (by decide +kernel)) (fun _ h9 => h9) rfl dX3_trip_5 ?_
    refine lv_goto (tgt := 24) hx hb dX3_trip_8 (by decide) ?_
    exact zw_iret hx hb hr hlk hK hP hD hS dX3_trip_24 (by simp only [sp_trip, if_pos c_1] <;> rfl) (by simp only [sp_trip, if_pos c_1] <;> rfl)
set_option maxHeartbeats 4000000 in
set_option maxRecDepth 100000 in
theorem cm_meter {l : Launch} {dC : Nat → ClassId} {dI : Nat → Nat → Nat} {cA : Nat → ClassId} {ad : zw_R → Nat} {R : List zw_R} {nr : Nat} {len : Nat → Nat} {σ : sp_S} {cD : zw_R → va_E} (hM : zm_R R) (p0 : Int32) : zw_M l yX3_meter wsX3_meter { frames := 1, cells := 0, slots := 0, locals := 21 } (ze_E dC dI cA) [.ref (ad (20, 0, 0)), .int p0] ad R (ze_X cD (ze_M cA ad len σ)) (some (.int ((sp_meter nr len σ p0).1))) (ze_X cD (ze_M cA ad len (sp_meter nr len σ p0).2)) := by
  refine zw_body (cc := cX3_meter) (maxL := 2) (ret := (some .int)) (by decide) rfl (Nat.le_of_ble_eq_true rfl) ?_
  intro p e s m below meth c A ls hx hb hr hlk hml hts hown hnm hA hK hP hD hS hN hl
  have hl : lv_has ls 2 [(0, .ref (ad (20, 0, 0))), (1, .int p0)] := hl
  have hwX3 : ∀ w ∈ u_ws RX3 TX3 17, w ∈ wsX3_meter := by decide +kernel
  refine lv_aload_n hx hb dX3_meter_0 rfl (lv_at hl 0 rfl) ?_
  refine lv_iload_n hx hb dX3_meter_1 rfl (lv_at hl 1 rfl) ?_
  rcases Decidable.em (sp_t p0) with h_1 | h_1
  · refine zw_cV (r := (20, 0, 0)) (As := [.int p0]) (rest := []) (st1 := [.int 1]) ⟨hx, hb, hml, hown, hts⟩ (cm_isTrack_1 (σ := σ) p0 h_1) (cwV 1 hts gX3_meter_X3_isTrack rfl rfl rfl (by decide +kernel) ⟨Nat.le_of_ble_eq_true rfl, Nat.le_of_ble_eq_true rfl⟩) (hM 0 (by decide)) rfl rfl rfl hK hP hD hS hA hN rfl hl.1 rfl (Nat.le_of_ble_eq_true rfl) rfl dX3_meter_2 ⟨Nat.zero_le _, Nat.zero_le _⟩ (fun H locs hP hD hS => ?_)
    refine lv_if_eq (tgt := 17) hx hb dX3_meter_5 (by decide) (fun c_2 => absurd c_2 (by decide)) (fun c_2 => ?_)
    refine lv_aload_n hx hb dX3_meter_8 rfl (lv_at hl 0 rfl) ?_
    refine zw_getf (r := (20, 0, 0)) (v := .ref (ad (26, 0, 0))) (C := RX3) (T := TX3) (N := 17) (ci := 3) hx hb hts hwX3 hown hK hP (hM 0 (by decide)) rfl rfl 8 (by decide) (hts (.fieldLink RX3 29 "FourTrackDeckModel" "meter" "[I") (by decide +kernel)) (fun _ h9 => h9) rfl dX3_meter_9 ?_
    refine lv_iload_n hx hb dX3_meter_12 rfl (lv_at hl 1 rfl) ?_
    refine zw_iald (r := (26, 0, 0)) hx hb hK hP (hM 6 (by decide)) 0 rfl rfl (ze_ti h_1) dX3_meter_13 ?_
    refine lv_goto (tgt := 18) hx hb dX3_meter_14 (by decide) ?_
    exact zw_iret hx hb hr hlk hK hP hD hS dX3_meter_18 (by simp only [sp_meter, if_pos h_1] <;> rfl) (by simp only [sp_meter, if_pos h_1] <;> rfl)
  · refine zw_cV (r := (20, 0, 0)) (As := [.int p0]) (rest := []) (st1 := [.int 0]) ⟨hx, hb, hml, hown, hts⟩ (cm_isTrack_0 (σ := σ) p0 h_1) (cwV 1 hts gX3_meter_X3_isTrack rfl rfl rfl (by decide +kernel) ⟨Nat.le_of_ble_eq_true rfl, Nat.le_of_ble_eq_true rfl⟩) (hM 0 (by decide)) rfl rfl rfl hK hP hD hS hA hN rfl hl.1 rfl (Nat.le_of_ble_eq_true rfl) rfl dX3_meter_2 ⟨Nat.zero_le _, Nat.zero_le _⟩ (fun H locs hP hD hS => ?_)
    refine lv_if_eq (tgt := 17) hx hb dX3_meter_5 (by decide) (fun c_3 => ?_) (fun c_3 => absurd (by decide) c_3)
    refine lv_iconst (v := 0) hx hb dX3_meter_17 (by decide) ?_
    exact zw_iret hx hb hr hlk hK hP hD hS dX3_meter_18 (by simp only [sp_meter, if_neg h_1] <;> rfl) (by simp only [sp_meter, if_neg h_1] <;> rfl)
set_option maxHeartbeats 4000000 in
set_option maxRecDepth 100000 in
theorem cm_count {l : Launch} {dC : Nat → ClassId} {dI : Nat → Nat → Nat} {cA : Nat → ClassId} {ad : zw_R → Nat} {R : List zw_R} {nr : Nat} {len : Nat → Nat} {σ : sp_S} {cD : zw_R → va_E} (hM : zm_R R) (hnr : nr ≤ 8) (hI0 : σ (0, 0, 0) 0 = nI nr) (p0 : Int32) : zw_M l yX3_count wsX3_count { frames := 1, cells := 0, slots := 0, locals := 21 } (ze_E dC dI cA) [.ref (ad (20, 0, 0)), .int p0] ad R (ze_X cD (ze_M cA ad len σ)) (some (.int ((sp_count nr len σ p0).1))) (ze_X cD (ze_M cA ad len (sp_count nr len σ p0).2)) := by
  refine zw_body (cc := cX3_count) (maxL := 2) (ret := (some .int)) (by decide) rfl (Nat.le_of_ble_eq_true rfl) ?_
  intro p e s m below meth c A ls hx hb hr hlk hml hts hown hnm hA hK hP hD hS hN hl
  have hl : lv_has ls 2 [(0, .ref (ad (20, 0, 0))), (1, .int p0)] := hl
  have hwX3 : ∀ w ∈ u_ws RX3 TX3 17, w ∈ wsX3_count := by decide +kernel
  refine lv_iload_n hx hb dX3_count_0 rfl (lv_at hl 1 rfl) ?_
  refine lv_bipush (v := 10) hx hb dX3_count_1 (by decide) ?_
  refine lv_icmp_lt (tgt := 37) hx hb dX3_count_3 (by decide) (fun c_1 => ?_) (fun c_1 => ?_)
  · refine lv_iload_n hx hb dX3_count_37 rfl (lv_at hl 1 rfl) ?_
    rcases Decidable.em (p0 = 0) with c_2 | c_2
    · have ec_2 : (p0).toInt = 0 := by rw [c_2]; rfl
      refine lv_tableIn (tgt := 76) hx hb dX3_count_38 (by rw [ec_2]; decide) (by rw [ec_2]; decide) (by rw [ec_2]; rfl) (by decide) ?_
      refine lv_aload_n hx hb dX3_count_76 rfl (lv_at hl 0 rfl) ?_
      refine zw_getf (r := (20, 0, 0)) (v := .int (σ (0, 0, 0) 0)) (C := RX3) (T := TX3) (N := 17) (ci := 3) hx hb hts hwX3 hown hK hP (hM 0 (by decide)) rfl rfl 0 (by decide) (hts (.fieldLink RX3 47 "FourTrackDeckModel" "reels" "I") (by decide +kernel)) (fun _ h9 => h9) rfl dX3_count_77 ?_
      exact zw_iret hx hb hr hlk hK hP hD hS dX3_count_80 (by simp only [sp_count, if_pos c_1, if_pos c_2, if_neg (show ¬ sp_r nr (p0 - 10) from fun q => Int32.not_lt.mpr (zm_ct q hnr).1 c_1)] <;> rfl) (by simp only [sp_count, if_pos c_1, if_pos c_2, if_neg (show ¬ sp_r nr (p0 - 10) from fun q => Int32.not_lt.mpr (zm_ct q hnr).1 c_1)] <;> rfl)
    · rcases Decidable.em (p0 = 1) with c_3 | c_3
      · have ec_3 : (p0).toInt = 1 := by rw [c_3]; rfl
        refine lv_tableIn (tgt := 81) hx hb dX3_count_38 (by rw [ec_3]; decide) (by rw [ec_3]; decide) (by rw [ec_3]; rfl) (by decide) ?_
        refine lv_aload_n hx hb dX3_count_81 rfl (lv_at hl 0 rfl) ?_
        refine zw_getf (r := (20, 0, 0)) (v := .int (σ (0, 0, 0) 1)) (C := RX3) (T := TX3) (N := 17) (ci := 3) hx hb hts hwX3 hown hK hP (hM 0 (by decide)) rfl rfl 4 (by decide) (hts (.fieldLink RX3 19 "FourTrackDeckModel" "onDeck" "I") (by decide +kernel)) (fun _ h9 => h9) rfl dX3_count_82 ?_
        exact zw_iret hx hb hr hlk hK hP hD hS dX3_count_85 (by simp only [sp_count, if_pos c_1, if_neg c_2, if_pos c_3, if_neg (show ¬ sp_r nr (p0 - 10) from fun q => Int32.not_lt.mpr (zm_ct q hnr).1 c_1)] <;> rfl) (by simp only [sp_count, if_pos c_1, if_neg c_2, if_pos c_3, if_neg (show ¬ sp_r nr (p0 - 10) from fun q => Int32.not_lt.mpr (zm_ct q hnr).1 c_1)] <;> rfl)
      · rcases Decidable.em (p0 = 2) with c_4 | c_4
        · have ec_4 : (p0).toInt = 2 := by rw [c_4]; rfl
          refine lv_tableIn (tgt := 86) hx hb dX3_count_38 (by rw [ec_4]; decide) (by rw [ec_4]; decide) (by rw [ec_4]; rfl) (by decide) ?_
          refine lv_aload_n hx hb dX3_count_86 rfl (lv_at hl 0 rfl) ?_
          refine zw_getf (r := (20, 0, 0)) (v := .int (σ (0, 0, 0) 2)) (C := RX3) (T := TX3) (N := 17) (ci := 3) hx hb hts hwX3 hown hK hP (hM 0 (by decide)) rfl rfl 5 (by decide) (hts (.fieldLink RX3 56 "FourTrackDeckModel" "p" "I") (by decide +kernel)) (fun _ h9 => h9) rfl dX3_count_87 ?_
          exact zw_iret hx hb hr hlk hK hP hD hS dX3_count_90 (by simp only [sp_count, if_pos c_1, if_neg c_2, if_neg c_3, if_pos c_4, if_neg (show ¬ sp_r nr (p0 - 10) from fun q => Int32.not_lt.mpr (zm_ct q hnr).1 c_1)] <;> rfl) (by simp only [sp_count, if_pos c_1, if_neg c_2, if_neg c_3, if_pos c_4, if_neg (show ¬ sp_r nr (p0 - 10) from fun q => Int32.not_lt.mpr (zm_ct q hnr).1 c_1)] <;> rfl)
        · rcases Decidable.em (p0 = 3) with c_5 | c_5
          · have ec_5 : (p0).toInt = 3 := by rw [c_5]; rfl
            refine lv_tableIn (tgt := 91) hx hb dX3_count_38 (by rw [ec_5]; decide) (by rw [ec_5]; decide) (by rw [ec_5]; rfl) (by decide) ?_
            refine lv_aload_n hx hb dX3_count_91 rfl (lv_at hl 0 rfl) ?_
            refine zw_getf (r := (20, 0, 0)) (v := .int (σ (0, 0, 0) 3)) (C := RX3) (T := TX3) (N := 17) (ci := 3) hx hb hts hwX3 hown hK hP (hM 0 (by decide)) rfl rfl 9 (by decide) (hts (.fieldLink RX3 78 "FourTrackDeckModel" "s" "I") (by decide +kernel)) (fun _ h9 => h9) rfl dX3_count_92 ?_
            exact zw_iret hx hb hr hlk hK hP hD hS dX3_count_95 (by simp only [sp_count, if_pos c_1, if_neg c_2, if_neg c_3, if_neg c_4, if_pos c_5, if_neg (show ¬ sp_r nr (p0 - 10) from fun q => Int32.not_lt.mpr (zm_ct q hnr).1 c_1)] <;> rfl) (by simp only [sp_count, if_pos c_1, if_neg c_2, if_neg c_3, if_neg c_4, if_pos c_5, if_neg (show ¬ sp_r nr (p0 - 10) from fun q => Int32.not_lt.mpr (zm_ct q hnr).1 c_1)] <;> rfl)
          · rcases Decidable.em (p0 = 4) with c_6 | c_6
            · have ec_6 : (p0).toInt = 4 := by rw [c_6]; rfl
              refine lv_tableIn (tgt := 96) hx hb dX3_count_38 (by rw [ec_6]; decide) (by rw [ec_6]; decide) (by rw [ec_6]; rfl) (by decide) ?_
              refine lv_aload_n hx hb dX3_count_96 rfl (lv_at hl 0 rfl) ?_
              refine zw_getf (r := (20, 0, 0)) (v := .int (σ (0, 0, 0) 5)) (C := RX3) (T := TX3) (N := 17) (ci := 3) hx hb hts hwX3 hown hK hP (hM 0 (by decide)) rfl rfl 13 (by decide) (hts (.fieldLink RX3 35 "FourTrackDeckModel" "rows" "I") (by decide +kernel)) (fun _ h9 => h9) rfl dX3_count_97 ?_
              exact zw_iret hx hb hr hlk hK hP hD hS dX3_count_100 (by simp only [sp_count, if_pos c_1, if_neg c_2, if_neg c_3, if_neg c_4, if_neg c_5, if_pos c_6, if_neg (show ¬ sp_r nr (p0 - 10) from fun q => Int32.not_lt.mpr (zm_ct q hnr).1 c_1)] <;> rfl) (by simp only [sp_count, if_pos c_1, if_neg c_2, if_neg c_3, if_neg c_4, if_neg c_5, if_pos c_6, if_neg (show ¬ sp_r nr (p0 - 10) from fun q => Int32.not_lt.mpr (zm_ct q hnr).1 c_1)] <;> rfl)
            · rcases Decidable.em (p0 = 5) with c_7 | c_7
              · have ec_7 : (p0).toInt = 5 := by rw [c_7]; rfl
                refine lv_tableIn (tgt := 101) hx hb dX3_count_38 (by rw [ec_7]; decide) (by rw [ec_7]; decide) (by rw [ec_7]; rfl) (by decide) ?_
                refine lv_aload_n hx hb dX3_count_101 rfl (lv_at hl 0 rfl) ?_
                refine zw_getf (r := (20, 0, 0)) (v := .int (σ (0, 0, 0) 6)) (C := RX3) (T := TX3) (N := 17) (ci := 3) hx hb hts hwX3 hown hK hP (hM 0 (by decide)) rfl rfl 14 (by decide) (hts (.fieldLink RX3 38 "FourTrackDeckModel" "cells" "I") (by decide +kernel)) (fun _ h9 => h9) rfl dX3_count_102 ?_
                exact zw_iret hx hb hr hlk hK hP hD hS dX3_count_105 (by simp only [sp_count, if_pos c_1, if_neg c_2, if_neg c_3, if_neg c_4, if_neg c_5, if_neg c_6, if_pos c_7, if_neg (show ¬ sp_r nr (p0 - 10) from fun q => Int32.not_lt.mpr (zm_ct q hnr).1 c_1)] <;> rfl) (by simp only [sp_count, if_pos c_1, if_neg c_2, if_neg c_3, if_neg c_4, if_neg c_5, if_neg c_6, if_pos c_7, if_neg (show ¬ sp_r nr (p0 - 10) from fun q => Int32.not_lt.mpr (zm_ct q hnr).1 c_1)] <;> rfl)
              · have nc_2 := lv_neT c_2 (a := 0) rfl; have nc_3 := lv_neT c_3 (a := 1) rfl; have nc_4 := lv_neT c_4 (a := 2) rfl; have nc_5 := lv_neT c_5 (a := 3) rfl; have nc_6 := lv_neT c_6 (a := 4) rfl; have nc_7 := lv_neT c_7 (a := 5) rfl
                refine lv_tableOut (tgt := 106) hx hb dX3_count_38 (by omega) (by decide) ?_
                refine lv_iconst (v := (-1)) hx hb dX3_count_106 (by decide) ?_
                exact zw_iret hx hb hr hlk hK hP hD hS dX3_count_107 (by simp only [sp_count, if_pos c_1, if_neg c_2, if_neg c_3, if_neg c_4, if_neg c_5, if_neg c_6, if_neg c_7, if_neg (show ¬ sp_r nr (p0 - 10) from fun q => Int32.not_lt.mpr (zm_ct q hnr).1 c_1)] <;> rfl) (by simp only [sp_count, if_pos c_1, if_neg c_2, if_neg c_3, if_neg c_4, if_neg c_5, if_neg c_6, if_neg c_7, if_neg (show ¬ sp_r nr (p0 - 10) from fun q => Int32.not_lt.mpr (zm_ct q hnr).1 c_1)] <;> rfl)
  · refine lv_iload_n hx hb dX3_count_6 rfl (lv_at hl 1 rfl) ?_
    refine lv_bipush (v := 17) hx hb dX3_count_7 (by decide) ?_
    refine lv_icmp_gt (tgt := 37) hx hb dX3_count_9 (by decide) (fun c_8 => ?_) (fun c_8 => ?_)
    · refine lv_iload_n hx hb dX3_count_37 rfl (lv_at hl 1 rfl) ?_
      rcases Decidable.em (p0 = 0) with c_9 | c_9
      · have ec_9 : (p0).toInt = 0 := by rw [c_9]; rfl
        refine lv_tableIn (tgt := 76) hx hb dX3_count_38 (by rw [ec_9]; decide) (by rw [ec_9]; decide) (by rw [ec_9]; rfl) (by decide) ?_
        refine lv_aload_n hx hb dX3_count_76 rfl (lv_at hl 0 rfl) ?_
        refine zw_getf (r := (20, 0, 0)) (v := .int (σ (0, 0, 0) 0)) (C := RX3) (T := TX3) (N := 17) (ci := 3) hx hb hts hwX3 hown hK hP (hM 0 (by decide)) rfl rfl 0 (by decide) (hts (.fieldLink RX3 47 "FourTrackDeckModel" "reels" "I") (by decide +kernel)) (fun _ h9 => h9) rfl dX3_count_77 ?_
        exact zw_iret hx hb hr hlk hK hP hD hS dX3_count_80 (by simp only [sp_count, if_neg c_1, if_pos c_8, if_pos c_9, if_neg (show ¬ sp_r nr (p0 - 10) from fun q => Int32.not_lt.mpr (zm_ct q hnr).2 c_8)] <;> rfl) (by simp only [sp_count, if_neg c_1, if_pos c_8, if_pos c_9, if_neg (show ¬ sp_r nr (p0 - 10) from fun q => Int32.not_lt.mpr (zm_ct q hnr).2 c_8)] <;> rfl)
      · rcases Decidable.em (p0 = 1) with c_10 | c_10
        · have ec_10 : (p0).toInt = 1 := by rw [c_10]; rfl
          refine lv_tableIn (tgt := 81) hx hb dX3_count_38 (by rw [ec_10]; decide) (by rw [ec_10]; decide) (by rw [ec_10]; rfl) (by decide) ?_
          refine lv_aload_n hx hb dX3_count_81 rfl (lv_at hl 0 rfl) ?_
          refine zw_getf (r := (20, 0, 0)) (v := .int (σ (0, 0, 0) 1)) (C := RX3) (T := TX3) (N := 17) (ci := 3) hx hb hts hwX3 hown hK hP (hM 0 (by decide)) rfl rfl 4 (by decide) (hts (.fieldLink RX3 19 "FourTrackDeckModel" "onDeck" "I") (by decide +kernel)) (fun _ h9 => h9) rfl dX3_count_82 ?_
          exact zw_iret hx hb hr hlk hK hP hD hS dX3_count_85 (by simp only [sp_count, if_neg c_1, if_pos c_8, if_neg c_9, if_pos c_10, if_neg (show ¬ sp_r nr (p0 - 10) from fun q => Int32.not_lt.mpr (zm_ct q hnr).2 c_8)] <;> rfl) (by simp only [sp_count, if_neg c_1, if_pos c_8, if_neg c_9, if_pos c_10, if_neg (show ¬ sp_r nr (p0 - 10) from fun q => Int32.not_lt.mpr (zm_ct q hnr).2 c_8)] <;> rfl)
        · rcases Decidable.em (p0 = 2) with c_11 | c_11
          · have ec_11 : (p0).toInt = 2 := by rw [c_11]; rfl
            refine lv_tableIn (tgt := 86) hx hb dX3_count_38 (by rw [ec_11]; decide) (by rw [ec_11]; decide) (by rw [ec_11]; rfl) (by decide) ?_
            refine lv_aload_n hx hb dX3_count_86 rfl (lv_at hl 0 rfl) ?_
            refine zw_getf (r := (20, 0, 0)) (v := .int (σ (0, 0, 0) 2)) (C := RX3) (T := TX3) (N := 17) (ci := 3) hx hb hts hwX3 hown hK hP (hM 0 (by decide)) rfl rfl 5 (by decide) (hts (.fieldLink RX3 56 "FourTrackDeckModel" "p" "I") (by decide +kernel)) (fun _ h9 => h9) rfl dX3_count_87 ?_
            exact zw_iret hx hb hr hlk hK hP hD hS dX3_count_90 (by simp only [sp_count, if_neg c_1, if_pos c_8, if_neg c_9, if_neg c_10, if_pos c_11, if_neg (show ¬ sp_r nr (p0 - 10) from fun q => Int32.not_lt.mpr (zm_ct q hnr).2 c_8)] <;> rfl) (by simp only [sp_count, if_neg c_1, if_pos c_8, if_neg c_9, if_neg c_10, if_pos c_11, if_neg (show ¬ sp_r nr (p0 - 10) from fun q => Int32.not_lt.mpr (zm_ct q hnr).2 c_8)] <;> rfl)
          · rcases Decidable.em (p0 = 3) with c_12 | c_12
            · have ec_12 : (p0).toInt = 3 := by rw [c_12]; rfl
              refine lv_tableIn (tgt := 91) hx hb dX3_count_38 (by rw [ec_12]; decide) (by rw [ec_12]; decide) (by rw [ec_12]; rfl) (by decide) ?_
              refine lv_aload_n hx hb dX3_count_91 rfl (lv_at hl 0 rfl) ?_
              refine zw_getf (r := (20, 0, 0)) (v := .int (σ (0, 0, 0) 3)) (C := RX3) (T := TX3) (N := 17) (ci := 3) hx hb hts hwX3 hown hK hP (hM 0 (by decide)) rfl rfl 9 (by decide) (hts (.fieldLink RX3 78 "FourTrackDeckModel" "s" "I") (by decide +kernel)) (fun _ h9 => h9) rfl dX3_count_92 ?_
              exact zw_iret hx hb hr hlk hK hP hD hS dX3_count_95 (by simp only [sp_count, if_neg c_1, if_pos c_8, if_neg c_9, if_neg c_10, if_neg c_11, if_pos c_12, if_neg (show ¬ sp_r nr (p0 - 10) from fun q => Int32.not_lt.mpr (zm_ct q hnr).2 c_8)] <;> rfl) (by simp only [sp_count, if_neg c_1, if_pos c_8, if_neg c_9, if_neg c_10, if_neg c_11, if_pos c_12, if_neg (show ¬ sp_r nr (p0 - 10) from fun q => Int32.not_lt.mpr (zm_ct q hnr).2 c_8)] <;> rfl)
            · rcases Decidable.em (p0 = 4) with c_13 | c_13
              · have ec_13 : (p0).toInt = 4 := by rw [c_13]; rfl
                refine lv_tableIn (tgt := 96) hx hb dX3_count_38 (by rw [ec_13]; decide) (by rw [ec_13]; decide) (by rw [ec_13]; rfl) (by decide) ?_
                refine lv_aload_n hx hb dX3_count_96 rfl (lv_at hl 0 rfl) ?_
                refine zw_getf (r := (20, 0, 0)) (v := .int (σ (0, 0, 0) 5)) (C := RX3) (T := TX3) (N := 17) (ci := 3) hx hb hts hwX3 hown hK hP (hM 0 (by decide)) rfl rfl 13 (by decide) (hts (.fieldLink RX3 35 "FourTrackDeckModel" "rows" "I") (by decide +kernel)) (fun _ h9 => h9) rfl dX3_count_97 ?_
                exact zw_iret hx hb hr hlk hK hP hD hS dX3_count_100 (by simp only [sp_count, if_neg c_1, if_pos c_8, if_neg c_9, if_neg c_10, if_neg c_11, if_neg c_12, if_pos c_13, if_neg (show ¬ sp_r nr (p0 - 10) from fun q => Int32.not_lt.mpr (zm_ct q hnr).2 c_8)] <;> rfl) (by simp only [sp_count, if_neg c_1, if_pos c_8, if_neg c_9, if_neg c_10, if_neg c_11, if_neg c_12, if_pos c_13, if_neg (show ¬ sp_r nr (p0 - 10) from fun q => Int32.not_lt.mpr (zm_ct q hnr).2 c_8)] <;> rfl)
              · rcases Decidable.em (p0 = 5) with c_14 | c_14
                · have ec_14 : (p0).toInt = 5 := by rw [c_14]; rfl
                  refine lv_tableIn (tgt := 101) hx hb dX3_count_38 (by rw [ec_14]; decide) (by rw [ec_14]; decide) (by rw [ec_14]; rfl) (by decide) ?_
                  refine lv_aload_n hx hb dX3_count_101 rfl (lv_at hl 0 rfl) ?_
                  refine zw_getf (r := (20, 0, 0)) (v := .int (σ (0, 0, 0) 6)) (C := RX3) (T := TX3) (N := 17) (ci := 3) hx hb hts hwX3 hown hK hP (hM 0 (by decide)) rfl rfl 14 (by decide) (hts (.fieldLink RX3 38 "FourTrackDeckModel" "cells" "I") (by decide +kernel)) (fun _ h9 => h9) rfl dX3_count_102 ?_
                  exact zw_iret hx hb hr hlk hK hP hD hS dX3_count_105 (by simp only [sp_count, if_neg c_1, if_pos c_8, if_neg c_9, if_neg c_10, if_neg c_11, if_neg c_12, if_neg c_13, if_pos c_14, if_neg (show ¬ sp_r nr (p0 - 10) from fun q => Int32.not_lt.mpr (zm_ct q hnr).2 c_8)] <;> rfl) (by simp only [sp_count, if_neg c_1, if_pos c_8, if_neg c_9, if_neg c_10, if_neg c_11, if_neg c_12, if_neg c_13, if_pos c_14, if_neg (show ¬ sp_r nr (p0 - 10) from fun q => Int32.not_lt.mpr (zm_ct q hnr).2 c_8)] <;> rfl)
                · have nc_9 := lv_neT c_9 (a := 0) rfl; have nc_10 := lv_neT c_10 (a := 1) rfl; have nc_11 := lv_neT c_11 (a := 2) rfl; have nc_12 := lv_neT c_12 (a := 3) rfl; have nc_13 := lv_neT c_13 (a := 4) rfl; have nc_14 := lv_neT c_14 (a := 5) rfl
                  refine lv_tableOut (tgt := 106) hx hb dX3_count_38 (by omega) (by decide) ?_
                  refine lv_iconst (v := (-1)) hx hb dX3_count_106 (by decide) ?_
                  exact zw_iret hx hb hr hlk hK hP hD hS dX3_count_107 (by simp only [sp_count, if_neg c_1, if_pos c_8, if_neg c_9, if_neg c_10, if_neg c_11, if_neg c_12, if_neg c_13, if_neg c_14, if_neg (show ¬ sp_r nr (p0 - 10) from fun q => Int32.not_lt.mpr (zm_ct q hnr).2 c_8)] <;> rfl) (by simp only [sp_count, if_neg c_1, if_pos c_8, if_neg c_9, if_neg c_10, if_neg c_11, if_neg c_12, if_neg c_13, if_neg c_14, if_neg (show ¬ sp_r nr (p0 - 10) from fun q => Int32.not_lt.mpr (zm_ct q hnr).2 c_8)] <;> rfl)
    · refine lv_aload_n hx hb dX3_count_12 rfl (lv_at hl 0 rfl) ?_
      refine lv_iload_n hx hb dX3_count_13 rfl (lv_at hl 1 rfl) ?_
      refine lv_bipush (v := 10) hx hb dX3_count_14 (by decide) ?_
      refine lv_isub hx hb dX3_count_16 ?_
      rcases Decidable.em (sp_r nr (p0 - 10)) with h_15 | h_15
      · refine zw_cV (r := (20, 0, 0)) (As := [.int (p0 - 10)]) (rest := []) (st1 := [.int 1]) ⟨hx, hb, hml, hown, hts⟩ (cm_isReel_1 (σ := σ) hM hI0 (p0 - 10) h_15) (cwV 1 hts gX3_count_X3_isReel rfl rfl rfl (by decide +kernel) ⟨Nat.le_of_ble_eq_true rfl, Nat.le_of_ble_eq_true rfl⟩) (hM 0 (by decide)) rfl rfl rfl hK hP hD hS hA hN rfl hl.1 rfl (Nat.le_of_ble_eq_true rfl) rfl dX3_count_17 ⟨Nat.zero_le _, Nat.zero_le _⟩ (fun H locs hP hD hS => ?_)
        refine lv_if_eq (tgt := 35) hx hb dX3_count_20 (by decide) (fun c_16 => absurd c_16 (by decide)) (fun c_16 => ?_)
        refine lv_aload_n hx hb dX3_count_23 rfl (lv_at hl 0 rfl) ?_
        refine zw_getf (r := (20, 0, 0)) (v := .ref (ad (22, 0, 0))) (C := RX3) (T := TX3) (N := 17) (ci := 3) hx hb hts hwX3 hown hK hP (hM 0 (by decide)) rfl rfl 2 (by decide) (hts (.fieldLink RX3 13 "FourTrackDeckModel" "there" "[I") (by decide +kernel)) (fun _ h9 => h9) rfl dX3_count_24 ?_
        refine lv_iload_n hx hb dX3_count_27 rfl (lv_at hl 1 rfl) ?_
        refine lv_bipush (v := 10) hx hb dX3_count_28 (by decide) ?_
        refine lv_isub hx hb dX3_count_30 ?_
        refine zw_iald (r := (22, 0, 0)) hx hb hK hP (hM 2 (by decide)) 0 rfl rfl (ze_r8 h_15 hnr).1 dX3_count_31 ?_
        refine lv_goto (tgt := 36) hx hb dX3_count_32 (by decide) ?_
        exact zw_iret hx hb hr hlk hK hP hD hS dX3_count_36 (by simp only [sp_count, if_neg c_1, if_neg c_8, if_pos h_15, if_neg (show ¬ p0 = 0 from fun q => c_1 (by rw [q]; decide)), if_neg (show ¬ p0 = 1 from fun q => c_1 (by rw [q]; decide)), if_neg (show ¬ p0 = 2 from fun q => c_1 (by rw [q]; decide)), if_neg (show ¬ p0 = 3 from fun q => c_1 (by rw [q]; decide)), if_neg (show ¬ p0 = 4 from fun q => c_1 (by rw [q]; decide)), if_neg (show ¬ p0 = 5 from fun q => c_1 (by rw [q]; decide))] <;> rfl) (by simp only [sp_count, if_neg c_1, if_neg c_8, if_pos h_15, if_neg (show ¬ p0 = 0 from fun q => c_1 (by rw [q]; decide)), if_neg (show ¬ p0 = 1 from fun q => c_1 (by rw [q]; decide)), if_neg (show ¬ p0 = 2 from fun q => c_1 (by rw [q]; decide)), if_neg (show ¬ p0 = 3 from fun q => c_1 (by rw [q]; decide)), if_neg (show ¬ p0 = 4 from fun q => c_1 (by rw [q]; decide)), if_neg (show ¬ p0 = 5 from fun q => c_1 (by rw [q]; decide))] <;> rfl)
      · refine zw_cV (r := (20, 0, 0)) (As := [.int (p0 - 10)]) (rest := []) (st1 := [.int 0]) ⟨hx, hb, hml, hown, hts⟩ (cm_isReel_0 (σ := σ) hM hI0 (p0 - 10) h_15) (cwV 1 hts gX3_count_X3_isReel rfl rfl rfl (by decide +kernel) ⟨Nat.le_of_ble_eq_true rfl, Nat.le_of_ble_eq_true rfl⟩) (hM 0 (by decide)) rfl rfl rfl hK hP hD hS hA hN rfl hl.1 rfl (Nat.le_of_ble_eq_true rfl) rfl dX3_count_17 ⟨Nat.zero_le _, Nat.zero_le _⟩ (fun H locs hP hD hS => ?_)
        refine lv_if_eq (tgt := 35) hx hb dX3_count_20 (by decide) (fun c_17 => ?_) (fun c_17 => absurd (by decide) c_17)
        refine lv_iconst (v := (-1)) hx hb dX3_count_35 (by decide) ?_
        exact zw_iret hx hb hr hlk hK hP hD hS dX3_count_36 (by simp only [sp_count, if_neg c_1, if_neg c_8, if_neg h_15, if_neg (show ¬ p0 = 0 from fun q => c_1 (by rw [q]; decide)), if_neg (show ¬ p0 = 1 from fun q => c_1 (by rw [q]; decide)), if_neg (show ¬ p0 = 2 from fun q => c_1 (by rw [q]; decide)), if_neg (show ¬ p0 = 3 from fun q => c_1 (by rw [q]; decide)), if_neg (show ¬ p0 = 4 from fun q => c_1 (by rw [q]; decide)), if_neg (show ¬ p0 = 5 from fun q => c_1 (by rw [q]; decide))] <;> rfl) (by simp only [sp_count, if_neg c_1, if_neg c_8, if_neg h_15, if_neg (show ¬ p0 = 0 from fun q => c_1 (by rw [q]; decide)), if_neg (show ¬ p0 = 1 from fun q => c_1 (by rw [q]; decide)), if_neg (show ¬ p0 = 2 from fun q => c_1 (by rw [q]; decide)), if_neg (show ¬ p0 = 3 from fun q => c_1 (by rw [q]; decide)), if_neg (show ¬ p0 = 4 from fun q => c_1 (by rw [q]; decide)), if_neg (show ¬ p0 = 5 from fun q => c_1 (by rw [q]; decide))] <;> rfl)
set_option maxHeartbeats 4000000 in
set_option maxRecDepth 100000 in
theorem cm_status {l : Launch} {dC : Nat → ClassId} {dI : Nat → Nat → Nat} {cA : Nat → ClassId} {ad : zw_R → Nat} {R : List zw_R} {nr : Nat} {len : Nat → Nat} {σ : sp_S} {cD : zw_R → va_E} (hM : zm_R R) : zw_M l yX3_status wsX3_status { frames := 0, cells := 0, slots := 0, locals := 0 } (ze_E dC dI cA) [.ref (ad (20, 0, 0))] ad R (ze_X cD (ze_M cA ad len σ)) (some (.int ((sp_status nr len σ).1))) (ze_X cD (ze_M cA ad len (sp_status nr len σ).2)) := by
  refine zw_body (cc := cX3_status) (maxL := 1) (ret := (some .int)) (by decide) rfl (Nat.le_of_ble_eq_true rfl) ?_
  intro p e s m below meth c A ls hx hb hr hlk hml hts hown hnm hA hK hP hD hS hN hl
  have hl : lv_has ls 1 [(0, .ref (ad (20, 0, 0)))] := hl
  have hwX3 : ∀ w ∈ u_ws RX3 TX3 17, w ∈ wsX3_status := by decide +kernel
  refine lv_aload_n hx hb dX3_status_0 rfl (lv_at hl 0 rfl) ?_
  refine zw_getf (r := (20, 0, 0)) (v := .int (σ (0, 0, 0) 9)) (C := RX3) (T := TX3) (N := 17) (ci := 3) hx hb hts hwX3 hown hK hP (hM 0 (by decide)) rfl rfl 16 (by decide) (hts (.fieldLink RX3 44 "FourTrackDeckModel" "status" "I") (by decide +kernel)) (fun _ h9 => h9) rfl dX3_status_1 ?_
  exact zw_iret hx hb hr hlk hK hP hD hS dX3_status_4 rfl rfl
set_option maxHeartbeats 4000000 in
set_option maxRecDepth 100000 in
theorem cm_act {l : Launch} {dC : Nat → ClassId} {dI : Nat → Nat → Nat} {cA : Nat → ClassId} {ad : zw_R → Nat} {R : List zw_R} {nr : Nat} {len : Nat → Nat} {σ : sp_S} {cD : zw_R → va_E} (hM : zm_R R) (hnr : nr ≤ 8) (hlen : ∀ i, i < nr → len i ≤ 64) (p0 : Int32) (h : sp_v nr (σ (0, 0, 0) 1) p0) (hmo : sp_t (σ (3, 0, 0) p0.toNatClampNeg)) : zw_M l yX3_act wsX3_act { frames := 2, cells := 0, slots := 0, locals := 45 } (ze_E dC dI cA) [.ref (ad (20, 0, 0)), .int p0] ad R (ze_X cD (ze_M cA ad len σ)) (some (.int ((sp_mv nr len σ p0).1))) (ze_X cD (ze_M cA ad len (sp_mv nr len σ p0).2)) := by
  refine zw_body (cc := cX3_act) (maxL := 4) (ret := (some .int)) (by decide) rfl (Nat.le_of_ble_eq_true rfl) ?_
  intro p e s m below meth c A ls hx hb hr hlk hml hts hown hnm hA hK hP hD hS hN hl
  have hl : lv_has ls 4 [(0, .ref (ad (20, 0, 0))), (1, .int p0)] := hl
  have hwX3 : ∀ w ∈ u_ws RX3 TX3 17, w ∈ wsX3_act := by decide +kernel
  refine lv_aload_n hx hb dX3_act_0 rfl (lv_at hl 0 rfl) ?_
  refine zw_getf (r := (20, 0, 0)) (v := .ref (ad (25, 0, 0))) (C := RX3) (T := TX3) (N := 17) (ci := 3) hx hb hts hwX3 hown hK hP (hM 0 (by decide)) rfl rfl 7 (by decide) (hts (.fieldLink RX3 26 "FourTrackDeckModel" "mode" "[I") (by decide +kernel)) (fun _ h9 => h9) rfl dX3_act_1 ?_
  refine lv_iload_n hx hb dX3_act_4 rfl (lv_at hl 1 rfl) ?_
  refine zw_iald (r := (25, 0, 0)) hx hb hK hP (hM 5 (by decide)) 0 rfl rfl (ze_ti h.2) dX3_act_5 ?_
  refine lv_if_ne (tgt := 11) hx hb dX3_act_6 (by decide) (fun c_1 => ?_) (fun c_1 => ?_)
  · refine lv_aload_n hx hb dX3_act_11 rfl (lv_at hl 0 rfl) ?_
    refine lv_aload_n hx hb dX3_act_12 rfl (lv_at hl 0 rfl) ?_
    refine zw_getf (r := (20, 0, 0)) (v := .int (σ (0, 0, 0) 1)) (C := RX3) (T := TX3) (N := 17) (ci := 3) hx hb hts hwX3 hown hK hP (hM 0 (by decide)) rfl rfl 4 (by decide) (hts (.fieldLink RX3 19 "FourTrackDeckModel" "onDeck" "I") (by decide +kernel)) (fun _ h9 => h9) rfl dX3_act_13 ?_
    refine lv_iload_n hx hb dX3_act_16 rfl (lv_at hl 1 rfl) ?_
    refine lv_aload_n hx hb dX3_act_17 rfl (lv_at hl 0 rfl) ?_
    refine lv_iload_n hx hb dX3_act_18 rfl (lv_at hl 1 rfl) ?_
    refine zw_cV (r := (20, 0, 0)) (As := [.int p0]) (rest := [.int p0, .int (σ (0, 0, 0) 1), .ref (ad (20, 0, 0))]) (st1 := [.int (σ (0, 0, 0) 2 + σ (2, 0, 0) p0.toNatClampNeg), .int p0, .int (σ (0, 0, 0) 1), .ref (ad (20, 0, 0))]) ⟨hx, hb, hml, hown, hts⟩ (cm_place (σ := σ) hM p0 h.2) (cwV 1 hts gX3_act_X3_place rfl rfl rfl (by decide +kernel) ⟨Nat.le_of_ble_eq_true rfl, Nat.le_of_ble_eq_true rfl⟩) (hM 0 (by decide)) rfl rfl rfl hK hP hD hS hA hN rfl hl.1 rfl (Nat.le_of_ble_eq_true rfl) rfl dX3_act_19 ⟨Nat.zero_le _, Nat.zero_le _⟩ (fun H locs hP hD hS => ?_)
    refine zw_cV (r := (20, 0, 0)) (As := [.int (σ (0, 0, 0) 1), .int p0, .int (σ (0, 0, 0) 2 + σ (2, 0, 0) p0.toNatClampNeg)]) (rest := []) (st1 := [.int (sp_f len σ (σ (0, 0, 0) 1).toNatClampNeg p0.toNatClampNeg (σ (0, 0, 0) 2 + σ (2, 0, 0) p0.toNatClampNeg))]) ⟨hx, hb, hml, hown, hts⟩ (cm_fault (σ := σ) hM hnr (σ (0, 0, 0) 1) p0 (σ (0, 0, 0) 2 + σ (2, 0, 0) p0.toNatClampNeg) h.1 h.2) (cwV 3 hts gX3_act_X3_fault rfl rfl rfl (by decide +kernel) ⟨Nat.le_of_ble_eq_true rfl, Nat.le_of_ble_eq_true rfl⟩) (hM 0 (by decide)) rfl rfl rfl hK hP hD hS hA hN rfl hl.1 rfl (Nat.le_of_ble_eq_true rfl) rfl dX3_act_22 ⟨Nat.zero_le _, Nat.zero_le _⟩ (fun H locs hP hD hS => ?_)
    refine lv_istore_n (lv' := [(2, .int (sp_f len σ (σ (0, 0, 0) 1).toNatClampNeg p0.toNatClampNeg (σ (0, 0, 0) 2 + σ (2, 0, 0) p0.toNatClampNeg))), (0, .ref (ad (20, 0, 0))), (1, .int p0)]) hx hb dX3_act_25 rfl hl (by decide) rfl (fun ls hl => ?_)
    refine lv_iload_n hx hb dX3_act_26 rfl (lv_at hl 0 rfl) ?_
    refine lv_if_eq (tgt := 32) hx hb dX3_act_27 (by decide) (fun c_2 => ?_) (fun c_2 => ?_)
    · refine lv_aload_n hx hb dX3_act_32 rfl (lv_at hl 1 rfl) ?_
      refine lv_aload_n hx hb dX3_act_33 rfl (lv_at hl 1 rfl) ?_
      refine zw_getf (r := (20, 0, 0)) (v := .int (σ (0, 0, 0) 1)) (C := RX3) (T := TX3) (N := 17) (ci := 3) hx hb hts hwX3 hown hK hP (hM 0 (by decide)) rfl rfl 4 (by decide) (hts (.fieldLink RX3 19 "FourTrackDeckModel" "onDeck" "I") (by decide +kernel)) (fun _ h9 => h9) rfl dX3_act_34 ?_
      refine lv_iload_n hx hb dX3_act_37 rfl (lv_at hl 2 rfl) ?_
      refine lv_aload_n hx hb dX3_act_38 rfl (lv_at hl 1 rfl) ?_
      refine lv_iload_n hx hb dX3_act_39 rfl (lv_at hl 2 rfl) ?_
      refine zw_cV (r := (20, 0, 0)) (As := [.int p0]) (rest := [.int p0, .int (σ (0, 0, 0) 1), .ref (ad (20, 0, 0))]) (st1 := [.int (σ (0, 0, 0) 2 + σ (2, 0, 0) p0.toNatClampNeg), .int p0, .int (σ (0, 0, 0) 1), .ref (ad (20, 0, 0))]) ⟨hx, hb, hml, hown, hts⟩ (cm_place (σ := σ) hM p0 h.2) (cwV 1 hts gX3_act_X3_place rfl rfl rfl (by decide +kernel) ⟨Nat.le_of_ble_eq_true rfl, Nat.le_of_ble_eq_true rfl⟩) (hM 0 (by decide)) rfl rfl rfl hK hP hD hS hA hN rfl hl.1 rfl (Nat.le_of_ble_eq_true rfl) rfl dX3_act_40 ⟨Nat.zero_le _, Nat.zero_le _⟩ (fun H locs hP hD hS => ?_)
      refine zw_cV (r := (20, 0, 0)) (As := [.int (σ (0, 0, 0) 1), .int p0, .int (σ (0, 0, 0) 2 + σ (2, 0, 0) p0.toNatClampNeg)]) (rest := []) (st1 := [.int ((4 * (σ (0, 0, 0) 1) + p0) * 64 + (σ (0, 0, 0) 2 + σ (2, 0, 0) p0.toNatClampNeg))]) ⟨hx, hb, hml, hown, hts⟩ (cm_at (σ := σ) (σ (0, 0, 0) 1) p0 (σ (0, 0, 0) 2 + σ (2, 0, 0) p0.toNatClampNeg)) (cwV 3 hts gX3_act_X3_at rfl rfl rfl (by decide +kernel) ⟨Nat.le_of_ble_eq_true rfl, Nat.le_of_ble_eq_true rfl⟩) (hM 0 (by decide)) rfl rfl rfl hK hP hD hS hA hN rfl hl.1 rfl (Nat.le_of_ble_eq_true rfl) rfl dX3_act_43 ⟨Nat.zero_le _, Nat.zero_le _⟩ (fun H locs hP hD hS => ?_)
      refine lv_istore_n (lv' := [(3, .int ((4 * (σ (0, 0, 0) 1) + p0) * 64 + (σ (0, 0, 0) 2 + σ (2, 0, 0) p0.toNatClampNeg))), (2, .int (sp_f len σ (σ (0, 0, 0) 1).toNatClampNeg p0.toNatClampNeg (σ (0, 0, 0) 2 + σ (2, 0, 0) p0.toNatClampNeg))), (0, .ref (ad (20, 0, 0))), (1, .int p0)]) hx hb dX3_act_46 rfl hl (by decide) rfl (fun ls hl => ?_)
      refine lv_aload_n hx hb dX3_act_47 rfl (lv_at hl 2 rfl) ?_
      refine zw_getf (r := (20, 0, 0)) (v := .ref (ad (25, 0, 0))) (C := RX3) (T := TX3) (N := 17) (ci := 3) hx hb hts hwX3 hown hK hP (hM 0 (by decide)) rfl rfl 7 (by decide) (hts (.fieldLink RX3 26 "FourTrackDeckModel" "mode" "[I") (by decide +kernel)) (fun _ h9 => h9) rfl dX3_act_48 ?_
      refine lv_iload_n hx hb dX3_act_51 rfl (lv_at hl 3 rfl) ?_
      refine zw_iald (r := (25, 0, 0)) hx hb hK hP (hM 5 (by decide)) 0 rfl rfl (ze_ti h.2) dX3_act_52 ?_
      refine lv_iconst (v := 1) hx hb dX3_act_53 (by decide) ?_
      refine lv_icmp_ne (tgt := 74) hx hb dX3_act_54 (by decide) (fun c_3 => ?_) (fun c_3 => ?_)
      · refine lv_aload_n hx hb dX3_act_74 rfl (lv_at hl 2 rfl) ?_
        refine zw_getf (r := (20, 0, 0)) (v := .ref (ad (23, 0, 0))) (C := RX3) (T := TX3) (N := 17) (ci := 3) hx hb hts hwX3 hown hK hP (hM 0 (by decide)) rfl rfl 3 (by decide) (hts (.fieldLink RX3 16 "FourTrackDeckModel" "number" "[I") (by decide +kernel)) (fun _ h9 => h9) rfl dX3_act_75 ?_
        refine lv_iload_n hx hb dX3_act_78 rfl (lv_at hl 0 rfl) ?_
        refine lv_aload_n hx hb dX3_act_79 rfl (lv_at hl 2 rfl) ?_
        refine lv_iload_n hx hb dX3_act_80 rfl (lv_at hl 3 rfl) ?_
        refine lv_aload_n hx hb dX3_act_81 rfl (lv_at hl 2 rfl) ?_
        refine zw_getf (r := (20, 0, 0)) (v := .ref (ad (25, 0, 0))) (C := RX3) (T := TX3) (N := 17) (ci := 3) hx hb hts hwX3 hown hK hP (hM 0 (by decide)) rfl rfl 7 (by decide) (hts (.fieldLink RX3 26 "FourTrackDeckModel" "mode" "[I") (by decide +kernel)) (fun _ h9 => h9) rfl dX3_act_82 ?_
        refine lv_iload_n hx hb dX3_act_85 rfl (lv_at hl 3 rfl) ?_
        refine zw_iald (r := (25, 0, 0)) hx hb hK hP (hM 5 (by decide)) 0 rfl rfl (ze_ti h.2) dX3_act_86 ?_
        refine lv_iconst (v := 2) hx hb dX3_act_87 (by decide) ?_
        refine lv_icmp_ne (tgt := 98) hx hb dX3_act_88 (by decide) (fun c_4 => ?_) (fun c_4 => ?_)
        · refine lv_aload_n hx hb dX3_act_98 rfl (lv_at hl 2 rfl) ?_
          refine zw_getf (r := (20, 0, 0)) (v := .ref (ad (23, 0, 0))) (C := RX3) (T := TX3) (N := 17) (ci := 3) hx hb hts hwX3 hown hK hP (hM 0 (by decide)) rfl rfl 3 (by decide) (hts (.fieldLink RX3 16 "FourTrackDeckModel" "number" "[I") (by decide +kernel)) (fun _ h9 => h9) rfl dX3_act_99 ?_
          refine lv_iload_n hx hb dX3_act_102 rfl (lv_at hl 0 rfl) ?_
          refine zw_ialdv (r := (23, 0, 0)) (v := (σ (9, (σ (0, 0, 0) 1).toNatClampNeg, p0.toNatClampNeg) (σ (0, 0, 0) 2 + σ (2, 0, 0) p0.toNatClampNeg).toNatClampNeg)) hx hb hK hP (hM 3 (by decide)) 0 rfl rfl (zm_at h.1 hnr h.2 (ze_fi (hlen _ (ze_vr h.1 hnr)) c_2) (hlen _ (ze_vr h.1 hnr))).2.1 (zm_rd h.1 hnr h.2 (ze_fi (hlen _ (ze_vr h.1 hnr)) c_2) (hlen _ (ze_vr h.1 hnr))) dX3_act_103 ?_
          refine lv_aload_n hx hb dX3_act_104 rfl (lv_at hl 2 rfl) ?_
          refine zw_getf (r := (20, 0, 0)) (v := .int (σ (0, 0, 0) 3)) (C := RX3) (T := TX3) (N := 17) (ci := 3) hx hb hts hwX3 hown hK hP (hM 0 (by decide)) rfl rfl 9 (by decide) (hts (.fieldLink RX3 78 "FourTrackDeckModel" "s" "I") (by decide +kernel)) (fun _ h9 => h9) rfl dX3_act_105 ?_
          refine lv_iadd hx hb dX3_act_108 ?_
          refine zw_cV (r := (20, 0, 0)) (As := [.int p0, .int ((σ (9, (σ (0, 0, 0) 1).toNatClampNeg, p0.toNatClampNeg) (σ (0, 0, 0) 2 + σ (2, 0, 0) p0.toNatClampNeg).toNatClampNeg) + (σ (0, 0, 0) 3))]) (rest := [.int ((4 * (σ (0, 0, 0) 1) + p0) * 64 + (σ (0, 0, 0) 2 + σ (2, 0, 0) p0.toNatClampNeg)), .ref (ad (23, 0, 0))]) (st1 := [.int (sp_as p0.toNatClampNeg ((σ (9, (σ (0, 0, 0) 1).toNatClampNeg, p0.toNatClampNeg) (σ (0, 0, 0) 2 + σ (2, 0, 0) p0.toNatClampNeg).toNatClampNeg) + (σ (0, 0, 0) 3))), .int ((4 * (σ (0, 0, 0) 1) + p0) * 64 + (σ (0, 0, 0) 2 + σ (2, 0, 0) p0.toNatClampNeg)), .ref (ad (23, 0, 0))]) ⟨hx, hb, hml, hown, hts⟩ (cm_fit (σ := σ) p0 ((σ (9, (σ (0, 0, 0) 1).toNatClampNeg, p0.toNatClampNeg) (σ (0, 0, 0) 2 + σ (2, 0, 0) p0.toNatClampNeg).toNatClampNeg) + (σ (0, 0, 0) 3)) h.2) (cwV 2 hts gX3_act_X3_fit rfl rfl rfl (by decide +kernel) ⟨Nat.le_of_ble_eq_true rfl, Nat.le_of_ble_eq_true rfl⟩) (hM 0 (by decide)) rfl rfl rfl hK hP hD hS hA hN rfl hl.1 rfl (Nat.le_of_ble_eq_true rfl) rfl dX3_act_109 ⟨Nat.zero_le _, Nat.zero_le _⟩ (fun H locs hP hD hS => ?_)
          refine zw_iast (r := (23, 0, 0)) hx hb hK hP hD hS (hM 3 (by decide)) 0 rfl rfl (zm_at h.1 hnr h.2 (ze_fi (hlen _ (ze_vr h.1 hnr)) c_2) (hlen _ (ze_vr h.1 hnr))).2.1 dX3_act_112 (cu1 := ze_X cD (ze_M cA ad len (sp_s σ (9, (σ (0, 0, 0) 1).toNatClampNeg, p0.toNatClampNeg) (σ (0, 0, 0) 2 + σ (2, 0, 0) p0.toNatClampNeg).toNatClampNeg (sp_as p0.toNatClampNeg ((σ (9, (σ (0, 0, 0) 1).toNatClampNeg, p0.toNatClampNeg) (σ (0, 0, 0) 2 + σ (2, 0, 0) p0.toNatClampNeg).toNatClampNeg) + (σ (0, 0, 0) 3)))))) (zm_N (zm_at h.1 hnr h.2 (ze_fi (hlen _ (ze_vr h.1 hnr)) c_2) (hlen _ (ze_vr h.1 hnr))).1 (ze_vt h.2) (zm_at h.1 hnr h.2 (ze_fi (hlen _ (ze_vr h.1 hnr)) c_2) (hlen _ (ze_vr h.1 hnr))).2.2) (fun H locs hP hD hS => ?_)
          refine lv_aload_n hx hb dX3_act_113 rfl (lv_at hl 2 rfl) ?_
          refine lv_dup hx hb dX3_act_114 rfl ?_
          refine zw_getf (r := (20, 0, 0)) (v := .int ((sp_s σ (9, (σ (0, 0, 0) 1).toNatClampNeg, p0.toNatClampNeg) (σ (0, 0, 0) 2 + σ (2, 0, 0) p0.toNatClampNeg).toNatClampNeg (sp_as p0.toNatClampNeg ((σ (9, (σ (0, 0, 0) 1).toNatClampNeg, p0.toNatClampNeg) (σ (0, 0, 0) 2 + σ (2, 0, 0) p0.toNatClampNeg).toNatClampNeg) + (σ (0, 0, 0) 3)))) (0, 0, 0) 3)) (C := RX3) (T := TX3) (N := 17) (ci := 3) hx hb hts hwX3 hown hK hP (hM 0 (by decide)) rfl rfl 9 (by decide) (hts (.fieldLink RX3 78 "FourTrackDeckModel" "s" "I") (by decide +kernel)) (fun _ h9 => h9) rfl dX3_act_115 ?_
          refine lv_aload_n hx hb dX3_act_118 rfl (lv_at hl 2 rfl) ?_
          refine zw_getf (r := (20, 0, 0)) (v := .int ((sp_s σ (9, (σ (0, 0, 0) 1).toNatClampNeg, p0.toNatClampNeg) (σ (0, 0, 0) 2 + σ (2, 0, 0) p0.toNatClampNeg).toNatClampNeg (sp_as p0.toNatClampNeg ((σ (9, (σ (0, 0, 0) 1).toNatClampNeg, p0.toNatClampNeg) (σ (0, 0, 0) 2 + σ (2, 0, 0) p0.toNatClampNeg).toNatClampNeg) + (σ (0, 0, 0) 3)))) (0, 0, 0) 4)) (C := RX3) (T := TX3) (N := 17) (ci := 3) hx hb hts hwX3 hown hK hP (hM 0 (by decide)) rfl rfl 10 (by decide) (hts (.fieldLink RX3 81 "FourTrackDeckModel" "step" "I") (by decide +kernel)) (fun _ h9 => h9) rfl dX3_act_119 ?_
          refine lv_iadd hx hb dX3_act_122 ?_
          refine zw_putf (r := (20, 0, 0)) (v := .int (((sp_s σ (9, (σ (0, 0, 0) 1).toNatClampNeg, p0.toNatClampNeg) (σ (0, 0, 0) 2 + σ (2, 0, 0) p0.toNatClampNeg).toNatClampNeg (sp_as p0.toNatClampNeg ((σ (9, (σ (0, 0, 0) 1).toNatClampNeg, p0.toNatClampNeg) (σ (0, 0, 0) 2 + σ (2, 0, 0) p0.toNatClampNeg).toNatClampNeg) + (σ (0, 0, 0) 3)))) (0, 0, 0) 3) + ((sp_s σ (9, (σ (0, 0, 0) 1).toNatClampNeg, p0.toNatClampNeg) (σ (0, 0, 0) 2 + σ (2, 0, 0) p0.toNatClampNeg).toNatClampNeg (sp_as p0.toNatClampNeg ((σ (9, (σ (0, 0, 0) 1).toNatClampNeg, p0.toNatClampNeg) (σ (0, 0, 0) 2 + σ (2, 0, 0) p0.toNatClampNeg).toNatClampNeg) + (σ (0, 0, 0) 3)))) (0, 0, 0) 4))) (C := RX3) (T := TX3) (N := 17) (ci := 3) hx hb hts hwX3 tyX3 tyX3_ok nmX3 hown hK hP hD hS (hM 0 (by decide)) rfl rfl 9 (by decide) (hts (.fieldLink RX3 78 "FourTrackDeckModel" "s" "I") (by decide +kernel)) (fun _ h9 => h9) rfl (ty := .int) (by decide +kernel) rfl rfl (Nat.le_of_ble_eq_true rfl) dX3_act_123 (cu1 := ze_X cD (ze_M cA ad len (sp_s (sp_s σ (9, (σ (0, 0, 0) 1).toNatClampNeg, p0.toNatClampNeg) (σ (0, 0, 0) 2 + σ (2, 0, 0) p0.toNatClampNeg).toNatClampNeg (sp_as p0.toNatClampNeg ((σ (9, (σ (0, 0, 0) 1).toNatClampNeg, p0.toNatClampNeg) (σ (0, 0, 0) 2 + σ (2, 0, 0) p0.toNatClampNeg).toNatClampNeg) + (σ (0, 0, 0) 3)))) (0, 0, 0) 3 (((sp_s σ (9, (σ (0, 0, 0) 1).toNatClampNeg, p0.toNatClampNeg) (σ (0, 0, 0) 2 + σ (2, 0, 0) p0.toNatClampNeg).toNatClampNeg (sp_as p0.toNatClampNeg ((σ (9, (σ (0, 0, 0) 1).toNatClampNeg, p0.toNatClampNeg) (σ (0, 0, 0) 2 + σ (2, 0, 0) p0.toNatClampNeg).toNatClampNeg) + (σ (0, 0, 0) 3)))) (0, 0, 0) 3) + ((sp_s σ (9, (σ (0, 0, 0) 1).toNatClampNeg, p0.toNatClampNeg) (σ (0, 0, 0) 2 + σ (2, 0, 0) p0.toNatClampNeg).toNatClampNeg (sp_as p0.toNatClampNeg ((σ (9, (σ (0, 0, 0) 1).toNatClampNeg, p0.toNatClampNeg) (σ (0, 0, 0) 2 + σ (2, 0, 0) p0.toNatClampNeg).toNatClampNeg) + (σ (0, 0, 0) 3)))) (0, 0, 0) 4))))) (zm_D rfl) (fun H locs hP hD hS => ?_)
          refine lv_iconst (v := 0) hx hb dX3_act_126 (by decide) ?_
          exact zw_iret hx hb hr hlk hK hP hD hS dX3_act_127 (by simp only [sp_mv, sp_n, sp_put, if_pos h, if_neg c_1, if_pos c_2, if_neg c_3, if_neg c_4, if_pos (ze_t9 hmo c_1 c_3 c_4)] <;> rfl) (by simp only [sp_mv, sp_n, sp_put, if_pos h, if_neg c_1, if_pos c_2, if_neg c_3, if_neg c_4, if_pos (ze_t9 hmo c_1 c_3 c_4)] <;> rfl)
        · refine lv_aload_n hx hb dX3_act_91 rfl (lv_at hl 2 rfl) ?_
          refine zw_getf (r := (20, 0, 0)) (v := .int (σ (0, 0, 0) 3)) (C := RX3) (T := TX3) (N := 17) (ci := 3) hx hb hts hwX3 hown hK hP (hM 0 (by decide)) rfl rfl 9 (by decide) (hts (.fieldLink RX3 78 "FourTrackDeckModel" "s" "I") (by decide +kernel)) (fun _ h9 => h9) rfl dX3_act_92 ?_
          refine lv_goto (tgt := 109) hx hb dX3_act_95 (by decide) ?_
          refine zw_cV (r := (20, 0, 0)) (As := [.int p0, .int (σ (0, 0, 0) 3)]) (rest := [.int ((4 * (σ (0, 0, 0) 1) + p0) * 64 + (σ (0, 0, 0) 2 + σ (2, 0, 0) p0.toNatClampNeg)), .ref (ad (23, 0, 0))]) (st1 := [.int (sp_as p0.toNatClampNeg (σ (0, 0, 0) 3)), .int ((4 * (σ (0, 0, 0) 1) + p0) * 64 + (σ (0, 0, 0) 2 + σ (2, 0, 0) p0.toNatClampNeg)), .ref (ad (23, 0, 0))]) ⟨hx, hb, hml, hown, hts⟩ (cm_fit (σ := σ) p0 (σ (0, 0, 0) 3) h.2) (cwV 2 hts gX3_act_X3_fit rfl rfl rfl (by decide +kernel) ⟨Nat.le_of_ble_eq_true rfl, Nat.le_of_ble_eq_true rfl⟩) (hM 0 (by decide)) rfl rfl rfl hK hP hD hS hA hN rfl hl.1 rfl (Nat.le_of_ble_eq_true rfl) rfl dX3_act_109 ⟨Nat.zero_le _, Nat.zero_le _⟩ (fun H locs hP hD hS => ?_)
          refine zw_iast (r := (23, 0, 0)) hx hb hK hP hD hS (hM 3 (by decide)) 0 rfl rfl (zm_at h.1 hnr h.2 (ze_fi (hlen _ (ze_vr h.1 hnr)) c_2) (hlen _ (ze_vr h.1 hnr))).2.1 dX3_act_112 (cu1 := ze_X cD (ze_M cA ad len (sp_s σ (9, (σ (0, 0, 0) 1).toNatClampNeg, p0.toNatClampNeg) (σ (0, 0, 0) 2 + σ (2, 0, 0) p0.toNatClampNeg).toNatClampNeg (sp_as p0.toNatClampNeg (σ (0, 0, 0) 3))))) (zm_N (zm_at h.1 hnr h.2 (ze_fi (hlen _ (ze_vr h.1 hnr)) c_2) (hlen _ (ze_vr h.1 hnr))).1 (ze_vt h.2) (zm_at h.1 hnr h.2 (ze_fi (hlen _ (ze_vr h.1 hnr)) c_2) (hlen _ (ze_vr h.1 hnr))).2.2) (fun H locs hP hD hS => ?_)
          refine lv_aload_n hx hb dX3_act_113 rfl (lv_at hl 2 rfl) ?_
          refine lv_dup hx hb dX3_act_114 rfl ?_
          refine zw_getf (r := (20, 0, 0)) (v := .int ((sp_s σ (9, (σ (0, 0, 0) 1).toNatClampNeg, p0.toNatClampNeg) (σ (0, 0, 0) 2 + σ (2, 0, 0) p0.toNatClampNeg).toNatClampNeg (sp_as p0.toNatClampNeg (σ (0, 0, 0) 3))) (0, 0, 0) 3)) (C := RX3) (T := TX3) (N := 17) (ci := 3) hx hb hts hwX3 hown hK hP (hM 0 (by decide)) rfl rfl 9 (by decide) (hts (.fieldLink RX3 78 "FourTrackDeckModel" "s" "I") (by decide +kernel)) (fun _ h9 => h9) rfl dX3_act_115 ?_
          refine lv_aload_n hx hb dX3_act_118 rfl (lv_at hl 2 rfl) ?_
          refine zw_getf (r := (20, 0, 0)) (v := .int ((sp_s σ (9, (σ (0, 0, 0) 1).toNatClampNeg, p0.toNatClampNeg) (σ (0, 0, 0) 2 + σ (2, 0, 0) p0.toNatClampNeg).toNatClampNeg (sp_as p0.toNatClampNeg (σ (0, 0, 0) 3))) (0, 0, 0) 4)) (C := RX3) (T := TX3) (N := 17) (ci := 3) hx hb hts hwX3 hown hK hP (hM 0 (by decide)) rfl rfl 10 (by decide) (hts (.fieldLink RX3 81 "FourTrackDeckModel" "step" "I") (by decide +kernel)) (fun _ h9 => h9) rfl dX3_act_119 ?_
          refine lv_iadd hx hb dX3_act_122 ?_
          refine zw_putf (r := (20, 0, 0)) (v := .int (((sp_s σ (9, (σ (0, 0, 0) 1).toNatClampNeg, p0.toNatClampNeg) (σ (0, 0, 0) 2 + σ (2, 0, 0) p0.toNatClampNeg).toNatClampNeg (sp_as p0.toNatClampNeg (σ (0, 0, 0) 3))) (0, 0, 0) 3) + ((sp_s σ (9, (σ (0, 0, 0) 1).toNatClampNeg, p0.toNatClampNeg) (σ (0, 0, 0) 2 + σ (2, 0, 0) p0.toNatClampNeg).toNatClampNeg (sp_as p0.toNatClampNeg (σ (0, 0, 0) 3))) (0, 0, 0) 4))) (C := RX3) (T := TX3) (N := 17) (ci := 3) hx hb hts hwX3 tyX3 tyX3_ok nmX3 hown hK hP hD hS (hM 0 (by decide)) rfl rfl 9 (by decide) (hts (.fieldLink RX3 78 "FourTrackDeckModel" "s" "I") (by decide +kernel)) (fun _ h9 => h9) rfl (ty := .int) (by decide +kernel) rfl rfl (Nat.le_of_ble_eq_true rfl) dX3_act_123 (cu1 := ze_X cD (ze_M cA ad len (sp_s (sp_s σ (9, (σ (0, 0, 0) 1).toNatClampNeg, p0.toNatClampNeg) (σ (0, 0, 0) 2 + σ (2, 0, 0) p0.toNatClampNeg).toNatClampNeg (sp_as p0.toNatClampNeg (σ (0, 0, 0) 3))) (0, 0, 0) 3 (((sp_s σ (9, (σ (0, 0, 0) 1).toNatClampNeg, p0.toNatClampNeg) (σ (0, 0, 0) 2 + σ (2, 0, 0) p0.toNatClampNeg).toNatClampNeg (sp_as p0.toNatClampNeg (σ (0, 0, 0) 3))) (0, 0, 0) 3) + ((sp_s σ (9, (σ (0, 0, 0) 1).toNatClampNeg, p0.toNatClampNeg) (σ (0, 0, 0) 2 + σ (2, 0, 0) p0.toNatClampNeg).toNatClampNeg (sp_as p0.toNatClampNeg (σ (0, 0, 0) 3))) (0, 0, 0) 4))))) (zm_D rfl) (fun H locs hP hD hS => ?_)
          refine lv_iconst (v := 0) hx hb dX3_act_126 (by decide) ?_
          exact zw_iret hx hb hr hlk hK hP hD hS dX3_act_127 (by simp only [sp_mv, sp_n, sp_put, if_pos h, if_neg c_1, if_pos c_2, if_neg c_3, if_pos c_4, if_neg (show ¬ σ (3, 0, 0) p0.toNatClampNeg = 3 from by rw [c_4]; decide)] <;> rfl) (by simp only [sp_mv, sp_n, sp_put, if_pos h, if_neg c_1, if_pos c_2, if_neg c_3, if_pos c_4, if_neg (show ¬ σ (3, 0, 0) p0.toNatClampNeg = 3 from by rw [c_4]; decide)] <;> rfl)
      · refine lv_aload_n hx hb dX3_act_57 rfl (lv_at hl 2 rfl) ?_
        refine zw_getf (r := (20, 0, 0)) (v := .ref (ad (26, 0, 0))) (C := RX3) (T := TX3) (N := 17) (ci := 3) hx hb hts hwX3 hown hK hP (hM 0 (by decide)) rfl rfl 8 (by decide) (hts (.fieldLink RX3 29 "FourTrackDeckModel" "meter" "[I") (by decide +kernel)) (fun _ h9 => h9) rfl dX3_act_58 ?_
        refine lv_iload_n hx hb dX3_act_61 rfl (lv_at hl 3 rfl) ?_
        refine lv_dup2_11 hx hb dX3_act_62 rfl rfl ?_
        refine zw_iald (r := (26, 0, 0)) hx hb hK hP (hM 6 (by decide)) 0 rfl rfl (ze_ti h.2) dX3_act_63 ?_
        refine lv_aload_n hx hb dX3_act_64 rfl (lv_at hl 2 rfl) ?_
        refine zw_getf (r := (20, 0, 0)) (v := .ref (ad (23, 0, 0))) (C := RX3) (T := TX3) (N := 17) (ci := 3) hx hb hts hwX3 hown hK hP (hM 0 (by decide)) rfl rfl 3 (by decide) (hts (.fieldLink RX3 16 "FourTrackDeckModel" "number" "[I") (by decide +kernel)) (fun _ h9 => h9) rfl dX3_act_65 ?_
        refine lv_iload_n hx hb dX3_act_68 rfl (lv_at hl 0 rfl) ?_
        refine zw_ialdv (r := (23, 0, 0)) (v := (σ (9, (σ (0, 0, 0) 1).toNatClampNeg, p0.toNatClampNeg) (σ (0, 0, 0) 2 + σ (2, 0, 0) p0.toNatClampNeg).toNatClampNeg)) hx hb hK hP (hM 3 (by decide)) 0 rfl rfl (zm_at h.1 hnr h.2 (ze_fi (hlen _ (ze_vr h.1 hnr)) c_2) (hlen _ (ze_vr h.1 hnr))).2.1 (zm_rd h.1 hnr h.2 (ze_fi (hlen _ (ze_vr h.1 hnr)) c_2) (hlen _ (ze_vr h.1 hnr))) dX3_act_69 ?_
        refine lv_iadd hx hb dX3_act_70 ?_
        refine zw_iast (r := (26, 0, 0)) hx hb hK hP hD hS (hM 6 (by decide)) 0 rfl rfl (ze_ti h.2) dX3_act_71 (cu1 := ze_X cD (ze_M cA ad len (sp_s σ (4, 0, 0) p0.toNatClampNeg ((σ (4, 0, 0) p0.toNatClampNeg) + (σ (9, (σ (0, 0, 0) 1).toNatClampNeg, p0.toNatClampNeg) (σ (0, 0, 0) 2 + σ (2, 0, 0) p0.toNatClampNeg).toNatClampNeg))))) (zm_A4 rfl) (fun H locs hP hD hS => ?_)
        refine lv_iconst (v := 0) hx hb dX3_act_72 (by decide) ?_
        exact zw_iret hx hb hr hlk hK hP hD hS dX3_act_73 (by simp only [sp_mv, sp_n, sp_put, if_pos h, if_neg c_1, if_pos c_2, if_pos c_3] <;> rfl) (by simp only [sp_mv, sp_n, sp_put, if_pos h, if_neg c_1, if_pos c_2, if_pos c_3] <;> rfl)
    · refine lv_iload_n hx hb dX3_act_30 rfl (lv_at hl 0 rfl) ?_
      exact zw_iret hx hb hr hlk hK hP hD hS dX3_act_31 (by simp only [sp_mv, sp_n, sp_put, if_pos h, if_neg c_1, if_neg c_2] <;> rfl) (by simp only [sp_mv, sp_n, sp_put, if_pos h, if_neg c_1, if_neg c_2] <;> rfl)
  · refine lv_iconst (v := 0) hx hb dX3_act_9 (by decide) ?_
    exact zw_iret hx hb hr hlk hK hP hD hS dX3_act_10 (by simp only [sp_mv, sp_n, sp_put, if_pos h, if_pos c_1] <;> rfl) (by simp only [sp_mv, sp_n, sp_put, if_pos h, if_pos c_1] <;> rfl)
end
