/-! ===== BEGIN words of one list among another's, by their places ===== -/
theorem goodIn_r {big : List Cond} (ws : List Cond) (ps : List Nat) (hp : ws = ps.filterMap (fun i => big[i]?)) (h : ws.all goodWord = true) : GoodIn big ws := by
  intro w hw
  have h1 := List.all_eq_true.mp h w hw
  rw [hp] at hw
  obtain ⟨i, -, hi⟩ := List.mem_filterMap.mp hw
  have hm : w ∈ big := by first | exact List.mem_of_getElem? hi | exact List.getElem?_mem hi
  exact ⟨hm, good_of_word h1⟩
theorem goodIn_app {big a b : List Cond} (ha : GoodIn big a) (hb : GoodIn big b) : GoodIn big (a ++ b) := fun w h => (List.mem_append.mp h).elim (ha w) (hb w)
theorem goodIn_ca {big a b : List Cond} {c : Cond} (ha : GoodIn big (c :: a)) (hb : GoodIn big b) : GoodIn big (c :: (a ++ b)) := fun w h => (List.mem_cons.mp h).elim (fun e => ha w (List.mem_cons.mpr (Or.inl e))) (fun h => (List.mem_append.mp h).elim (fun h => ha w (List.mem_cons.mpr (Or.inr h))) (hb w))
theorem goodIn_sub {big ws : List Cond} (hm : ∀ w ∈ ws, w ∈ big) (h : ws.all goodWord = true) : GoodIn big ws := fun w hw => ⟨hm w hw, good_of_word (List.all_eq_true.mp h w hw)⟩
/-! ===== END ===== -/

/-! ===== BEGIN printed: names, fields, word lists, decode rows ===== -/
def RX0 : String := "DugBySaid$Hill"
def TX0 : u_T := fun k => match k with
  | 0 => ("DugBySaid$Hill", "kinds", "[I", true)
  | 1 => ("DugBySaid$Hill", "people", "I", false)
  | _ => ("DugBySaid$Hill", "river", "I", false)
def tyX0 : Nat → FieldType := fun k => match k with
  | 0 => .array .int
  | 1 => .int
  | _ => .int
abbrev wsX00 : List Cond := u_ws RX0 TX0 3
theorem nmX0 : ∀ a, a < 3 → ∀ b, b < 3 → a ≠ b → (TX0 a).2.1 ≠ (TX0 b).2.1 := by decide +kernel
theorem tyX0_ok : ∀ k, k < 3 → parseFieldDescriptor (TX0 k).2.2.1 = some (tyX0 k) := by decide +kernel
abbrev cX0_init : ByteArray := prog_2_method_1_code
def yX0_init : MethodName := ⟨RX0, "<init>", "()V"⟩
abbrev cX0_read : ByteArray := prog_2_method_2_code
def yX0_read : MethodName := ⟨RX0, "read", "(LDugBySaid$Page;)V"⟩
abbrev cX0_isThere : ByteArray := prog_2_method_3_code
def yX0_isThere : MethodName := ⟨RX0, "isThere", "()Z"⟩
abbrev cX0_has : ByteArray := prog_2_method_4_code
def yX0_has : MethodName := ⟨RX0, "has", "(I)Z"⟩
abbrev cX0_kindOf : ByteArray := prog_2_method_5_code
def yX0_kindOf : MethodName := ⟨RX0, "kindOf", "(I)I"⟩
abbrev cX0_listeners : ByteArray := prog_2_method_6_code
def yX0_listeners : MethodName := ⟨RX0, "listeners", "(II)I"⟩
abbrev cX0_length : ByteArray := prog_2_method_7_code
def yX0_length : MethodName := ⟨RX0, "length", "(II)I"⟩
abbrev cX0_yardsBy : ByteArray := prog_2_method_8_code
def yX0_yardsBy : MethodName := ⟨RX0, "yardsBy", "(I)I"⟩
def RX1 : String := "DugBySaid$Page"
def TX1 : u_T := fun k => match k with
  | 0 => ("DugBySaid$Page", "codes", "[I", true)
  | _ => ("DugBySaid$Page", "length", "I", false)
def tyX1 : Nat → FieldType := fun k => match k with
  | 0 => .array .int
  | _ => .int
abbrev wsX10 : List Cond := u_ws RX1 TX1 2
theorem nmX1 : ∀ a, a < 2 → ∀ b, b < 2 → a ≠ b → (TX1 a).2.1 ≠ (TX1 b).2.1 := by decide +kernel
theorem tyX1_ok : ∀ k, k < 2 → parseFieldDescriptor (TX1 k).2.2.1 = some (tyX1 k) := by decide +kernel
abbrev cX1_init : ByteArray := prog_3_method_1_code
def yX1_init : MethodName := ⟨RX1, "<init>", "()V"⟩
abbrev cX1_put : ByteArray := prog_3_method_2_code
def yX1_put : MethodName := ⟨RX1, "put", "(I)Z"⟩
abbrev cX1_clear : ByteArray := prog_3_method_3_code
def yX1_clear : MethodName := ⟨RX1, "clear", "()V"⟩
abbrev cX1_firstFault : ByteArray := prog_3_method_4_code
def yX1_firstFault : MethodName := ⟨RX1, "firstFault", "()I"⟩
abbrev cX1_isHill : ByteArray := prog_3_method_5_code
def yX1_isHill : MethodName := ⟨RX1, "isHill", "()Z"⟩
abbrev cX1_peopleWritten : ByteArray := prog_3_method_6_code
def yX1_peopleWritten : MethodName := ⟨RX1, "peopleWritten", "()I"⟩
abbrev cX1_kindWritten : ByteArray := prog_3_method_7_code
def yX1_kindWritten : MethodName := ⟨RX1, "kindWritten", "(I)I"⟩
abbrev cX1_nextWritten : ByteArray := prog_3_method_8_code
def yX1_nextWritten : MethodName := ⟨RX1, "nextWritten", "(I)I"⟩
abbrev cX1_riverWritten : ByteArray := prog_3_method_9_code
def yX1_riverWritten : MethodName := ⟨RX1, "riverWritten", "()I"⟩
abbrev cX1_codeAt : ByteArray := prog_3_method_10_code
def yX1_codeAt : MethodName := ⟨RX1, "codeAt", "(I)I"⟩
abbrev cX1_fits : ByteArray := prog_3_method_11_code
def yX1_fits : MethodName := ⟨RX1, "fits", "(I)Z"⟩
abbrev cX1_kindOfLetter : ByteArray := prog_3_method_12_code
def yX1_kindOfLetter : MethodName := ⟨RX1, "kindOfLetter", "(I)I"⟩
def RX2 : String := "DugBySaid$Past"
def TX2 : u_T := fun k => match k with
  | 0 => ("DugBySaid$Past", "nexts", "[I", true)
  | 1 => ("DugBySaid$Past", "listeners", "[I", true)
  | 2 => ("DugBySaid$Past", "heard", "[I", true)
  | 3 => ("DugBySaid$Past", "last", "[I", true)
  | 4 => ("DugBySaid$Past", "denied", "[I", true)
  | 5 => ("DugBySaid$Past", "askedWhom", "[I", true)
  | 6 => ("DugBySaid$Past", "askedDay", "[I", true)
  | 7 => ("DugBySaid$Past", "asked", "I", false)
  | 8 => ("DugBySaid$Past", "days", "I", false)
  | _ => ("DugBySaid$Past", "changes", "I", false)
def tyX2 : Nat → FieldType := fun k => match k with
  | 0 => .array .int
  | 1 => .array .int
  | 2 => .array .int
  | 3 => .array .int
  | 4 => .array .int
  | 5 => .array .int
  | 6 => .array .int
  | 7 => .int
  | 8 => .int
  | _ => .int
abbrev wsX20 : List Cond := u_ws RX2 TX2 10
theorem nmX2 : ∀ a, a < 10 → ∀ b, b < 10 → a ≠ b → (TX2 a).2.1 ≠ (TX2 b).2.1 := by decide +kernel
theorem tyX2_ok : ∀ k, k < 10 → parseFieldDescriptor (TX2 k).2.2.1 = some (tyX2 k) := by decide +kernel
abbrev cX2_init : ByteArray := prog_4_method_1_code
def yX2_init : MethodName := ⟨RX2, "<init>", "()V"⟩
abbrev cX2_begin : ByteArray := prog_4_method_2_code
def yX2_begin : MethodName := ⟨RX2, "begin", "()V"⟩
abbrev cX2_copy : ByteArray := prog_4_method_3_code
def yX2_copy : MethodName := ⟨RX2, "copy", "(LDugBySaid$Past;)V"⟩
abbrev cX2_nextOf : ByteArray := prog_4_method_4_code
def yX2_nextOf : MethodName := ⟨RX2, "nextOf", "(I)I"⟩
abbrev cX2_listenersOf : ByteArray := prog_4_method_5_code
def yX2_listenersOf : MethodName := ⟨RX2, "listenersOf", "(I)I"⟩
abbrev cX2_setNext : ByteArray := prog_4_method_6_code
def yX2_setNext : MethodName := ⟨RX2, "setNext", "(III)V"⟩
abbrev cX2_tunnelsHeardBy : ByteArray := prog_4_method_7_code
def yX2_tunnelsHeardBy : MethodName := ⟨RX2, "tunnelsHeardBy", "(I)I"⟩
abbrev cX2_hearings : ByteArray := prog_4_method_8_code
def yX2_hearings : MethodName := ⟨RX2, "hearings", "()I"⟩
abbrev cX2_note : ByteArray := prog_4_method_9_code
def yX2_note : MethodName := ⟨RX2, "note", "(II)Z"⟩
def RX3 : String := "DugBySaid$Riddle"
def TX3 : u_T := fun k => match k with
  | 0 => ("DugBySaid$Riddle", "hill", "LDugBySaid$Hill;", true)
  | 1 => ("DugBySaid$Riddle", "past", "LDugBySaid$Past;", true)
  | 2 => ("DugBySaid$Riddle", "talk", "LDugBySaid$Talk;", true)
  | _ => ("DugBySaid$Riddle", "left", "[I", true)
def tyX3 : Nat → FieldType := fun k => match k with
  | 0 => .object "DugBySaid$Hill"
  | 1 => .object "DugBySaid$Past"
  | 2 => .object "DugBySaid$Talk"
  | _ => .array .int
abbrev wsX30 : List Cond := u_ws RX3 TX3 4
theorem nmX3 : ∀ a, a < 4 → ∀ b, b < 4 → a ≠ b → (TX3 a).2.1 ≠ (TX3 b).2.1 := by decide +kernel
theorem tyX3_ok : ∀ k, k < 4 → parseFieldDescriptor (TX3 k).2.2.1 = some (tyX3 k) := by decide +kernel
abbrev cX3_init : ByteArray := prog_5_method_1_code
def yX3_init : MethodName := ⟨RX3, "<init>", "(LDugBySaid$Hill;LDugBySaid$Past;LDugBySaid$Talk;)V"⟩
abbrev cX3_beginners : ByteArray := prog_5_method_2_code
def yX3_beginners : MethodName := ⟨RX3, "beginners", "()I"⟩
abbrev cX3_bestToAsk : ByteArray := prog_5_method_3_code
def yX3_bestToAsk : MethodName := ⟨RX3, "bestToAsk", "(I)I"⟩
abbrev cX3_agrees : ByteArray := prog_5_method_4_code
def yX3_agrees : MethodName := ⟨RX3, "agrees", "(I)Z"⟩
abbrev cX3_leftAtWorst : ByteArray := prog_5_method_5_code
def yX3_leftAtWorst : MethodName := ⟨RX3, "leftAtWorst", "(II)I"⟩
def RX4 : String := "DugBySaid$Talk"
def TX4 : u_T := fun k => match k with
  | 0 => ("DugBySaid$Talk", "hill", "LDugBySaid$Hill;", true)
  | _ => ("DugBySaid$Talk", "past", "LDugBySaid$Past;", true)
def tyX4 : Nat → FieldType := fun k => match k with
  | 0 => .object "DugBySaid$Hill"
  | _ => .object "DugBySaid$Past"
abbrev wsX40 : List Cond := u_ws RX4 TX4 2
theorem nmX4 : ∀ a, a < 2 → ∀ b, b < 2 → a ≠ b → (TX4 a).2.1 ≠ (TX4 b).2.1 := by decide +kernel
theorem tyX4_ok : ∀ k, k < 2 → parseFieldDescriptor (TX4 k).2.2.1 = some (tyX4 k) := by decide +kernel
abbrev cX4_init : ByteArray := prog_6_method_1_code
def yX4_init : MethodName := ⟨RX4, "<init>", "(LDugBySaid$Hill;LDugBySaid$Past;)V"⟩
abbrev cX4_hearers : ByteArray := prog_6_method_2_code
def yX4_hearers : MethodName := ⟨RX4, "hearers", "(II)I"⟩
abbrev cX4_ends : ByteArray := prog_6_method_3_code
def yX4_ends : MethodName := ⟨RX4, "ends", "(I)I"⟩
abbrev cX4_lengthInTheEnd : ByteArray := prog_6_method_4_code
def yX4_lengthInTheEnd : MethodName := ⟨RX4, "lengthInTheEnd", "(III)I"⟩
abbrev cX4_lasts : ByteArray := prog_6_method_5_code
def yX4_lasts : MethodName := ⟨RX4, "lasts", "(I)I"⟩
abbrev cX4_dayHeard : ByteArray := prog_6_method_6_code
def yX4_dayHeard : MethodName := ⟨RX4, "dayHeard", "(II)I"⟩
def RX5 : String := "DugBySaid"
def TX5 : u_T := fun k => match k with
  | 0 => ("DugBySaid", "page", "LDugBySaid$Page;", true)
  | 1 => ("DugBySaid", "ground", "LDugBySaid$Hill;", true)
  | 2 => ("DugBySaid", "now", "LDugBySaid$Past;", true)
  | 3 => ("DugBySaid", "kept", "LDugBySaid$Past;", true)
  | 4 => ("DugBySaid", "talk", "LDugBySaid$Talk;", true)
  | 5 => ("DugBySaid", "riddle", "LDugBySaid$Riddle;", true)
  | 6 => ("DugBySaid", "hasImage", "Z", false)
  | _ => ("DugBySaid", "readings", "I", false)
def tyX5 : Nat → FieldType := fun k => match k with
  | 0 => .object "DugBySaid$Page"
  | 1 => .object "DugBySaid$Hill"
  | 2 => .object "DugBySaid$Past"
  | 3 => .object "DugBySaid$Past"
  | 4 => .object "DugBySaid$Talk"
  | 5 => .object "DugBySaid$Riddle"
  | 6 => .boolean
  | _ => .int
abbrev wsX50 : List Cond := u_ws RX5 TX5 8
theorem nmX5 : ∀ a, a < 8 → ∀ b, b < 8 → a ≠ b → (TX5 a).2.1 ≠ (TX5 b).2.1 := by decide +kernel
theorem tyX5_ok : ∀ k, k < 8 → parseFieldDescriptor (TX5 k).2.2.1 = some (tyX5 k) := by decide +kernel
abbrev cX5_init : ByteArray := prog_1_method_1_code
def yX5_init : MethodName := ⟨RX5, "<init>", "()V"⟩
abbrev cX5_letter : ByteArray := prog_1_method_2_code
def yX5_letter : MethodName := ⟨RX5, "letter", "(I)I"⟩
abbrev cX5_blank : ByteArray := prog_1_method_3_code
def yX5_blank : MethodName := ⟨RX5, "blank", "()I"⟩
abbrev cX5_fault : ByteArray := prog_1_method_4_code
def yX5_fault : MethodName := ⟨RX5, "fault", "()I"⟩
abbrev cX5_hill : ByteArray := prog_1_method_5_code
def yX5_hill : MethodName := ⟨RX5, "hill", "()I"⟩
abbrev cX5_person : ByteArray := prog_1_method_6_code
def yX5_person : MethodName := ⟨RX5, "person", "(II)I"⟩
abbrev cX5_as : ByteArray := prog_1_method_7_code
def yX5_as : MethodName := ⟨RX5, "as", "(II)I"⟩
abbrev cX5_next : ByteArray := prog_1_method_8_code
def yX5_next : MethodName := ⟨RX5, "next", "(II)I"⟩
abbrev cX5_point : ByteArray := prog_1_method_9_code
def yX5_point : MethodName := ⟨RX5, "point", "(II)V"⟩
abbrev cX5_tell : ByteArray := prog_1_method_10_code
def yX5_tell : MethodName := ⟨RX5, "tell", "(II)I"⟩
abbrev cX5_day : ByteArray := prog_1_method_11_code
def yX5_day : MethodName := ⟨RX5, "day", "()I"⟩
abbrev cX5_deny : ByteArray := prog_1_method_12_code
def yX5_deny : MethodName := ⟨RX5, "deny", "(I)I"⟩
abbrev cX5_tunnel : ByteArray := prog_1_method_13_code
def yX5_tunnel : MethodName := ⟨RX5, "tunnel", "(II)I"⟩
abbrev cX5_isTunnel : ByteArray := prog_1_method_14_code
def yX5_isTunnel : MethodName := ⟨RX5, "isTunnel", "(I)Z"⟩
abbrev cX5_lengthOf : ByteArray := prog_1_method_15_code
def yX5_lengthOf : MethodName := ⟨RX5, "lengthOf", "(I)I"⟩
abbrev cX5_aim : ByteArray := prog_1_method_16_code
def yX5_aim : MethodName := ⟨RX5, "aim", "(II)I"⟩
abbrev cX5_fewestToTell : ByteArray := prog_1_method_17_code
def yX5_fewestToTell : MethodName := ⟨RX5, "fewestToTell", "(I)I"⟩
abbrev cX5_heard : ByteArray := prog_1_method_18_code
def yX5_heard : MethodName := ⟨RX5, "heard", "(II)I"⟩
abbrev cX5_forget : ByteArray := prog_1_method_19_code
def yX5_forget : MethodName := ⟨RX5, "forget", "()I"⟩
abbrev cX5_began : ByteArray := prog_1_method_20_code
def yX5_began : MethodName := ⟨RX5, "began", "()I"⟩
abbrev cX5_ask : ByteArray := prog_1_method_21_code
def yX5_ask : MethodName := ⟨RX5, "ask", "()I"⟩
abbrev cX5_markets : ByteArray := prog_1_method_22_code
def yX5_markets : MethodName := ⟨RX5, "markets", "(III)I"⟩
abbrev cX5_seedBehind : ByteArray := prog_1_method_23_code
def yX5_seedBehind : MethodName := ⟨RX5, "seedBehind", "(I)I"⟩
abbrev cX5_image : ByteArray := prog_1_method_24_code
def yX5_image : MethodName := ⟨RX5, "image", "()I"⟩
abbrev cX5_restore : ByteArray := prog_1_method_25_code
def yX5_restore : MethodName := ⟨RX5, "restore", "()I"⟩
abbrev cX5_count : ByteArray := prog_1_method_26_code
def yX5_count : MethodName := ⟨RX5, "count", "(I)I"⟩
abbrev cX5_lengthOfAll : ByteArray := prog_1_method_27_code
def yX5_lengthOfAll : MethodName := ⟨RX5, "lengthOfAll", "()I"⟩
abbrev cX5_digest : ByteArray := prog_1_method_28_code
def yX5_digest : MethodName := ⟨RX5, "digest", "()J"⟩
abbrev cX5_withPeople : ByteArray := prog_1_method_29_code
def yX5_withPeople : MethodName := ⟨RX5, "withPeople", "(J)J"⟩
abbrev cX5_withTunnels : ByteArray := prog_1_method_30_code
def yX5_withTunnels : MethodName := ⟨RX5, "withTunnels", "(J)J"⟩
abbrev cX5_withLetters : ByteArray := prog_1_method_31_code
def yX5_withLetters : MethodName := ⟨RX5, "withLetters", "(J)J"⟩
abbrev cX5_mixed : ByteArray := prog_1_method_32_code
def yX5_mixed : MethodName := ⟨RX5, "mixed", "(JJ)J"⟩
abbrev cX5_isOfKind : ByteArray := prog_1_method_33_code
def yX5_isOfKind : MethodName := ⟨RX5, "isOfKind", "(II)Z"⟩
abbrev cX5_isIn : ByteArray := prog_1_method_34_code
def yX5_isIn : MethodName := ⟨RX5, "isIn", "(II)Z"⟩
def RX6 : String := "DugBySaidModel"
def TX6 : u_T := fun k => match k with
  | 0 => ("DugBySaidModel", "page", "[I", true)
  | 1 => ("DugBySaidModel", "pageMany", "I", false)
  | 2 => ("DugBySaidModel", "endAt", "I", false)
  | 3 => ("DugBySaidModel", "people", "I", false)
  | 4 => ("DugBySaidModel", "river", "I", false)
  | 5 => ("DugBySaidModel", "days", "I", false)
  | 6 => ("DugBySaidModel", "changes", "I", false)
  | 7 => ("DugBySaidModel", "hillsRead", "I", false)
  | 8 => ("DugBySaidModel", "rows", "[I", true)
  | 9 => ("DugBySaidModel", "tunnels", "[I", true)
  | 10 => ("DugBySaidModel", "askedMany", "I", false)
  | 11 => ("DugBySaidModel", "askeds", "[I", true)
  | 12 => ("DugBySaidModel", "parts", "[I", true)
  | 13 => ("DugBySaidModel", "seedNow", "I", false)
  | 14 => ("DugBySaidModel", "keptHill", "I", false)
  | 15 => ("DugBySaidModel", "keptDays", "I", false)
  | 16 => ("DugBySaidModel", "keptChanges", "I", false)
  | 17 => ("DugBySaidModel", "keptAsked", "I", false)
  | 18 => ("DugBySaidModel", "keptRows", "[I", true)
  | 19 => ("DugBySaidModel", "keptTunnels", "[I", true)
  | 20 => ("DugBySaidModel", "keptAskeds", "[I", true)
  | _ => ("DugBySaidModel", "hash", "J", false)
def tyX6 : Nat → FieldType := fun k => match k with
  | 0 => .array .int
  | 1 => .int
  | 2 => .int
  | 3 => .int
  | 4 => .int
  | 5 => .int
  | 6 => .int
  | 7 => .int
  | 8 => .array .int
  | 9 => .array .int
  | 10 => .int
  | 11 => .array .int
  | 12 => .array .int
  | 13 => .int
  | 14 => .int
  | 15 => .int
  | 16 => .int
  | 17 => .int
  | 18 => .array .int
  | 19 => .array .int
  | 20 => .array .int
  | _ => .long
abbrev wsX60 : List Cond := u_ws RX6 TX6 22
theorem nmX6 : ∀ a, a < 22 → ∀ b, b < 22 → a ≠ b → (TX6 a).2.1 ≠ (TX6 b).2.1 := by decide +kernel
theorem tyX6_ok : ∀ k, k < 22 → parseFieldDescriptor (TX6 k).2.2.1 = some (tyX6 k) := by decide +kernel
abbrev cX6_init : ByteArray := prog_8_method_1_code
def yX6_init : MethodName := ⟨RX6, "<init>", "()V"⟩
abbrev cX6_in : ByteArray := prog_8_method_2_code
def yX6_in : MethodName := ⟨RX6, "in", "(JJJ)Z"⟩
abbrev cX6_copy : ByteArray := prog_8_method_3_code
def yX6_copy : MethodName := ⟨RX6, "copy", "([I[I)V"⟩
abbrev cX6_ones : ByteArray := prog_8_method_4_code
def yX6_ones : MethodName := ⟨RX6, "ones", "(I)I"⟩
abbrev cX6_letter : ByteArray := prog_8_method_5_code
def yX6_letter : MethodName := ⟨RX6, "letter", "(I)I"⟩
abbrev cX6_blank : ByteArray := prog_8_method_6_code
def yX6_blank : MethodName := ⟨RX6, "blank", "()I"⟩
abbrev cX6_kindBy : ByteArray := prog_8_method_7_code
def yX6_kindBy : MethodName := ⟨RX6, "kindBy", "(I)I"⟩
abbrev cX6_isGood : ByteArray := prog_8_method_8_code
def yX6_isGood : MethodName := ⟨RX6, "isGood", "(I)Z"⟩
abbrev cX6_faultOf : ByteArray := prog_8_method_9_code
def yX6_faultOf : MethodName := ⟨RX6, "faultOf", "()I"⟩
abbrev cX6_fault : ByteArray := prog_8_method_10_code
def yX6_fault : MethodName := ⟨RX6, "fault", "()I"⟩
abbrev cX6_hill : ByteArray := prog_8_method_11_code
def yX6_hill : MethodName := ⟨RX6, "hill", "()I"⟩
abbrev cX6_lacks : ByteArray := prog_8_method_12_code
def yX6_lacks : MethodName := ⟨RX6, "lacks", "()Z"⟩
abbrev cX6_isPerson : ByteArray := prog_8_method_13_code
def yX6_isPerson : MethodName := ⟨RX6, "isPerson", "(I)Z"⟩
abbrev cX6_isTunnel : ByteArray := prog_8_method_14_code
def yX6_isTunnel : MethodName := ⟨RX6, "isTunnel", "(I)Z"⟩
abbrev cX6_tellsOf : ByteArray := prog_8_method_15_code
def yX6_tellsOf : MethodName := ⟨RX6, "tellsOf", "(I)I"⟩
abbrev cX6_toldBy : ByteArray := prog_8_method_16_code
def yX6_toldBy : MethodName := ⟨RX6, "toldBy", "(I)I"⟩
abbrev cX6_endBy : ByteArray := prog_8_method_17_code
def yX6_endBy : MethodName := ⟨RX6, "endBy", "(II)I"⟩
abbrev cX6_yardsBy : ByteArray := prog_8_method_18_code
def yX6_yardsBy : MethodName := ⟨RX6, "yardsBy", "(I)I"⟩
abbrev cX6_lengthBy : ByteArray := prog_8_method_19_code
def yX6_lengthBy : MethodName := ⟨RX6, "lengthBy", "(II)I"⟩
abbrev cX6_endsOf : ByteArray := prog_8_method_20_code
def yX6_endsOf : MethodName := ⟨RX6, "endsOf", "(I)I"⟩
abbrev cX6_dayOf : ByteArray := prog_8_method_21_code
def yX6_dayOf : MethodName := ⟨RX6, "dayOf", "(II)I"⟩
abbrev cX6_lastsOf : ByteArray := prog_8_method_22_code
def yX6_lastsOf : MethodName := ⟨RX6, "lastsOf", "(I)I"⟩
abbrev cX6_tunnelsOf : ByteArray := prog_8_method_23_code
def yX6_tunnelsOf : MethodName := ⟨RX6, "tunnelsOf", "(I)I"⟩
abbrev cX6_tellPerson : ByteArray := prog_8_method_24_code
def yX6_tellPerson : MethodName := ⟨RX6, "tellPerson", "(II)I"⟩
abbrev cX6_person : ByteArray := prog_8_method_25_code
def yX6_person : MethodName := ⟨RX6, "person", "(II)I"⟩
abbrev cX6_as : ByteArray := prog_8_method_26_code
def yX6_as : MethodName := ⟨RX6, "as", "(II)I"⟩
abbrev cX6_next : ByteArray := prog_8_method_27_code
def yX6_next : MethodName := ⟨RX6, "next", "(II)I"⟩
abbrev cX6_lengthOf : ByteArray := prog_8_method_28_code
def yX6_lengthOf : MethodName := ⟨RX6, "lengthOf", "(I)I"⟩
abbrev cX6_tell : ByteArray := prog_8_method_29_code
def yX6_tell : MethodName := ⟨RX6, "tell", "(II)I"⟩
abbrev cX6_day : ByteArray := prog_8_method_30_code
def yX6_day : MethodName := ⟨RX6, "day", "()I"⟩
abbrev cX6_deny : ByteArray := prog_8_method_31_code
def yX6_deny : MethodName := ⟨RX6, "deny", "(I)I"⟩
abbrev cX6_tellTunnel : ByteArray := prog_8_method_32_code
def yX6_tellTunnel : MethodName := ⟨RX6, "tellTunnel", "(II)I"⟩
abbrev cX6_tunnel : ByteArray := prog_8_method_33_code
def yX6_tunnel : MethodName := ⟨RX6, "tunnel", "(II)I"⟩
abbrev cX6_aimOf : ByteArray := prog_8_method_34_code
def yX6_aimOf : MethodName := ⟨RX6, "aimOf", "(II)I"⟩
abbrev cX6_aim : ByteArray := prog_8_method_35_code
def yX6_aim : MethodName := ⟨RX6, "aim", "(II)I"⟩
abbrev cX6_heard : ByteArray := prog_8_method_36_code
def yX6_heard : MethodName := ⟨RX6, "heard", "(II)I"⟩
abbrev cX6_forget : ByteArray := prog_8_method_37_code
def yX6_forget : MethodName := ⟨RX6, "forget", "()I"⟩
abbrev cX6_beganOf : ByteArray := prog_8_method_38_code
def yX6_beganOf : MethodName := ⟨RX6, "beganOf", "()I"⟩
abbrev cX6_began : ByteArray := prog_8_method_39_code
def yX6_began : MethodName := ⟨RX6, "began", "()I"⟩
abbrev cX6_askOf : ByteArray := prog_8_method_40_code
def yX6_askOf : MethodName := ⟨RX6, "askOf", "()I"⟩
abbrev cX6_ask : ByteArray := prog_8_method_41_code
def yX6_ask : MethodName := ⟨RX6, "ask", "()I"⟩
abbrev cX6_draw : ByteArray := prog_8_method_42_code
def yX6_draw : MethodName := ⟨RX6, "draw", "(I)I"⟩
abbrev cX6_markets : ByteArray := prog_8_method_43_code
def yX6_markets : MethodName := ⟨RX6, "markets", "(III)I"⟩
abbrev cX6_image : ByteArray := prog_8_method_44_code
def yX6_image : MethodName := ⟨RX6, "image", "()I"⟩
abbrev cX6_restore : ByteArray := prog_8_method_45_code
def yX6_restore : MethodName := ⟨RX6, "restore", "()I"⟩
abbrev cX6_lengthAll : ByteArray := prog_8_method_46_code
def yX6_lengthAll : MethodName := ⟨RX6, "lengthAll", "()I"⟩
abbrev cX6_heardAll : ByteArray := prog_8_method_47_code
def yX6_heardAll : MethodName := ⟨RX6, "heardAll", "()I"⟩
abbrev cX6_countOf : ByteArray := prog_8_method_48_code
def yX6_countOf : MethodName := ⟨RX6, "countOf", "(I)I"⟩
abbrev cX6_count : ByteArray := prog_8_method_49_code
def yX6_count : MethodName := ⟨RX6, "count", "(I)I"⟩
abbrev cX6_say : ByteArray := prog_8_method_50_code
def yX6_say : MethodName := ⟨RX6, "say", "(J)V"⟩
abbrev cX6_sayHill : ByteArray := prog_8_method_51_code
def yX6_sayHill : MethodName := ⟨RX6, "sayHill", "()V"⟩
abbrev cX6_digest : ByteArray := prog_8_method_52_code
def yX6_digest : MethodName := ⟨RX6, "digest", "()J"⟩
def RJ11 : String := "java/lang/Character"
def TJ11 : u_T := fun k => match k with
  | _ => ("", "", "", false)
def tyJ11 : Nat → FieldType := fun k => match k with
  | _ => .int
abbrev wsJ110 : List Cond := u_ws RJ11 TJ11 0
theorem nmJ11 : ∀ a, a < 0 → ∀ b, b < 0 → a ≠ b → (TJ11 a).2.1 ≠ (TJ11 b).2.1 := by decide +kernel
theorem tyJ11_ok : ∀ k, k < 0 → parseFieldDescriptor (TJ11 k).2.2.1 = some (tyJ11 k) := by decide +kernel
abbrev cJ11_isValidCodePoint_9a6ad : ByteArray := prog_9_method_11_code
def yJ11_isValidCodePoint_9a6ad : MethodName := ⟨RJ11, "isValidCodePoint", "(I)Z"⟩
abbrev cJ11_highSurrogate_5068e : ByteArray := prog_9_method_28_code
def yJ11_highSurrogate_5068e : MethodName := ⟨RJ11, "highSurrogate", "(I)C"⟩
abbrev cJ11_lowSurrogate_5068e : ByteArray := prog_9_method_29_code
def yJ11_lowSurrogate_5068e : MethodName := ⟨RJ11, "lowSurrogate", "(I)C"⟩
def RJ6 : String := "java/lang/Integer"
def TJ6 : u_T := fun k => match k with
  | _ => ("", "", "", false)
def tyJ6 : Nat → FieldType := fun k => match k with
  | _ => .int
abbrev wsJ60 : List Cond := u_ws RJ6 TJ6 0
theorem nmJ6 : ∀ a, a < 0 → ∀ b, b < 0 → a ≠ b → (TJ6 a).2.1 ≠ (TJ6 b).2.1 := by decide +kernel
theorem tyJ6_ok : ∀ k, k < 0 → parseFieldDescriptor (TJ6 k).2.2.1 = some (tyJ6 k) := by decide +kernel
abbrev cJ6_bitCount_0f7a4 : ByteArray := prog_10_method_49_code
def yJ6_bitCount_0f7a4 : MethodName := ⟨RJ6, "bitCount", "(I)I"⟩
def RJ9 : String := "java/lang/Math"
def TJ9 : u_T := fun k => match k with
  | _ => ("", "", "", false)
def tyJ9 : Nat → FieldType := fun k => match k with
  | _ => .int
abbrev wsJ90 : List Cond := u_ws RJ9 TJ9 0
theorem nmJ9 : ∀ a, a < 0 → ∀ b, b < 0 → a ≠ b → (TJ9 a).2.1 ≠ (TJ9 b).2.1 := by decide +kernel
theorem tyJ9_ok : ∀ k, k < 0 → parseFieldDescriptor (TJ9 k).2.2.1 = some (tyJ9 k) := by decide +kernel
abbrev cJ9_max_7cf53 : ByteArray := prog_11_method_65_code
def yJ9_max_7cf53 : MethodName := ⟨RJ9, "max", "(II)I"⟩
abbrev cJ9_min_7cf53 : ByteArray := prog_11_method_69_code
def yJ9_min_7cf53 : MethodName := ⟨RJ9, "min", "(II)I"⟩
def RJ0 : String := "java/lang/String"
def TJ0 : u_T := fun k => match k with
  | _ => ("", "", "", false)
def tyJ0 : Nat → FieldType := fun k => match k with
  | _ => .int
abbrev wsJ00 : List Cond := u_ws RJ0 TJ0 0
theorem nmJ0 : ∀ a, a < 0 → ∀ b, b < 0 → a ≠ b → (TJ0 a).2.1 ≠ (TJ0 b).2.1 := by decide +kernel
theorem tyJ0_ok : ∀ k, k < 0 → parseFieldDescriptor (TJ0 k).2.2.1 = some (tyJ0 k) := by decide +kernel
abbrev cJ0_length_8abf5 : ByteArray := prog_12_method_54_code
def yJ0_length_8abf5 : MethodName := ⟨RJ0, "length", "()I"⟩
abbrev cJ0_indexOf_0f7a4 : ByteArray := prog_12_method_79_code
def yJ0_indexOf_0f7a4 : MethodName := ⟨RJ0, "indexOf", "(I)I"⟩
abbrev cJ0_indexOf_7cf53 : ByteArray := prog_12_method_80_code
def yJ0_indexOf_7cf53 : MethodName := ⟨RJ0, "indexOf", "(II)I"⟩
abbrev cJ0_coder_7d493 : ByteArray := prog_12_method_152_code
def yJ0_coder_7d493 : MethodName := ⟨RJ0, "coder", "()B"⟩
abbrev cJ0_isLatin1_aae02 : ByteArray := prog_12_method_154_code
def yJ0_isLatin1_aae02 : MethodName := ⟨RJ0, "isLatin1", "()Z"⟩
abbrev cJ0_checkBoundsBeginEnd_23922 : ByteArray := prog_12_method_158_code
def yJ0_checkBoundsBeginEnd_23922 : MethodName := ⟨RJ0, "checkBoundsBeginEnd", "(III)V"⟩
def RJ1 : String := "java/lang/StringLatin1"
def TJ1 : u_T := fun k => match k with
  | _ => ("", "", "", false)
def tyJ1 : Nat → FieldType := fun k => match k with
  | _ => .int
abbrev wsJ10 : List Cond := u_ws RJ1 TJ1 0
theorem nmJ1 : ∀ a, a < 0 → ∀ b, b < 0 → a ≠ b → (TJ1 a).2.1 ≠ (TJ1 b).2.1 := by decide +kernel
theorem tyJ1_ok : ∀ k, k < 0 → parseFieldDescriptor (TJ1 k).2.2.1 = some (tyJ1 k) := by decide +kernel
abbrev cJ1_canEncode_9a6ad : ByteArray := prog_13_method_4_code
def yJ1_canEncode_9a6ad : MethodName := ⟨RJ1, "canEncode", "(I)Z"⟩
abbrev cJ1_indexOf_4cfef : ByteArray := prog_13_method_22_code
def yJ1_indexOf_4cfef : MethodName := ⟨RJ1, "indexOf", "([BIII)I"⟩
abbrev cJ1_indexOfChar_4cfef : ByteArray := prog_13_method_23_code
def yJ1_indexOfChar_4cfef : MethodName := ⟨RJ1, "indexOfChar", "([BIII)I"⟩
def RJ2 : String := "java/lang/StringUTF16"
def TJ2 : u_T := fun k => match k with
  | _ => ("", "", "", false)
def tyJ2 : Nat → FieldType := fun k => match k with
  | _ => .int
abbrev wsJ20 : List Cond := u_ws RJ2 TJ2 0
theorem nmJ2 : ∀ a, a < 0 → ∀ b, b < 0 → a ≠ b → (TJ2 a).2.1 ≠ (TJ2 b).2.1 := by decide +kernel
theorem tyJ2_ok : ∀ k, k < 0 → parseFieldDescriptor (TJ2 k).2.2.1 = some (tyJ2 k) := by decide +kernel
abbrev cJ2_getChar_3b067 : ByteArray := prog_14_method_5_code
def yJ2_getChar_3b067 : MethodName := ⟨RJ2, "getChar", "([BI)C"⟩
abbrev cJ2_length_9d52b : ByteArray := prog_14_method_6_code
def yJ2_length_9d52b : MethodName := ⟨RJ2, "length", "([B)I"⟩
abbrev cJ2_indexOf_4cfef : ByteArray := prog_14_method_40_code
def yJ2_indexOf_4cfef : MethodName := ⟨RJ2, "indexOf", "([BIII)I"⟩
abbrev cJ2_indexOfChar_4cfef : ByteArray := prog_14_method_47_code
def yJ2_indexOfChar_4cfef : MethodName := ⟨RJ2, "indexOfChar", "([BIII)I"⟩
abbrev cJ2_indexOfCharUnsafe_4cfef : ByteArray := prog_14_method_48_code
def yJ2_indexOfCharUnsafe_4cfef : MethodName := ⟨RJ2, "indexOfCharUnsafe", "([BIII)I"⟩
abbrev cJ2_indexOfSupplementary_4cfef : ByteArray := prog_14_method_49_code
def yJ2_indexOfSupplementary_4cfef : MethodName := ⟨RJ2, "indexOfSupplementary", "([BIII)I"⟩
abbrev cJ2_checkBoundsBeginEnd_d044e : ByteArray := prog_14_method_93_code
def yJ2_checkBoundsBeginEnd_d044e : MethodName := ⟨RJ2, "checkBoundsBeginEnd", "(II[B)V"⟩
def RJ10 : String := "java/lang/System"
def TJ10 : u_T := fun k => match k with
  | _ => ("", "", "", false)
def tyJ10 : Nat → FieldType := fun k => match k with
  | _ => .int
abbrev wsJ100 : List Cond := u_ws RJ10 TJ10 0
theorem nmJ10 : ∀ a, a < 0 → ∀ b, b < 0 → a ≠ b → (TJ10 a).2.1 ≠ (TJ10 b).2.1 := by decide +kernel
theorem tyJ10_ok : ∀ k, k < 0 → parseFieldDescriptor (TJ10 k).2.2.1 = some (tyJ10 k) := by decide +kernel
def RJ3 : String := "jdk/internal/util/Preconditions"
def TJ3 : u_T := fun k => match k with
  | _ => ("", "", "", false)
def tyJ3 : Nat → FieldType := fun k => match k with
  | _ => .int
abbrev wsJ30 : List Cond := u_ws RJ3 TJ3 0
theorem nmJ3 : ∀ a, a < 0 → ∀ b, b < 0 → a ≠ b → (TJ3 a).2.1 ≠ (TJ3 b).2.1 := by decide +kernel
theorem tyJ3_ok : ∀ k, k < 0 → parseFieldDescriptor (TJ3 k).2.2.1 = some (tyJ3 k) := by decide +kernel
abbrev cJ3_checkFromToIndex_8c36e : ByteArray := prog_16_method_12_code
def yJ3_checkFromToIndex_8c36e : MethodName := ⟨RJ3, "checkFromToIndex", "(IIILjava/util/function/BiFunction;)I"⟩
def RL : String := "DugBySaidLaw"
abbrev cL_law : ByteArray := code
def yL_law : MethodName := ⟨RL, "law", "([I)Z"⟩
abbrev vwCl : List vw_C := [(RX0, TX0, 3), (RX1, TX1, 2), (RX2, TX2, 10), (RX3, TX3, 4), (RX4, TX4, 2), (RX5, TX5, 8), (RX6, TX6, 22)]
