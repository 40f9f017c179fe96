/-! ===== BEGIN words of one list among another's, by their places ===== -/
theorem goodIn_r {big : List Cond} (ws : List Cond) (ps : List Nat) (hp : ws = ps.filterMap (fun i => big[i]?)) (h : ws.all goodWord = true) : GoodIn big ws := by
  intro w hw
  have h1 := List.all_eq_true.mp h w hw
  rw [hp] at hw
  obtain ⟨i, -, hi⟩ := List.mem_filterMap.mp hw
  have hm : w ∈ big := by first | exact List.mem_of_getElem? hi | exact List.getElem?_mem hi
  exact ⟨hm, good_of_word h1⟩
theorem goodIn_app {big a b : List Cond} (ha : GoodIn big a) (hb : GoodIn big b) : GoodIn big (a ++ b) := fun w h => (List.mem_append.mp h).elim (ha w) (hb w)
theorem goodIn_ca {big a b : List Cond} {c : Cond} (ha : GoodIn big (c :: a)) (hb : GoodIn big b) : GoodIn big (c :: (a ++ b)) := fun w h => (List.mem_cons.mp h).elim (fun e => ha w (List.mem_cons.mpr (Or.inl e))) (fun h => (List.mem_append.mp h).elim (fun h => ha w (List.mem_cons.mpr (Or.inr h))) (hb w))
theorem goodIn_sub {big ws : List Cond} (hm : ∀ w ∈ ws, w ∈ big) (h : ws.all goodWord = true) : GoodIn big ws := fun w hw => ⟨hm w hw, good_of_word (List.all_eq_true.mp h w hw)⟩
/-! ===== END ===== -/

/-! ===== BEGIN printed: names, fields, word lists, decode rows ===== -/
def RX0 : String := "LastCallersWord$Letters"
def TX0 : u_T := fun k => match k with
  | 0 => ("LastCallersWord$Letters", "signs", "[C", true)
  | _ => ("LastCallersWord$Letters", "length", "I", false)
def tyX0 : Nat → FieldType := fun k => match k with
  | 0 => .array .char
  | _ => .int
abbrev wsX00 : List Cond := u_ws RX0 TX0 2
theorem nmX0 : ∀ a, a < 2 → ∀ b, b < 2 → a ≠ b → (TX0 a).2.1 ≠ (TX0 b).2.1 := by decide +kernel
theorem tyX0_ok : ∀ k, k < 2 → parseFieldDescriptor (TX0 k).2.2.1 = some (tyX0 k) := by decide +kernel
abbrev cX0_init : ByteArray := prog_2_method_1_code
def yX0_init : MethodName := ⟨RX0, "<init>", "()V"⟩
abbrev cX0_append : ByteArray := prog_2_method_2_code
def yX0_append : MethodName := ⟨RX0, "append", "(C)V"⟩
abbrev cX0_signAt : ByteArray := prog_2_method_3_code
def yX0_signAt : MethodName := ⟨RX0, "signAt", "(I)C"⟩
abbrev cX0_clear : ByteArray := prog_2_method_4_code
def yX0_clear : MethodName := ⟨RX0, "clear", "()V"⟩
def RX1 : String := "LastCallersWord$Plan"
def TX1 : u_T := fun k => match k with
  | 0 => ("LastCallersWord$Plan", "kinds", "[I", true)
  | 1 => ("LastCallersWord$Plan", "likings", "[I", true)
  | 2 => ("LastCallersWord$Plan", "hosts", "[I", true)
  | 3 => ("LastCallersWord$Plan", "callers", "[I", true)
  | 4 => ("LastCallersWord$Plan", "parts", "[I", true)
  | 5 => ("LastCallersWord$Plan", "persons", "I", false)
  | 6 => ("LastCallersWord$Plan", "personsTold", "I", false)
  | 7 => ("LastCallersWord$Plan", "doors", "I", false)
  | 8 => ("LastCallersWord$Plan", "words", "I", false)
  | _ => ("LastCallersWord$Plan", "limit", "I", false)
def tyX1 : Nat → FieldType := fun k => match k with
  | 0 => .array .int
  | 1 => .array .int
  | 2 => .array .int
  | 3 => .array .int
  | 4 => .array .int
  | 5 => .int
  | 6 => .int
  | 7 => .int
  | 8 => .int
  | _ => .int
abbrev wsX10 : List Cond := u_ws RX1 TX1 10
theorem nmX1 : ∀ a, a < 10 → ∀ b, b < 10 → a ≠ b → (TX1 a).2.1 ≠ (TX1 b).2.1 := by decide +kernel
theorem tyX1_ok : ∀ k, k < 10 → parseFieldDescriptor (TX1 k).2.2.1 = some (tyX1 k) := by decide +kernel
abbrev cX1_init : ByteArray := prog_3_method_1_code
def yX1_init : MethodName := ⟨RX1, "<init>", "()V"⟩
abbrev cX1_clear : ByteArray := prog_3_method_2_code
def yX1_clear : MethodName := ⟨RX1, "clear", "()V"⟩
abbrev cX1_isWhole : ByteArray := prog_3_method_3_code
def yX1_isWhole : MethodName := ⟨RX1, "isWhole", "()Z"⟩
abbrev cX1_copyFrom : ByteArray := prog_3_method_4_code
def yX1_copyFrom : MethodName := ⟨RX1, "copyFrom", "(LLastCallersWord$Plan;)V"⟩
abbrev cX1_rankOf : ByteArray := prog_3_method_5_code
def yX1_rankOf : MethodName := ⟨RX1, "rankOf", "(I)I"⟩
abbrev cX1_allParts : ByteArray := prog_3_method_6_code
def yX1_allParts : MethodName := ⟨RX1, "allParts", "()I"⟩
def RX2 : String := "LastCallersWord$Reader"
def TX2 : u_T := fun k => match k with
  | 0 => ("LastCallersWord$Reader", "letters", "LLastCallersWord$Letters;", true)
  | 1 => ("LastCallersWord$Reader", "plan", "LLastCallersWord$Plan;", true)
  | 2 => ("LastCallersWord$Reader", "place", "I", false)
  | _ => ("LastCallersWord$Reader", "onlyCounts", "Z", false)
def tyX2 : Nat → FieldType := fun k => match k with
  | 0 => .object "LastCallersWord$Letters"
  | 1 => .object "LastCallersWord$Plan"
  | 2 => .int
  | _ => .boolean
abbrev wsX20 : List Cond := u_ws RX2 TX2 4
theorem nmX2 : ∀ a, a < 4 → ∀ b, b < 4 → a ≠ b → (TX2 a).2.1 ≠ (TX2 b).2.1 := by decide +kernel
theorem tyX2_ok : ∀ k, k < 4 → parseFieldDescriptor (TX2 k).2.2.1 = some (tyX2 k) := by decide +kernel
abbrev cX2_init : ByteArray := prog_4_method_1_code
def yX2_init : MethodName := ⟨RX2, "<init>", "(LLastCallersWord$Letters;LLastCallersWord$Plan;)V"⟩
abbrev cX2_findFault : ByteArray := prog_4_method_2_code
def yX2_findFault : MethodName := ⟨RX2, "findFault", "()I"⟩
abbrev cX2_readBody : ByteArray := prog_4_method_3_code
def yX2_readBody : MethodName := ⟨RX2, "readBody", "(C)Z"⟩
abbrev cX2_readPersons : ByteArray := prog_4_method_4_code
def yX2_readPersons : MethodName := ⟨RX2, "readPersons", "()Z"⟩
abbrev cX2_readPerson : ByteArray := prog_4_method_5_code
def yX2_readPerson : MethodName := ⟨RX2, "readPerson", "()Z"⟩
abbrev cX2_readDoor : ByteArray := prog_4_method_6_code
def yX2_readDoor : MethodName := ⟨RX2, "readDoor", "()Z"⟩
abbrev cX2_readWord : ByteArray := prog_4_method_7_code
def yX2_readWord : MethodName := ⟨RX2, "readWord", "()Z"⟩
abbrev cX2_readLimit : ByteArray := prog_4_method_8_code
def yX2_readLimit : MethodName := ⟨RX2, "readLimit", "()Z"⟩
abbrev cX2_isOneOfAll : ByteArray := prog_4_method_9_code
def yX2_isOneOfAll : MethodName := ⟨RX2, "isOneOfAll", "(I)Z"⟩
abbrev cX2_take : ByteArray := prog_4_method_10_code
def yX2_take : MethodName := ⟨RX2, "take", "(C)Z"⟩
abbrev cX2_number : ByteArray := prog_4_method_11_code
def yX2_number : MethodName := ⟨RX2, "number", "()I"⟩
abbrev cX2_figure : ByteArray := prog_4_method_12_code
def yX2_figure : MethodName := ⟨RX2, "figure", "()I"⟩
def RX3 : String := "LastCallersWord$Shelf"
def TX3 : u_T := fun k => match k with
  | 0 => ("LastCallersWord$Shelf", "copies", "[LLastCallersWord$State;", true)
  | _ => ("LastCallersWord$Shelf", "size", "I", false)
def tyX3 : Nat → FieldType := fun k => match k with
  | 0 => .array (.object "LastCallersWord$State")
  | _ => .int
abbrev wsX30 : List Cond := u_ws RX3 TX3 2
theorem nmX3 : ∀ a, a < 2 → ∀ b, b < 2 → a ≠ b → (TX3 a).2.1 ≠ (TX3 b).2.1 := by decide +kernel
theorem tyX3_ok : ∀ k, k < 2 → parseFieldDescriptor (TX3 k).2.2.1 = some (tyX3 k) := by decide +kernel
abbrev cX3_init : ByteArray := prog_5_method_1_code
def yX3_init : MethodName := ⟨RX3, "<init>", "(I)V"⟩
abbrev cX3_put : ByteArray := prog_5_method_2_code
def yX3_put : MethodName := ⟨RX3, "put", "(LLastCallersWord$State;)V"⟩
abbrev cX3_dropOldest : ByteArray := prog_5_method_3_code
def yX3_dropOldest : MethodName := ⟨RX3, "dropOldest", "()V"⟩
abbrev cX3_takeLatestInto : ByteArray := prog_5_method_4_code
def yX3_takeLatestInto : MethodName := ⟨RX3, "takeLatestInto", "(LLastCallersWord$State;)V"⟩
abbrev cX3_clear : ByteArray := prog_5_method_5_code
def yX3_clear : MethodName := ⟨RX3, "clear", "()V"⟩
def RX4 : String := "LastCallersWord$Sightings"
def TX4 : u_T := fun k => match k with
  | 0 => ("LastCallersWord$Sightings", "persons", "[I", true)
  | 1 => ("LastCallersWord$Sightings", "doors", "[I", true)
  | 2 => ("LastCallersWord$Sightings", "coulds", "[I", true)
  | _ => ("LastCallersWord$Sightings", "size", "I", false)
def tyX4 : Nat → FieldType := fun k => match k with
  | 0 => .array .int
  | 1 => .array .int
  | 2 => .array .int
  | _ => .int
abbrev wsX40 : List Cond := u_ws RX4 TX4 4
theorem nmX4 : ∀ a, a < 4 → ∀ b, b < 4 → a ≠ b → (TX4 a).2.1 ≠ (TX4 b).2.1 := by decide +kernel
theorem tyX4_ok : ∀ k, k < 4 → parseFieldDescriptor (TX4 k).2.2.1 = some (tyX4 k) := by decide +kernel
abbrev cX4_init : ByteArray := prog_6_method_1_code
def yX4_init : MethodName := ⟨RX4, "<init>", "()V"⟩
abbrev cX4_add : ByteArray := prog_6_method_2_code
def yX4_add : MethodName := ⟨RX4, "add", "(III)V"⟩
abbrev cX4_lookedAt : ByteArray := prog_6_method_3_code
def yX4_lookedAt : MethodName := ⟨RX4, "lookedAt", "(I)I"⟩
abbrev cX4_cameInAt : ByteArray := prog_6_method_4_code
def yX4_cameInAt : MethodName := ⟨RX4, "cameInAt", "(I)I"⟩
abbrev cX4_clear : ByteArray := prog_6_method_5_code
def yX4_clear : MethodName := ⟨RX4, "clear", "()V"⟩
def RX5 : String := "LastCallersWord$State"
def TX5 : u_T := fun k => match k with
  | 0 => ("LastCallersWord$State", "likings", "[I", true)
  | 1 => ("LastCallersWord$State", "callers", "[I", true)
  | 2 => ("LastCallersWord$State", "knowers", "[I", true)
  | 3 => ("LastCallersWord$State", "wrongs", "[I", true)
  | _ => ("LastCallersWord$State", "days", "I", false)
def tyX5 : Nat → FieldType := fun k => match k with
  | 0 => .array .int
  | 1 => .array .int
  | 2 => .array .int
  | 3 => .array .int
  | _ => .int
abbrev wsX50 : List Cond := u_ws RX5 TX5 5
theorem nmX5 : ∀ a, a < 5 → ∀ b, b < 5 → a ≠ b → (TX5 a).2.1 ≠ (TX5 b).2.1 := by decide +kernel
theorem tyX5_ok : ∀ k, k < 5 → parseFieldDescriptor (TX5 k).2.2.1 = some (tyX5 k) := by decide +kernel
abbrev cX5_init : ByteArray := prog_7_method_1_code
def yX5_init : MethodName := ⟨RX5, "<init>", "()V"⟩
abbrev cX5_begin : ByteArray := prog_7_method_2_code
def yX5_begin : MethodName := ⟨RX5, "begin", "(LLastCallersWord$Plan;)V"⟩
abbrev cX5_forgiveAll : ByteArray := prog_7_method_3_code
def yX5_forgiveAll : MethodName := ⟨RX5, "forgiveAll", "()V"⟩
abbrev cX5_copyFrom : ByteArray := prog_7_method_4_code
def yX5_copyFrom : MethodName := ⟨RX5, "copyFrom", "(LLastCallersWord$State;)V"⟩
def RX6 : String := "LastCallersWord$Talk"
def TX6 : u_T := fun k => match k with
  | 0 => ("LastCallersWord$Talk", "plan", "LLastCallersWord$Plan;", true)
  | _ => ("LastCallersWord$Talk", "state", "LLastCallersWord$State;", true)
def tyX6 : Nat → FieldType := fun k => match k with
  | 0 => .object "LastCallersWord$Plan"
  | _ => .object "LastCallersWord$State"
abbrev wsX60 : List Cond := u_ws RX6 TX6 2
theorem nmX6 : ∀ a, a < 2 → ∀ b, b < 2 → a ≠ b → (TX6 a).2.1 ≠ (TX6 b).2.1 := by decide +kernel
theorem tyX6_ok : ∀ k, k < 2 → parseFieldDescriptor (TX6 k).2.2.1 = some (tyX6 k) := by decide +kernel
abbrev cX6_init : ByteArray := prog_8_method_1_code
def yX6_init : MethodName := ⟨RX6, "<init>", "(LLastCallersWord$Plan;LLastCallersWord$State;)V"⟩
abbrev cX6_everyone : ByteArray := prog_8_method_2_code
def yX6_everyone : MethodName := ⟨RX6, "everyone", "()I"⟩
abbrev cX6_knowersByCall : ByteArray := prog_8_method_3_code
def yX6_knowersByCall : MethodName := ⟨RX6, "knowersByCall", "(I)I"⟩
abbrev cX6_listeners : ByteArray := prog_8_method_4_code
def yX6_listeners : MethodName := ⟨RX6, "listeners", "(I)I"⟩
abbrev cX6_dearestOnes : ByteArray := prog_8_method_5_code
def yX6_dearestOnes : MethodName := ⟨RX6, "dearestOnes", "(II)I"⟩
abbrev cX6_dearestOf : ByteArray := prog_8_method_6_code
def yX6_dearestOf : MethodName := ⟨RX6, "dearestOf", "(II)I"⟩
abbrev cX6_likedOnes : ByteArray := prog_8_method_7_code
def yX6_likedOnes : MethodName := ⟨RX6, "likedOnes", "(II)I"⟩
abbrev cX6_afterDay : ByteArray := prog_8_method_8_code
def yX6_afterDay : MethodName := ⟨RX6, "afterDay", "(I)I"⟩
abbrev cX6_afterDays : ByteArray := prog_8_method_9_code
def yX6_afterDays : MethodName := ⟨RX6, "afterDays", "(II)I"⟩
def RX7 : String := "LastCallersWord"
def TX7 : u_T := fun k => match k with
  | 0 => ("LastCallersWord", "letters", "LLastCallersWord$Letters;", true)
  | 1 => ("LastCallersWord", "draft", "LLastCallersWord$Plan;", true)
  | 2 => ("LastCallersWord", "reader", "LLastCallersWord$Reader;", true)
  | 3 => ("LastCallersWord", "plan", "LLastCallersWord$Plan;", true)
  | 4 => ("LastCallersWord", "state", "LLastCallersWord$State;", true)
  | 5 => ("LastCallersWord", "talk", "LLastCallersWord$Talk;", true)
  | 6 => ("LastCallersWord", "sightings", "LLastCallersWord$Sightings;", true)
  | 7 => ("LastCallersWord", "undoable", "LLastCallersWord$Shelf;", true)
  | 8 => ("LastCallersWord", "kept", "LLastCallersWord$Shelf;", true)
  | _ => ("LastCallersWord", "streetKnowers", "[I", true)
def tyX7 : Nat → FieldType := fun k => match k with
  | 0 => .object "LastCallersWord$Letters"
  | 1 => .object "LastCallersWord$Plan"
  | 2 => .object "LastCallersWord$Reader"
  | 3 => .object "LastCallersWord$Plan"
  | 4 => .object "LastCallersWord$State"
  | 5 => .object "LastCallersWord$Talk"
  | 6 => .object "LastCallersWord$Sightings"
  | 7 => .object "LastCallersWord$Shelf"
  | 8 => .object "LastCallersWord$Shelf"
  | _ => .array .int
abbrev wsX70 : List Cond := u_ws RX7 TX7 10
theorem nmX7 : ∀ a, a < 10 → ∀ b, b < 10 → a ≠ b → (TX7 a).2.1 ≠ (TX7 b).2.1 := by decide +kernel
theorem tyX7_ok : ∀ k, k < 10 → parseFieldDescriptor (TX7 k).2.2.1 = some (tyX7 k) := by decide +kernel
abbrev cX7_init : ByteArray := prog_1_method_1_code
def yX7_init : MethodName := ⟨RX7, "<init>", "()V"⟩
abbrev cX7_write : ByteArray := prog_1_method_2_code
def yX7_write : MethodName := ⟨RX7, "write", "(I)I"⟩
abbrev cX7_wipe : ByteArray := prog_1_method_3_code
def yX7_wipe : MethodName := ⟨RX7, "wipe", "()I"⟩
abbrev cX7_fault : ByteArray := prog_1_method_4_code
def yX7_fault : MethodName := ⟨RX7, "fault", "()I"⟩
abbrev cX7_lay : ByteArray := prog_1_method_5_code
def yX7_lay : MethodName := ⟨RX7, "lay", "()I"⟩
abbrev cX7_person : ByteArray := prog_1_method_6_code
def yX7_person : MethodName := ⟨RX7, "person", "(II)I"⟩
abbrev cX7_likes : ByteArray := prog_1_method_7_code
def yX7_likes : MethodName := ⟨RX7, "likes", "(II)I"⟩
abbrev cX7_door : ByteArray := prog_1_method_8_code
def yX7_door : MethodName := ⟨RX7, "door", "(II)I"⟩
abbrev cX7_call : ByteArray := prog_1_method_9_code
def yX7_call : MethodName := ⟨RX7, "call", "(II)I"⟩
abbrev cX7_tries : ByteArray := prog_1_method_10_code
def yX7_tries : MethodName := ⟨RX7, "tries", "(II)I"⟩
abbrev cX7_day : ByteArray := prog_1_method_11_code
def yX7_day : MethodName := ⟨RX7, "day", "()I"⟩
abbrev cX7_alter : ByteArray := prog_1_method_12_code
def yX7_alter : MethodName := ⟨RX7, "alter", "(III)I"⟩
abbrev cX7_undo : ByteArray := prog_1_method_13_code
def yX7_undo : MethodName := ⟨RX7, "undo", "()I"⟩
abbrev cX7_shutOut : ByteArray := prog_1_method_14_code
def yX7_shutOut : MethodName := ⟨RX7, "shutOut", "()I"⟩
abbrev cX7_knowsBy : ByteArray := prog_1_method_15_code
def yX7_knowsBy : MethodName := ⟨RX7, "knowsBy", "(II)I"⟩
abbrev cX7_when : ByteArray := prog_1_method_16_code
def yX7_when : MethodName := ⟨RX7, "when", "(II)I"⟩
abbrev cX7_lets : ByteArray := prog_1_method_17_code
def yX7_lets : MethodName := ⟨RX7, "lets", "(II)I"⟩
abbrev cX7_keeps : ByteArray := prog_1_method_18_code
def yX7_keeps : MethodName := ⟨RX7, "keeps", "(III)I"⟩
abbrev cX7_allIn : ByteArray := prog_1_method_19_code
def yX7_allIn : MethodName := ⟨RX7, "allIn", "(I)I"⟩
abbrev cX7_friend : ByteArray := prog_1_method_20_code
def yX7_friend : MethodName := ⟨RX7, "friend", "(II)I"⟩
abbrev cX7_seen : ByteArray := prog_1_method_21_code
def yX7_seen : MethodName := ⟨RX7, "seen", "(III)I"⟩
abbrev cX7_forget : ByteArray := prog_1_method_22_code
def yX7_forget : MethodName := ⟨RX7, "forget", "()I"⟩
abbrev cX7_called : ByteArray := prog_1_method_23_code
def yX7_called : MethodName := ⟨RX7, "called", "(I)I"⟩
abbrev cX7_guess : ByteArray := prog_1_method_24_code
def yX7_guess : MethodName := ⟨RX7, "guess", "(I)I"⟩
abbrev cX7_mean : ByteArray := prog_1_method_25_code
def yX7_mean : MethodName := ⟨RX7, "mean", "(I)I"⟩
abbrev cX7_inTime : ByteArray := prog_1_method_26_code
def yX7_inTime : MethodName := ⟨RX7, "inTime", "(I)I"⟩
abbrev cX7_likely : ByteArray := prog_1_method_27_code
def yX7_likely : MethodName := ⟨RX7, "likely", "(III)I"⟩
abbrev cX7_street : ByteArray := prog_1_method_28_code
def yX7_street : MethodName := ⟨RX7, "street", "(III)I"⟩
abbrev cX7_keep : ByteArray := prog_1_method_29_code
def yX7_keep : MethodName := ⟨RX7, "keep", "()I"⟩
abbrev cX7_back : ByteArray := prog_1_method_30_code
def yX7_back : MethodName := ⟨RX7, "back", "()I"⟩
abbrev cX7_count : ByteArray := prog_1_method_31_code
def yX7_count : MethodName := ⟨RX7, "count", "(I)I"⟩
abbrev cX7_layDraft : ByteArray := prog_1_method_32_code
def yX7_layDraft : MethodName := ⟨RX7, "layDraft", "()V"⟩
abbrev cX7_isPerson : ByteArray := prog_1_method_33_code
def yX7_isPerson : MethodName := ⟨RX7, "isPerson", "(I)Z"⟩
abbrev cX7_isDoor : ByteArray := prog_1_method_34_code
def yX7_isDoor : MethodName := ⟨RX7, "isDoor", "(I)Z"⟩
abbrev cX7_isPart : ByteArray := prog_1_method_35_code
def yX7_isPart : MethodName := ⟨RX7, "isPart", "(I)Z"⟩
abbrev cX7_isBarred : ByteArray := prog_1_method_36_code
def yX7_isBarred : MethodName := ⟨RX7, "isBarred", "(II)Z"⟩
abbrev cX7_barredAt : ByteArray := prog_1_method_37_code
def yX7_barredAt : MethodName := ⟨RX7, "barredAt", "(I)I"⟩
abbrev cX7_shutOutBy : ByteArray := prog_1_method_38_code
def yX7_shutOutBy : MethodName := ⟨RX7, "shutOutBy", "([I)I"⟩
abbrev cX7_callersWhoReach : ByteArray := prog_1_method_39_code
def yX7_callersWhoReach : MethodName := ⟨RX7, "callersWhoReach", "(II)I"⟩
abbrev cX7_knowersByVisitors : ByteArray := prog_1_method_40_code
def yX7_knowersByVisitors : MethodName := ⟨RX7, "knowersByVisitors", "(III)I"⟩
abbrev cX7_goOnInStreet : ByteArray := prog_1_method_41_code
def yX7_goOnInStreet : MethodName := ⟨RX7, "goOnInStreet", "(I)V"⟩
abbrev cX7_drawOf : ByteArray := prog_1_method_42_code
def yX7_drawOf : MethodName := ⟨RX7, "drawOf", "(II)I"⟩
abbrev cX7_inLowestTerms : ByteArray := prog_1_method_43_code
def yX7_inLowestTerms : MethodName := ⟨RX7, "inLowestTerms", "(III)I"⟩
abbrev cX7_commonDivisor : ByteArray := prog_1_method_44_code
def yX7_commonDivisor : MethodName := ⟨RX7, "commonDivisor", "(II)I"⟩
abbrev cX7_quotient : ByteArray := prog_1_method_45_code
def yX7_quotient : MethodName := ⟨RX7, "quotient", "(II)I"⟩
abbrev cX7_remainder : ByteArray := prog_1_method_46_code
def yX7_remainder : MethodName := ⟨RX7, "remainder", "(II)I"⟩
abbrev cX7_has : ByteArray := prog_1_method_47_code
def yX7_has : MethodName := ⟨RX7, "has", "(II)Z"⟩
abbrev cX7_lowest : ByteArray := prog_1_method_48_code
def yX7_lowest : MethodName := ⟨RX7, "lowest", "(I)I"⟩
abbrev cX7_pair : ByteArray := prog_1_method_49_code
def yX7_pair : MethodName := ⟨RX7, "pair", "(II)I"⟩
def RX8 : String := "LastCallersWordModel"
def TX8 : u_T := fun k => match k with
  | 0 => ("LastCallersWordModel", "persons", "I", false)
  | 1 => ("LastCallersWordModel", "kinds", "[I", true)
  | 2 => ("LastCallersWordModel", "doors", "I", false)
  | 3 => ("LastCallersWordModel", "hosts", "[I", true)
  | 4 => ("LastCallersWordModel", "words", "I", false)
  | 5 => ("LastCallersWordModel", "parts", "[I", true)
  | 6 => ("LastCallersWordModel", "bars", "I", false)
  | 7 => ("LastCallersWordModel", "st", "[I", true)
  | 8 => ("LastCallersWordModel", "acts", "I", false)
  | 9 => ("LastCallersWordModel", "was", "[I", true)
  | 10 => ("LastCallersWordModel", "keeps", "I", false)
  | 11 => ("LastCallersWordModel", "kept", "[I", true)
  | 12 => ("LastCallersWordModel", "seens", "I", false)
  | 13 => ("LastCallersWordModel", "seen", "[I", true)
  | 14 => ("LastCallersWordModel", "text", "[I", true)
  | 15 => ("LastCallersWordModel", "texted", "I", false)
  | 16 => ("LastCallersWordModel", "at", "I", false)
  | 17 => ("LastCallersWordModel", "told", "[I", true)
  | 18 => ("LastCallersWordModel", "isBegun", "Z", false)
  | 19 => ("LastCallersWordModel", "readPersons", "I", false)
  | 20 => ("LastCallersWordModel", "readTold", "I", false)
  | 21 => ("LastCallersWordModel", "readKinds", "[I", true)
  | 22 => ("LastCallersWordModel", "readDoors", "I", false)
  | 23 => ("LastCallersWordModel", "readHosts", "[I", true)
  | 24 => ("LastCallersWordModel", "readWords", "I", false)
  | 25 => ("LastCallersWordModel", "readParts", "[I", true)
  | 26 => ("LastCallersWordModel", "readBars", "I", false)
  | 27 => ("LastCallersWordModel", "read", "[I", true)
  | _ => ("LastCallersWordModel", "now", "[I", true)
def tyX8 : Nat → FieldType := fun k => match k with
  | 0 => .int
  | 1 => .array .int
  | 2 => .int
  | 3 => .array .int
  | 4 => .int
  | 5 => .array .int
  | 6 => .int
  | 7 => .array .int
  | 8 => .int
  | 9 => .array .int
  | 10 => .int
  | 11 => .array .int
  | 12 => .int
  | 13 => .array .int
  | 14 => .array .int
  | 15 => .int
  | 16 => .int
  | 17 => .array .int
  | 18 => .boolean
  | 19 => .int
  | 20 => .int
  | 21 => .array .int
  | 22 => .int
  | 23 => .array .int
  | 24 => .int
  | 25 => .array .int
  | 26 => .int
  | 27 => .array .int
  | _ => .array .int
abbrev wsX80 : List Cond := u_ws RX8 TX8 29
theorem nmX8 : ∀ a, a < 29 → ∀ b, b < 29 → a ≠ b → (TX8 a).2.1 ≠ (TX8 b).2.1 := by decide +kernel
theorem tyX8_ok : ∀ k, k < 29 → parseFieldDescriptor (TX8 k).2.2.1 = some (tyX8 k) := by decide +kernel
abbrev cX8_init : ByteArray := prog_10_method_1_code
def yX8_init : MethodName := ⟨RX8, "<init>", "()V"⟩
abbrev cX8_tellsPerson : ByteArray := prog_10_method_3_code
def yX8_tellsPerson : MethodName := ⟨RX8, "tellsPerson", "(IIIIII)V"⟩
abbrev cX8_tellsDoor : ByteArray := prog_10_method_4_code
def yX8_tellsDoor : MethodName := ⟨RX8, "tellsDoor", "(II)V"⟩
abbrev cX8_in : ByteArray := prog_10_method_5_code
def yX8_in : MethodName := ⟨RX8, "in", "(III)Z"⟩
abbrev cX8_has : ByteArray := prog_10_method_6_code
def yX8_has : MethodName := ⟨RX8, "has", "(II)Z"⟩
abbrev cX8_bits : ByteArray := prog_10_method_7_code
def yX8_bits : MethodName := ⟨RX8, "bits", "(I)I"⟩
abbrev cX8_isPerson : ByteArray := prog_10_method_8_code
def yX8_isPerson : MethodName := ⟨RX8, "isPerson", "(I)Z"⟩
abbrev cX8_isDoor : ByteArray := prog_10_method_9_code
def yX8_isDoor : MethodName := ⟨RX8, "isDoor", "(I)Z"⟩
abbrev cX8_write : ByteArray := prog_10_method_10_code
def yX8_write : MethodName := ⟨RX8, "write", "(I)I"⟩
abbrev cX8_wipe : ByteArray := prog_10_method_11_code
def yX8_wipe : MethodName := ⟨RX8, "wipe", "()I"⟩
abbrev cX8_letterAt : ByteArray := prog_10_method_12_code
def yX8_letterAt : MethodName := ⟨RX8, "letterAt", "(I)I"⟩
abbrev cX8_isFigure : ByteArray := prog_10_method_13_code
def yX8_isFigure : MethodName := ⟨RX8, "isFigure", "(I)Z"⟩
abbrev cX8_readNumbers : ByteArray := prog_10_method_14_code
def yX8_readNumbers : MethodName := ⟨RX8, "readNumbers", "(I)Z"⟩
abbrev cX8_isTold : ByteArray := prog_10_method_15_code
def yX8_isTold : MethodName := ⟨RX8, "isTold", "(III)Z"⟩
abbrev cX8_clearTold : ByteArray := prog_10_method_16_code
def yX8_clearTold : MethodName := ⟨RX8, "clearTold", "()V"⟩
abbrev cX8_readPersonsOf : ByteArray := prog_10_method_17_code
def yX8_readPersonsOf : MethodName := ⟨RX8, "readPersonsOf", "()Z"⟩
abbrev cX8_readPersonOf : ByteArray := prog_10_method_18_code
def yX8_readPersonOf : MethodName := ⟨RX8, "readPersonOf", "()Z"⟩
abbrev cX8_readDoorOf : ByteArray := prog_10_method_19_code
def yX8_readDoorOf : MethodName := ⟨RX8, "readDoorOf", "()Z"⟩
abbrev cX8_readWordOf : ByteArray := prog_10_method_20_code
def yX8_readWordOf : MethodName := ⟨RX8, "readWordOf", "()Z"⟩
abbrev cX8_readBarsOf : ByteArray := prog_10_method_21_code
def yX8_readBarsOf : MethodName := ⟨RX8, "readBarsOf", "()Z"⟩
abbrev cX8_readItem : ByteArray := prog_10_method_22_code
def yX8_readItem : MethodName := ⟨RX8, "readItem", "()Z"⟩
abbrev cX8_fault : ByteArray := prog_10_method_23_code
def yX8_fault : MethodName := ⟨RX8, "fault", "()I"⟩
abbrev cX8_lay : ByteArray := prog_10_method_24_code
def yX8_lay : MethodName := ⟨RX8, "lay", "()I"⟩
abbrev cX8_copies : ByteArray := prog_10_method_25_code
def yX8_copies : MethodName := ⟨RX8, "copies", "([II[III)V"⟩
abbrev cX8_settles : ByteArray := prog_10_method_26_code
def yX8_settles : MethodName := ⟨RX8, "settles", "()V"⟩
abbrev cX8_asItIs : ByteArray := prog_10_method_27_code
def yX8_asItIs : MethodName := ⟨RX8, "asItIs", "()V"⟩
abbrev cX8_likingOf : ByteArray := prog_10_method_28_code
def yX8_likingOf : MethodName := ⟨RX8, "likingOf", "(II)I"⟩
abbrev cX8_dearest : ByteArray := prog_10_method_29_code
def yX8_dearest : MethodName := ⟨RX8, "dearest", "(III)I"⟩
abbrev cX8_tellsTo : ByteArray := prog_10_method_30_code
def yX8_tellsTo : MethodName := ⟨RX8, "tellsTo", "(I)I"⟩
abbrev cX8_calls : ByteArray := prog_10_method_31_code
def yX8_calls : MethodName := ⟨RX8, "calls", "(II)V"⟩
abbrev cX8_dayAt : ByteArray := prog_10_method_32_code
def yX8_dayAt : MethodName := ⟨RX8, "dayAt", "(I)V"⟩
abbrev cX8_goes : ByteArray := prog_10_method_33_code
def yX8_goes : MethodName := ⟨RX8, "goes", "()V"⟩
abbrev cX8_isShutOut : ByteArray := prog_10_method_34_code
def yX8_isShutOut : MethodName := ⟨RX8, "isShutOut", "(I)Z"⟩
abbrev cX8_shutOutNow : ByteArray := prog_10_method_35_code
def yX8_shutOutNow : MethodName := ⟨RX8, "shutOutNow", "()I"⟩
abbrev cX8_person : ByteArray := prog_10_method_36_code
def yX8_person : MethodName := ⟨RX8, "person", "(II)I"⟩
abbrev cX8_likes : ByteArray := prog_10_method_37_code
def yX8_likes : MethodName := ⟨RX8, "likes", "(II)I"⟩
abbrev cX8_barredAt : ByteArray := prog_10_method_38_code
def yX8_barredAt : MethodName := ⟨RX8, "barredAt", "(I)I"⟩
abbrev cX8_door : ByteArray := prog_10_method_39_code
def yX8_door : MethodName := ⟨RX8, "door", "(II)I"⟩
abbrev cX8_remembers : ByteArray := prog_10_method_40_code
def yX8_remembers : MethodName := ⟨RX8, "remembers", "()V"⟩
abbrev cX8_call : ByteArray := prog_10_method_41_code
def yX8_call : MethodName := ⟨RX8, "call", "(II)I"⟩
abbrev cX8_tries : ByteArray := prog_10_method_42_code
def yX8_tries : MethodName := ⟨RX8, "tries", "(II)I"⟩
abbrev cX8_day : ByteArray := prog_10_method_43_code
def yX8_day : MethodName := ⟨RX8, "day", "()I"⟩
abbrev cX8_alter : ByteArray := prog_10_method_44_code
def yX8_alter : MethodName := ⟨RX8, "alter", "(III)I"⟩
abbrev cX8_undo : ByteArray := prog_10_method_45_code
def yX8_undo : MethodName := ⟨RX8, "undo", "()I"⟩
abbrev cX8_shutOut : ByteArray := prog_10_method_46_code
def yX8_shutOut : MethodName := ⟨RX8, "shutOut", "()I"⟩
abbrev cX8_knownBehind : ByteArray := prog_10_method_47_code
def yX8_knownBehind : MethodName := ⟨RX8, "knownBehind", "(II)I"⟩
abbrev cX8_knowsBy : ByteArray := prog_10_method_48_code
def yX8_knowsBy : MethodName := ⟨RX8, "knowsBy", "(II)I"⟩
abbrev cX8_when : ByteArray := prog_10_method_49_code
def yX8_when : MethodName := ⟨RX8, "when", "(II)I"⟩
abbrev cX8_letsIn : ByteArray := prog_10_method_50_code
def yX8_letsIn : MethodName := ⟨RX8, "letsIn", "(III)I"⟩
abbrev cX8_lets : ByteArray := prog_10_method_51_code
def yX8_lets : MethodName := ⟨RX8, "lets", "(II)I"⟩
abbrev cX8_keeps : ByteArray := prog_10_method_52_code
def yX8_keeps : MethodName := ⟨RX8, "keeps", "(III)I"⟩
abbrev cX8_allIn : ByteArray := prog_10_method_53_code
def yX8_allIn : MethodName := ⟨RX8, "allIn", "(I)I"⟩
abbrev cX8_friend : ByteArray := prog_10_method_54_code
def yX8_friend : MethodName := ⟨RX8, "friend", "(II)I"⟩
abbrev cX8_seen : ByteArray := prog_10_method_55_code
def yX8_seen : MethodName := ⟨RX8, "seen", "(III)I"⟩
abbrev cX8_forget : ByteArray := prog_10_method_56_code
def yX8_forget : MethodName := ⟨RX8, "forget", "()I"⟩
abbrev cX8_called : ByteArray := prog_10_method_57_code
def yX8_called : MethodName := ⟨RX8, "called", "(I)I"⟩
abbrev cX8_rankOf : ByteArray := prog_10_method_58_code
def yX8_rankOf : MethodName := ⟨RX8, "rankOf", "(I)I"⟩
abbrev cX8_guess : ByteArray := prog_10_method_59_code
def yX8_guess : MethodName := ⟨RX8, "guess", "(I)I"⟩
abbrev cX8_lowest : ByteArray := prog_10_method_60_code
def yX8_lowest : MethodName := ⟨RX8, "lowest", "(III)I"⟩
abbrev cX8_allParts : ByteArray := prog_10_method_61_code
def yX8_allParts : MethodName := ⟨RX8, "allParts", "()I"⟩
abbrev cX8_mean : ByteArray := prog_10_method_62_code
def yX8_mean : MethodName := ⟨RX8, "mean", "(I)I"⟩
abbrev cX8_inTime : ByteArray := prog_10_method_63_code
def yX8_inTime : MethodName := ⟨RX8, "inTime", "(I)I"⟩
abbrev cX8_likely : ByteArray := prog_10_method_64_code
def yX8_likely : MethodName := ⟨RX8, "likely", "(III)I"⟩
abbrev cX8_street : ByteArray := prog_10_method_65_code
def yX8_street : MethodName := ⟨RX8, "street", "(III)I"⟩
abbrev cX8_keep : ByteArray := prog_10_method_66_code
def yX8_keep : MethodName := ⟨RX8, "keep", "()I"⟩
abbrev cX8_back : ByteArray := prog_10_method_67_code
def yX8_back : MethodName := ⟨RX8, "back", "()I"⟩
abbrev cX8_count : ByteArray := prog_10_method_68_code
def yX8_count : MethodName := ⟨RX8, "count", "(I)I"⟩
def RJ6 : String := "java/lang/Integer"
def TJ6 : u_T := fun k => match k with
  | _ => ("", "", "", false)
def tyJ6 : Nat → FieldType := fun k => match k with
  | _ => .int
abbrev wsJ60 : List Cond := u_ws RJ6 TJ6 0
theorem nmJ6 : ∀ a, a < 0 → ∀ b, b < 0 → a ≠ b → (TJ6 a).2.1 ≠ (TJ6 b).2.1 := by decide +kernel
theorem tyJ6_ok : ∀ k, k < 0 → parseFieldDescriptor (TJ6 k).2.2.1 = some (tyJ6 k) := by decide +kernel
abbrev cJ6_numberOfTrailingZeros_0f7a4 : ByteArray := prog_11_method_48_code
def yJ6_numberOfTrailingZeros_0f7a4 : MethodName := ⟨RJ6, "numberOfTrailingZeros", "(I)I"⟩
abbrev cJ6_bitCount_0f7a4 : ByteArray := prog_11_method_49_code
def yJ6_bitCount_0f7a4 : MethodName := ⟨RJ6, "bitCount", "(I)I"⟩
def RJ9 : String := "java/lang/Math"
def TJ9 : u_T := fun k => match k with
  | _ => ("", "", "", false)
def tyJ9 : Nat → FieldType := fun k => match k with
  | _ => .int
abbrev wsJ90 : List Cond := u_ws RJ9 TJ9 0
theorem nmJ9 : ∀ a, a < 0 → ∀ b, b < 0 → a ≠ b → (TJ9 a).2.1 ≠ (TJ9 b).2.1 := by decide +kernel
theorem tyJ9_ok : ∀ k, k < 0 → parseFieldDescriptor (TJ9 k).2.2.1 = some (tyJ9 k) := by decide +kernel
abbrev cJ9_max_7cf53 : ByteArray := prog_12_method_65_code
def yJ9_max_7cf53 : MethodName := ⟨RJ9, "max", "(II)I"⟩
def RJ0 : String := "java/lang/String"
def TJ0 : u_T := fun k => match k with
  | _ => ("", "", "", false)
def tyJ0 : Nat → FieldType := fun k => match k with
  | _ => .int
abbrev wsJ00 : List Cond := u_ws RJ0 TJ0 0
theorem nmJ0 : ∀ a, a < 0 → ∀ b, b < 0 → a ≠ b → (TJ0 a).2.1 ≠ (TJ0 b).2.1 := by decide +kernel
theorem tyJ0_ok : ∀ k, k < 0 → parseFieldDescriptor (TJ0 k).2.2.1 = some (tyJ0 k) := by decide +kernel
abbrev cJ0_length_8abf5 : ByteArray := prog_13_method_54_code
def yJ0_length_8abf5 : MethodName := ⟨RJ0, "length", "()I"⟩
abbrev cJ0_charAt_5068e : ByteArray := prog_13_method_56_code
def yJ0_charAt_5068e : MethodName := ⟨RJ0, "charAt", "(I)C"⟩
abbrev cJ0_coder_7d493 : ByteArray := prog_13_method_152_code
def yJ0_coder_7d493 : MethodName := ⟨RJ0, "coder", "()B"⟩
abbrev cJ0_isLatin1_aae02 : ByteArray := prog_13_method_154_code
def yJ0_isLatin1_aae02 : MethodName := ⟨RJ0, "isLatin1", "()Z"⟩
abbrev cJ0_checkIndex_df160 : ByteArray := prog_13_method_155_code
def yJ0_checkIndex_df160 : MethodName := ⟨RJ0, "checkIndex", "(II)V"⟩
def RJ1 : String := "java/lang/StringLatin1"
def TJ1 : u_T := fun k => match k with
  | _ => ("", "", "", false)
def tyJ1 : Nat → FieldType := fun k => match k with
  | _ => .int
abbrev wsJ10 : List Cond := u_ws RJ1 TJ1 0
theorem nmJ1 : ∀ a, a < 0 → ∀ b, b < 0 → a ≠ b → (TJ1 a).2.1 ≠ (TJ1 b).2.1 := by decide +kernel
theorem tyJ1_ok : ∀ k, k < 0 → parseFieldDescriptor (TJ1 k).2.2.1 = some (tyJ1 k) := by decide +kernel
abbrev cJ1_charAt_3b067 : ByteArray := prog_14_method_2_code
def yJ1_charAt_3b067 : MethodName := ⟨RJ1, "charAt", "([BI)C"⟩
def RJ2 : String := "java/lang/StringUTF16"
def TJ2 : u_T := fun k => match k with
  | _ => ("", "", "", false)
def tyJ2 : Nat → FieldType := fun k => match k with
  | _ => .int
abbrev wsJ20 : List Cond := u_ws RJ2 TJ2 0
theorem nmJ2 : ∀ a, a < 0 → ∀ b, b < 0 → a ≠ b → (TJ2 a).2.1 ≠ (TJ2 b).2.1 := by decide +kernel
theorem tyJ2_ok : ∀ k, k < 0 → parseFieldDescriptor (TJ2 k).2.2.1 = some (tyJ2 k) := by decide +kernel
abbrev cJ2_getChar_3b067 : ByteArray := prog_15_method_5_code
def yJ2_getChar_3b067 : MethodName := ⟨RJ2, "getChar", "([BI)C"⟩
abbrev cJ2_length_9d52b : ByteArray := prog_15_method_6_code
def yJ2_length_9d52b : MethodName := ⟨RJ2, "length", "([B)I"⟩
abbrev cJ2_charAt_3b067 : ByteArray := prog_15_method_83_code
def yJ2_charAt_3b067 : MethodName := ⟨RJ2, "charAt", "([BI)C"⟩
abbrev cJ2_checkIndex_2214a : ByteArray := prog_15_method_91_code
def yJ2_checkIndex_2214a : MethodName := ⟨RJ2, "checkIndex", "(I[B)V"⟩
def RJ10 : String := "java/lang/System"
def TJ10 : u_T := fun k => match k with
  | _ => ("", "", "", false)
def tyJ10 : Nat → FieldType := fun k => match k with
  | _ => .int
abbrev wsJ100 : List Cond := u_ws RJ10 TJ10 0
theorem nmJ10 : ∀ a, a < 0 → ∀ b, b < 0 → a ≠ b → (TJ10 a).2.1 ≠ (TJ10 b).2.1 := by decide +kernel
theorem tyJ10_ok : ∀ k, k < 0 → parseFieldDescriptor (TJ10 k).2.2.1 = some (tyJ10 k) := by decide +kernel
def RJ3 : String := "jdk/internal/util/Preconditions"
def TJ3 : u_T := fun k => match k with
  | _ => ("", "", "", false)
def tyJ3 : Nat → FieldType := fun k => match k with
  | _ => .int
abbrev wsJ30 : List Cond := u_ws RJ3 TJ3 0
theorem nmJ3 : ∀ a, a < 0 → ∀ b, b < 0 → a ≠ b → (TJ3 a).2.1 ≠ (TJ3 b).2.1 := by decide +kernel
theorem tyJ3_ok : ∀ k, k < 0 → parseFieldDescriptor (TJ3 k).2.2.1 = some (tyJ3 k) := by decide +kernel
abbrev cJ3_checkIndex_8e157 : ByteArray := prog_17_method_11_code
def yJ3_checkIndex_8e157 : MethodName := ⟨RJ3, "checkIndex", "(IILjava/util/function/BiFunction;)I"⟩
def RL : String := "LastCallersWordLaw"
abbrev cL_law : ByteArray := code
def yL_law : MethodName := ⟨RL, "law", "([I)Z"⟩
def wsA_1 : List Cond := [Cond.instantiable RX7 10, Cond.initialized RX7, Cond.instantiable RX8 29, Cond.initialized RX8, Cond.instanceMethod yX7_init, Cond.code yX7_init cX7_init 2 none, Cond.methodLink RX7 1 objectInit, Cond.instanceMethod objectInit, Cond.code objectInit ⟨#[0xb1]⟩ 1 none, Cond.classLink RX7 7 RX0, Cond.instantiable RX0 2, Cond.initialized RX0, Cond.fieldLink RX7 10 "LastCallersWord" "letters" "LLastCallersWord$Letters;", Cond.classLink RX7 16 RX1, Cond.instantiable RX1 10, Cond.initialized RX1, Cond.fieldLink RX7 19 "LastCallersWord" "draft" "LLastCallersWord$Plan;", Cond.classLink RX7 23 RX2, Cond.instantiable RX2 4, Cond.initialized RX2, Cond.fieldLink RX7 28 "LastCallersWord" "reader" "LLastCallersWord$Reader;", Cond.fieldLink RX7 32 "LastCallersWord" "plan" "LLastCallersWord$Plan;", Cond.classLink RX7 35 RX5, Cond.instantiable RX5 5]
def wsA_2 : List Cond := [Cond.initialized RX5, Cond.fieldLink RX7 38 "LastCallersWord" "state" "LLastCallersWord$State;", Cond.classLink RX7 42 RX6, Cond.instantiable RX6 2, Cond.initialized RX6, Cond.fieldLink RX7 47 "LastCallersWord" "talk" "LLastCallersWord$Talk;", Cond.classLink RX7 51 RX4, Cond.instantiable RX4 4, Cond.initialized RX4, Cond.fieldLink RX7 54 "LastCallersWord" "sightings" "LLastCallersWord$Sightings;", Cond.classLink RX7 58 RX3, Cond.instantiable RX3 2, Cond.initialized RX3, Cond.fieldLink RX7 63 "LastCallersWord" "undoable" "LLastCallersWord$Shelf;", Cond.fieldLink RX7 67 "LastCallersWord" "kept" "LLastCallersWord$Shelf;", Cond.arrayClass .int, Cond.fieldLink RX7 70 "LastCallersWord" "streetKnowers" "[I", Cond.instanceMethod yX0_init, Cond.code yX0_init cX0_init 1 none, Cond.methodLink RX0 3 objectInit, Cond.arrayClass .char, Cond.fieldLink RX0 9 "LastCallersWord$Letters" "signs" "[C", Cond.fieldLink RX0 15 "LastCallersWord$Letters" "length" "I", Cond.instanceMethod yX1_init]
def wsA_3 : List Cond := [Cond.code yX1_init cX1_init 1 none, Cond.methodLink RX1 3 objectInit, Cond.fieldLink RX1 9 "LastCallersWord$Plan" "kinds" "[I", Cond.fieldLink RX1 15 "LastCallersWord$Plan" "likings" "[I", Cond.fieldLink RX1 18 "LastCallersWord$Plan" "hosts" "[I", Cond.fieldLink RX1 21 "LastCallersWord$Plan" "callers" "[I", Cond.fieldLink RX1 24 "LastCallersWord$Plan" "parts" "[I", Cond.fieldLink RX1 27 "LastCallersWord$Plan" "persons" "I", Cond.fieldLink RX1 31 "LastCallersWord$Plan" "personsTold" "I", Cond.fieldLink RX1 34 "LastCallersWord$Plan" "doors" "I", Cond.fieldLink RX1 37 "LastCallersWord$Plan" "words" "I", Cond.fieldLink RX1 40 "LastCallersWord$Plan" "limit" "I", Cond.methodLink RX7 25 yX2_init, Cond.instanceMethod yX2_init, Cond.code yX2_init cX2_init 3 none, Cond.methodLink RX2 3 objectInit, Cond.fieldLink RX2 9 "LastCallersWord$Reader" "place" "I", Cond.fieldLink RX2 15 "LastCallersWord$Reader" "onlyCounts" "Z", Cond.fieldLink RX2 19 "LastCallersWord$Reader" "letters" "LLastCallersWord$Letters;", Cond.fieldLink RX2 23 "LastCallersWord$Reader" "plan" "LLastCallersWord$Plan;", Cond.instanceMethod yX5_init, Cond.code yX5_init cX5_init 1 none, Cond.methodLink RX5 3 objectInit, Cond.fieldLink RX5 9 "LastCallersWord$State" "likings" "[I"]
def wsA_4 : List Cond := [Cond.fieldLink RX5 15 "LastCallersWord$State" "callers" "[I", Cond.fieldLink RX5 18 "LastCallersWord$State" "knowers" "[I", Cond.fieldLink RX5 21 "LastCallersWord$State" "wrongs" "[I", Cond.fieldLink RX5 24 "LastCallersWord$State" "days" "I", Cond.methodLink RX7 44 yX6_init, Cond.instanceMethod yX6_init, Cond.code yX6_init cX6_init 3 none, Cond.methodLink RX6 3 objectInit, Cond.fieldLink RX6 9 "LastCallersWord$Talk" "plan" "LLastCallersWord$Plan;", Cond.fieldLink RX6 15 "LastCallersWord$Talk" "state" "LLastCallersWord$State;", Cond.instanceMethod yX4_init, Cond.code yX4_init cX4_init 1 none, Cond.methodLink RX4 3 objectInit, Cond.fieldLink RX4 9 "LastCallersWord$Sightings" "persons" "[I", Cond.fieldLink RX4 15 "LastCallersWord$Sightings" "doors" "[I", Cond.fieldLink RX4 18 "LastCallersWord$Sightings" "coulds" "[I", Cond.fieldLink RX4 21 "LastCallersWord$Sightings" "size" "I", Cond.methodLink RX7 60 yX3_init, Cond.instanceMethod yX3_init, Cond.code yX3_init cX3_init 3 none, Cond.methodLink RX3 1 objectInit, Cond.fieldLink RX3 7 "LastCallersWord$Shelf" "size" "I", Cond.methodLink RX3 13 Lib.Math.max.name, Cond.static Lib.Math.max.name]
def wsA_5 : List Cond := [Cond.initialized "java/lang/Math", Cond.code Lib.Math.max.name Lib.Math.max.code 2 (some .int), Cond.classLink RX3 19 RX5, Cond.fieldLink RX3 21 "LastCallersWord$Shelf" "copies" "[LLastCallersWord$State;", Cond.methodLink RX7 76 yJ0_length_8abf5, Cond.instanceMethod yJ0_length_8abf5, Cond.selects RJ0 yJ0_length_8abf5 yJ0_length_8abf5, Cond.initialized RJ0, Cond.code yJ0_length_8abf5 cJ0_length_8abf5 1 (some .int), Cond.fieldLink RJ0 9 "java/lang/String" "value" "[B", Cond.methodLink RJ0 335 yJ0_coder_7d493, Cond.instanceMethod yJ0_coder_7d493, Cond.selects RJ0 yJ0_coder_7d493 yJ0_coder_7d493, Cond.code yJ0_coder_7d493 cJ0_coder_7d493 1 (some .byte), Cond.fieldLink RJ0 38 "java/lang/String" "COMPACT_STRINGS" "Z", Cond.fieldLink RJ0 15 "java/lang/String" "coder" "B", Cond.methodLink RX7 82 yJ0_charAt_5068e, Cond.instanceMethod yJ0_charAt_5068e, Cond.selects RJ0 yJ0_charAt_5068e yJ0_charAt_5068e, Cond.code yJ0_charAt_5068e cJ0_charAt_5068e 2 (some .char), Cond.methodLink RJ0 492 yJ0_isLatin1_aae02, Cond.instanceMethod yJ0_isLatin1_aae02, Cond.selects RJ0 yJ0_isLatin1_aae02 yJ0_isLatin1_aae02, Cond.code yJ0_isLatin1_aae02 cJ0_isLatin1_aae02 1 (some .boolean)]
def wsA_6 : List Cond := [Cond.methodLink RJ0 495 yJ1_charAt_3b067, Cond.static yJ1_charAt_3b067, Cond.initialized RJ1, Cond.code yJ1_charAt_3b067 cJ1_charAt_3b067 2 (some .char), Cond.methodLink RJ1 9 yJ0_checkIndex_df160, Cond.static yJ0_checkIndex_df160, Cond.code yJ0_checkIndex_df160 cJ0_checkIndex_df160 2 none, Cond.fieldLink RJ0 1053 "jdk/internal/util/Preconditions" "SIOOBE_FORMATTER" "Ljava/util/function/BiFunction;", Cond.methodLink RJ0 1059 yJ3_checkIndex_8e157, Cond.static yJ3_checkIndex_8e157, Cond.initialized RJ3, Cond.code yJ3_checkIndex_8e157 cJ3_checkIndex_8e157 3 (some .int), Cond.methodLink RJ0 498 yJ2_charAt_3b067, Cond.static yJ2_charAt_3b067, Cond.initialized RJ2, Cond.code yJ2_charAt_3b067 cJ2_charAt_3b067 2 (some .char), Cond.methodLink RJ2 67 yJ2_checkIndex_2214a, Cond.static yJ2_checkIndex_2214a, Cond.code yJ2_checkIndex_2214a cJ2_checkIndex_2214a 2 none, Cond.methodLink RJ2 48 yJ2_length_9d52b, Cond.static yJ2_length_9d52b, Cond.code yJ2_length_9d52b cJ2_length_9d52b 1 (some .int), Cond.methodLink RJ2 414 yJ0_checkIndex_df160, Cond.methodLink RJ2 71 yJ2_getChar_3b067]
def wsA_7 : List Cond := [Cond.static yJ2_getChar_3b067, Cond.code yJ2_getChar_3b067 cJ2_getChar_3b067 2 (some .char), Cond.fieldLink RJ2 44 "java/lang/StringUTF16" "$assertionsDisabled" "Z", Cond.fieldLink RJ2 59 "java/lang/StringUTF16" "HI_BYTE_SHIFT" "I", Cond.fieldLink RJ2 63 "java/lang/StringUTF16" "LO_BYTE_SHIFT" "I", Cond.methodLink RX7 86 yX0_append, Cond.instanceMethod yX0_append, Cond.selects RX0 yX0_append yX0_append, Cond.code yX0_append cX0_append 2 none, Cond.methodLink RX7 90 yX2_findFault, Cond.instanceMethod yX2_findFault, Cond.selects RX2 yX2_findFault yX2_findFault, Cond.code yX2_findFault cX2_findFault 3 (some .int), Cond.fieldLink RX2 32 "LastCallersWord$Letters" "length" "I", Cond.methodLink RX2 27 yX1_clear, Cond.instanceMethod yX1_clear, Cond.selects RX1 yX1_clear yX1_clear, Cond.code yX1_clear cX1_clear 1 none, Cond.methodLink RX2 37 yX0_signAt, Cond.instanceMethod yX0_signAt, Cond.selects RX0 yX0_signAt yX0_signAt, Cond.code yX0_signAt cX0_signAt 2 (some .char), Cond.methodLink RX2 41 yX2_readBody, Cond.instanceMethod yX2_readBody]
def wsA_8 : List Cond := [Cond.selects RX2 yX2_readBody yX2_readBody, Cond.code yX2_readBody cX2_readBody 2 (some .boolean), Cond.methodLink RX2 48 yX2_readPersons, Cond.instanceMethod yX2_readPersons, Cond.selects RX2 yX2_readPersons yX2_readPersons, Cond.code yX2_readPersons cX2_readPersons 2 (some .boolean), Cond.fieldLink RX2 68 "LastCallersWord$Plan" "persons" "I", Cond.methodLink RX2 64 yX2_number, Cond.instanceMethod yX2_number, Cond.selects RX2 yX2_number yX2_number, Cond.code yX2_number cX2_number 3 (some .int), Cond.methodLink RX2 71 yX2_figure, Cond.instanceMethod yX2_figure, Cond.selects RX2 yX2_figure yX2_figure, Cond.code yX2_figure cX2_figure 2 (some .int), Cond.methodLink RX2 52 yX2_readPerson, Cond.instanceMethod yX2_readPerson, Cond.selects RX2 yX2_readPerson yX2_readPerson, Cond.code yX2_readPerson cX2_readPerson 5 (some .boolean), Cond.fieldLink RX2 74 "LastCallersWord$Plan" "personsTold" "I", Cond.fieldLink RX2 77 "LastCallersWord$Plan" "likings" "[I", Cond.fieldLink RX2 85 "LastCallersWord$Plan" "kinds" "[I", Cond.static yX7_pair, Cond.code yX7_pair cX7_pair 2 (some .int)]
def wsA_9 : List Cond := [Cond.methodLink RX2 55 yX2_readDoor, Cond.instanceMethod yX2_readDoor, Cond.selects RX2 yX2_readDoor yX2_readDoor, Cond.code yX2_readDoor cX2_readDoor 3 (some .boolean), Cond.fieldLink RX2 88 "LastCallersWord$Plan" "doors" "I", Cond.fieldLink RX2 95 "LastCallersWord$Plan" "hosts" "[I", Cond.fieldLink RX2 98 "LastCallersWord$Plan" "callers" "[I", Cond.methodLink RX2 45 yX2_take, Cond.instanceMethod yX2_take, Cond.selects RX2 yX2_take yX2_take, Cond.code yX2_take cX2_take 2 (some .boolean), Cond.methodLink RX2 91 yX2_isOneOfAll, Cond.instanceMethod yX2_isOneOfAll, Cond.selects RX2 yX2_isOneOfAll yX2_isOneOfAll, Cond.code yX2_isOneOfAll cX2_isOneOfAll 2 (some .boolean), Cond.methodLink RX2 58 yX2_readWord, Cond.instanceMethod yX2_readWord, Cond.selects RX2 yX2_readWord yX2_readWord, Cond.code yX2_readWord cX2_readWord 2 (some .boolean), Cond.fieldLink RX2 101 "LastCallersWord$Plan" "words" "I", Cond.fieldLink RX2 104 "LastCallersWord$Plan" "parts" "[I", Cond.methodLink RX2 61 yX2_readLimit, Cond.instanceMethod yX2_readLimit, Cond.selects RX2 yX2_readLimit yX2_readLimit]
def wsA_10 : List Cond := [Cond.code yX2_readLimit cX2_readLimit 2 (some .boolean), Cond.fieldLink RX2 107 "LastCallersWord$Plan" "limit" "I", Cond.methodLink RX7 93 yX7_layDraft, Cond.instanceMethod yX7_layDraft, Cond.selects RX7 yX7_layDraft yX7_layDraft, Cond.code yX7_layDraft cX7_layDraft 2 none, Cond.fieldLink RX7 106 "LastCallersWord$Plan" "doors" "I", Cond.fieldLink RX7 144 "LastCallersWord$State" "knowers" "[I", Cond.fieldLink RX7 255 "LastCallersWord$Plan" "callers" "[I", Cond.methodLink RX7 248 yX1_copyFrom, Cond.instanceMethod yX1_copyFrom, Cond.selects RX1 yX1_copyFrom yX1_copyFrom, Cond.code yX1_copyFrom cX1_copyFrom 2 none, Cond.methodLink RX1 43 arraycopyName, Cond.native arraycopyName, Cond.static arraycopyName, Cond.initialized "java/lang/System", Cond.methodLink RX7 252 yX5_begin, Cond.instanceMethod yX5_begin, Cond.selects RX5 yX5_begin yX5_begin, Cond.code yX5_begin cX5_begin 2 none, Cond.fieldLink RX5 28 "LastCallersWord$Plan" "likings" "[I", Cond.methodLink RX5 31 arraycopyName, Cond.fieldLink RX5 37 "LastCallersWord$Plan" "callers" "[I"]
def wsA_11 : List Cond := [Cond.methodLink RX5 38 yX5_forgiveAll, Cond.instanceMethod yX5_forgiveAll, Cond.selects RX5 yX5_forgiveAll yX5_forgiveAll, Cond.code yX5_forgiveAll cX5_forgiveAll 2 none, Cond.methodLink RX7 154 yX6_knowersByCall, Cond.instanceMethod yX6_knowersByCall, Cond.selects RX6 yX6_knowersByCall yX6_knowersByCall, Cond.code yX6_knowersByCall cX6_knowersByCall 2 (some .int), Cond.methodLink RX6 25 yX6_listeners, Cond.instanceMethod yX6_listeners, Cond.selects RX6 yX6_listeners yX6_listeners, Cond.code yX6_listeners cX6_listeners 2 (some .int), Cond.fieldLink RX6 19 "LastCallersWord$Plan" "persons" "I", Cond.fieldLink RX6 29 "LastCallersWord$Plan" "kinds" "[I", Cond.methodLink RX6 33 yX6_dearestOnes, Cond.instanceMethod yX6_dearestOnes, Cond.selects RX6 yX6_dearestOnes yX6_dearestOnes, Cond.code yX6_dearestOnes cX6_dearestOnes 5 (some .int), Cond.methodLink RX6 40 yX6_everyone, Cond.instanceMethod yX6_everyone, Cond.selects RX6 yX6_everyone yX6_everyone, Cond.code yX6_everyone cX6_everyone 1 (some .int), Cond.methodLink RX6 44 yX6_dearestOf, Cond.instanceMethod yX6_dearestOf]
def wsA_12 : List Cond := [Cond.selects RX6 yX6_dearestOf yX6_dearestOf, Cond.code yX6_dearestOf cX6_dearestOf 7 (some .int), Cond.fieldLink RX6 47 "LastCallersWord$State" "likings" "[I", Cond.static yX7_has, Cond.code yX7_has cX7_has 2 (some .boolean), Cond.methodLink RX6 37 yX6_likedOnes, Cond.instanceMethod yX6_likedOnes, Cond.selects RX6 yX6_likedOnes yX6_likedOnes, Cond.code yX6_likedOnes cX6_likedOnes 5 (some .int), Cond.methodLink RX7 206 yX4_clear, Cond.instanceMethod yX4_clear, Cond.selects RX4 yX4_clear yX4_clear, Cond.code yX4_clear cX4_clear 1 none, Cond.methodLink RX7 247 yX3_clear, Cond.instanceMethod yX3_clear, Cond.selects RX3 yX3_clear yX3_clear, Cond.code yX3_clear cX3_clear 1 none, Cond.methodLink RX7 96 yX0_clear, Cond.instanceMethod yX0_clear, Cond.selects RX0 yX0_clear yX0_clear, Cond.code yX0_clear cX0_clear 1 none, Cond.instanceMethod yX8_init, Cond.code yX8_init cX8_init 1 none, Cond.methodLink RX8 1 objectInit]
def wsA_13 : List Cond := [Cond.fieldLink RX8 7 "LastCallersWordModel" "kinds" "[I", Cond.fieldLink RX8 13 "LastCallersWordModel" "hosts" "[I", Cond.fieldLink RX8 16 "LastCallersWordModel" "parts" "[I", Cond.fieldLink RX8 19 "LastCallersWordModel" "st" "[I", Cond.fieldLink RX8 22 "LastCallersWordModel" "was" "[I", Cond.fieldLink RX8 25 "LastCallersWordModel" "kept" "[I", Cond.fieldLink RX8 28 "LastCallersWordModel" "seen" "[I", Cond.fieldLink RX8 31 "LastCallersWordModel" "text" "[I", Cond.fieldLink RX8 34 "LastCallersWordModel" "told" "[I", Cond.fieldLink RX8 37 "LastCallersWordModel" "readKinds" "[I", Cond.fieldLink RX8 40 "LastCallersWordModel" "readHosts" "[I", Cond.fieldLink RX8 43 "LastCallersWordModel" "readParts" "[I", Cond.fieldLink RX8 46 "LastCallersWordModel" "read" "[I", Cond.fieldLink RX8 49 "LastCallersWordModel" "now" "[I", Cond.fieldLink RX8 55 "LastCallersWordModel" "readPersons" "I", Cond.fieldLink RX8 67 "LastCallersWordModel" "readWords" "I", Cond.fieldLink RX8 70 "LastCallersWordModel" "readBars" "I", Cond.methodLink RX8 52 yX8_clearTold, Cond.instanceMethod yX8_clearTold, Cond.selects RX8 yX8_clearTold yX8_clearTold, Cond.code yX8_clearTold cX8_clearTold 2 none, Cond.fieldLink RX8 106 "LastCallersWordModel" "isBegun" "Z", Cond.fieldLink RX8 76 "LastCallersWordModel" "readTold" "I", Cond.fieldLink RX8 79 "LastCallersWordModel" "readDoors" "I"]
def wsA_14 : List Cond := [Cond.methodLink RX8 59 yX8_tellsPerson, Cond.instanceMethod yX8_tellsPerson, Cond.selects RX8 yX8_tellsPerson yX8_tellsPerson, Cond.code yX8_tellsPerson cX8_tellsPerson 8 none, Cond.methodLink RX8 63 yX8_tellsDoor, Cond.instanceMethod yX8_tellsDoor, Cond.selects RX8 yX8_tellsDoor yX8_tellsDoor, Cond.code yX8_tellsDoor cX8_tellsDoor 3 none, Cond.methodLink RX8 73 yX8_settles, Cond.instanceMethod yX8_settles, Cond.selects RX8 yX8_settles yX8_settles, Cond.code yX8_settles cX8_settles 2 none, Cond.fieldLink RX8 82 "LastCallersWordModel" "persons" "I", Cond.fieldLink RX8 89 "LastCallersWordModel" "doors" "I", Cond.fieldLink RX8 143 "LastCallersWordModel" "words" "I", Cond.fieldLink RX8 146 "LastCallersWordModel" "bars" "I", Cond.fieldLink RX8 152 "LastCallersWordModel" "acts" "I", Cond.fieldLink RX8 155 "LastCallersWordModel" "keeps" "I", Cond.fieldLink RX8 158 "LastCallersWordModel" "seens" "I", Cond.methodLink RX8 139 yX8_copies, Cond.static yX8_copies, Cond.code yX8_copies cX8_copies 6 none, Cond.methodLink RX8 149 yX8_calls, Cond.instanceMethod yX8_calls]
def wsA_15 : List Cond := [Cond.selects RX8 yX8_calls yX8_calls, Cond.code yX8_calls cX8_calls 3 none, Cond.methodLink RX8 173 yX8_tellsTo, Cond.instanceMethod yX8_tellsTo, Cond.selects RX8 yX8_tellsTo yX8_tellsTo, Cond.code yX8_tellsTo cX8_tellsTo 7 (some .int), Cond.methodLink RX8 169 yX8_dearest, Cond.instanceMethod yX8_dearest, Cond.selects RX8 yX8_dearest yX8_dearest, Cond.code yX8_dearest cX8_dearest 7 (some .int), Cond.methodLink RX8 161 yX8_has, Cond.static yX8_has, Cond.code yX8_has cX8_has 2 (some .boolean), Cond.methodLink RX8 165 yX8_likingOf, Cond.instanceMethod yX8_likingOf, Cond.selects RX8 yX8_likingOf yX8_likingOf, Cond.code yX8_likingOf cX8_likingOf 3 (some .int), Cond.instanceMethod yX7_write, Cond.selects RX7 yX7_write yX7_write, Cond.code yX7_write cX7_write 2 (some .int), Cond.fieldLink RX7 99 "LastCallersWord$Letters" "length" "I", Cond.instanceMethod yX8_write, Cond.selects RX8 yX8_write yX8_write, Cond.code yX8_write cX8_write 2 (some .int)]
def wsA_16 : List Cond := [Cond.fieldLink RX8 92 "LastCallersWordModel" "texted" "I", Cond.methodLink RX8 85 yX8_in, Cond.static yX8_in, Cond.code yX8_in cX8_in 3 (some .boolean), Cond.instanceMethod yX7_wipe, Cond.selects RX7 yX7_wipe yX7_wipe, Cond.code yX7_wipe cX7_wipe 2 (some .int), Cond.instanceMethod yX8_wipe, Cond.selects RX8 yX8_wipe yX8_wipe, Cond.code yX8_wipe cX8_wipe 2 (some .int), Cond.instanceMethod yX7_fault, Cond.selects RX7 yX7_fault yX7_fault, Cond.code yX7_fault cX7_fault 1 (some .int), Cond.instanceMethod yX8_fault, Cond.selects RX8 yX8_fault yX8_fault, Cond.code yX8_fault cX8_fault 2 (some .int), Cond.fieldLink RX8 95 "LastCallersWordModel" "at" "I", Cond.methodLink RX8 132 yX8_readItem, Cond.instanceMethod yX8_readItem, Cond.selects RX8 yX8_readItem yX8_readItem, Cond.code yX8_readItem cX8_readItem 2 (some .boolean), Cond.methodLink RX8 98 yX8_letterAt, Cond.instanceMethod yX8_letterAt, Cond.selects RX8 yX8_letterAt yX8_letterAt]
def wsA_17 : List Cond := [Cond.code yX8_letterAt cX8_letterAt 2 (some .int), Cond.methodLink RX8 116 yX8_readPersonsOf, Cond.instanceMethod yX8_readPersonsOf, Cond.selects RX8 yX8_readPersonsOf yX8_readPersonsOf, Cond.code yX8_readPersonsOf cX8_readPersonsOf 2 (some .boolean), Cond.methodLink RX8 110 yX8_readNumbers, Cond.instanceMethod yX8_readNumbers, Cond.selects RX8 yX8_readNumbers yX8_readNumbers, Cond.code yX8_readNumbers cX8_readNumbers 3 (some .boolean), Cond.methodLink RX8 102 yX8_isFigure, Cond.static yX8_isFigure, Cond.code yX8_isFigure cX8_isFigure 1 (some .boolean), Cond.methodLink RX8 113 yX8_isTold, Cond.instanceMethod yX8_isTold, Cond.selects RX8 yX8_isTold yX8_isTold, Cond.code yX8_isTold cX8_isTold 4 (some .boolean), Cond.methodLink RX8 120 yX8_readPersonOf, Cond.instanceMethod yX8_readPersonOf, Cond.selects RX8 yX8_readPersonOf yX8_readPersonOf, Cond.code yX8_readPersonOf cX8_readPersonOf 2 (some .boolean), Cond.methodLink RX8 123 yX8_readDoorOf, Cond.instanceMethod yX8_readDoorOf, Cond.selects RX8 yX8_readDoorOf yX8_readDoorOf, Cond.code yX8_readDoorOf cX8_readDoorOf 1 (some .boolean)]
def wsA_18 : List Cond := [Cond.methodLink RX8 126 yX8_readWordOf, Cond.instanceMethod yX8_readWordOf, Cond.selects RX8 yX8_readWordOf yX8_readWordOf, Cond.code yX8_readWordOf cX8_readWordOf 1 (some .boolean), Cond.methodLink RX8 129 yX8_readBarsOf, Cond.instanceMethod yX8_readBarsOf, Cond.selects RX8 yX8_readBarsOf yX8_readBarsOf, Cond.code yX8_readBarsOf cX8_readBarsOf 2 (some .boolean), Cond.instanceMethod yX7_lay, Cond.selects RX7 yX7_lay yX7_lay, Cond.code yX7_lay cX7_lay 1 (some .int), Cond.methodLink RX7 102 yX1_isWhole, Cond.instanceMethod yX1_isWhole, Cond.selects RX1 yX1_isWhole yX1_isWhole, Cond.code yX1_isWhole cX1_isWhole 1 (some .boolean), Cond.instanceMethod yX8_lay, Cond.selects RX8 yX8_lay yX8_lay, Cond.code yX8_lay cX8_lay 1 (some .int), Cond.methodLink RX8 135 yX8_fault, Cond.instanceMethod yX7_person, Cond.selects RX7 yX7_person yX7_person, Cond.code yX7_person cX7_person 3 (some .int), Cond.fieldLink RX7 116 "LastCallersWord$Plan" "kinds" "[I", Cond.methodLink RX7 109 yX7_isPerson]
def wsA_19 : List Cond := [Cond.instanceMethod yX7_isPerson, Cond.selects RX7 yX7_isPerson yX7_isPerson, Cond.code yX7_isPerson cX7_isPerson 2 (some .boolean), Cond.fieldLink RX7 198 "LastCallersWord$Plan" "persons" "I", Cond.methodLink RX7 113 yX7_isPart, Cond.static yX7_isPart, Cond.code yX7_isPart cX7_isPart 1 (some .boolean), Cond.methodLink RX7 119 yX6_listeners, Cond.methodLink RX7 123 yJ6_bitCount_0f7a4, Cond.static yJ6_bitCount_0f7a4, Cond.initialized RJ6, Cond.code yJ6_bitCount_0f7a4 cJ6_bitCount_0f7a4 1 (some .int), Cond.constant RJ6 265 (1431655765), Cond.constant RJ6 266 (858993459), Cond.constant RJ6 267 (252645135), Cond.instanceMethod yX8_person, Cond.selects RX8 yX8_person yX8_person, Cond.code yX8_person cX8_person 3 (some .int), Cond.methodLink RX8 183 yX8_isPerson, Cond.instanceMethod yX8_isPerson, Cond.selects RX8 yX8_isPerson yX8_isPerson, Cond.code yX8_isPerson cX8_isPerson 2 (some .boolean), Cond.methodLink RX8 186 yX8_asItIs, Cond.instanceMethod yX8_asItIs]
def wsA_20 : List Cond := [Cond.selects RX8 yX8_asItIs yX8_asItIs, Cond.code yX8_asItIs cX8_asItIs 1 none, Cond.methodLink RX8 189 yX8_bits, Cond.static yX8_bits, Cond.code yX8_bits cX8_bits 3 (some .int), Cond.instanceMethod yX7_likes, Cond.selects RX7 yX7_likes yX7_likes, Cond.code yX7_likes cX7_likes 3 (some .int), Cond.fieldLink RX7 128 "LastCallersWord$State" "likings" "[I", Cond.methodLink RX7 131 yX7_pair, Cond.instanceMethod yX8_likes, Cond.selects RX8 yX8_likes yX8_likes, Cond.code yX8_likes cX8_likes 3 (some .int), Cond.instanceMethod yX7_door, Cond.selects RX7 yX7_door yX7_door, Cond.code yX7_door cX7_door 3 (some .int), Cond.fieldLink RX7 138 "LastCallersWord$Plan" "hosts" "[I", Cond.fieldLink RX7 141 "LastCallersWord$State" "callers" "[I", Cond.methodLink RX7 135 yX7_isDoor, Cond.instanceMethod yX7_isDoor, Cond.selects RX7 yX7_isDoor yX7_isDoor, Cond.code yX7_isDoor cX7_isDoor 2 (some .boolean), Cond.methodLink RX7 147 yX7_barredAt, Cond.instanceMethod yX7_barredAt]
def wsA_21 : List Cond := [Cond.selects RX7 yX7_barredAt yX7_barredAt, Cond.code yX7_barredAt cX7_barredAt 4 (some .int), Cond.methodLink RX7 157 yX7_isBarred, Cond.instanceMethod yX7_isBarred, Cond.selects RX7 yX7_isBarred yX7_isBarred, Cond.code yX7_isBarred cX7_isBarred 3 (some .boolean), Cond.fieldLink RX7 164 "LastCallersWord$State" "wrongs" "[I", Cond.fieldLink RX7 229 "LastCallersWord$Plan" "limit" "I", Cond.instanceMethod yX8_door, Cond.selects RX8 yX8_door yX8_door, Cond.code yX8_door cX8_door 3 (some .int), Cond.methodLink RX8 192 yX8_isDoor, Cond.instanceMethod yX8_isDoor, Cond.selects RX8 yX8_isDoor yX8_isDoor, Cond.code yX8_isDoor cX8_isDoor 2 (some .boolean), Cond.methodLink RX8 195 yX8_barredAt, Cond.instanceMethod yX8_barredAt, Cond.selects RX8 yX8_barredAt yX8_barredAt, Cond.code yX8_barredAt cX8_barredAt 4 (some .int), Cond.instanceMethod yX7_call, Cond.selects RX7 yX7_call yX7_call, Cond.code yX7_call cX7_call 3 (some .int), Cond.methodLink RX7 150 yX3_put, Cond.instanceMethod yX3_put]
def wsA_22 : List Cond := [Cond.selects RX3 yX3_put yX3_put, Cond.code yX3_put cX3_put 2 none, Cond.methodLink RX3 26 yX3_dropOldest, Cond.instanceMethod yX3_dropOldest, Cond.selects RX3 yX3_dropOldest yX3_dropOldest, Cond.code yX3_dropOldest cX3_dropOldest 3 none, Cond.methodLink RX3 29 yX5_copyFrom, Cond.instanceMethod yX5_copyFrom, Cond.selects RX5 yX5_copyFrom yX5_copyFrom, Cond.code yX5_copyFrom cX5_copyFrom 2 none, Cond.instanceMethod yX8_call, Cond.selects RX8 yX8_call yX8_call, Cond.code yX8_call cX8_call 3 (some .int), Cond.methodLink RX8 198 yX8_remembers, Cond.instanceMethod yX8_remembers, Cond.selects RX8 yX8_remembers yX8_remembers, Cond.code yX8_remembers cX8_remembers 2 none, Cond.instanceMethod yX7_tries, Cond.selects RX7 yX7_tries yX7_tries, Cond.code yX7_tries cX7_tries 3 (some .int), Cond.methodLink RX7 161 yX7_has, Cond.instanceMethod yX8_tries, Cond.selects RX8 yX8_tries yX8_tries, Cond.code yX8_tries cX8_tries 3 (some .int)]
def wsA_23 : List Cond := [Cond.instanceMethod yX7_day, Cond.selects RX7 yX7_day yX7_day, Cond.code yX7_day cX7_day 2 (some .int), Cond.fieldLink RX7 173 "LastCallersWord$State" "days" "I", Cond.methodLink RX7 167 yX6_afterDay, Cond.instanceMethod yX6_afterDay, Cond.selects RX6 yX6_afterDay yX6_afterDay, Cond.code yX6_afterDay cX6_afterDay 4 (some .int), Cond.methodLink RX7 170 yX5_forgiveAll, Cond.instanceMethod yX8_day, Cond.selects RX8 yX8_day yX8_day, Cond.code yX8_day cX8_day 1 (some .int), Cond.methodLink RX8 201 yX8_goes, Cond.instanceMethod yX8_goes, Cond.selects RX8 yX8_goes yX8_goes, Cond.code yX8_goes cX8_goes 2 none, Cond.methodLink RX8 176 yX8_dayAt, Cond.instanceMethod yX8_dayAt, Cond.selects RX8 yX8_dayAt yX8_dayAt, Cond.code yX8_dayAt cX8_dayAt 6 none, Cond.instanceMethod yX7_alter, Cond.selects RX7 yX7_alter yX7_alter, Cond.code yX7_alter cX7_alter 5 (some .int), Cond.instanceMethod yX8_alter]
def wsA_24 : List Cond := [Cond.selects RX8 yX8_alter yX8_alter, Cond.code yX8_alter cX8_alter 5 (some .int), Cond.instanceMethod yX7_undo, Cond.selects RX7 yX7_undo yX7_undo, Cond.code yX7_undo cX7_undo 1 (some .int), Cond.fieldLink RX7 176 "LastCallersWord$Shelf" "size" "I", Cond.methodLink RX7 179 yX3_takeLatestInto, Cond.instanceMethod yX3_takeLatestInto, Cond.selects RX3 yX3_takeLatestInto yX3_takeLatestInto, Cond.code yX3_takeLatestInto cX3_takeLatestInto 2 none, Cond.instanceMethod yX8_undo, Cond.selects RX8 yX8_undo yX8_undo, Cond.code yX8_undo cX8_undo 1 (some .int), Cond.instanceMethod yX7_shutOut, Cond.selects RX7 yX7_shutOut yX7_shutOut, Cond.code yX7_shutOut cX7_shutOut 1 (some .int), Cond.methodLink RX7 182 yX7_shutOutBy, Cond.instanceMethod yX7_shutOutBy, Cond.selects RX7 yX7_shutOutBy yX7_shutOutBy, Cond.code yX7_shutOutBy cX7_shutOutBy 4 (some .int), Cond.instanceMethod yX8_shutOut, Cond.selects RX8 yX8_shutOut yX8_shutOut, Cond.code yX8_shutOut cX8_shutOut 1 (some .int), Cond.methodLink RX8 204 yX8_shutOutNow]
def wsA_25 : List Cond := [Cond.instanceMethod yX8_shutOutNow, Cond.selects RX8 yX8_shutOutNow yX8_shutOutNow, Cond.code yX8_shutOutNow cX8_shutOutNow 3 (some .int), Cond.methodLink RX8 180 yX8_isShutOut, Cond.instanceMethod yX8_isShutOut, Cond.selects RX8 yX8_isShutOut yX8_isShutOut, Cond.code yX8_isShutOut cX8_isShutOut 2 (some .boolean), Cond.instanceMethod yX7_knowsBy, Cond.selects RX7 yX7_knowsBy yX7_knowsBy, Cond.code yX7_knowsBy cX7_knowsBy 3 (some .int), Cond.methodLink RX7 186 yX6_afterDays, Cond.instanceMethod yX6_afterDays, Cond.selects RX6 yX6_afterDays yX6_afterDays, Cond.code yX6_afterDays cX6_afterDays 5 (some .int), Cond.methodLink RX6 59 yX6_afterDay, Cond.instanceMethod yX8_knowsBy, Cond.selects RX8 yX8_knowsBy yX8_knowsBy, Cond.code yX8_knowsBy cX8_knowsBy 3 (some .int), Cond.methodLink RX8 207 yX8_knownBehind, Cond.instanceMethod yX8_knownBehind, Cond.selects RX8 yX8_knownBehind yX8_knownBehind, Cond.code yX8_knownBehind cX8_knownBehind 4 (some .int), Cond.instanceMethod yX7_when, Cond.selects RX7 yX7_when yX7_when]
def wsA_26 : List Cond := [Cond.code yX7_when cX7_when 5 (some .int), Cond.instanceMethod yX8_when, Cond.selects RX8 yX8_when yX8_when, Cond.code yX8_when cX8_when 4 (some .int), Cond.instanceMethod yX7_lets, Cond.selects RX7 yX7_lets yX7_lets, Cond.code yX7_lets cX7_lets 3 (some .int), Cond.methodLink RX7 189 yX7_callersWhoReach, Cond.instanceMethod yX7_callersWhoReach, Cond.selects RX7 yX7_callersWhoReach yX7_callersWhoReach, Cond.code yX7_callersWhoReach cX7_callersWhoReach 5 (some .int), Cond.instanceMethod yX8_lets, Cond.selects RX8 yX8_lets yX8_lets, Cond.code yX8_lets cX8_lets 3 (some .int), Cond.methodLink RX8 210 yX8_letsIn, Cond.instanceMethod yX8_letsIn, Cond.selects RX8 yX8_letsIn yX8_letsIn, Cond.code yX8_letsIn cX8_letsIn 6 (some .int), Cond.instanceMethod yX7_keeps, Cond.selects RX7 yX7_keeps yX7_keeps, Cond.code yX7_keeps cX7_keeps 4 (some .int), Cond.methodLink RX7 192 yX6_everyone, Cond.instanceMethod yX8_keeps, Cond.selects RX8 yX8_keeps yX8_keeps]
def wsA_27 : List Cond := [Cond.code yX8_keeps cX8_keeps 4 (some .int), Cond.instanceMethod yX7_allIn, Cond.selects RX7 yX7_allIn yX7_allIn, Cond.code yX7_allIn cX7_allIn 2 (some .int), Cond.methodLink RX7 195 yX7_lowest, Cond.static yX7_lowest, Cond.code yX7_lowest cX7_lowest 1 (some .int), Cond.methodLink RX7 273 yJ6_numberOfTrailingZeros_0f7a4, Cond.static yJ6_numberOfTrailingZeros_0f7a4, Cond.code yJ6_numberOfTrailingZeros_0f7a4 cJ6_numberOfTrailingZeros_0f7a4 2 (some .int), Cond.constant RJ6 264 (65536), Cond.instanceMethod yX8_allIn, Cond.selects RX8 yX8_allIn yX8_allIn, Cond.code yX8_allIn cX8_allIn 4 (some .int), Cond.instanceMethod yX7_friend, Cond.selects RX7 yX7_friend yX7_friend, Cond.code yX7_friend cX7_friend 7 (some .int), Cond.instanceMethod yX8_friend, Cond.selects RX8 yX8_friend yX8_friend, Cond.code yX8_friend cX8_friend 8 (some .int), Cond.instanceMethod yX7_seen, Cond.selects RX7 yX7_seen yX7_seen, Cond.code yX7_seen cX7_seen 4 (some .int), Cond.fieldLink RX7 201 "LastCallersWord$Sightings" "size" "I"]
def wsA_28 : List Cond := [Cond.methodLink RX7 202 yX4_add, Cond.instanceMethod yX4_add, Cond.selects RX4 yX4_add yX4_add, Cond.code yX4_add cX4_add 4 none, Cond.instanceMethod yX8_seen, Cond.selects RX8 yX8_seen yX8_seen, Cond.code yX8_seen cX8_seen 4 (some .int), Cond.instanceMethod yX7_forget, Cond.selects RX7 yX7_forget yX7_forget, Cond.code yX7_forget cX7_forget 2 (some .int), Cond.instanceMethod yX8_forget, Cond.selects RX8 yX8_forget yX8_forget, Cond.code yX8_forget cX8_forget 2 (some .int), Cond.instanceMethod yX7_called, Cond.selects RX7 yX7_called yX7_called, Cond.code yX7_called cX7_called 6 (some .int), Cond.methodLink RX7 207 yX4_lookedAt, Cond.instanceMethod yX4_lookedAt, Cond.selects RX4 yX4_lookedAt yX4_lookedAt, Cond.code yX4_lookedAt cX4_lookedAt 4 (some .int), Cond.methodLink RX7 210 yX4_cameInAt, Cond.instanceMethod yX4_cameInAt, Cond.selects RX4 yX4_cameInAt yX4_cameInAt, Cond.code yX4_cameInAt cX4_cameInAt 4 (some .int)]
def wsA_29 : List Cond := [Cond.instanceMethod yX8_called, Cond.selects RX8 yX8_called yX8_called, Cond.code yX8_called cX8_called 7 (some .int), Cond.instanceMethod yX7_guess, Cond.selects RX7 yX7_guess yX7_guess, Cond.code yX7_guess cX7_guess 3 (some .int), Cond.fieldLink RX7 213 "LastCallersWord$Plan" "words" "I", Cond.methodLink RX7 216 yX1_rankOf, Cond.instanceMethod yX1_rankOf, Cond.selects RX1 yX1_rankOf yX1_rankOf, Cond.code yX1_rankOf cX1_rankOf 6 (some .int), Cond.instanceMethod yX8_guess, Cond.selects RX8 yX8_guess yX8_guess, Cond.code yX8_guess cX8_guess 3 (some .int), Cond.methodLink RX8 213 yX8_rankOf, Cond.instanceMethod yX8_rankOf, Cond.selects RX8 yX8_rankOf yX8_rankOf, Cond.code yX8_rankOf cX8_rankOf 4 (some .int), Cond.instanceMethod yX7_mean, Cond.selects RX7 yX7_mean yX7_mean, Cond.code yX7_mean cX7_mean 4 (some .int), Cond.fieldLink RX7 219 "LastCallersWord$Plan" "parts" "[I", Cond.methodLink RX7 222 yX1_allParts, Cond.instanceMethod yX1_allParts]
def wsA_30 : List Cond := [Cond.selects RX1 yX1_allParts yX1_allParts, Cond.code yX1_allParts cX1_allParts 3 (some .int), Cond.methodLink RX7 225 yX7_inLowestTerms, Cond.static yX7_inLowestTerms, Cond.code yX7_inLowestTerms cX7_inLowestTerms 4 (some .int), Cond.methodLink RX7 270 yX7_commonDivisor, Cond.static yX7_commonDivisor, Cond.code yX7_commonDivisor cX7_commonDivisor 6 (some .int), Cond.methodLink RX7 259 yX7_quotient, Cond.static yX7_quotient, Cond.code yX7_quotient cX7_quotient 2 (some .int), Cond.instanceMethod yX8_mean, Cond.selects RX8 yX8_mean yX8_mean, Cond.code yX8_mean cX8_mean 4 (some .int), Cond.methodLink RX8 216 yX8_allParts, Cond.instanceMethod yX8_allParts, Cond.selects RX8 yX8_allParts yX8_allParts, Cond.code yX8_allParts cX8_allParts 3 (some .int), Cond.methodLink RX8 219 yX8_lowest, Cond.static yX8_lowest, Cond.code yX8_lowest cX8_lowest 6 (some .int), Cond.instanceMethod yX7_inTime, Cond.selects RX7 yX7_inTime yX7_inTime, Cond.code yX7_inTime cX7_inTime 4 (some .int)]
def wsA_31 : List Cond := [Cond.instanceMethod yX8_inTime, Cond.selects RX8 yX8_inTime yX8_inTime, Cond.code yX8_inTime cX8_inTime 4 (some .int), Cond.instanceMethod yX7_likely, Cond.selects RX7 yX7_likely yX7_likely, Cond.code yX7_likely cX7_likely 7 (some .int), Cond.methodLink RX7 232 yX7_knowersByVisitors, Cond.instanceMethod yX7_knowersByVisitors, Cond.selects RX7 yX7_knowersByVisitors yX7_knowersByVisitors, Cond.code yX7_knowersByVisitors cX7_knowersByVisitors 8 (some .int), Cond.methodLink RX7 256 yX7_remainder, Cond.static yX7_remainder, Cond.code yX7_remainder cX7_remainder 2 (some .int), Cond.instanceMethod yX8_likely, Cond.selects RX8 yX8_likely yX8_likely, Cond.code yX8_likely cX8_likely 10 (some .int), Cond.instanceMethod yX7_street, Cond.selects RX7 yX7_street yX7_street, Cond.code yX7_street cX7_street 6 (some .int), Cond.methodLink RX7 235 arraycopyName, Cond.methodLink RX7 241 yX7_drawOf, Cond.static yX7_drawOf, Cond.code yX7_drawOf cX7_drawOf 4 (some .int), Cond.constantLong RX7 262 (7919)]
def wsA_32 : List Cond := [Cond.constantLong RX7 264 (6151), Cond.constantLong RX7 266 (65521), Cond.constantLong RX7 268 (4), Cond.methodLink RX7 244 yX7_goOnInStreet, Cond.instanceMethod yX7_goOnInStreet, Cond.selects RX7 yX7_goOnInStreet yX7_goOnInStreet, Cond.code yX7_goOnInStreet cX7_goOnInStreet 3 none, Cond.instanceMethod yX8_street, Cond.selects RX8 yX8_street yX8_street, Cond.code yX8_street cX8_street 9 (some .int), Cond.constantLong RX8 222 (7919), Cond.constantLong RX8 224 (6151), Cond.constantLong RX8 226 (65521), Cond.constantLong RX8 228 (4), Cond.instanceMethod yX7_keep, Cond.selects RX7 yX7_keep yX7_keep, Cond.code yX7_keep cX7_keep 1 (some .int), Cond.instanceMethod yX8_keep, Cond.selects RX8 yX8_keep yX8_keep, Cond.code yX8_keep cX8_keep 1 (some .int), Cond.instanceMethod yX7_back, Cond.selects RX7 yX7_back yX7_back, Cond.code yX7_back cX7_back 1 (some .int), Cond.instanceMethod yX8_back]
def wsA_33 : List Cond := [Cond.selects RX8 yX8_back yX8_back, Cond.code yX8_back cX8_back 1 (some .int), Cond.instanceMethod yX7_count, Cond.selects RX7 yX7_count yX7_count, Cond.code yX7_count cX7_count 2 (some .int), Cond.instanceMethod yX8_count, Cond.selects RX8 yX8_count yX8_count, Cond.code yX8_count cX8_count 2 (some .int)]
def wsA : List Cond := (wsA_1 ++ (wsA_2 ++ (wsA_3 ++ (wsA_4 ++ (wsA_5 ++ (wsA_6 ++ (wsA_7 ++ (wsA_8 ++ (wsA_9 ++ (wsA_10 ++ (wsA_11 ++ (wsA_12 ++ (wsA_13 ++ (wsA_14 ++ (wsA_15 ++ (wsA_16 ++ (wsA_17 ++ (wsA_18 ++ (wsA_19 ++ (wsA_20 ++ (wsA_21 ++ (wsA_22 ++ (wsA_23 ++ (wsA_24 ++ (wsA_25 ++ (wsA_26 ++ (wsA_27 ++ (wsA_28 ++ (wsA_29 ++ (wsA_30 ++ (wsA_31 ++ (wsA_32 ++ wsA_33)))))))))))))))))))))))))))))))) ++ (wsX00 ++ (wsX10 ++ (wsX20 ++ (wsX30 ++ (wsX40 ++ (wsX50 ++ (wsX60 ++ (wsX70 ++ (wsX80)))))))))
theorem iA_1 : ∀ w ∈ wsA_1, w ∈ wsA := fun _ h => List.mem_append_left _ (List.mem_append_left _ (h))
theorem iA_2 : ∀ w ∈ wsA_2, w ∈ wsA := fun _ h => List.mem_append_left _ (List.mem_append_right _ (List.mem_append_left _ (h)))
theorem iA_3 : ∀ w ∈ wsA_3, w ∈ wsA := fun _ h => List.mem_append_left _ (List.mem_append_right _ (List.mem_append_right _ (List.mem_append_left _ (h))))
theorem iA_4 : ∀ w ∈ wsA_4, w ∈ wsA := fun _ h => List.mem_append_left _ (List.mem_append_right _ (List.mem_append_right _ (List.mem_append_right _ (List.mem_append_left _ (h)))))
theorem iA_5 : ∀ w ∈ wsA_5, w ∈ wsA := fun _ h => List.mem_append_left _ (List.mem_append_right _ (List.mem_append_right _ (List.mem_append_right _ (List.mem_append_right _ (List.mem_append_left _ (h))))))
theorem iA_6 : ∀ w ∈ wsA_6, w ∈ wsA := fun _ h => List.mem_append_left _ (List.mem_append_right _ (List.mem_append_right _ (List.mem_append_right _ (List.mem_append_right _ (List.mem_append_right _ (List.mem_append_left _ (h)))))))
theorem iA_7 : ∀ w ∈ wsA_7, w ∈ wsA := fun _ h => List.mem_append_left _ (List.mem_append_right _ (List.mem_append_right _ (List.mem_append_right _ (List.mem_append_right _ (List.mem_append_right _ (List.mem_append_right _ (List.mem_append_left _ (h))))))))
theorem iA_8 : ∀ w ∈ wsA_8, w ∈ wsA := fun _ h => List.mem_append_left _ (List.mem_append_right _ (List.mem_append_right _ (List.mem_append_right _ (List.mem_append_right _ (List.mem_append_right _ (List.mem_append_right _ (List.mem_append_right _ (List.mem_append_left _ (h)))))))))
theorem iA_9 : ∀ w ∈ wsA_9, w ∈ wsA := fun _ h => List.mem_append_left _ (List.mem_append_right _ (List.mem_append_right _ (List.mem_append_right _ (List.mem_append_right _ (List.mem_append_right _ (List.mem_append_right _ (List.mem_append_right _ (List.mem_append_right _ (List.mem_append_left _ (h))))))))))
theorem iA_10 : ∀ w ∈ wsA_10, w ∈ wsA := fun _ h => List.mem_append_left _ (List.mem_append_right _ (List.mem_append_right _ (List.mem_append_right _ (List.mem_append_right _ (List.mem_append_right _ (List.mem_append_right _ (List.mem_append_right _ (List.mem_append_right _ (List.mem_append_right _ (List.mem_append_left _ (h)))))))))))
theorem iA_11 : ∀ w ∈ wsA_11, w ∈ wsA := fun _ h => List.mem_append_left _ (List.mem_append_right _ (List.mem_append_right _ (List.mem_append_right _ (List.mem_append_right _ (List.mem_append_right _ (List.mem_append_right _ (List.mem_append_right _ (List.mem_append_right _ (List.mem_append_right _ (List.mem_append_right _ (List.mem_append_left _ (h))))))))))))
theorem iA_12 : ∀ w ∈ wsA_12, w ∈ wsA := fun _ h => List.mem_append_left _ (List.mem_append_right _ (List.mem_append_right _ (List.mem_append_right _ (List.mem_append_right _ (List.mem_append_right _ (List.mem_append_right _ (List.mem_append_right _ (List.mem_append_right _ (List.mem_append_right _ (List.mem_append_right _ (List.mem_append_right _ (List.mem_append_left _ (h)))))))))))))
theorem iA_13 : ∀ w ∈ wsA_13, w ∈ wsA := fun _ h => List.mem_append_left _ (List.mem_append_right _ (List.mem_append_right _ (List.mem_append_right _ (List.mem_append_right _ (List.mem_append_right _ (List.mem_append_right _ (List.mem_append_right _ (List.mem_append_right _ (List.mem_append_right _ (List.mem_append_right _ (List.mem_append_right _ (List.mem_append_right _ (List.mem_append_left _ (h))))))))))))))
theorem iA_14 : ∀ w ∈ wsA_14, w ∈ wsA := fun _ h => List.mem_append_left _ (List.mem_append_right _ (List.mem_append_right _ (List.mem_append_right _ (List.mem_append_right _ (List.mem_append_right _ (List.mem_append_right _ (List.mem_append_right _ (List.mem_append_right _ (List.mem_append_right _ (List.mem_append_right _ (List.mem_append_right _ (List.mem_append_right _ (List.mem_append_right _ (List.mem_append_left _ (h)))))))))))))))
theorem iA_15 : ∀ w ∈ wsA_15, w ∈ wsA := fun _ h => List.mem_append_left _ (List.mem_append_right _ (List.mem_append_right _ (List.mem_append_right _ (List.mem_append_right _ (List.mem_append_right _ (List.mem_append_right _ (List.mem_append_right _ (List.mem_append_right _ (List.mem_append_right _ (List.mem_append_right _ (List.mem_append_right _ (List.mem_append_right _ (List.mem_append_right _ (List.mem_append_right _ (List.mem_append_left _ (h))))))))))))))))
theorem iA_16 : ∀ w ∈ wsA_16, w ∈ wsA := fun _ h => List.mem_append_left _ (List.mem_append_right _ (List.mem_append_right _ (List.mem_append_right _ (List.mem_append_right _ (List.mem_append_right _ (List.mem_append_right _ (List.mem_append_right _ (List.mem_append_right _ (List.mem_append_right _ (List.mem_append_right _ (List.mem_append_right _ (List.mem_append_right _ (List.mem_append_right _ (List.mem_append_right _ (List.mem_append_right _ (List.mem_append_left _ (h)))))))))))))))))
theorem iA_17 : ∀ w ∈ wsA_17, w ∈ wsA := fun _ h => List.mem_append_left _ (List.mem_append_right _ (List.mem_append_right _ (List.mem_append_right _ (List.mem_append_right _ (List.mem_append_right _ (List.mem_append_right _ (List.mem_append_right _ (List.mem_append_right _ (List.mem_append_right _ (List.mem_append_right _ (List.mem_append_right _ (List.mem_append_right _ (List.mem_append_right _ (List.mem_append_right _ (List.mem_append_right _ (List.mem_append_right _ (List.mem_append_left _ (h))))))))))))))))))
theorem iA_18 : ∀ w ∈ wsA_18, w ∈ wsA := fun _ h => List.mem_append_left _ (List.mem_append_right _ (List.mem_append_right _ (List.mem_append_right _ (List.mem_append_right _ (List.mem_append_right _ (List.mem_append_right _ (List.mem_append_right _ (List.mem_append_right _ (List.mem_append_right _ (List.mem_append_right _ (List.mem_append_right _ (List.mem_append_right _ (List.mem_append_right _ (List.mem_append_right _ (List.mem_append_right _ (List.mem_append_right _ (List.mem_append_right _ (List.mem_append_left _ (h)))))))))))))))))))
theorem iA_19 : ∀ w ∈ wsA_19, w ∈ wsA := fun _ h => List.mem_append_left _ (List.mem_append_right _ (List.mem_append_right _ (List.mem_append_right _ (List.mem_append_right _ (List.mem_append_right _ (List.mem_append_right _ (List.mem_append_right _ (List.mem_append_right _ (List.mem_append_right _ (List.mem_append_right _ (List.mem_append_right _ (List.mem_append_right _ (List.mem_append_right _ (List.mem_append_right _ (List.mem_append_right _ (List.mem_append_right _ (List.mem_append_right _ (List.mem_append_right _ (List.mem_append_left _ (h))))))))))))))))))))
theorem iA_20 : ∀ w ∈ wsA_20, w ∈ wsA := fun _ h => List.mem_append_left _ (List.mem_append_right _ (List.mem_append_right _ (List.mem_append_right _ (List.mem_append_right _ (List.mem_append_right _ (List.mem_append_right _ (List.mem_append_right _ (List.mem_append_right _ (List.mem_append_right _ (List.mem_append_right _ (List.mem_append_right _ (List.mem_append_right _ (List.mem_append_right _ (List.mem_append_right _ (List.mem_append_right _ (List.mem_append_right _ (List.mem_append_right _ (List.mem_append_right _ (List.mem_append_right _ (List.mem_append_left _ (h)))))))))))))))))))))
theorem iA_21 : ∀ w ∈ wsA_21, w ∈ wsA := fun _ h => List.mem_append_left _ (List.mem_append_right _ (List.mem_append_right _ (List.mem_append_right _ (List.mem_append_right _ (List.mem_append_right _ (List.mem_append_right _ (List.mem_append_right _ (List.mem_append_right _ (List.mem_append_right _ (List.mem_append_right _ (List.mem_append_right _ (List.mem_append_right _ (List.mem_append_right _ (List.mem_append_right _ (List.mem_append_right _ (List.mem_append_right _ (List.mem_append_right _ (List.mem_append_right _ (List.mem_append_right _ (List.mem_append_right _ (List.mem_append_left _ (h))))))))))))))))))))))
theorem iA_22 : ∀ w ∈ wsA_22, w ∈ wsA := fun _ h => List.mem_append_left _ (List.mem_append_right _ (List.mem_append_right _ (List.mem_append_right _ (List.mem_append_right _ (List.mem_append_right _ (List.mem_append_right _ (List.mem_append_right _ (List.mem_append_right _ (List.mem_append_right _ (List.mem_append_right _ (List.mem_append_right _ (List.mem_append_right _ (List.mem_append_right _ (List.mem_append_right _ (List.mem_append_right _ (List.mem_append_right _ (List.mem_append_right _ (List.mem_append_right _ (List.mem_append_right _ (List.mem_append_right _ (List.mem_append_right _ (List.mem_append_left _ (h)))))))))))))))))))))))
theorem iA_23 : ∀ w ∈ wsA_23, w ∈ wsA := fun _ h => List.mem_append_left _ (List.mem_append_right _ (List.mem_append_right _ (List.mem_append_right _ (List.mem_append_right _ (List.mem_append_right _ (List.mem_append_right _ (List.mem_append_right _ (List.mem_append_right _ (List.mem_append_right _ (List.mem_append_right _ (List.mem_append_right _ (List.mem_append_right _ (List.mem_append_right _ (List.mem_append_right _ (List.mem_append_right _ (List.mem_append_right _ (List.mem_append_right _ (List.mem_append_right _ (List.mem_append_right _ (List.mem_append_right _ (List.mem_append_right _ (List.mem_append_right _ (List.mem_append_left _ (h))))))))))))))))))))))))
theorem iA_24 : ∀ w ∈ wsA_24, w ∈ wsA := fun _ h => List.mem_append_left _ (List.mem_append_right _ (List.mem_append_right _ (List.mem_append_right _ (List.mem_append_right _ (List.mem_append_right _ (List.mem_append_right _ (List.mem_append_right _ (List.mem_append_right _ (List.mem_append_right _ (List.mem_append_right _ (List.mem_append_right _ (List.mem_append_right _ (List.mem_append_right _ (List.mem_append_right _ (List.mem_append_right _ (List.mem_append_right _ (List.mem_append_right _ (List.mem_append_right _ (List.mem_append_right _ (List.mem_append_right _ (List.mem_append_right _ (List.mem_append_right _ (List.mem_append_right _ (List.mem_append_left _ (h)))))))))))))))))))))))))
theorem iA_25 : ∀ w ∈ wsA_25, w ∈ wsA := fun _ h => List.mem_append_left _ (List.mem_append_right _ (List.mem_append_right _ (List.mem_append_right _ (List.mem_append_right _ (List.mem_append_right _ (List.mem_append_right _ (List.mem_append_right _ (List.mem_append_right _ (List.mem_append_right _ (List.mem_append_right _ (List.mem_append_right _ (List.mem_append_right _ (List.mem_append_right _ (List.mem_append_right _ (List.mem_append_right _ (List.mem_append_right _ (List.mem_append_right _ (List.mem_append_right _ (List.mem_append_right _ (List.mem_append_right _ (List.mem_append_right _ (List.mem_append_right _ (List.mem_append_right _ (List.mem_append_right _ (List.mem_append_left _ (h))))))))))))))))))))))))))
theorem iA_26 : ∀ w ∈ wsA_26, w ∈ wsA := fun _ h => List.mem_append_left _ (List.mem_append_right _ (List.mem_append_right _ (List.mem_append_right _ (List.mem_append_right _ (List.mem_append_right _ (List.mem_append_right _ (List.mem_append_right _ (List.mem_append_right _ (List.mem_append_right _ (List.mem_append_right _ (List.mem_append_right _ (List.mem_append_right _ (List.mem_append_right _ (List.mem_append_right _ (List.mem_append_right _ (List.mem_append_right _ (List.mem_append_right _ (List.mem_append_right _ (List.mem_append_right _ (List.mem_append_right _ (List.mem_append_right _ (List.mem_append_right _ (List.mem_append_right _ (List.mem_append_right _ (List.mem_append_right _ (List.mem_append_left _ (h)))))))))))))))))))))))))))
theorem iA_27 : ∀ w ∈ wsA_27, w ∈ wsA := fun _ h => List.mem_append_left _ (List.mem_append_right _ (List.mem_append_right _ (List.mem_append_right _ (List.mem_append_right _ (List.mem_append_right _ (List.mem_append_right _ (List.mem_append_right _ (List.mem_append_right _ (List.mem_append_right _ (List.mem_append_right _ (List.mem_append_right _ (List.mem_append_right _ (List.mem_append_right _ (List.mem_append_right _ (List.mem_append_right _ (List.mem_append_right _ (List.mem_append_right _ (List.mem_append_right _ (List.mem_append_right _ (List.mem_append_right _ (List.mem_append_right _ (List.mem_append_right _ (List.mem_append_right _ (List.mem_append_right _ (List.mem_append_right _ (List.mem_append_right _ (List.mem_append_left _ (h))))))))))))))))))))))))))))
theorem iA_28 : ∀ w ∈ wsA_28, w ∈ wsA := fun _ h => List.mem_append_left _ (List.mem_append_right _ (List.mem_append_right _ (List.mem_append_right _ (List.mem_append_right _ (List.mem_append_right _ (List.mem_append_right _ (List.mem_append_right _ (List.mem_append_right _ (List.mem_append_right _ (List.mem_append_right _ (List.mem_append_right _ (List.mem_append_right _ (List.mem_append_right _ (List.mem_append_right _ (List.mem_append_right _ (List.mem_append_right _ (List.mem_append_right _ (List.mem_append_right _ (List.mem_append_right _ (List.mem_append_right _ (List.mem_append_right _ (List.mem_append_right _ (List.mem_append_right _ (List.mem_append_right _ (List.mem_append_right _ (List.mem_append_right _ (List.mem_append_right _ (List.mem_append_left _ (h)))))))))))))))))))))))))))))
theorem iA_29 : ∀ w ∈ wsA_29, w ∈ wsA := fun _ h => List.mem_append_left _ (List.mem_append_right _ (List.mem_append_right _ (List.mem_append_right _ (List.mem_append_right _ (List.mem_append_right _ (List.mem_append_right _ (List.mem_append_right _ (List.mem_append_right _ (List.mem_append_right _ (List.mem_append_right _ (List.mem_append_right _ (List.mem_append_right _ (List.mem_append_right _ (List.mem_append_right _ (List.mem_append_right _ (List.mem_append_right _ (List.mem_append_right _ (List.mem_append_right _ (List.mem_append_right _ (List.mem_append_right _ (List.mem_append_right _ (List.mem_append_right _ (List.mem_append_right _ (List.mem_append_right _ (List.mem_append_right _ (List.mem_append_right _ (List.mem_append_right _ (List.mem_append_right _ (List.mem_append_left _ (h))))))))))))))))))))))))))))))
theorem iA_30 : ∀ w ∈ wsA_30, w ∈ wsA := fun _ h => List.mem_append_left _ (List.mem_append_right _ (List.mem_append_right _ (List.mem_append_right _ (List.mem_append_right _ (List.mem_append_right _ (List.mem_append_right _ (List.mem_append_right _ (List.mem_append_right _ (List.mem_append_right _ (List.mem_append_right _ (List.mem_append_right _ (List.mem_append_right _ (List.mem_append_right _ (List.mem_append_right _ (List.mem_append_right _ (List.mem_append_right _ (List.mem_append_right _ (List.mem_append_right _ (List.mem_append_right _ (List.mem_append_right _ (List.mem_append_right _ (List.mem_append_right _ (List.mem_append_right _ (List.mem_append_right _ (List.mem_append_right _ (List.mem_append_right _ (List.mem_append_right _ (List.mem_append_right _ (List.mem_append_right _ (List.mem_append_left _ (h)))))))))))))))))))))))))))))))
theorem iA_31 : ∀ w ∈ wsA_31, w ∈ wsA := fun _ h => List.mem_append_left _ (List.mem_append_right _ (List.mem_append_right _ (List.mem_append_right _ (List.mem_append_right _ (List.mem_append_right _ (List.mem_append_right _ (List.mem_append_right _ (List.mem_append_right _ (List.mem_append_right _ (List.mem_append_right _ (List.mem_append_right _ (List.mem_append_right _ (List.mem_append_right _ (List.mem_append_right _ (List.mem_append_right _ (List.mem_append_right _ (List.mem_append_right _ (List.mem_append_right _ (List.mem_append_right _ (List.mem_append_right _ (List.mem_append_right _ (List.mem_append_right _ (List.mem_append_right _ (List.mem_append_right _ (List.mem_append_right _ (List.mem_append_right _ (List.mem_append_right _ (List.mem_append_right _ (List.mem_append_right _ (List.mem_append_right _ (List.mem_append_left _ (h))))))))))))))))))))))))))))))))
theorem iA_32 : ∀ w ∈ wsA_32, w ∈ wsA := fun _ h => List.mem_append_left _ (List.mem_append_right _ (List.mem_append_right _ (List.mem_append_right _ (List.mem_append_right _ (List.mem_append_right _ (List.mem_append_right _ (List.mem_append_right _ (List.mem_append_right _ (List.mem_append_right _ (List.mem_append_right _ (List.mem_append_right _ (List.mem_append_right _ (List.mem_append_right _ (List.mem_append_right _ (List.mem_append_right _ (List.mem_append_right _ (List.mem_append_right _ (List.mem_append_right _ (List.mem_append_right _ (List.mem_append_right _ (List.mem_append_right _ (List.mem_append_right _ (List.mem_append_right _ (List.mem_append_right _ (List.mem_append_right _ (List.mem_append_right _ (List.mem_append_right _ (List.mem_append_right _ (List.mem_append_right _ (List.mem_append_right _ (List.mem_append_right _ (List.mem_append_left _ (h)))))))))))))))))))))))))))))))))
theorem iA_33 : ∀ w ∈ wsA_33, w ∈ wsA := fun _ h => List.mem_append_left _ (List.mem_append_right _ (List.mem_append_right _ (List.mem_append_right _ (List.mem_append_right _ (List.mem_append_right _ (List.mem_append_right _ (List.mem_append_right _ (List.mem_append_right _ (List.mem_append_right _ (List.mem_append_right _ (List.mem_append_right _ (List.mem_append_right _ (List.mem_append_right _ (List.mem_append_right _ (List.mem_append_right _ (List.mem_append_right _ (List.mem_append_right _ (List.mem_append_right _ (List.mem_append_right _ (List.mem_append_right _ (List.mem_append_right _ (List.mem_append_right _ (List.mem_append_right _ (List.mem_append_right _ (List.mem_append_right _ (List.mem_append_right _ (List.mem_append_right _ (List.mem_append_right _ (List.mem_append_right _ (List.mem_append_right _ (List.mem_append_right _ (List.mem_append_right _ (h)))))))))))))))))))))))))))))))))
theorem ac_X0 : ∀ w ∈ wsX00, w ∈ wsA := fun _ h => List.mem_append_right _ (List.mem_append_left _ (h))
theorem ac_X1 : ∀ w ∈ wsX10, w ∈ wsA := fun _ h => List.mem_append_right _ (List.mem_append_right _ (List.mem_append_left _ (h)))
theorem ac_X2 : ∀ w ∈ wsX20, w ∈ wsA := fun _ h => List.mem_append_right _ (List.mem_append_right _ (List.mem_append_right _ (List.mem_append_left _ (h))))
theorem ac_X3 : ∀ w ∈ wsX30, w ∈ wsA := fun _ h => List.mem_append_right _ (List.mem_append_right _ (List.mem_append_right _ (List.mem_append_right _ (List.mem_append_left _ (h)))))
theorem ac_X4 : ∀ w ∈ wsX40, w ∈ wsA := fun _ h => List.mem_append_right _ (List.mem_append_right _ (List.mem_append_right _ (List.mem_append_right _ (List.mem_append_right _ (List.mem_append_left _ (h))))))
theorem ac_X5 : ∀ w ∈ wsX50, w ∈ wsA := fun _ h => List.mem_append_right _ (List.mem_append_right _ (List.mem_append_right _ (List.mem_append_right _ (List.mem_append_right _ (List.mem_append_right _ (List.mem_append_left _ (h)))))))
theorem ac_X6 : ∀ w ∈ wsX60, w ∈ wsA := fun _ h => List.mem_append_right _ (List.mem_append_right _ (List.mem_append_right _ (List.mem_append_right _ (List.mem_append_right _ (List.mem_append_right _ (List.mem_append_right _ (List.mem_append_left _ (h))))))))
theorem ac_X7 : ∀ w ∈ wsX70, w ∈ wsA := fun _ h => List.mem_append_right _ (List.mem_append_right _ (List.mem_append_right _ (List.mem_append_right _ (List.mem_append_right _ (List.mem_append_right _ (List.mem_append_right _ (List.mem_append_right _ (List.mem_append_left _ (h)))))))))
theorem ac_X8 : ∀ w ∈ wsX80, w ∈ wsA := fun _ h => List.mem_append_right _ (List.mem_append_right _ (List.mem_append_right _ (List.mem_append_right _ (List.mem_append_right _ (List.mem_append_right _ (List.mem_append_right _ (List.mem_append_right _ (List.mem_append_right _ (h)))))))))
theorem aw_0 : (Cond.instantiable RX7 10 : Cond) ∈ wsA := iA_1 _ (List.mem_of_getElem? (i := 0) rfl)
theorem aw_1 : (Cond.initialized RX7 : Cond) ∈ wsA := iA_1 _ (List.mem_of_getElem? (i := 1) rfl)
theorem aw_2 : (Cond.instantiable RX8 29 : Cond) ∈ wsA := iA_1 _ (List.mem_of_getElem? (i := 2) rfl)
theorem aw_3 : (Cond.initialized RX8 : Cond) ∈ wsA := iA_1 _ (List.mem_of_getElem? (i := 3) rfl)
theorem aw_4 : (Cond.instanceMethod yX7_init : Cond) ∈ wsA := iA_1 _ (List.mem_of_getElem? (i := 4) rfl)
theorem aw_5 : (Cond.code yX7_init cX7_init 2 none : Cond) ∈ wsA := iA_1 _ (List.mem_of_getElem? (i := 5) rfl)
theorem aw_6 : (Cond.methodLink RX7 1 objectInit : Cond) ∈ wsA := iA_1 _ (List.mem_of_getElem? (i := 6) rfl)
theorem aw_7 : (Cond.instanceMethod objectInit : Cond) ∈ wsA := iA_1 _ (List.mem_of_getElem? (i := 7) rfl)
theorem aw_8 : (Cond.code objectInit ⟨#[0xb1]⟩ 1 none : Cond) ∈ wsA := iA_1 _ (List.mem_of_getElem? (i := 8) rfl)
theorem aw_9 : (Cond.classLink RX7 7 RX0 : Cond) ∈ wsA := iA_1 _ (List.mem_of_getElem? (i := 9) rfl)
theorem aw_10 : (Cond.instantiable RX0 2 : Cond) ∈ wsA := iA_1 _ (List.mem_of_getElem? (i := 10) rfl)
theorem aw_11 : (Cond.initialized RX0 : Cond) ∈ wsA := iA_1 _ (List.mem_of_getElem? (i := 11) rfl)
theorem aw_12 : (Cond.fieldLink RX7 10 "LastCallersWord" "letters" "LLastCallersWord$Letters;" : Cond) ∈ wsA := iA_1 _ (List.mem_of_getElem? (i := 12) rfl)
theorem aw_13 : (Cond.classLink RX7 16 RX1 : Cond) ∈ wsA := iA_1 _ (List.mem_of_getElem? (i := 13) rfl)
theorem aw_14 : (Cond.instantiable RX1 10 : Cond) ∈ wsA := iA_1 _ (List.mem_of_getElem? (i := 14) rfl)
theorem aw_15 : (Cond.initialized RX1 : Cond) ∈ wsA := iA_1 _ (List.mem_of_getElem? (i := 15) rfl)
theorem aw_16 : (Cond.fieldLink RX7 19 "LastCallersWord" "draft" "LLastCallersWord$Plan;" : Cond) ∈ wsA := iA_1 _ (List.mem_of_getElem? (i := 16) rfl)
theorem aw_17 : (Cond.classLink RX7 23 RX2 : Cond) ∈ wsA := iA_1 _ (List.mem_of_getElem? (i := 17) rfl)
theorem aw_18 : (Cond.instantiable RX2 4 : Cond) ∈ wsA := iA_1 _ (List.mem_of_getElem? (i := 18) rfl)
theorem aw_19 : (Cond.initialized RX2 : Cond) ∈ wsA := iA_1 _ (List.mem_of_getElem? (i := 19) rfl)
theorem aw_20 : (Cond.fieldLink RX7 28 "LastCallersWord" "reader" "LLastCallersWord$Reader;" : Cond) ∈ wsA := iA_1 _ (List.mem_of_getElem? (i := 20) rfl)
theorem aw_21 : (Cond.fieldLink RX7 32 "LastCallersWord" "plan" "LLastCallersWord$Plan;" : Cond) ∈ wsA := iA_1 _ (List.mem_of_getElem? (i := 21) rfl)
theorem aw_22 : (Cond.classLink RX7 35 RX5 : Cond) ∈ wsA := iA_1 _ (List.mem_of_getElem? (i := 22) rfl)
theorem aw_23 : (Cond.instantiable RX5 5 : Cond) ∈ wsA := iA_1 _ (List.mem_of_getElem? (i := 23) rfl)
theorem aw_24 : (Cond.initialized RX5 : Cond) ∈ wsA := iA_2 _ (List.mem_of_getElem? (i := 0) rfl)
theorem aw_25 : (Cond.fieldLink RX7 38 "LastCallersWord" "state" "LLastCallersWord$State;" : Cond) ∈ wsA := iA_2 _ (List.mem_of_getElem? (i := 1) rfl)
theorem aw_26 : (Cond.classLink RX7 42 RX6 : Cond) ∈ wsA := iA_2 _ (List.mem_of_getElem? (i := 2) rfl)
theorem aw_27 : (Cond.instantiable RX6 2 : Cond) ∈ wsA := iA_2 _ (List.mem_of_getElem? (i := 3) rfl)
theorem aw_28 : (Cond.initialized RX6 : Cond) ∈ wsA := iA_2 _ (List.mem_of_getElem? (i := 4) rfl)
theorem aw_29 : (Cond.fieldLink RX7 47 "LastCallersWord" "talk" "LLastCallersWord$Talk;" : Cond) ∈ wsA := iA_2 _ (List.mem_of_getElem? (i := 5) rfl)
theorem aw_30 : (Cond.classLink RX7 51 RX4 : Cond) ∈ wsA := iA_2 _ (List.mem_of_getElem? (i := 6) rfl)
theorem aw_31 : (Cond.instantiable RX4 4 : Cond) ∈ wsA := iA_2 _ (List.mem_of_getElem? (i := 7) rfl)
theorem aw_32 : (Cond.initialized RX4 : Cond) ∈ wsA := iA_2 _ (List.mem_of_getElem? (i := 8) rfl)
theorem aw_33 : (Cond.fieldLink RX7 54 "LastCallersWord" "sightings" "LLastCallersWord$Sightings;" : Cond) ∈ wsA := iA_2 _ (List.mem_of_getElem? (i := 9) rfl)
theorem aw_34 : (Cond.classLink RX7 58 RX3 : Cond) ∈ wsA := iA_2 _ (List.mem_of_getElem? (i := 10) rfl)
theorem aw_35 : (Cond.instantiable RX3 2 : Cond) ∈ wsA := iA_2 _ (List.mem_of_getElem? (i := 11) rfl)
theorem aw_36 : (Cond.initialized RX3 : Cond) ∈ wsA := iA_2 _ (List.mem_of_getElem? (i := 12) rfl)
theorem aw_37 : (Cond.fieldLink RX7 63 "LastCallersWord" "undoable" "LLastCallersWord$Shelf;" : Cond) ∈ wsA := iA_2 _ (List.mem_of_getElem? (i := 13) rfl)
theorem aw_38 : (Cond.fieldLink RX7 67 "LastCallersWord" "kept" "LLastCallersWord$Shelf;" : Cond) ∈ wsA := iA_2 _ (List.mem_of_getElem? (i := 14) rfl)
theorem aw_39 : (Cond.arrayClass .int : Cond) ∈ wsA := iA_2 _ (List.mem_of_getElem? (i := 15) rfl)
theorem aw_40 : (Cond.fieldLink RX7 70 "LastCallersWord" "streetKnowers" "[I" : Cond) ∈ wsA := iA_2 _ (List.mem_of_getElem? (i := 16) rfl)
theorem aw_41 : (Cond.instanceMethod yX0_init : Cond) ∈ wsA := iA_2 _ (List.mem_of_getElem? (i := 17) rfl)
theorem aw_42 : (Cond.code yX0_init cX0_init 1 none : Cond) ∈ wsA := iA_2 _ (List.mem_of_getElem? (i := 18) rfl)
theorem aw_43 : (Cond.methodLink RX0 3 objectInit : Cond) ∈ wsA := iA_2 _ (List.mem_of_getElem? (i := 19) rfl)
theorem aw_44 : (Cond.arrayClass .char : Cond) ∈ wsA := iA_2 _ (List.mem_of_getElem? (i := 20) rfl)
theorem aw_45 : (Cond.fieldLink RX0 9 "LastCallersWord$Letters" "signs" "[C" : Cond) ∈ wsA := iA_2 _ (List.mem_of_getElem? (i := 21) rfl)
theorem aw_46 : (Cond.fieldLink RX0 15 "LastCallersWord$Letters" "length" "I" : Cond) ∈ wsA := iA_2 _ (List.mem_of_getElem? (i := 22) rfl)
theorem aw_47 : (Cond.instanceMethod yX1_init : Cond) ∈ wsA := iA_2 _ (List.mem_of_getElem? (i := 23) rfl)
theorem aw_48 : (Cond.code yX1_init cX1_init 1 none : Cond) ∈ wsA := iA_3 _ (List.mem_of_getElem? (i := 0) rfl)
theorem aw_49 : (Cond.methodLink RX1 3 objectInit : Cond) ∈ wsA := iA_3 _ (List.mem_of_getElem? (i := 1) rfl)
theorem aw_50 : (Cond.fieldLink RX1 9 "LastCallersWord$Plan" "kinds" "[I" : Cond) ∈ wsA := iA_3 _ (List.mem_of_getElem? (i := 2) rfl)
theorem aw_51 : (Cond.fieldLink RX1 15 "LastCallersWord$Plan" "likings" "[I" : Cond) ∈ wsA := iA_3 _ (List.mem_of_getElem? (i := 3) rfl)
theorem aw_52 : (Cond.fieldLink RX1 18 "LastCallersWord$Plan" "hosts" "[I" : Cond) ∈ wsA := iA_3 _ (List.mem_of_getElem? (i := 4) rfl)
theorem aw_53 : (Cond.fieldLink RX1 21 "LastCallersWord$Plan" "callers" "[I" : Cond) ∈ wsA := iA_3 _ (List.mem_of_getElem? (i := 5) rfl)
theorem aw_54 : (Cond.fieldLink RX1 24 "LastCallersWord$Plan" "parts" "[I" : Cond) ∈ wsA := iA_3 _ (List.mem_of_getElem? (i := 6) rfl)
theorem aw_55 : (Cond.fieldLink RX1 27 "LastCallersWord$Plan" "persons" "I" : Cond) ∈ wsA := iA_3 _ (List.mem_of_getElem? (i := 7) rfl)
theorem aw_56 : (Cond.fieldLink RX1 31 "LastCallersWord$Plan" "personsTold" "I" : Cond) ∈ wsA := iA_3 _ (List.mem_of_getElem? (i := 8) rfl)
theorem aw_57 : (Cond.fieldLink RX1 34 "LastCallersWord$Plan" "doors" "I" : Cond) ∈ wsA := iA_3 _ (List.mem_of_getElem? (i := 9) rfl)
theorem aw_58 : (Cond.fieldLink RX1 37 "LastCallersWord$Plan" "words" "I" : Cond) ∈ wsA := iA_3 _ (List.mem_of_getElem? (i := 10) rfl)
theorem aw_59 : (Cond.fieldLink RX1 40 "LastCallersWord$Plan" "limit" "I" : Cond) ∈ wsA := iA_3 _ (List.mem_of_getElem? (i := 11) rfl)
theorem aw_60 : (Cond.methodLink RX7 25 yX2_init : Cond) ∈ wsA := iA_3 _ (List.mem_of_getElem? (i := 12) rfl)
theorem aw_61 : (Cond.instanceMethod yX2_init : Cond) ∈ wsA := iA_3 _ (List.mem_of_getElem? (i := 13) rfl)
theorem aw_62 : (Cond.code yX2_init cX2_init 3 none : Cond) ∈ wsA := iA_3 _ (List.mem_of_getElem? (i := 14) rfl)
theorem aw_63 : (Cond.methodLink RX2 3 objectInit : Cond) ∈ wsA := iA_3 _ (List.mem_of_getElem? (i := 15) rfl)
theorem aw_64 : (Cond.fieldLink RX2 9 "LastCallersWord$Reader" "place" "I" : Cond) ∈ wsA := iA_3 _ (List.mem_of_getElem? (i := 16) rfl)
theorem aw_65 : (Cond.fieldLink RX2 15 "LastCallersWord$Reader" "onlyCounts" "Z" : Cond) ∈ wsA := iA_3 _ (List.mem_of_getElem? (i := 17) rfl)
theorem aw_66 : (Cond.fieldLink RX2 19 "LastCallersWord$Reader" "letters" "LLastCallersWord$Letters;" : Cond) ∈ wsA := iA_3 _ (List.mem_of_getElem? (i := 18) rfl)
theorem aw_67 : (Cond.fieldLink RX2 23 "LastCallersWord$Reader" "plan" "LLastCallersWord$Plan;" : Cond) ∈ wsA := iA_3 _ (List.mem_of_getElem? (i := 19) rfl)
theorem aw_68 : (Cond.instanceMethod yX5_init : Cond) ∈ wsA := iA_3 _ (List.mem_of_getElem? (i := 20) rfl)
theorem aw_69 : (Cond.code yX5_init cX5_init 1 none : Cond) ∈ wsA := iA_3 _ (List.mem_of_getElem? (i := 21) rfl)
theorem aw_70 : (Cond.methodLink RX5 3 objectInit : Cond) ∈ wsA := iA_3 _ (List.mem_of_getElem? (i := 22) rfl)
theorem aw_71 : (Cond.fieldLink RX5 9 "LastCallersWord$State" "likings" "[I" : Cond) ∈ wsA := iA_3 _ (List.mem_of_getElem? (i := 23) rfl)
theorem aw_72 : (Cond.fieldLink RX5 15 "LastCallersWord$State" "callers" "[I" : Cond) ∈ wsA := iA_4 _ (List.mem_of_getElem? (i := 0) rfl)
theorem aw_73 : (Cond.fieldLink RX5 18 "LastCallersWord$State" "knowers" "[I" : Cond) ∈ wsA := iA_4 _ (List.mem_of_getElem? (i := 1) rfl)
theorem aw_74 : (Cond.fieldLink RX5 21 "LastCallersWord$State" "wrongs" "[I" : Cond) ∈ wsA := iA_4 _ (List.mem_of_getElem? (i := 2) rfl)
theorem aw_75 : (Cond.fieldLink RX5 24 "LastCallersWord$State" "days" "I" : Cond) ∈ wsA := iA_4 _ (List.mem_of_getElem? (i := 3) rfl)
theorem aw_76 : (Cond.methodLink RX7 44 yX6_init : Cond) ∈ wsA := iA_4 _ (List.mem_of_getElem? (i := 4) rfl)
theorem aw_77 : (Cond.instanceMethod yX6_init : Cond) ∈ wsA := iA_4 _ (List.mem_of_getElem? (i := 5) rfl)
theorem aw_78 : (Cond.code yX6_init cX6_init 3 none : Cond) ∈ wsA := iA_4 _ (List.mem_of_getElem? (i := 6) rfl)
theorem aw_79 : (Cond.methodLink RX6 3 objectInit : Cond) ∈ wsA := iA_4 _ (List.mem_of_getElem? (i := 7) rfl)
theorem aw_80 : (Cond.fieldLink RX6 9 "LastCallersWord$Talk" "plan" "LLastCallersWord$Plan;" : Cond) ∈ wsA := iA_4 _ (List.mem_of_getElem? (i := 8) rfl)
theorem aw_81 : (Cond.fieldLink RX6 15 "LastCallersWord$Talk" "state" "LLastCallersWord$State;" : Cond) ∈ wsA := iA_4 _ (List.mem_of_getElem? (i := 9) rfl)
theorem aw_82 : (Cond.instanceMethod yX4_init : Cond) ∈ wsA := iA_4 _ (List.mem_of_getElem? (i := 10) rfl)
theorem aw_83 : (Cond.code yX4_init cX4_init 1 none : Cond) ∈ wsA := iA_4 _ (List.mem_of_getElem? (i := 11) rfl)
theorem aw_84 : (Cond.methodLink RX4 3 objectInit : Cond) ∈ wsA := iA_4 _ (List.mem_of_getElem? (i := 12) rfl)
theorem aw_85 : (Cond.fieldLink RX4 9 "LastCallersWord$Sightings" "persons" "[I" : Cond) ∈ wsA := iA_4 _ (List.mem_of_getElem? (i := 13) rfl)
theorem aw_86 : (Cond.fieldLink RX4 15 "LastCallersWord$Sightings" "doors" "[I" : Cond) ∈ wsA := iA_4 _ (List.mem_of_getElem? (i := 14) rfl)
theorem aw_87 : (Cond.fieldLink RX4 18 "LastCallersWord$Sightings" "coulds" "[I" : Cond) ∈ wsA := iA_4 _ (List.mem_of_getElem? (i := 15) rfl)
theorem aw_88 : (Cond.fieldLink RX4 21 "LastCallersWord$Sightings" "size" "I" : Cond) ∈ wsA := iA_4 _ (List.mem_of_getElem? (i := 16) rfl)
theorem aw_89 : (Cond.methodLink RX7 60 yX3_init : Cond) ∈ wsA := iA_4 _ (List.mem_of_getElem? (i := 17) rfl)
theorem aw_90 : (Cond.instanceMethod yX3_init : Cond) ∈ wsA := iA_4 _ (List.mem_of_getElem? (i := 18) rfl)
theorem aw_91 : (Cond.code yX3_init cX3_init 3 none : Cond) ∈ wsA := iA_4 _ (List.mem_of_getElem? (i := 19) rfl)
theorem aw_92 : (Cond.methodLink RX3 1 objectInit : Cond) ∈ wsA := iA_4 _ (List.mem_of_getElem? (i := 20) rfl)
theorem aw_93 : (Cond.fieldLink RX3 7 "LastCallersWord$Shelf" "size" "I" : Cond) ∈ wsA := iA_4 _ (List.mem_of_getElem? (i := 21) rfl)
theorem aw_94 : (Cond.methodLink RX3 13 Lib.Math.max.name : Cond) ∈ wsA := iA_4 _ (List.mem_of_getElem? (i := 22) rfl)
theorem aw_95 : (Cond.static Lib.Math.max.name : Cond) ∈ wsA := iA_4 _ (List.mem_of_getElem? (i := 23) rfl)
theorem aw_96 : (Cond.initialized "java/lang/Math" : Cond) ∈ wsA := iA_5 _ (List.mem_of_getElem? (i := 0) rfl)
theorem aw_97 : (Cond.code Lib.Math.max.name Lib.Math.max.code 2 (some .int) : Cond) ∈ wsA := iA_5 _ (List.mem_of_getElem? (i := 1) rfl)
theorem aw_98 : (Cond.classLink RX3 19 RX5 : Cond) ∈ wsA := iA_5 _ (List.mem_of_getElem? (i := 2) rfl)
theorem aw_99 : (Cond.fieldLink RX3 21 "LastCallersWord$Shelf" "copies" "[LLastCallersWord$State;" : Cond) ∈ wsA := iA_5 _ (List.mem_of_getElem? (i := 3) rfl)
theorem aw_100 : (Cond.methodLink RX7 76 yJ0_length_8abf5 : Cond) ∈ wsA := iA_5 _ (List.mem_of_getElem? (i := 4) rfl)
theorem aw_101 : (Cond.instanceMethod yJ0_length_8abf5 : Cond) ∈ wsA := iA_5 _ (List.mem_of_getElem? (i := 5) rfl)
theorem aw_102 : (Cond.selects RJ0 yJ0_length_8abf5 yJ0_length_8abf5 : Cond) ∈ wsA := iA_5 _ (List.mem_of_getElem? (i := 6) rfl)
theorem aw_103 : (Cond.initialized RJ0 : Cond) ∈ wsA := iA_5 _ (List.mem_of_getElem? (i := 7) rfl)
theorem aw_104 : (Cond.code yJ0_length_8abf5 cJ0_length_8abf5 1 (some .int) : Cond) ∈ wsA := iA_5 _ (List.mem_of_getElem? (i := 8) rfl)
theorem aw_105 : (Cond.fieldLink RJ0 9 "java/lang/String" "value" "[B" : Cond) ∈ wsA := iA_5 _ (List.mem_of_getElem? (i := 9) rfl)
theorem aw_106 : (Cond.methodLink RJ0 335 yJ0_coder_7d493 : Cond) ∈ wsA := iA_5 _ (List.mem_of_getElem? (i := 10) rfl)
theorem aw_107 : (Cond.instanceMethod yJ0_coder_7d493 : Cond) ∈ wsA := iA_5 _ (List.mem_of_getElem? (i := 11) rfl)
theorem aw_108 : (Cond.selects RJ0 yJ0_coder_7d493 yJ0_coder_7d493 : Cond) ∈ wsA := iA_5 _ (List.mem_of_getElem? (i := 12) rfl)
theorem aw_109 : (Cond.code yJ0_coder_7d493 cJ0_coder_7d493 1 (some .byte) : Cond) ∈ wsA := iA_5 _ (List.mem_of_getElem? (i := 13) rfl)
theorem aw_110 : (Cond.fieldLink RJ0 38 "java/lang/String" "COMPACT_STRINGS" "Z" : Cond) ∈ wsA := iA_5 _ (List.mem_of_getElem? (i := 14) rfl)
theorem aw_111 : (Cond.fieldLink RJ0 15 "java/lang/String" "coder" "B" : Cond) ∈ wsA := iA_5 _ (List.mem_of_getElem? (i := 15) rfl)
theorem aw_112 : (Cond.methodLink RX7 82 yJ0_charAt_5068e : Cond) ∈ wsA := iA_5 _ (List.mem_of_getElem? (i := 16) rfl)
theorem aw_113 : (Cond.instanceMethod yJ0_charAt_5068e : Cond) ∈ wsA := iA_5 _ (List.mem_of_getElem? (i := 17) rfl)
theorem aw_114 : (Cond.selects RJ0 yJ0_charAt_5068e yJ0_charAt_5068e : Cond) ∈ wsA := iA_5 _ (List.mem_of_getElem? (i := 18) rfl)
theorem aw_115 : (Cond.code yJ0_charAt_5068e cJ0_charAt_5068e 2 (some .char) : Cond) ∈ wsA := iA_5 _ (List.mem_of_getElem? (i := 19) rfl)
theorem aw_116 : (Cond.methodLink RJ0 492 yJ0_isLatin1_aae02 : Cond) ∈ wsA := iA_5 _ (List.mem_of_getElem? (i := 20) rfl)
theorem aw_117 : (Cond.instanceMethod yJ0_isLatin1_aae02 : Cond) ∈ wsA := iA_5 _ (List.mem_of_getElem? (i := 21) rfl)
theorem aw_118 : (Cond.selects RJ0 yJ0_isLatin1_aae02 yJ0_isLatin1_aae02 : Cond) ∈ wsA := iA_5 _ (List.mem_of_getElem? (i := 22) rfl)
theorem aw_119 : (Cond.code yJ0_isLatin1_aae02 cJ0_isLatin1_aae02 1 (some .boolean) : Cond) ∈ wsA := iA_5 _ (List.mem_of_getElem? (i := 23) rfl)
theorem aw_120 : (Cond.methodLink RJ0 495 yJ1_charAt_3b067 : Cond) ∈ wsA := iA_6 _ (List.mem_of_getElem? (i := 0) rfl)
theorem aw_121 : (Cond.static yJ1_charAt_3b067 : Cond) ∈ wsA := iA_6 _ (List.mem_of_getElem? (i := 1) rfl)
theorem aw_122 : (Cond.initialized RJ1 : Cond) ∈ wsA := iA_6 _ (List.mem_of_getElem? (i := 2) rfl)
theorem aw_123 : (Cond.code yJ1_charAt_3b067 cJ1_charAt_3b067 2 (some .char) : Cond) ∈ wsA := iA_6 _ (List.mem_of_getElem? (i := 3) rfl)
theorem aw_124 : (Cond.methodLink RJ1 9 yJ0_checkIndex_df160 : Cond) ∈ wsA := iA_6 _ (List.mem_of_getElem? (i := 4) rfl)
theorem aw_125 : (Cond.static yJ0_checkIndex_df160 : Cond) ∈ wsA := iA_6 _ (List.mem_of_getElem? (i := 5) rfl)
theorem aw_126 : (Cond.code yJ0_checkIndex_df160 cJ0_checkIndex_df160 2 none : Cond) ∈ wsA := iA_6 _ (List.mem_of_getElem? (i := 6) rfl)
theorem aw_127 : (Cond.fieldLink RJ0 1053 "jdk/internal/util/Preconditions" "SIOOBE_FORMATTER" "Ljava/util/function/BiFunction;" : Cond) ∈ wsA := iA_6 _ (List.mem_of_getElem? (i := 7) rfl)
theorem aw_128 : (Cond.methodLink RJ0 1059 yJ3_checkIndex_8e157 : Cond) ∈ wsA := iA_6 _ (List.mem_of_getElem? (i := 8) rfl)
theorem aw_129 : (Cond.static yJ3_checkIndex_8e157 : Cond) ∈ wsA := iA_6 _ (List.mem_of_getElem? (i := 9) rfl)
theorem aw_130 : (Cond.initialized RJ3 : Cond) ∈ wsA := iA_6 _ (List.mem_of_getElem? (i := 10) rfl)
theorem aw_131 : (Cond.code yJ3_checkIndex_8e157 cJ3_checkIndex_8e157 3 (some .int) : Cond) ∈ wsA := iA_6 _ (List.mem_of_getElem? (i := 11) rfl)
theorem aw_132 : (Cond.methodLink RJ0 498 yJ2_charAt_3b067 : Cond) ∈ wsA := iA_6 _ (List.mem_of_getElem? (i := 12) rfl)
theorem aw_133 : (Cond.static yJ2_charAt_3b067 : Cond) ∈ wsA := iA_6 _ (List.mem_of_getElem? (i := 13) rfl)
theorem aw_134 : (Cond.initialized RJ2 : Cond) ∈ wsA := iA_6 _ (List.mem_of_getElem? (i := 14) rfl)
theorem aw_135 : (Cond.code yJ2_charAt_3b067 cJ2_charAt_3b067 2 (some .char) : Cond) ∈ wsA := iA_6 _ (List.mem_of_getElem? (i := 15) rfl)
theorem aw_136 : (Cond.methodLink RJ2 67 yJ2_checkIndex_2214a : Cond) ∈ wsA := iA_6 _ (List.mem_of_getElem? (i := 16) rfl)
theorem aw_137 : (Cond.static yJ2_checkIndex_2214a : Cond) ∈ wsA := iA_6 _ (List.mem_of_getElem? (i := 17) rfl)
theorem aw_138 : (Cond.code yJ2_checkIndex_2214a cJ2_checkIndex_2214a 2 none : Cond) ∈ wsA := iA_6 _ (List.mem_of_getElem? (i := 18) rfl)
theorem aw_139 : (Cond.methodLink RJ2 48 yJ2_length_9d52b : Cond) ∈ wsA := iA_6 _ (List.mem_of_getElem? (i := 19) rfl)
theorem aw_140 : (Cond.static yJ2_length_9d52b : Cond) ∈ wsA := iA_6 _ (List.mem_of_getElem? (i := 20) rfl)
theorem aw_141 : (Cond.code yJ2_length_9d52b cJ2_length_9d52b 1 (some .int) : Cond) ∈ wsA := iA_6 _ (List.mem_of_getElem? (i := 21) rfl)
theorem aw_142 : (Cond.methodLink RJ2 414 yJ0_checkIndex_df160 : Cond) ∈ wsA := iA_6 _ (List.mem_of_getElem? (i := 22) rfl)
theorem aw_143 : (Cond.methodLink RJ2 71 yJ2_getChar_3b067 : Cond) ∈ wsA := iA_6 _ (List.mem_of_getElem? (i := 23) rfl)
theorem aw_144 : (Cond.static yJ2_getChar_3b067 : Cond) ∈ wsA := iA_7 _ (List.mem_of_getElem? (i := 0) rfl)
theorem aw_145 : (Cond.code yJ2_getChar_3b067 cJ2_getChar_3b067 2 (some .char) : Cond) ∈ wsA := iA_7 _ (List.mem_of_getElem? (i := 1) rfl)
theorem aw_146 : (Cond.fieldLink RJ2 44 "java/lang/StringUTF16" "$assertionsDisabled" "Z" : Cond) ∈ wsA := iA_7 _ (List.mem_of_getElem? (i := 2) rfl)
theorem aw_147 : (Cond.fieldLink RJ2 59 "java/lang/StringUTF16" "HI_BYTE_SHIFT" "I" : Cond) ∈ wsA := iA_7 _ (List.mem_of_getElem? (i := 3) rfl)
theorem aw_148 : (Cond.fieldLink RJ2 63 "java/lang/StringUTF16" "LO_BYTE_SHIFT" "I" : Cond) ∈ wsA := iA_7 _ (List.mem_of_getElem? (i := 4) rfl)
theorem aw_149 : (Cond.methodLink RX7 86 yX0_append : Cond) ∈ wsA := iA_7 _ (List.mem_of_getElem? (i := 5) rfl)
theorem aw_150 : (Cond.instanceMethod yX0_append : Cond) ∈ wsA := iA_7 _ (List.mem_of_getElem? (i := 6) rfl)
theorem aw_151 : (Cond.selects RX0 yX0_append yX0_append : Cond) ∈ wsA := iA_7 _ (List.mem_of_getElem? (i := 7) rfl)
theorem aw_152 : (Cond.code yX0_append cX0_append 2 none : Cond) ∈ wsA := iA_7 _ (List.mem_of_getElem? (i := 8) rfl)
theorem aw_153 : (Cond.methodLink RX7 90 yX2_findFault : Cond) ∈ wsA := iA_7 _ (List.mem_of_getElem? (i := 9) rfl)
theorem aw_154 : (Cond.instanceMethod yX2_findFault : Cond) ∈ wsA := iA_7 _ (List.mem_of_getElem? (i := 10) rfl)
theorem aw_155 : (Cond.selects RX2 yX2_findFault yX2_findFault : Cond) ∈ wsA := iA_7 _ (List.mem_of_getElem? (i := 11) rfl)
theorem aw_156 : (Cond.code yX2_findFault cX2_findFault 3 (some .int) : Cond) ∈ wsA := iA_7 _ (List.mem_of_getElem? (i := 12) rfl)
theorem aw_157 : (Cond.fieldLink RX2 32 "LastCallersWord$Letters" "length" "I" : Cond) ∈ wsA := iA_7 _ (List.mem_of_getElem? (i := 13) rfl)
theorem aw_158 : (Cond.methodLink RX2 27 yX1_clear : Cond) ∈ wsA := iA_7 _ (List.mem_of_getElem? (i := 14) rfl)
theorem aw_159 : (Cond.instanceMethod yX1_clear : Cond) ∈ wsA := iA_7 _ (List.mem_of_getElem? (i := 15) rfl)
theorem aw_160 : (Cond.selects RX1 yX1_clear yX1_clear : Cond) ∈ wsA := iA_7 _ (List.mem_of_getElem? (i := 16) rfl)
theorem aw_161 : (Cond.code yX1_clear cX1_clear 1 none : Cond) ∈ wsA := iA_7 _ (List.mem_of_getElem? (i := 17) rfl)
theorem aw_162 : (Cond.methodLink RX2 37 yX0_signAt : Cond) ∈ wsA := iA_7 _ (List.mem_of_getElem? (i := 18) rfl)
theorem aw_163 : (Cond.instanceMethod yX0_signAt : Cond) ∈ wsA := iA_7 _ (List.mem_of_getElem? (i := 19) rfl)
theorem aw_164 : (Cond.selects RX0 yX0_signAt yX0_signAt : Cond) ∈ wsA := iA_7 _ (List.mem_of_getElem? (i := 20) rfl)
theorem aw_165 : (Cond.code yX0_signAt cX0_signAt 2 (some .char) : Cond) ∈ wsA := iA_7 _ (List.mem_of_getElem? (i := 21) rfl)
theorem aw_166 : (Cond.methodLink RX2 41 yX2_readBody : Cond) ∈ wsA := iA_7 _ (List.mem_of_getElem? (i := 22) rfl)
theorem aw_167 : (Cond.instanceMethod yX2_readBody : Cond) ∈ wsA := iA_7 _ (List.mem_of_getElem? (i := 23) rfl)
theorem aw_168 : (Cond.selects RX2 yX2_readBody yX2_readBody : Cond) ∈ wsA := iA_8 _ (List.mem_of_getElem? (i := 0) rfl)
theorem aw_169 : (Cond.code yX2_readBody cX2_readBody 2 (some .boolean) : Cond) ∈ wsA := iA_8 _ (List.mem_of_getElem? (i := 1) rfl)
theorem aw_170 : (Cond.methodLink RX2 48 yX2_readPersons : Cond) ∈ wsA := iA_8 _ (List.mem_of_getElem? (i := 2) rfl)
theorem aw_171 : (Cond.instanceMethod yX2_readPersons : Cond) ∈ wsA := iA_8 _ (List.mem_of_getElem? (i := 3) rfl)
theorem aw_172 : (Cond.selects RX2 yX2_readPersons yX2_readPersons : Cond) ∈ wsA := iA_8 _ (List.mem_of_getElem? (i := 4) rfl)
theorem aw_173 : (Cond.code yX2_readPersons cX2_readPersons 2 (some .boolean) : Cond) ∈ wsA := iA_8 _ (List.mem_of_getElem? (i := 5) rfl)
theorem aw_174 : (Cond.fieldLink RX2 68 "LastCallersWord$Plan" "persons" "I" : Cond) ∈ wsA := iA_8 _ (List.mem_of_getElem? (i := 6) rfl)
theorem aw_175 : (Cond.methodLink RX2 64 yX2_number : Cond) ∈ wsA := iA_8 _ (List.mem_of_getElem? (i := 7) rfl)
theorem aw_176 : (Cond.instanceMethod yX2_number : Cond) ∈ wsA := iA_8 _ (List.mem_of_getElem? (i := 8) rfl)
theorem aw_177 : (Cond.selects RX2 yX2_number yX2_number : Cond) ∈ wsA := iA_8 _ (List.mem_of_getElem? (i := 9) rfl)
theorem aw_178 : (Cond.code yX2_number cX2_number 3 (some .int) : Cond) ∈ wsA := iA_8 _ (List.mem_of_getElem? (i := 10) rfl)
theorem aw_179 : (Cond.methodLink RX2 71 yX2_figure : Cond) ∈ wsA := iA_8 _ (List.mem_of_getElem? (i := 11) rfl)
theorem aw_180 : (Cond.instanceMethod yX2_figure : Cond) ∈ wsA := iA_8 _ (List.mem_of_getElem? (i := 12) rfl)
theorem aw_181 : (Cond.selects RX2 yX2_figure yX2_figure : Cond) ∈ wsA := iA_8 _ (List.mem_of_getElem? (i := 13) rfl)
theorem aw_182 : (Cond.code yX2_figure cX2_figure 2 (some .int) : Cond) ∈ wsA := iA_8 _ (List.mem_of_getElem? (i := 14) rfl)
theorem aw_183 : (Cond.methodLink RX2 52 yX2_readPerson : Cond) ∈ wsA := iA_8 _ (List.mem_of_getElem? (i := 15) rfl)
theorem aw_184 : (Cond.instanceMethod yX2_readPerson : Cond) ∈ wsA := iA_8 _ (List.mem_of_getElem? (i := 16) rfl)
theorem aw_185 : (Cond.selects RX2 yX2_readPerson yX2_readPerson : Cond) ∈ wsA := iA_8 _ (List.mem_of_getElem? (i := 17) rfl)
theorem aw_186 : (Cond.code yX2_readPerson cX2_readPerson 5 (some .boolean) : Cond) ∈ wsA := iA_8 _ (List.mem_of_getElem? (i := 18) rfl)
theorem aw_187 : (Cond.fieldLink RX2 74 "LastCallersWord$Plan" "personsTold" "I" : Cond) ∈ wsA := iA_8 _ (List.mem_of_getElem? (i := 19) rfl)
theorem aw_188 : (Cond.fieldLink RX2 77 "LastCallersWord$Plan" "likings" "[I" : Cond) ∈ wsA := iA_8 _ (List.mem_of_getElem? (i := 20) rfl)
theorem aw_189 : (Cond.fieldLink RX2 85 "LastCallersWord$Plan" "kinds" "[I" : Cond) ∈ wsA := iA_8 _ (List.mem_of_getElem? (i := 21) rfl)
theorem aw_190 : (Cond.static yX7_pair : Cond) ∈ wsA := iA_8 _ (List.mem_of_getElem? (i := 22) rfl)
theorem aw_191 : (Cond.code yX7_pair cX7_pair 2 (some .int) : Cond) ∈ wsA := iA_8 _ (List.mem_of_getElem? (i := 23) rfl)
theorem aw_192 : (Cond.methodLink RX2 55 yX2_readDoor : Cond) ∈ wsA := iA_9 _ (List.mem_of_getElem? (i := 0) rfl)
theorem aw_193 : (Cond.instanceMethod yX2_readDoor : Cond) ∈ wsA := iA_9 _ (List.mem_of_getElem? (i := 1) rfl)
theorem aw_194 : (Cond.selects RX2 yX2_readDoor yX2_readDoor : Cond) ∈ wsA := iA_9 _ (List.mem_of_getElem? (i := 2) rfl)
theorem aw_195 : (Cond.code yX2_readDoor cX2_readDoor 3 (some .boolean) : Cond) ∈ wsA := iA_9 _ (List.mem_of_getElem? (i := 3) rfl)
theorem aw_196 : (Cond.fieldLink RX2 88 "LastCallersWord$Plan" "doors" "I" : Cond) ∈ wsA := iA_9 _ (List.mem_of_getElem? (i := 4) rfl)
theorem aw_197 : (Cond.fieldLink RX2 95 "LastCallersWord$Plan" "hosts" "[I" : Cond) ∈ wsA := iA_9 _ (List.mem_of_getElem? (i := 5) rfl)
theorem aw_198 : (Cond.fieldLink RX2 98 "LastCallersWord$Plan" "callers" "[I" : Cond) ∈ wsA := iA_9 _ (List.mem_of_getElem? (i := 6) rfl)
theorem aw_199 : (Cond.methodLink RX2 45 yX2_take : Cond) ∈ wsA := iA_9 _ (List.mem_of_getElem? (i := 7) rfl)
theorem aw_200 : (Cond.instanceMethod yX2_take : Cond) ∈ wsA := iA_9 _ (List.mem_of_getElem? (i := 8) rfl)
theorem aw_201 : (Cond.selects RX2 yX2_take yX2_take : Cond) ∈ wsA := iA_9 _ (List.mem_of_getElem? (i := 9) rfl)
theorem aw_202 : (Cond.code yX2_take cX2_take 2 (some .boolean) : Cond) ∈ wsA := iA_9 _ (List.mem_of_getElem? (i := 10) rfl)
theorem aw_203 : (Cond.methodLink RX2 91 yX2_isOneOfAll : Cond) ∈ wsA := iA_9 _ (List.mem_of_getElem? (i := 11) rfl)
theorem aw_204 : (Cond.instanceMethod yX2_isOneOfAll : Cond) ∈ wsA := iA_9 _ (List.mem_of_getElem? (i := 12) rfl)
theorem aw_205 : (Cond.selects RX2 yX2_isOneOfAll yX2_isOneOfAll : Cond) ∈ wsA := iA_9 _ (List.mem_of_getElem? (i := 13) rfl)
theorem aw_206 : (Cond.code yX2_isOneOfAll cX2_isOneOfAll 2 (some .boolean) : Cond) ∈ wsA := iA_9 _ (List.mem_of_getElem? (i := 14) rfl)
theorem aw_207 : (Cond.methodLink RX2 58 yX2_readWord : Cond) ∈ wsA := iA_9 _ (List.mem_of_getElem? (i := 15) rfl)
theorem aw_208 : (Cond.instanceMethod yX2_readWord : Cond) ∈ wsA := iA_9 _ (List.mem_of_getElem? (i := 16) rfl)
theorem aw_209 : (Cond.selects RX2 yX2_readWord yX2_readWord : Cond) ∈ wsA := iA_9 _ (List.mem_of_getElem? (i := 17) rfl)
theorem aw_210 : (Cond.code yX2_readWord cX2_readWord 2 (some .boolean) : Cond) ∈ wsA := iA_9 _ (List.mem_of_getElem? (i := 18) rfl)
theorem aw_211 : (Cond.fieldLink RX2 101 "LastCallersWord$Plan" "words" "I" : Cond) ∈ wsA := iA_9 _ (List.mem_of_getElem? (i := 19) rfl)
theorem aw_212 : (Cond.fieldLink RX2 104 "LastCallersWord$Plan" "parts" "[I" : Cond) ∈ wsA := iA_9 _ (List.mem_of_getElem? (i := 20) rfl)
theorem aw_213 : (Cond.methodLink RX2 61 yX2_readLimit : Cond) ∈ wsA := iA_9 _ (List.mem_of_getElem? (i := 21) rfl)
theorem aw_214 : (Cond.instanceMethod yX2_readLimit : Cond) ∈ wsA := iA_9 _ (List.mem_of_getElem? (i := 22) rfl)
theorem aw_215 : (Cond.selects RX2 yX2_readLimit yX2_readLimit : Cond) ∈ wsA := iA_9 _ (List.mem_of_getElem? (i := 23) rfl)
theorem aw_216 : (Cond.code yX2_readLimit cX2_readLimit 2 (some .boolean) : Cond) ∈ wsA := iA_10 _ (List.mem_of_getElem? (i := 0) rfl)
theorem aw_217 : (Cond.fieldLink RX2 107 "LastCallersWord$Plan" "limit" "I" : Cond) ∈ wsA := iA_10 _ (List.mem_of_getElem? (i := 1) rfl)
theorem aw_218 : (Cond.methodLink RX7 93 yX7_layDraft : Cond) ∈ wsA := iA_10 _ (List.mem_of_getElem? (i := 2) rfl)
theorem aw_219 : (Cond.instanceMethod yX7_layDraft : Cond) ∈ wsA := iA_10 _ (List.mem_of_getElem? (i := 3) rfl)
theorem aw_220 : (Cond.selects RX7 yX7_layDraft yX7_layDraft : Cond) ∈ wsA := iA_10 _ (List.mem_of_getElem? (i := 4) rfl)
theorem aw_221 : (Cond.code yX7_layDraft cX7_layDraft 2 none : Cond) ∈ wsA := iA_10 _ (List.mem_of_getElem? (i := 5) rfl)
theorem aw_222 : (Cond.fieldLink RX7 106 "LastCallersWord$Plan" "doors" "I" : Cond) ∈ wsA := iA_10 _ (List.mem_of_getElem? (i := 6) rfl)
theorem aw_223 : (Cond.fieldLink RX7 144 "LastCallersWord$State" "knowers" "[I" : Cond) ∈ wsA := iA_10 _ (List.mem_of_getElem? (i := 7) rfl)
theorem aw_224 : (Cond.fieldLink RX7 255 "LastCallersWord$Plan" "callers" "[I" : Cond) ∈ wsA := iA_10 _ (List.mem_of_getElem? (i := 8) rfl)
theorem aw_225 : (Cond.methodLink RX7 248 yX1_copyFrom : Cond) ∈ wsA := iA_10 _ (List.mem_of_getElem? (i := 9) rfl)
theorem aw_226 : (Cond.instanceMethod yX1_copyFrom : Cond) ∈ wsA := iA_10 _ (List.mem_of_getElem? (i := 10) rfl)
theorem aw_227 : (Cond.selects RX1 yX1_copyFrom yX1_copyFrom : Cond) ∈ wsA := iA_10 _ (List.mem_of_getElem? (i := 11) rfl)
theorem aw_228 : (Cond.code yX1_copyFrom cX1_copyFrom 2 none : Cond) ∈ wsA := iA_10 _ (List.mem_of_getElem? (i := 12) rfl)
theorem aw_229 : (Cond.methodLink RX1 43 arraycopyName : Cond) ∈ wsA := iA_10 _ (List.mem_of_getElem? (i := 13) rfl)
theorem aw_230 : (Cond.native arraycopyName : Cond) ∈ wsA := iA_10 _ (List.mem_of_getElem? (i := 14) rfl)
theorem aw_231 : (Cond.static arraycopyName : Cond) ∈ wsA := iA_10 _ (List.mem_of_getElem? (i := 15) rfl)
theorem aw_232 : (Cond.initialized "java/lang/System" : Cond) ∈ wsA := iA_10 _ (List.mem_of_getElem? (i := 16) rfl)
theorem aw_233 : (Cond.methodLink RX7 252 yX5_begin : Cond) ∈ wsA := iA_10 _ (List.mem_of_getElem? (i := 17) rfl)
theorem aw_234 : (Cond.instanceMethod yX5_begin : Cond) ∈ wsA := iA_10 _ (List.mem_of_getElem? (i := 18) rfl)
theorem aw_235 : (Cond.selects RX5 yX5_begin yX5_begin : Cond) ∈ wsA := iA_10 _ (List.mem_of_getElem? (i := 19) rfl)
theorem aw_236 : (Cond.code yX5_begin cX5_begin 2 none : Cond) ∈ wsA := iA_10 _ (List.mem_of_getElem? (i := 20) rfl)
theorem aw_237 : (Cond.fieldLink RX5 28 "LastCallersWord$Plan" "likings" "[I" : Cond) ∈ wsA := iA_10 _ (List.mem_of_getElem? (i := 21) rfl)
theorem aw_238 : (Cond.methodLink RX5 31 arraycopyName : Cond) ∈ wsA := iA_10 _ (List.mem_of_getElem? (i := 22) rfl)
theorem aw_239 : (Cond.fieldLink RX5 37 "LastCallersWord$Plan" "callers" "[I" : Cond) ∈ wsA := iA_10 _ (List.mem_of_getElem? (i := 23) rfl)
theorem aw_240 : (Cond.methodLink RX5 38 yX5_forgiveAll : Cond) ∈ wsA := iA_11 _ (List.mem_of_getElem? (i := 0) rfl)
theorem aw_241 : (Cond.instanceMethod yX5_forgiveAll : Cond) ∈ wsA := iA_11 _ (List.mem_of_getElem? (i := 1) rfl)
theorem aw_242 : (Cond.selects RX5 yX5_forgiveAll yX5_forgiveAll : Cond) ∈ wsA := iA_11 _ (List.mem_of_getElem? (i := 2) rfl)
theorem aw_243 : (Cond.code yX5_forgiveAll cX5_forgiveAll 2 none : Cond) ∈ wsA := iA_11 _ (List.mem_of_getElem? (i := 3) rfl)
theorem aw_244 : (Cond.methodLink RX7 154 yX6_knowersByCall : Cond) ∈ wsA := iA_11 _ (List.mem_of_getElem? (i := 4) rfl)
theorem aw_245 : (Cond.instanceMethod yX6_knowersByCall : Cond) ∈ wsA := iA_11 _ (List.mem_of_getElem? (i := 5) rfl)
theorem aw_246 : (Cond.selects RX6 yX6_knowersByCall yX6_knowersByCall : Cond) ∈ wsA := iA_11 _ (List.mem_of_getElem? (i := 6) rfl)
theorem aw_247 : (Cond.code yX6_knowersByCall cX6_knowersByCall 2 (some .int) : Cond) ∈ wsA := iA_11 _ (List.mem_of_getElem? (i := 7) rfl)
theorem aw_248 : (Cond.methodLink RX6 25 yX6_listeners : Cond) ∈ wsA := iA_11 _ (List.mem_of_getElem? (i := 8) rfl)
theorem aw_249 : (Cond.instanceMethod yX6_listeners : Cond) ∈ wsA := iA_11 _ (List.mem_of_getElem? (i := 9) rfl)
theorem aw_250 : (Cond.selects RX6 yX6_listeners yX6_listeners : Cond) ∈ wsA := iA_11 _ (List.mem_of_getElem? (i := 10) rfl)
theorem aw_251 : (Cond.code yX6_listeners cX6_listeners 2 (some .int) : Cond) ∈ wsA := iA_11 _ (List.mem_of_getElem? (i := 11) rfl)
theorem aw_252 : (Cond.fieldLink RX6 19 "LastCallersWord$Plan" "persons" "I" : Cond) ∈ wsA := iA_11 _ (List.mem_of_getElem? (i := 12) rfl)
theorem aw_253 : (Cond.fieldLink RX6 29 "LastCallersWord$Plan" "kinds" "[I" : Cond) ∈ wsA := iA_11 _ (List.mem_of_getElem? (i := 13) rfl)
theorem aw_254 : (Cond.methodLink RX6 33 yX6_dearestOnes : Cond) ∈ wsA := iA_11 _ (List.mem_of_getElem? (i := 14) rfl)
theorem aw_255 : (Cond.instanceMethod yX6_dearestOnes : Cond) ∈ wsA := iA_11 _ (List.mem_of_getElem? (i := 15) rfl)
theorem aw_256 : (Cond.selects RX6 yX6_dearestOnes yX6_dearestOnes : Cond) ∈ wsA := iA_11 _ (List.mem_of_getElem? (i := 16) rfl)
theorem aw_257 : (Cond.code yX6_dearestOnes cX6_dearestOnes 5 (some .int) : Cond) ∈ wsA := iA_11 _ (List.mem_of_getElem? (i := 17) rfl)
theorem aw_258 : (Cond.methodLink RX6 40 yX6_everyone : Cond) ∈ wsA := iA_11 _ (List.mem_of_getElem? (i := 18) rfl)
theorem aw_259 : (Cond.instanceMethod yX6_everyone : Cond) ∈ wsA := iA_11 _ (List.mem_of_getElem? (i := 19) rfl)
theorem aw_260 : (Cond.selects RX6 yX6_everyone yX6_everyone : Cond) ∈ wsA := iA_11 _ (List.mem_of_getElem? (i := 20) rfl)
theorem aw_261 : (Cond.code yX6_everyone cX6_everyone 1 (some .int) : Cond) ∈ wsA := iA_11 _ (List.mem_of_getElem? (i := 21) rfl)
theorem aw_262 : (Cond.methodLink RX6 44 yX6_dearestOf : Cond) ∈ wsA := iA_11 _ (List.mem_of_getElem? (i := 22) rfl)
theorem aw_263 : (Cond.instanceMethod yX6_dearestOf : Cond) ∈ wsA := iA_11 _ (List.mem_of_getElem? (i := 23) rfl)
theorem aw_264 : (Cond.selects RX6 yX6_dearestOf yX6_dearestOf : Cond) ∈ wsA := iA_12 _ (List.mem_of_getElem? (i := 0) rfl)
theorem aw_265 : (Cond.code yX6_dearestOf cX6_dearestOf 7 (some .int) : Cond) ∈ wsA := iA_12 _ (List.mem_of_getElem? (i := 1) rfl)
theorem aw_266 : (Cond.fieldLink RX6 47 "LastCallersWord$State" "likings" "[I" : Cond) ∈ wsA := iA_12 _ (List.mem_of_getElem? (i := 2) rfl)
theorem aw_267 : (Cond.static yX7_has : Cond) ∈ wsA := iA_12 _ (List.mem_of_getElem? (i := 3) rfl)
theorem aw_268 : (Cond.code yX7_has cX7_has 2 (some .boolean) : Cond) ∈ wsA := iA_12 _ (List.mem_of_getElem? (i := 4) rfl)
theorem aw_269 : (Cond.methodLink RX6 37 yX6_likedOnes : Cond) ∈ wsA := iA_12 _ (List.mem_of_getElem? (i := 5) rfl)
theorem aw_270 : (Cond.instanceMethod yX6_likedOnes : Cond) ∈ wsA := iA_12 _ (List.mem_of_getElem? (i := 6) rfl)
theorem aw_271 : (Cond.selects RX6 yX6_likedOnes yX6_likedOnes : Cond) ∈ wsA := iA_12 _ (List.mem_of_getElem? (i := 7) rfl)
theorem aw_272 : (Cond.code yX6_likedOnes cX6_likedOnes 5 (some .int) : Cond) ∈ wsA := iA_12 _ (List.mem_of_getElem? (i := 8) rfl)
theorem aw_273 : (Cond.methodLink RX7 206 yX4_clear : Cond) ∈ wsA := iA_12 _ (List.mem_of_getElem? (i := 9) rfl)
theorem aw_274 : (Cond.instanceMethod yX4_clear : Cond) ∈ wsA := iA_12 _ (List.mem_of_getElem? (i := 10) rfl)
theorem aw_275 : (Cond.selects RX4 yX4_clear yX4_clear : Cond) ∈ wsA := iA_12 _ (List.mem_of_getElem? (i := 11) rfl)
theorem aw_276 : (Cond.code yX4_clear cX4_clear 1 none : Cond) ∈ wsA := iA_12 _ (List.mem_of_getElem? (i := 12) rfl)
theorem aw_277 : (Cond.methodLink RX7 247 yX3_clear : Cond) ∈ wsA := iA_12 _ (List.mem_of_getElem? (i := 13) rfl)
theorem aw_278 : (Cond.instanceMethod yX3_clear : Cond) ∈ wsA := iA_12 _ (List.mem_of_getElem? (i := 14) rfl)
theorem aw_279 : (Cond.selects RX3 yX3_clear yX3_clear : Cond) ∈ wsA := iA_12 _ (List.mem_of_getElem? (i := 15) rfl)
theorem aw_280 : (Cond.code yX3_clear cX3_clear 1 none : Cond) ∈ wsA := iA_12 _ (List.mem_of_getElem? (i := 16) rfl)
theorem aw_281 : (Cond.methodLink RX7 96 yX0_clear : Cond) ∈ wsA := iA_12 _ (List.mem_of_getElem? (i := 17) rfl)
theorem aw_282 : (Cond.instanceMethod yX0_clear : Cond) ∈ wsA := iA_12 _ (List.mem_of_getElem? (i := 18) rfl)
theorem aw_283 : (Cond.selects RX0 yX0_clear yX0_clear : Cond) ∈ wsA := iA_12 _ (List.mem_of_getElem? (i := 19) rfl)
theorem aw_284 : (Cond.code yX0_clear cX0_clear 1 none : Cond) ∈ wsA := iA_12 _ (List.mem_of_getElem? (i := 20) rfl)
theorem aw_285 : (Cond.instanceMethod yX8_init : Cond) ∈ wsA := iA_12 _ (List.mem_of_getElem? (i := 21) rfl)
theorem aw_286 : (Cond.code yX8_init cX8_init 1 none : Cond) ∈ wsA := iA_12 _ (List.mem_of_getElem? (i := 22) rfl)
theorem aw_287 : (Cond.methodLink RX8 1 objectInit : Cond) ∈ wsA := iA_12 _ (List.mem_of_getElem? (i := 23) rfl)
theorem aw_288 : (Cond.fieldLink RX8 7 "LastCallersWordModel" "kinds" "[I" : Cond) ∈ wsA := iA_13 _ (List.mem_of_getElem? (i := 0) rfl)
theorem aw_289 : (Cond.fieldLink RX8 13 "LastCallersWordModel" "hosts" "[I" : Cond) ∈ wsA := iA_13 _ (List.mem_of_getElem? (i := 1) rfl)
theorem aw_290 : (Cond.fieldLink RX8 16 "LastCallersWordModel" "parts" "[I" : Cond) ∈ wsA := iA_13 _ (List.mem_of_getElem? (i := 2) rfl)
theorem aw_291 : (Cond.fieldLink RX8 19 "LastCallersWordModel" "st" "[I" : Cond) ∈ wsA := iA_13 _ (List.mem_of_getElem? (i := 3) rfl)
theorem aw_292 : (Cond.fieldLink RX8 22 "LastCallersWordModel" "was" "[I" : Cond) ∈ wsA := iA_13 _ (List.mem_of_getElem? (i := 4) rfl)
theorem aw_293 : (Cond.fieldLink RX8 25 "LastCallersWordModel" "kept" "[I" : Cond) ∈ wsA := iA_13 _ (List.mem_of_getElem? (i := 5) rfl)
theorem aw_294 : (Cond.fieldLink RX8 28 "LastCallersWordModel" "seen" "[I" : Cond) ∈ wsA := iA_13 _ (List.mem_of_getElem? (i := 6) rfl)
theorem aw_295 : (Cond.fieldLink RX8 31 "LastCallersWordModel" "text" "[I" : Cond) ∈ wsA := iA_13 _ (List.mem_of_getElem? (i := 7) rfl)
theorem aw_296 : (Cond.fieldLink RX8 34 "LastCallersWordModel" "told" "[I" : Cond) ∈ wsA := iA_13 _ (List.mem_of_getElem? (i := 8) rfl)
theorem aw_297 : (Cond.fieldLink RX8 37 "LastCallersWordModel" "readKinds" "[I" : Cond) ∈ wsA := iA_13 _ (List.mem_of_getElem? (i := 9) rfl)
theorem aw_298 : (Cond.fieldLink RX8 40 "LastCallersWordModel" "readHosts" "[I" : Cond) ∈ wsA := iA_13 _ (List.mem_of_getElem? (i := 10) rfl)
theorem aw_299 : (Cond.fieldLink RX8 43 "LastCallersWordModel" "readParts" "[I" : Cond) ∈ wsA := iA_13 _ (List.mem_of_getElem? (i := 11) rfl)
theorem aw_300 : (Cond.fieldLink RX8 46 "LastCallersWordModel" "read" "[I" : Cond) ∈ wsA := iA_13 _ (List.mem_of_getElem? (i := 12) rfl)
theorem aw_301 : (Cond.fieldLink RX8 49 "LastCallersWordModel" "now" "[I" : Cond) ∈ wsA := iA_13 _ (List.mem_of_getElem? (i := 13) rfl)
theorem aw_302 : (Cond.fieldLink RX8 55 "LastCallersWordModel" "readPersons" "I" : Cond) ∈ wsA := iA_13 _ (List.mem_of_getElem? (i := 14) rfl)
theorem aw_303 : (Cond.fieldLink RX8 67 "LastCallersWordModel" "readWords" "I" : Cond) ∈ wsA := iA_13 _ (List.mem_of_getElem? (i := 15) rfl)
theorem aw_304 : (Cond.fieldLink RX8 70 "LastCallersWordModel" "readBars" "I" : Cond) ∈ wsA := iA_13 _ (List.mem_of_getElem? (i := 16) rfl)
theorem aw_305 : (Cond.methodLink RX8 52 yX8_clearTold : Cond) ∈ wsA := iA_13 _ (List.mem_of_getElem? (i := 17) rfl)
theorem aw_306 : (Cond.instanceMethod yX8_clearTold : Cond) ∈ wsA := iA_13 _ (List.mem_of_getElem? (i := 18) rfl)
theorem aw_307 : (Cond.selects RX8 yX8_clearTold yX8_clearTold : Cond) ∈ wsA := iA_13 _ (List.mem_of_getElem? (i := 19) rfl)
theorem aw_308 : (Cond.code yX8_clearTold cX8_clearTold 2 none : Cond) ∈ wsA := iA_13 _ (List.mem_of_getElem? (i := 20) rfl)
theorem aw_309 : (Cond.fieldLink RX8 106 "LastCallersWordModel" "isBegun" "Z" : Cond) ∈ wsA := iA_13 _ (List.mem_of_getElem? (i := 21) rfl)
theorem aw_310 : (Cond.fieldLink RX8 76 "LastCallersWordModel" "readTold" "I" : Cond) ∈ wsA := iA_13 _ (List.mem_of_getElem? (i := 22) rfl)
theorem aw_311 : (Cond.fieldLink RX8 79 "LastCallersWordModel" "readDoors" "I" : Cond) ∈ wsA := iA_13 _ (List.mem_of_getElem? (i := 23) rfl)
theorem aw_312 : (Cond.methodLink RX8 59 yX8_tellsPerson : Cond) ∈ wsA := iA_14 _ (List.mem_of_getElem? (i := 0) rfl)
theorem aw_313 : (Cond.instanceMethod yX8_tellsPerson : Cond) ∈ wsA := iA_14 _ (List.mem_of_getElem? (i := 1) rfl)
theorem aw_314 : (Cond.selects RX8 yX8_tellsPerson yX8_tellsPerson : Cond) ∈ wsA := iA_14 _ (List.mem_of_getElem? (i := 2) rfl)
theorem aw_315 : (Cond.code yX8_tellsPerson cX8_tellsPerson 8 none : Cond) ∈ wsA := iA_14 _ (List.mem_of_getElem? (i := 3) rfl)
theorem aw_316 : (Cond.methodLink RX8 63 yX8_tellsDoor : Cond) ∈ wsA := iA_14 _ (List.mem_of_getElem? (i := 4) rfl)
theorem aw_317 : (Cond.instanceMethod yX8_tellsDoor : Cond) ∈ wsA := iA_14 _ (List.mem_of_getElem? (i := 5) rfl)
theorem aw_318 : (Cond.selects RX8 yX8_tellsDoor yX8_tellsDoor : Cond) ∈ wsA := iA_14 _ (List.mem_of_getElem? (i := 6) rfl)
theorem aw_319 : (Cond.code yX8_tellsDoor cX8_tellsDoor 3 none : Cond) ∈ wsA := iA_14 _ (List.mem_of_getElem? (i := 7) rfl)
theorem aw_320 : (Cond.methodLink RX8 73 yX8_settles : Cond) ∈ wsA := iA_14 _ (List.mem_of_getElem? (i := 8) rfl)
theorem aw_321 : (Cond.instanceMethod yX8_settles : Cond) ∈ wsA := iA_14 _ (List.mem_of_getElem? (i := 9) rfl)
theorem aw_322 : (Cond.selects RX8 yX8_settles yX8_settles : Cond) ∈ wsA := iA_14 _ (List.mem_of_getElem? (i := 10) rfl)
theorem aw_323 : (Cond.code yX8_settles cX8_settles 2 none : Cond) ∈ wsA := iA_14 _ (List.mem_of_getElem? (i := 11) rfl)
theorem aw_324 : (Cond.fieldLink RX8 82 "LastCallersWordModel" "persons" "I" : Cond) ∈ wsA := iA_14 _ (List.mem_of_getElem? (i := 12) rfl)
theorem aw_325 : (Cond.fieldLink RX8 89 "LastCallersWordModel" "doors" "I" : Cond) ∈ wsA := iA_14 _ (List.mem_of_getElem? (i := 13) rfl)
theorem aw_326 : (Cond.fieldLink RX8 143 "LastCallersWordModel" "words" "I" : Cond) ∈ wsA := iA_14 _ (List.mem_of_getElem? (i := 14) rfl)
theorem aw_327 : (Cond.fieldLink RX8 146 "LastCallersWordModel" "bars" "I" : Cond) ∈ wsA := iA_14 _ (List.mem_of_getElem? (i := 15) rfl)
theorem aw_328 : (Cond.fieldLink RX8 152 "LastCallersWordModel" "acts" "I" : Cond) ∈ wsA := iA_14 _ (List.mem_of_getElem? (i := 16) rfl)
theorem aw_329 : (Cond.fieldLink RX8 155 "LastCallersWordModel" "keeps" "I" : Cond) ∈ wsA := iA_14 _ (List.mem_of_getElem? (i := 17) rfl)
theorem aw_330 : (Cond.fieldLink RX8 158 "LastCallersWordModel" "seens" "I" : Cond) ∈ wsA := iA_14 _ (List.mem_of_getElem? (i := 18) rfl)
theorem aw_331 : (Cond.methodLink RX8 139 yX8_copies : Cond) ∈ wsA := iA_14 _ (List.mem_of_getElem? (i := 19) rfl)
theorem aw_332 : (Cond.static yX8_copies : Cond) ∈ wsA := iA_14 _ (List.mem_of_getElem? (i := 20) rfl)
theorem aw_333 : (Cond.code yX8_copies cX8_copies 6 none : Cond) ∈ wsA := iA_14 _ (List.mem_of_getElem? (i := 21) rfl)
theorem aw_334 : (Cond.methodLink RX8 149 yX8_calls : Cond) ∈ wsA := iA_14 _ (List.mem_of_getElem? (i := 22) rfl)
theorem aw_335 : (Cond.instanceMethod yX8_calls : Cond) ∈ wsA := iA_14 _ (List.mem_of_getElem? (i := 23) rfl)
theorem aw_336 : (Cond.selects RX8 yX8_calls yX8_calls : Cond) ∈ wsA := iA_15 _ (List.mem_of_getElem? (i := 0) rfl)
theorem aw_337 : (Cond.code yX8_calls cX8_calls 3 none : Cond) ∈ wsA := iA_15 _ (List.mem_of_getElem? (i := 1) rfl)
theorem aw_338 : (Cond.methodLink RX8 173 yX8_tellsTo : Cond) ∈ wsA := iA_15 _ (List.mem_of_getElem? (i := 2) rfl)
theorem aw_339 : (Cond.instanceMethod yX8_tellsTo : Cond) ∈ wsA := iA_15 _ (List.mem_of_getElem? (i := 3) rfl)
theorem aw_340 : (Cond.selects RX8 yX8_tellsTo yX8_tellsTo : Cond) ∈ wsA := iA_15 _ (List.mem_of_getElem? (i := 4) rfl)
theorem aw_341 : (Cond.code yX8_tellsTo cX8_tellsTo 7 (some .int) : Cond) ∈ wsA := iA_15 _ (List.mem_of_getElem? (i := 5) rfl)
theorem aw_342 : (Cond.methodLink RX8 169 yX8_dearest : Cond) ∈ wsA := iA_15 _ (List.mem_of_getElem? (i := 6) rfl)
theorem aw_343 : (Cond.instanceMethod yX8_dearest : Cond) ∈ wsA := iA_15 _ (List.mem_of_getElem? (i := 7) rfl)
theorem aw_344 : (Cond.selects RX8 yX8_dearest yX8_dearest : Cond) ∈ wsA := iA_15 _ (List.mem_of_getElem? (i := 8) rfl)
theorem aw_345 : (Cond.code yX8_dearest cX8_dearest 7 (some .int) : Cond) ∈ wsA := iA_15 _ (List.mem_of_getElem? (i := 9) rfl)
theorem aw_346 : (Cond.methodLink RX8 161 yX8_has : Cond) ∈ wsA := iA_15 _ (List.mem_of_getElem? (i := 10) rfl)
theorem aw_347 : (Cond.static yX8_has : Cond) ∈ wsA := iA_15 _ (List.mem_of_getElem? (i := 11) rfl)
theorem aw_348 : (Cond.code yX8_has cX8_has 2 (some .boolean) : Cond) ∈ wsA := iA_15 _ (List.mem_of_getElem? (i := 12) rfl)
theorem aw_349 : (Cond.methodLink RX8 165 yX8_likingOf : Cond) ∈ wsA := iA_15 _ (List.mem_of_getElem? (i := 13) rfl)
theorem aw_350 : (Cond.instanceMethod yX8_likingOf : Cond) ∈ wsA := iA_15 _ (List.mem_of_getElem? (i := 14) rfl)
theorem aw_351 : (Cond.selects RX8 yX8_likingOf yX8_likingOf : Cond) ∈ wsA := iA_15 _ (List.mem_of_getElem? (i := 15) rfl)
theorem aw_352 : (Cond.code yX8_likingOf cX8_likingOf 3 (some .int) : Cond) ∈ wsA := iA_15 _ (List.mem_of_getElem? (i := 16) rfl)
theorem aw_353 : (Cond.instanceMethod yX7_write : Cond) ∈ wsA := iA_15 _ (List.mem_of_getElem? (i := 17) rfl)
theorem aw_354 : (Cond.selects RX7 yX7_write yX7_write : Cond) ∈ wsA := iA_15 _ (List.mem_of_getElem? (i := 18) rfl)
theorem aw_355 : (Cond.code yX7_write cX7_write 2 (some .int) : Cond) ∈ wsA := iA_15 _ (List.mem_of_getElem? (i := 19) rfl)
theorem aw_356 : (Cond.fieldLink RX7 99 "LastCallersWord$Letters" "length" "I" : Cond) ∈ wsA := iA_15 _ (List.mem_of_getElem? (i := 20) rfl)
theorem aw_357 : (Cond.instanceMethod yX8_write : Cond) ∈ wsA := iA_15 _ (List.mem_of_getElem? (i := 21) rfl)
theorem aw_358 : (Cond.selects RX8 yX8_write yX8_write : Cond) ∈ wsA := iA_15 _ (List.mem_of_getElem? (i := 22) rfl)
theorem aw_359 : (Cond.code yX8_write cX8_write 2 (some .int) : Cond) ∈ wsA := iA_15 _ (List.mem_of_getElem? (i := 23) rfl)
theorem aw_360 : (Cond.fieldLink RX8 92 "LastCallersWordModel" "texted" "I" : Cond) ∈ wsA := iA_16 _ (List.mem_of_getElem? (i := 0) rfl)
theorem aw_361 : (Cond.methodLink RX8 85 yX8_in : Cond) ∈ wsA := iA_16 _ (List.mem_of_getElem? (i := 1) rfl)
theorem aw_362 : (Cond.static yX8_in : Cond) ∈ wsA := iA_16 _ (List.mem_of_getElem? (i := 2) rfl)
theorem aw_363 : (Cond.code yX8_in cX8_in 3 (some .boolean) : Cond) ∈ wsA := iA_16 _ (List.mem_of_getElem? (i := 3) rfl)
theorem aw_364 : (Cond.instanceMethod yX7_wipe : Cond) ∈ wsA := iA_16 _ (List.mem_of_getElem? (i := 4) rfl)
theorem aw_365 : (Cond.selects RX7 yX7_wipe yX7_wipe : Cond) ∈ wsA := iA_16 _ (List.mem_of_getElem? (i := 5) rfl)
theorem aw_366 : (Cond.code yX7_wipe cX7_wipe 2 (some .int) : Cond) ∈ wsA := iA_16 _ (List.mem_of_getElem? (i := 6) rfl)
theorem aw_367 : (Cond.instanceMethod yX8_wipe : Cond) ∈ wsA := iA_16 _ (List.mem_of_getElem? (i := 7) rfl)
theorem aw_368 : (Cond.selects RX8 yX8_wipe yX8_wipe : Cond) ∈ wsA := iA_16 _ (List.mem_of_getElem? (i := 8) rfl)
theorem aw_369 : (Cond.code yX8_wipe cX8_wipe 2 (some .int) : Cond) ∈ wsA := iA_16 _ (List.mem_of_getElem? (i := 9) rfl)
theorem aw_370 : (Cond.instanceMethod yX7_fault : Cond) ∈ wsA := iA_16 _ (List.mem_of_getElem? (i := 10) rfl)
theorem aw_371 : (Cond.selects RX7 yX7_fault yX7_fault : Cond) ∈ wsA := iA_16 _ (List.mem_of_getElem? (i := 11) rfl)
theorem aw_372 : (Cond.code yX7_fault cX7_fault 1 (some .int) : Cond) ∈ wsA := iA_16 _ (List.mem_of_getElem? (i := 12) rfl)
theorem aw_373 : (Cond.instanceMethod yX8_fault : Cond) ∈ wsA := iA_16 _ (List.mem_of_getElem? (i := 13) rfl)
theorem aw_374 : (Cond.selects RX8 yX8_fault yX8_fault : Cond) ∈ wsA := iA_16 _ (List.mem_of_getElem? (i := 14) rfl)
theorem aw_375 : (Cond.code yX8_fault cX8_fault 2 (some .int) : Cond) ∈ wsA := iA_16 _ (List.mem_of_getElem? (i := 15) rfl)
theorem aw_376 : (Cond.fieldLink RX8 95 "LastCallersWordModel" "at" "I" : Cond) ∈ wsA := iA_16 _ (List.mem_of_getElem? (i := 16) rfl)
theorem aw_377 : (Cond.methodLink RX8 132 yX8_readItem : Cond) ∈ wsA := iA_16 _ (List.mem_of_getElem? (i := 17) rfl)
theorem aw_378 : (Cond.instanceMethod yX8_readItem : Cond) ∈ wsA := iA_16 _ (List.mem_of_getElem? (i := 18) rfl)
theorem aw_379 : (Cond.selects RX8 yX8_readItem yX8_readItem : Cond) ∈ wsA := iA_16 _ (List.mem_of_getElem? (i := 19) rfl)
theorem aw_380 : (Cond.code yX8_readItem cX8_readItem 2 (some .boolean) : Cond) ∈ wsA := iA_16 _ (List.mem_of_getElem? (i := 20) rfl)
theorem aw_381 : (Cond.methodLink RX8 98 yX8_letterAt : Cond) ∈ wsA := iA_16 _ (List.mem_of_getElem? (i := 21) rfl)
theorem aw_382 : (Cond.instanceMethod yX8_letterAt : Cond) ∈ wsA := iA_16 _ (List.mem_of_getElem? (i := 22) rfl)
theorem aw_383 : (Cond.selects RX8 yX8_letterAt yX8_letterAt : Cond) ∈ wsA := iA_16 _ (List.mem_of_getElem? (i := 23) rfl)
theorem aw_384 : (Cond.code yX8_letterAt cX8_letterAt 2 (some .int) : Cond) ∈ wsA := iA_17 _ (List.mem_of_getElem? (i := 0) rfl)
theorem aw_385 : (Cond.methodLink RX8 116 yX8_readPersonsOf : Cond) ∈ wsA := iA_17 _ (List.mem_of_getElem? (i := 1) rfl)
theorem aw_386 : (Cond.instanceMethod yX8_readPersonsOf : Cond) ∈ wsA := iA_17 _ (List.mem_of_getElem? (i := 2) rfl)
theorem aw_387 : (Cond.selects RX8 yX8_readPersonsOf yX8_readPersonsOf : Cond) ∈ wsA := iA_17 _ (List.mem_of_getElem? (i := 3) rfl)
theorem aw_388 : (Cond.code yX8_readPersonsOf cX8_readPersonsOf 2 (some .boolean) : Cond) ∈ wsA := iA_17 _ (List.mem_of_getElem? (i := 4) rfl)
theorem aw_389 : (Cond.methodLink RX8 110 yX8_readNumbers : Cond) ∈ wsA := iA_17 _ (List.mem_of_getElem? (i := 5) rfl)
theorem aw_390 : (Cond.instanceMethod yX8_readNumbers : Cond) ∈ wsA := iA_17 _ (List.mem_of_getElem? (i := 6) rfl)
theorem aw_391 : (Cond.selects RX8 yX8_readNumbers yX8_readNumbers : Cond) ∈ wsA := iA_17 _ (List.mem_of_getElem? (i := 7) rfl)
theorem aw_392 : (Cond.code yX8_readNumbers cX8_readNumbers 3 (some .boolean) : Cond) ∈ wsA := iA_17 _ (List.mem_of_getElem? (i := 8) rfl)
theorem aw_393 : (Cond.methodLink RX8 102 yX8_isFigure : Cond) ∈ wsA := iA_17 _ (List.mem_of_getElem? (i := 9) rfl)
theorem aw_394 : (Cond.static yX8_isFigure : Cond) ∈ wsA := iA_17 _ (List.mem_of_getElem? (i := 10) rfl)
theorem aw_395 : (Cond.code yX8_isFigure cX8_isFigure 1 (some .boolean) : Cond) ∈ wsA := iA_17 _ (List.mem_of_getElem? (i := 11) rfl)
theorem aw_396 : (Cond.methodLink RX8 113 yX8_isTold : Cond) ∈ wsA := iA_17 _ (List.mem_of_getElem? (i := 12) rfl)
theorem aw_397 : (Cond.instanceMethod yX8_isTold : Cond) ∈ wsA := iA_17 _ (List.mem_of_getElem? (i := 13) rfl)
theorem aw_398 : (Cond.selects RX8 yX8_isTold yX8_isTold : Cond) ∈ wsA := iA_17 _ (List.mem_of_getElem? (i := 14) rfl)
theorem aw_399 : (Cond.code yX8_isTold cX8_isTold 4 (some .boolean) : Cond) ∈ wsA := iA_17 _ (List.mem_of_getElem? (i := 15) rfl)
theorem aw_400 : (Cond.methodLink RX8 120 yX8_readPersonOf : Cond) ∈ wsA := iA_17 _ (List.mem_of_getElem? (i := 16) rfl)
theorem aw_401 : (Cond.instanceMethod yX8_readPersonOf : Cond) ∈ wsA := iA_17 _ (List.mem_of_getElem? (i := 17) rfl)
theorem aw_402 : (Cond.selects RX8 yX8_readPersonOf yX8_readPersonOf : Cond) ∈ wsA := iA_17 _ (List.mem_of_getElem? (i := 18) rfl)
theorem aw_403 : (Cond.code yX8_readPersonOf cX8_readPersonOf 2 (some .boolean) : Cond) ∈ wsA := iA_17 _ (List.mem_of_getElem? (i := 19) rfl)
theorem aw_404 : (Cond.methodLink RX8 123 yX8_readDoorOf : Cond) ∈ wsA := iA_17 _ (List.mem_of_getElem? (i := 20) rfl)
theorem aw_405 : (Cond.instanceMethod yX8_readDoorOf : Cond) ∈ wsA := iA_17 _ (List.mem_of_getElem? (i := 21) rfl)
theorem aw_406 : (Cond.selects RX8 yX8_readDoorOf yX8_readDoorOf : Cond) ∈ wsA := iA_17 _ (List.mem_of_getElem? (i := 22) rfl)
theorem aw_407 : (Cond.code yX8_readDoorOf cX8_readDoorOf 1 (some .boolean) : Cond) ∈ wsA := iA_17 _ (List.mem_of_getElem? (i := 23) rfl)
theorem aw_408 : (Cond.methodLink RX8 126 yX8_readWordOf : Cond) ∈ wsA := iA_18 _ (List.mem_of_getElem? (i := 0) rfl)
theorem aw_409 : (Cond.instanceMethod yX8_readWordOf : Cond) ∈ wsA := iA_18 _ (List.mem_of_getElem? (i := 1) rfl)
theorem aw_410 : (Cond.selects RX8 yX8_readWordOf yX8_readWordOf : Cond) ∈ wsA := iA_18 _ (List.mem_of_getElem? (i := 2) rfl)
theorem aw_411 : (Cond.code yX8_readWordOf cX8_readWordOf 1 (some .boolean) : Cond) ∈ wsA := iA_18 _ (List.mem_of_getElem? (i := 3) rfl)
theorem aw_412 : (Cond.methodLink RX8 129 yX8_readBarsOf : Cond) ∈ wsA := iA_18 _ (List.mem_of_getElem? (i := 4) rfl)
theorem aw_413 : (Cond.instanceMethod yX8_readBarsOf : Cond) ∈ wsA := iA_18 _ (List.mem_of_getElem? (i := 5) rfl)
theorem aw_414 : (Cond.selects RX8 yX8_readBarsOf yX8_readBarsOf : Cond) ∈ wsA := iA_18 _ (List.mem_of_getElem? (i := 6) rfl)
theorem aw_415 : (Cond.code yX8_readBarsOf cX8_readBarsOf 2 (some .boolean) : Cond) ∈ wsA := iA_18 _ (List.mem_of_getElem? (i := 7) rfl)
theorem aw_416 : (Cond.instanceMethod yX7_lay : Cond) ∈ wsA := iA_18 _ (List.mem_of_getElem? (i := 8) rfl)
theorem aw_417 : (Cond.selects RX7 yX7_lay yX7_lay : Cond) ∈ wsA := iA_18 _ (List.mem_of_getElem? (i := 9) rfl)
theorem aw_418 : (Cond.code yX7_lay cX7_lay 1 (some .int) : Cond) ∈ wsA := iA_18 _ (List.mem_of_getElem? (i := 10) rfl)
theorem aw_419 : (Cond.methodLink RX7 102 yX1_isWhole : Cond) ∈ wsA := iA_18 _ (List.mem_of_getElem? (i := 11) rfl)
theorem aw_420 : (Cond.instanceMethod yX1_isWhole : Cond) ∈ wsA := iA_18 _ (List.mem_of_getElem? (i := 12) rfl)
theorem aw_421 : (Cond.selects RX1 yX1_isWhole yX1_isWhole : Cond) ∈ wsA := iA_18 _ (List.mem_of_getElem? (i := 13) rfl)
theorem aw_422 : (Cond.code yX1_isWhole cX1_isWhole 1 (some .boolean) : Cond) ∈ wsA := iA_18 _ (List.mem_of_getElem? (i := 14) rfl)
theorem aw_423 : (Cond.instanceMethod yX8_lay : Cond) ∈ wsA := iA_18 _ (List.mem_of_getElem? (i := 15) rfl)
theorem aw_424 : (Cond.selects RX8 yX8_lay yX8_lay : Cond) ∈ wsA := iA_18 _ (List.mem_of_getElem? (i := 16) rfl)
theorem aw_425 : (Cond.code yX8_lay cX8_lay 1 (some .int) : Cond) ∈ wsA := iA_18 _ (List.mem_of_getElem? (i := 17) rfl)
theorem aw_426 : (Cond.methodLink RX8 135 yX8_fault : Cond) ∈ wsA := iA_18 _ (List.mem_of_getElem? (i := 18) rfl)
theorem aw_427 : (Cond.instanceMethod yX7_person : Cond) ∈ wsA := iA_18 _ (List.mem_of_getElem? (i := 19) rfl)
theorem aw_428 : (Cond.selects RX7 yX7_person yX7_person : Cond) ∈ wsA := iA_18 _ (List.mem_of_getElem? (i := 20) rfl)
theorem aw_429 : (Cond.code yX7_person cX7_person 3 (some .int) : Cond) ∈ wsA := iA_18 _ (List.mem_of_getElem? (i := 21) rfl)
theorem aw_430 : (Cond.fieldLink RX7 116 "LastCallersWord$Plan" "kinds" "[I" : Cond) ∈ wsA := iA_18 _ (List.mem_of_getElem? (i := 22) rfl)
theorem aw_431 : (Cond.methodLink RX7 109 yX7_isPerson : Cond) ∈ wsA := iA_18 _ (List.mem_of_getElem? (i := 23) rfl)
theorem aw_432 : (Cond.instanceMethod yX7_isPerson : Cond) ∈ wsA := iA_19 _ (List.mem_of_getElem? (i := 0) rfl)
theorem aw_433 : (Cond.selects RX7 yX7_isPerson yX7_isPerson : Cond) ∈ wsA := iA_19 _ (List.mem_of_getElem? (i := 1) rfl)
theorem aw_434 : (Cond.code yX7_isPerson cX7_isPerson 2 (some .boolean) : Cond) ∈ wsA := iA_19 _ (List.mem_of_getElem? (i := 2) rfl)
theorem aw_435 : (Cond.fieldLink RX7 198 "LastCallersWord$Plan" "persons" "I" : Cond) ∈ wsA := iA_19 _ (List.mem_of_getElem? (i := 3) rfl)
theorem aw_436 : (Cond.methodLink RX7 113 yX7_isPart : Cond) ∈ wsA := iA_19 _ (List.mem_of_getElem? (i := 4) rfl)
theorem aw_437 : (Cond.static yX7_isPart : Cond) ∈ wsA := iA_19 _ (List.mem_of_getElem? (i := 5) rfl)
theorem aw_438 : (Cond.code yX7_isPart cX7_isPart 1 (some .boolean) : Cond) ∈ wsA := iA_19 _ (List.mem_of_getElem? (i := 6) rfl)
theorem aw_439 : (Cond.methodLink RX7 119 yX6_listeners : Cond) ∈ wsA := iA_19 _ (List.mem_of_getElem? (i := 7) rfl)
theorem aw_440 : (Cond.methodLink RX7 123 yJ6_bitCount_0f7a4 : Cond) ∈ wsA := iA_19 _ (List.mem_of_getElem? (i := 8) rfl)
theorem aw_441 : (Cond.static yJ6_bitCount_0f7a4 : Cond) ∈ wsA := iA_19 _ (List.mem_of_getElem? (i := 9) rfl)
theorem aw_442 : (Cond.initialized RJ6 : Cond) ∈ wsA := iA_19 _ (List.mem_of_getElem? (i := 10) rfl)
theorem aw_443 : (Cond.code yJ6_bitCount_0f7a4 cJ6_bitCount_0f7a4 1 (some .int) : Cond) ∈ wsA := iA_19 _ (List.mem_of_getElem? (i := 11) rfl)
theorem aw_444 : (Cond.constant RJ6 265 (1431655765) : Cond) ∈ wsA := iA_19 _ (List.mem_of_getElem? (i := 12) rfl)
theorem aw_445 : (Cond.constant RJ6 266 (858993459) : Cond) ∈ wsA := iA_19 _ (List.mem_of_getElem? (i := 13) rfl)
theorem aw_446 : (Cond.constant RJ6 267 (252645135) : Cond) ∈ wsA := iA_19 _ (List.mem_of_getElem? (i := 14) rfl)
theorem aw_447 : (Cond.instanceMethod yX8_person : Cond) ∈ wsA := iA_19 _ (List.mem_of_getElem? (i := 15) rfl)
theorem aw_448 : (Cond.selects RX8 yX8_person yX8_person : Cond) ∈ wsA := iA_19 _ (List.mem_of_getElem? (i := 16) rfl)
theorem aw_449 : (Cond.code yX8_person cX8_person 3 (some .int) : Cond) ∈ wsA := iA_19 _ (List.mem_of_getElem? (i := 17) rfl)
theorem aw_450 : (Cond.methodLink RX8 183 yX8_isPerson : Cond) ∈ wsA := iA_19 _ (List.mem_of_getElem? (i := 18) rfl)
theorem aw_451 : (Cond.instanceMethod yX8_isPerson : Cond) ∈ wsA := iA_19 _ (List.mem_of_getElem? (i := 19) rfl)
theorem aw_452 : (Cond.selects RX8 yX8_isPerson yX8_isPerson : Cond) ∈ wsA := iA_19 _ (List.mem_of_getElem? (i := 20) rfl)
theorem aw_453 : (Cond.code yX8_isPerson cX8_isPerson 2 (some .boolean) : Cond) ∈ wsA := iA_19 _ (List.mem_of_getElem? (i := 21) rfl)
theorem aw_454 : (Cond.methodLink RX8 186 yX8_asItIs : Cond) ∈ wsA := iA_19 _ (List.mem_of_getElem? (i := 22) rfl)
theorem aw_455 : (Cond.instanceMethod yX8_asItIs : Cond) ∈ wsA := iA_19 _ (List.mem_of_getElem? (i := 23) rfl)
theorem aw_456 : (Cond.selects RX8 yX8_asItIs yX8_asItIs : Cond) ∈ wsA := iA_20 _ (List.mem_of_getElem? (i := 0) rfl)
theorem aw_457 : (Cond.code yX8_asItIs cX8_asItIs 1 none : Cond) ∈ wsA := iA_20 _ (List.mem_of_getElem? (i := 1) rfl)
theorem aw_458 : (Cond.methodLink RX8 189 yX8_bits : Cond) ∈ wsA := iA_20 _ (List.mem_of_getElem? (i := 2) rfl)
theorem aw_459 : (Cond.static yX8_bits : Cond) ∈ wsA := iA_20 _ (List.mem_of_getElem? (i := 3) rfl)
theorem aw_460 : (Cond.code yX8_bits cX8_bits 3 (some .int) : Cond) ∈ wsA := iA_20 _ (List.mem_of_getElem? (i := 4) rfl)
theorem aw_461 : (Cond.instanceMethod yX7_likes : Cond) ∈ wsA := iA_20 _ (List.mem_of_getElem? (i := 5) rfl)
theorem aw_462 : (Cond.selects RX7 yX7_likes yX7_likes : Cond) ∈ wsA := iA_20 _ (List.mem_of_getElem? (i := 6) rfl)
theorem aw_463 : (Cond.code yX7_likes cX7_likes 3 (some .int) : Cond) ∈ wsA := iA_20 _ (List.mem_of_getElem? (i := 7) rfl)
theorem aw_464 : (Cond.fieldLink RX7 128 "LastCallersWord$State" "likings" "[I" : Cond) ∈ wsA := iA_20 _ (List.mem_of_getElem? (i := 8) rfl)
theorem aw_465 : (Cond.methodLink RX7 131 yX7_pair : Cond) ∈ wsA := iA_20 _ (List.mem_of_getElem? (i := 9) rfl)
theorem aw_466 : (Cond.instanceMethod yX8_likes : Cond) ∈ wsA := iA_20 _ (List.mem_of_getElem? (i := 10) rfl)
theorem aw_467 : (Cond.selects RX8 yX8_likes yX8_likes : Cond) ∈ wsA := iA_20 _ (List.mem_of_getElem? (i := 11) rfl)
theorem aw_468 : (Cond.code yX8_likes cX8_likes 3 (some .int) : Cond) ∈ wsA := iA_20 _ (List.mem_of_getElem? (i := 12) rfl)
theorem aw_469 : (Cond.instanceMethod yX7_door : Cond) ∈ wsA := iA_20 _ (List.mem_of_getElem? (i := 13) rfl)
theorem aw_470 : (Cond.selects RX7 yX7_door yX7_door : Cond) ∈ wsA := iA_20 _ (List.mem_of_getElem? (i := 14) rfl)
theorem aw_471 : (Cond.code yX7_door cX7_door 3 (some .int) : Cond) ∈ wsA := iA_20 _ (List.mem_of_getElem? (i := 15) rfl)
theorem aw_472 : (Cond.fieldLink RX7 138 "LastCallersWord$Plan" "hosts" "[I" : Cond) ∈ wsA := iA_20 _ (List.mem_of_getElem? (i := 16) rfl)
theorem aw_473 : (Cond.fieldLink RX7 141 "LastCallersWord$State" "callers" "[I" : Cond) ∈ wsA := iA_20 _ (List.mem_of_getElem? (i := 17) rfl)
theorem aw_474 : (Cond.methodLink RX7 135 yX7_isDoor : Cond) ∈ wsA := iA_20 _ (List.mem_of_getElem? (i := 18) rfl)
theorem aw_475 : (Cond.instanceMethod yX7_isDoor : Cond) ∈ wsA := iA_20 _ (List.mem_of_getElem? (i := 19) rfl)
theorem aw_476 : (Cond.selects RX7 yX7_isDoor yX7_isDoor : Cond) ∈ wsA := iA_20 _ (List.mem_of_getElem? (i := 20) rfl)
theorem aw_477 : (Cond.code yX7_isDoor cX7_isDoor 2 (some .boolean) : Cond) ∈ wsA := iA_20 _ (List.mem_of_getElem? (i := 21) rfl)
theorem aw_478 : (Cond.methodLink RX7 147 yX7_barredAt : Cond) ∈ wsA := iA_20 _ (List.mem_of_getElem? (i := 22) rfl)
theorem aw_479 : (Cond.instanceMethod yX7_barredAt : Cond) ∈ wsA := iA_20 _ (List.mem_of_getElem? (i := 23) rfl)
theorem aw_480 : (Cond.selects RX7 yX7_barredAt yX7_barredAt : Cond) ∈ wsA := iA_21 _ (List.mem_of_getElem? (i := 0) rfl)
theorem aw_481 : (Cond.code yX7_barredAt cX7_barredAt 4 (some .int) : Cond) ∈ wsA := iA_21 _ (List.mem_of_getElem? (i := 1) rfl)
theorem aw_482 : (Cond.methodLink RX7 157 yX7_isBarred : Cond) ∈ wsA := iA_21 _ (List.mem_of_getElem? (i := 2) rfl)
theorem aw_483 : (Cond.instanceMethod yX7_isBarred : Cond) ∈ wsA := iA_21 _ (List.mem_of_getElem? (i := 3) rfl)
theorem aw_484 : (Cond.selects RX7 yX7_isBarred yX7_isBarred : Cond) ∈ wsA := iA_21 _ (List.mem_of_getElem? (i := 4) rfl)
theorem aw_485 : (Cond.code yX7_isBarred cX7_isBarred 3 (some .boolean) : Cond) ∈ wsA := iA_21 _ (List.mem_of_getElem? (i := 5) rfl)
theorem aw_486 : (Cond.fieldLink RX7 164 "LastCallersWord$State" "wrongs" "[I" : Cond) ∈ wsA := iA_21 _ (List.mem_of_getElem? (i := 6) rfl)
theorem aw_487 : (Cond.fieldLink RX7 229 "LastCallersWord$Plan" "limit" "I" : Cond) ∈ wsA := iA_21 _ (List.mem_of_getElem? (i := 7) rfl)
theorem aw_488 : (Cond.instanceMethod yX8_door : Cond) ∈ wsA := iA_21 _ (List.mem_of_getElem? (i := 8) rfl)
theorem aw_489 : (Cond.selects RX8 yX8_door yX8_door : Cond) ∈ wsA := iA_21 _ (List.mem_of_getElem? (i := 9) rfl)
theorem aw_490 : (Cond.code yX8_door cX8_door 3 (some .int) : Cond) ∈ wsA := iA_21 _ (List.mem_of_getElem? (i := 10) rfl)
theorem aw_491 : (Cond.methodLink RX8 192 yX8_isDoor : Cond) ∈ wsA := iA_21 _ (List.mem_of_getElem? (i := 11) rfl)
theorem aw_492 : (Cond.instanceMethod yX8_isDoor : Cond) ∈ wsA := iA_21 _ (List.mem_of_getElem? (i := 12) rfl)
theorem aw_493 : (Cond.selects RX8 yX8_isDoor yX8_isDoor : Cond) ∈ wsA := iA_21 _ (List.mem_of_getElem? (i := 13) rfl)
theorem aw_494 : (Cond.code yX8_isDoor cX8_isDoor 2 (some .boolean) : Cond) ∈ wsA := iA_21 _ (List.mem_of_getElem? (i := 14) rfl)
theorem aw_495 : (Cond.methodLink RX8 195 yX8_barredAt : Cond) ∈ wsA := iA_21 _ (List.mem_of_getElem? (i := 15) rfl)
theorem aw_496 : (Cond.instanceMethod yX8_barredAt : Cond) ∈ wsA := iA_21 _ (List.mem_of_getElem? (i := 16) rfl)
theorem aw_497 : (Cond.selects RX8 yX8_barredAt yX8_barredAt : Cond) ∈ wsA := iA_21 _ (List.mem_of_getElem? (i := 17) rfl)
theorem aw_498 : (Cond.code yX8_barredAt cX8_barredAt 4 (some .int) : Cond) ∈ wsA := iA_21 _ (List.mem_of_getElem? (i := 18) rfl)
theorem aw_499 : (Cond.instanceMethod yX7_call : Cond) ∈ wsA := iA_21 _ (List.mem_of_getElem? (i := 19) rfl)
theorem aw_500 : (Cond.selects RX7 yX7_call yX7_call : Cond) ∈ wsA := iA_21 _ (List.mem_of_getElem? (i := 20) rfl)
theorem aw_501 : (Cond.code yX7_call cX7_call 3 (some .int) : Cond) ∈ wsA := iA_21 _ (List.mem_of_getElem? (i := 21) rfl)
theorem aw_502 : (Cond.methodLink RX7 150 yX3_put : Cond) ∈ wsA := iA_21 _ (List.mem_of_getElem? (i := 22) rfl)
theorem aw_503 : (Cond.instanceMethod yX3_put : Cond) ∈ wsA := iA_21 _ (List.mem_of_getElem? (i := 23) rfl)
theorem aw_504 : (Cond.selects RX3 yX3_put yX3_put : Cond) ∈ wsA := iA_22 _ (List.mem_of_getElem? (i := 0) rfl)
theorem aw_505 : (Cond.code yX3_put cX3_put 2 none : Cond) ∈ wsA := iA_22 _ (List.mem_of_getElem? (i := 1) rfl)
theorem aw_506 : (Cond.methodLink RX3 26 yX3_dropOldest : Cond) ∈ wsA := iA_22 _ (List.mem_of_getElem? (i := 2) rfl)
theorem aw_507 : (Cond.instanceMethod yX3_dropOldest : Cond) ∈ wsA := iA_22 _ (List.mem_of_getElem? (i := 3) rfl)
theorem aw_508 : (Cond.selects RX3 yX3_dropOldest yX3_dropOldest : Cond) ∈ wsA := iA_22 _ (List.mem_of_getElem? (i := 4) rfl)
theorem aw_509 : (Cond.code yX3_dropOldest cX3_dropOldest 3 none : Cond) ∈ wsA := iA_22 _ (List.mem_of_getElem? (i := 5) rfl)
theorem aw_510 : (Cond.methodLink RX3 29 yX5_copyFrom : Cond) ∈ wsA := iA_22 _ (List.mem_of_getElem? (i := 6) rfl)
theorem aw_511 : (Cond.instanceMethod yX5_copyFrom : Cond) ∈ wsA := iA_22 _ (List.mem_of_getElem? (i := 7) rfl)
theorem aw_512 : (Cond.selects RX5 yX5_copyFrom yX5_copyFrom : Cond) ∈ wsA := iA_22 _ (List.mem_of_getElem? (i := 8) rfl)
theorem aw_513 : (Cond.code yX5_copyFrom cX5_copyFrom 2 none : Cond) ∈ wsA := iA_22 _ (List.mem_of_getElem? (i := 9) rfl)
theorem aw_514 : (Cond.instanceMethod yX8_call : Cond) ∈ wsA := iA_22 _ (List.mem_of_getElem? (i := 10) rfl)
theorem aw_515 : (Cond.selects RX8 yX8_call yX8_call : Cond) ∈ wsA := iA_22 _ (List.mem_of_getElem? (i := 11) rfl)
theorem aw_516 : (Cond.code yX8_call cX8_call 3 (some .int) : Cond) ∈ wsA := iA_22 _ (List.mem_of_getElem? (i := 12) rfl)
theorem aw_517 : (Cond.methodLink RX8 198 yX8_remembers : Cond) ∈ wsA := iA_22 _ (List.mem_of_getElem? (i := 13) rfl)
theorem aw_518 : (Cond.instanceMethod yX8_remembers : Cond) ∈ wsA := iA_22 _ (List.mem_of_getElem? (i := 14) rfl)
theorem aw_519 : (Cond.selects RX8 yX8_remembers yX8_remembers : Cond) ∈ wsA := iA_22 _ (List.mem_of_getElem? (i := 15) rfl)
theorem aw_520 : (Cond.code yX8_remembers cX8_remembers 2 none : Cond) ∈ wsA := iA_22 _ (List.mem_of_getElem? (i := 16) rfl)
theorem aw_521 : (Cond.instanceMethod yX7_tries : Cond) ∈ wsA := iA_22 _ (List.mem_of_getElem? (i := 17) rfl)
theorem aw_522 : (Cond.selects RX7 yX7_tries yX7_tries : Cond) ∈ wsA := iA_22 _ (List.mem_of_getElem? (i := 18) rfl)
theorem aw_523 : (Cond.code yX7_tries cX7_tries 3 (some .int) : Cond) ∈ wsA := iA_22 _ (List.mem_of_getElem? (i := 19) rfl)
theorem aw_524 : (Cond.methodLink RX7 161 yX7_has : Cond) ∈ wsA := iA_22 _ (List.mem_of_getElem? (i := 20) rfl)
theorem aw_525 : (Cond.instanceMethod yX8_tries : Cond) ∈ wsA := iA_22 _ (List.mem_of_getElem? (i := 21) rfl)
theorem aw_526 : (Cond.selects RX8 yX8_tries yX8_tries : Cond) ∈ wsA := iA_22 _ (List.mem_of_getElem? (i := 22) rfl)
theorem aw_527 : (Cond.code yX8_tries cX8_tries 3 (some .int) : Cond) ∈ wsA := iA_22 _ (List.mem_of_getElem? (i := 23) rfl)
theorem aw_528 : (Cond.instanceMethod yX7_day : Cond) ∈ wsA := iA_23 _ (List.mem_of_getElem? (i := 0) rfl)
theorem aw_529 : (Cond.selects RX7 yX7_day yX7_day : Cond) ∈ wsA := iA_23 _ (List.mem_of_getElem? (i := 1) rfl)
theorem aw_530 : (Cond.code yX7_day cX7_day 2 (some .int) : Cond) ∈ wsA := iA_23 _ (List.mem_of_getElem? (i := 2) rfl)
theorem aw_531 : (Cond.fieldLink RX7 173 "LastCallersWord$State" "days" "I" : Cond) ∈ wsA := iA_23 _ (List.mem_of_getElem? (i := 3) rfl)
theorem aw_532 : (Cond.methodLink RX7 167 yX6_afterDay : Cond) ∈ wsA := iA_23 _ (List.mem_of_getElem? (i := 4) rfl)
theorem aw_533 : (Cond.instanceMethod yX6_afterDay : Cond) ∈ wsA := iA_23 _ (List.mem_of_getElem? (i := 5) rfl)
theorem aw_534 : (Cond.selects RX6 yX6_afterDay yX6_afterDay : Cond) ∈ wsA := iA_23 _ (List.mem_of_getElem? (i := 6) rfl)
theorem aw_535 : (Cond.code yX6_afterDay cX6_afterDay 4 (some .int) : Cond) ∈ wsA := iA_23 _ (List.mem_of_getElem? (i := 7) rfl)
theorem aw_536 : (Cond.methodLink RX7 170 yX5_forgiveAll : Cond) ∈ wsA := iA_23 _ (List.mem_of_getElem? (i := 8) rfl)
theorem aw_537 : (Cond.instanceMethod yX8_day : Cond) ∈ wsA := iA_23 _ (List.mem_of_getElem? (i := 9) rfl)
theorem aw_538 : (Cond.selects RX8 yX8_day yX8_day : Cond) ∈ wsA := iA_23 _ (List.mem_of_getElem? (i := 10) rfl)
theorem aw_539 : (Cond.code yX8_day cX8_day 1 (some .int) : Cond) ∈ wsA := iA_23 _ (List.mem_of_getElem? (i := 11) rfl)
theorem aw_540 : (Cond.methodLink RX8 201 yX8_goes : Cond) ∈ wsA := iA_23 _ (List.mem_of_getElem? (i := 12) rfl)
theorem aw_541 : (Cond.instanceMethod yX8_goes : Cond) ∈ wsA := iA_23 _ (List.mem_of_getElem? (i := 13) rfl)
theorem aw_542 : (Cond.selects RX8 yX8_goes yX8_goes : Cond) ∈ wsA := iA_23 _ (List.mem_of_getElem? (i := 14) rfl)
theorem aw_543 : (Cond.code yX8_goes cX8_goes 2 none : Cond) ∈ wsA := iA_23 _ (List.mem_of_getElem? (i := 15) rfl)
theorem aw_544 : (Cond.methodLink RX8 176 yX8_dayAt : Cond) ∈ wsA := iA_23 _ (List.mem_of_getElem? (i := 16) rfl)
theorem aw_545 : (Cond.instanceMethod yX8_dayAt : Cond) ∈ wsA := iA_23 _ (List.mem_of_getElem? (i := 17) rfl)
theorem aw_546 : (Cond.selects RX8 yX8_dayAt yX8_dayAt : Cond) ∈ wsA := iA_23 _ (List.mem_of_getElem? (i := 18) rfl)
theorem aw_547 : (Cond.code yX8_dayAt cX8_dayAt 6 none : Cond) ∈ wsA := iA_23 _ (List.mem_of_getElem? (i := 19) rfl)
theorem aw_548 : (Cond.instanceMethod yX7_alter : Cond) ∈ wsA := iA_23 _ (List.mem_of_getElem? (i := 20) rfl)
theorem aw_549 : (Cond.selects RX7 yX7_alter yX7_alter : Cond) ∈ wsA := iA_23 _ (List.mem_of_getElem? (i := 21) rfl)
theorem aw_550 : (Cond.code yX7_alter cX7_alter 5 (some .int) : Cond) ∈ wsA := iA_23 _ (List.mem_of_getElem? (i := 22) rfl)
theorem aw_551 : (Cond.instanceMethod yX8_alter : Cond) ∈ wsA := iA_23 _ (List.mem_of_getElem? (i := 23) rfl)
theorem aw_552 : (Cond.selects RX8 yX8_alter yX8_alter : Cond) ∈ wsA := iA_24 _ (List.mem_of_getElem? (i := 0) rfl)
theorem aw_553 : (Cond.code yX8_alter cX8_alter 5 (some .int) : Cond) ∈ wsA := iA_24 _ (List.mem_of_getElem? (i := 1) rfl)
theorem aw_554 : (Cond.instanceMethod yX7_undo : Cond) ∈ wsA := iA_24 _ (List.mem_of_getElem? (i := 2) rfl)
theorem aw_555 : (Cond.selects RX7 yX7_undo yX7_undo : Cond) ∈ wsA := iA_24 _ (List.mem_of_getElem? (i := 3) rfl)
theorem aw_556 : (Cond.code yX7_undo cX7_undo 1 (some .int) : Cond) ∈ wsA := iA_24 _ (List.mem_of_getElem? (i := 4) rfl)
theorem aw_557 : (Cond.fieldLink RX7 176 "LastCallersWord$Shelf" "size" "I" : Cond) ∈ wsA := iA_24 _ (List.mem_of_getElem? (i := 5) rfl)
theorem aw_558 : (Cond.methodLink RX7 179 yX3_takeLatestInto : Cond) ∈ wsA := iA_24 _ (List.mem_of_getElem? (i := 6) rfl)
theorem aw_559 : (Cond.instanceMethod yX3_takeLatestInto : Cond) ∈ wsA := iA_24 _ (List.mem_of_getElem? (i := 7) rfl)
theorem aw_560 : (Cond.selects RX3 yX3_takeLatestInto yX3_takeLatestInto : Cond) ∈ wsA := iA_24 _ (List.mem_of_getElem? (i := 8) rfl)
theorem aw_561 : (Cond.code yX3_takeLatestInto cX3_takeLatestInto 2 none : Cond) ∈ wsA := iA_24 _ (List.mem_of_getElem? (i := 9) rfl)
theorem aw_562 : (Cond.instanceMethod yX8_undo : Cond) ∈ wsA := iA_24 _ (List.mem_of_getElem? (i := 10) rfl)
theorem aw_563 : (Cond.selects RX8 yX8_undo yX8_undo : Cond) ∈ wsA := iA_24 _ (List.mem_of_getElem? (i := 11) rfl)
theorem aw_564 : (Cond.code yX8_undo cX8_undo 1 (some .int) : Cond) ∈ wsA := iA_24 _ (List.mem_of_getElem? (i := 12) rfl)
theorem aw_565 : (Cond.instanceMethod yX7_shutOut : Cond) ∈ wsA := iA_24 _ (List.mem_of_getElem? (i := 13) rfl)
theorem aw_566 : (Cond.selects RX7 yX7_shutOut yX7_shutOut : Cond) ∈ wsA := iA_24 _ (List.mem_of_getElem? (i := 14) rfl)
theorem aw_567 : (Cond.code yX7_shutOut cX7_shutOut 1 (some .int) : Cond) ∈ wsA := iA_24 _ (List.mem_of_getElem? (i := 15) rfl)
theorem aw_568 : (Cond.methodLink RX7 182 yX7_shutOutBy : Cond) ∈ wsA := iA_24 _ (List.mem_of_getElem? (i := 16) rfl)
theorem aw_569 : (Cond.instanceMethod yX7_shutOutBy : Cond) ∈ wsA := iA_24 _ (List.mem_of_getElem? (i := 17) rfl)
theorem aw_570 : (Cond.selects RX7 yX7_shutOutBy yX7_shutOutBy : Cond) ∈ wsA := iA_24 _ (List.mem_of_getElem? (i := 18) rfl)
theorem aw_571 : (Cond.code yX7_shutOutBy cX7_shutOutBy 4 (some .int) : Cond) ∈ wsA := iA_24 _ (List.mem_of_getElem? (i := 19) rfl)
theorem aw_572 : (Cond.instanceMethod yX8_shutOut : Cond) ∈ wsA := iA_24 _ (List.mem_of_getElem? (i := 20) rfl)
theorem aw_573 : (Cond.selects RX8 yX8_shutOut yX8_shutOut : Cond) ∈ wsA := iA_24 _ (List.mem_of_getElem? (i := 21) rfl)
theorem aw_574 : (Cond.code yX8_shutOut cX8_shutOut 1 (some .int) : Cond) ∈ wsA := iA_24 _ (List.mem_of_getElem? (i := 22) rfl)
theorem aw_575 : (Cond.methodLink RX8 204 yX8_shutOutNow : Cond) ∈ wsA := iA_24 _ (List.mem_of_getElem? (i := 23) rfl)
theorem aw_576 : (Cond.instanceMethod yX8_shutOutNow : Cond) ∈ wsA := iA_25 _ (List.mem_of_getElem? (i := 0) rfl)
theorem aw_577 : (Cond.selects RX8 yX8_shutOutNow yX8_shutOutNow : Cond) ∈ wsA := iA_25 _ (List.mem_of_getElem? (i := 1) rfl)
theorem aw_578 : (Cond.code yX8_shutOutNow cX8_shutOutNow 3 (some .int) : Cond) ∈ wsA := iA_25 _ (List.mem_of_getElem? (i := 2) rfl)
theorem aw_579 : (Cond.methodLink RX8 180 yX8_isShutOut : Cond) ∈ wsA := iA_25 _ (List.mem_of_getElem? (i := 3) rfl)
theorem aw_580 : (Cond.instanceMethod yX8_isShutOut : Cond) ∈ wsA := iA_25 _ (List.mem_of_getElem? (i := 4) rfl)
theorem aw_581 : (Cond.selects RX8 yX8_isShutOut yX8_isShutOut : Cond) ∈ wsA := iA_25 _ (List.mem_of_getElem? (i := 5) rfl)
theorem aw_582 : (Cond.code yX8_isShutOut cX8_isShutOut 2 (some .boolean) : Cond) ∈ wsA := iA_25 _ (List.mem_of_getElem? (i := 6) rfl)
theorem aw_583 : (Cond.instanceMethod yX7_knowsBy : Cond) ∈ wsA := iA_25 _ (List.mem_of_getElem? (i := 7) rfl)
theorem aw_584 : (Cond.selects RX7 yX7_knowsBy yX7_knowsBy : Cond) ∈ wsA := iA_25 _ (List.mem_of_getElem? (i := 8) rfl)
theorem aw_585 : (Cond.code yX7_knowsBy cX7_knowsBy 3 (some .int) : Cond) ∈ wsA := iA_25 _ (List.mem_of_getElem? (i := 9) rfl)
theorem aw_586 : (Cond.methodLink RX7 186 yX6_afterDays : Cond) ∈ wsA := iA_25 _ (List.mem_of_getElem? (i := 10) rfl)
theorem aw_587 : (Cond.instanceMethod yX6_afterDays : Cond) ∈ wsA := iA_25 _ (List.mem_of_getElem? (i := 11) rfl)
theorem aw_588 : (Cond.selects RX6 yX6_afterDays yX6_afterDays : Cond) ∈ wsA := iA_25 _ (List.mem_of_getElem? (i := 12) rfl)
theorem aw_589 : (Cond.code yX6_afterDays cX6_afterDays 5 (some .int) : Cond) ∈ wsA := iA_25 _ (List.mem_of_getElem? (i := 13) rfl)
theorem aw_590 : (Cond.methodLink RX6 59 yX6_afterDay : Cond) ∈ wsA := iA_25 _ (List.mem_of_getElem? (i := 14) rfl)
theorem aw_591 : (Cond.instanceMethod yX8_knowsBy : Cond) ∈ wsA := iA_25 _ (List.mem_of_getElem? (i := 15) rfl)
theorem aw_592 : (Cond.selects RX8 yX8_knowsBy yX8_knowsBy : Cond) ∈ wsA := iA_25 _ (List.mem_of_getElem? (i := 16) rfl)
theorem aw_593 : (Cond.code yX8_knowsBy cX8_knowsBy 3 (some .int) : Cond) ∈ wsA := iA_25 _ (List.mem_of_getElem? (i := 17) rfl)
theorem aw_594 : (Cond.methodLink RX8 207 yX8_knownBehind : Cond) ∈ wsA := iA_25 _ (List.mem_of_getElem? (i := 18) rfl)
theorem aw_595 : (Cond.instanceMethod yX8_knownBehind : Cond) ∈ wsA := iA_25 _ (List.mem_of_getElem? (i := 19) rfl)
theorem aw_596 : (Cond.selects RX8 yX8_knownBehind yX8_knownBehind : Cond) ∈ wsA := iA_25 _ (List.mem_of_getElem? (i := 20) rfl)
theorem aw_597 : (Cond.code yX8_knownBehind cX8_knownBehind 4 (some .int) : Cond) ∈ wsA := iA_25 _ (List.mem_of_getElem? (i := 21) rfl)
theorem aw_598 : (Cond.instanceMethod yX7_when : Cond) ∈ wsA := iA_25 _ (List.mem_of_getElem? (i := 22) rfl)
theorem aw_599 : (Cond.selects RX7 yX7_when yX7_when : Cond) ∈ wsA := iA_25 _ (List.mem_of_getElem? (i := 23) rfl)
theorem aw_600 : (Cond.code yX7_when cX7_when 5 (some .int) : Cond) ∈ wsA := iA_26 _ (List.mem_of_getElem? (i := 0) rfl)
theorem aw_601 : (Cond.instanceMethod yX8_when : Cond) ∈ wsA := iA_26 _ (List.mem_of_getElem? (i := 1) rfl)
theorem aw_602 : (Cond.selects RX8 yX8_when yX8_when : Cond) ∈ wsA := iA_26 _ (List.mem_of_getElem? (i := 2) rfl)
theorem aw_603 : (Cond.code yX8_when cX8_when 4 (some .int) : Cond) ∈ wsA := iA_26 _ (List.mem_of_getElem? (i := 3) rfl)
theorem aw_604 : (Cond.instanceMethod yX7_lets : Cond) ∈ wsA := iA_26 _ (List.mem_of_getElem? (i := 4) rfl)
theorem aw_605 : (Cond.selects RX7 yX7_lets yX7_lets : Cond) ∈ wsA := iA_26 _ (List.mem_of_getElem? (i := 5) rfl)
theorem aw_606 : (Cond.code yX7_lets cX7_lets 3 (some .int) : Cond) ∈ wsA := iA_26 _ (List.mem_of_getElem? (i := 6) rfl)
theorem aw_607 : (Cond.methodLink RX7 189 yX7_callersWhoReach : Cond) ∈ wsA := iA_26 _ (List.mem_of_getElem? (i := 7) rfl)
theorem aw_608 : (Cond.instanceMethod yX7_callersWhoReach : Cond) ∈ wsA := iA_26 _ (List.mem_of_getElem? (i := 8) rfl)
theorem aw_609 : (Cond.selects RX7 yX7_callersWhoReach yX7_callersWhoReach : Cond) ∈ wsA := iA_26 _ (List.mem_of_getElem? (i := 9) rfl)
theorem aw_610 : (Cond.code yX7_callersWhoReach cX7_callersWhoReach 5 (some .int) : Cond) ∈ wsA := iA_26 _ (List.mem_of_getElem? (i := 10) rfl)
theorem aw_611 : (Cond.instanceMethod yX8_lets : Cond) ∈ wsA := iA_26 _ (List.mem_of_getElem? (i := 11) rfl)
theorem aw_612 : (Cond.selects RX8 yX8_lets yX8_lets : Cond) ∈ wsA := iA_26 _ (List.mem_of_getElem? (i := 12) rfl)
theorem aw_613 : (Cond.code yX8_lets cX8_lets 3 (some .int) : Cond) ∈ wsA := iA_26 _ (List.mem_of_getElem? (i := 13) rfl)
theorem aw_614 : (Cond.methodLink RX8 210 yX8_letsIn : Cond) ∈ wsA := iA_26 _ (List.mem_of_getElem? (i := 14) rfl)
theorem aw_615 : (Cond.instanceMethod yX8_letsIn : Cond) ∈ wsA := iA_26 _ (List.mem_of_getElem? (i := 15) rfl)
theorem aw_616 : (Cond.selects RX8 yX8_letsIn yX8_letsIn : Cond) ∈ wsA := iA_26 _ (List.mem_of_getElem? (i := 16) rfl)
theorem aw_617 : (Cond.code yX8_letsIn cX8_letsIn 6 (some .int) : Cond) ∈ wsA := iA_26 _ (List.mem_of_getElem? (i := 17) rfl)
theorem aw_618 : (Cond.instanceMethod yX7_keeps : Cond) ∈ wsA := iA_26 _ (List.mem_of_getElem? (i := 18) rfl)
theorem aw_619 : (Cond.selects RX7 yX7_keeps yX7_keeps : Cond) ∈ wsA := iA_26 _ (List.mem_of_getElem? (i := 19) rfl)
theorem aw_620 : (Cond.code yX7_keeps cX7_keeps 4 (some .int) : Cond) ∈ wsA := iA_26 _ (List.mem_of_getElem? (i := 20) rfl)
theorem aw_621 : (Cond.methodLink RX7 192 yX6_everyone : Cond) ∈ wsA := iA_26 _ (List.mem_of_getElem? (i := 21) rfl)
theorem aw_622 : (Cond.instanceMethod yX8_keeps : Cond) ∈ wsA := iA_26 _ (List.mem_of_getElem? (i := 22) rfl)
theorem aw_623 : (Cond.selects RX8 yX8_keeps yX8_keeps : Cond) ∈ wsA := iA_26 _ (List.mem_of_getElem? (i := 23) rfl)
theorem aw_624 : (Cond.code yX8_keeps cX8_keeps 4 (some .int) : Cond) ∈ wsA := iA_27 _ (List.mem_of_getElem? (i := 0) rfl)
theorem aw_625 : (Cond.instanceMethod yX7_allIn : Cond) ∈ wsA := iA_27 _ (List.mem_of_getElem? (i := 1) rfl)
theorem aw_626 : (Cond.selects RX7 yX7_allIn yX7_allIn : Cond) ∈ wsA := iA_27 _ (List.mem_of_getElem? (i := 2) rfl)
theorem aw_627 : (Cond.code yX7_allIn cX7_allIn 2 (some .int) : Cond) ∈ wsA := iA_27 _ (List.mem_of_getElem? (i := 3) rfl)
theorem aw_628 : (Cond.methodLink RX7 195 yX7_lowest : Cond) ∈ wsA := iA_27 _ (List.mem_of_getElem? (i := 4) rfl)
theorem aw_629 : (Cond.static yX7_lowest : Cond) ∈ wsA := iA_27 _ (List.mem_of_getElem? (i := 5) rfl)
theorem aw_630 : (Cond.code yX7_lowest cX7_lowest 1 (some .int) : Cond) ∈ wsA := iA_27 _ (List.mem_of_getElem? (i := 6) rfl)
theorem aw_631 : (Cond.methodLink RX7 273 yJ6_numberOfTrailingZeros_0f7a4 : Cond) ∈ wsA := iA_27 _ (List.mem_of_getElem? (i := 7) rfl)
theorem aw_632 : (Cond.static yJ6_numberOfTrailingZeros_0f7a4 : Cond) ∈ wsA := iA_27 _ (List.mem_of_getElem? (i := 8) rfl)
theorem aw_633 : (Cond.code yJ6_numberOfTrailingZeros_0f7a4 cJ6_numberOfTrailingZeros_0f7a4 2 (some .int) : Cond) ∈ wsA := iA_27 _ (List.mem_of_getElem? (i := 9) rfl)
theorem aw_634 : (Cond.constant RJ6 264 (65536) : Cond) ∈ wsA := iA_27 _ (List.mem_of_getElem? (i := 10) rfl)
theorem aw_635 : (Cond.instanceMethod yX8_allIn : Cond) ∈ wsA := iA_27 _ (List.mem_of_getElem? (i := 11) rfl)
theorem aw_636 : (Cond.selects RX8 yX8_allIn yX8_allIn : Cond) ∈ wsA := iA_27 _ (List.mem_of_getElem? (i := 12) rfl)
theorem aw_637 : (Cond.code yX8_allIn cX8_allIn 4 (some .int) : Cond) ∈ wsA := iA_27 _ (List.mem_of_getElem? (i := 13) rfl)
theorem aw_638 : (Cond.instanceMethod yX7_friend : Cond) ∈ wsA := iA_27 _ (List.mem_of_getElem? (i := 14) rfl)
theorem aw_639 : (Cond.selects RX7 yX7_friend yX7_friend : Cond) ∈ wsA := iA_27 _ (List.mem_of_getElem? (i := 15) rfl)
theorem aw_640 : (Cond.code yX7_friend cX7_friend 7 (some .int) : Cond) ∈ wsA := iA_27 _ (List.mem_of_getElem? (i := 16) rfl)
theorem aw_641 : (Cond.instanceMethod yX8_friend : Cond) ∈ wsA := iA_27 _ (List.mem_of_getElem? (i := 17) rfl)
theorem aw_642 : (Cond.selects RX8 yX8_friend yX8_friend : Cond) ∈ wsA := iA_27 _ (List.mem_of_getElem? (i := 18) rfl)
theorem aw_643 : (Cond.code yX8_friend cX8_friend 8 (some .int) : Cond) ∈ wsA := iA_27 _ (List.mem_of_getElem? (i := 19) rfl)
theorem aw_644 : (Cond.instanceMethod yX7_seen : Cond) ∈ wsA := iA_27 _ (List.mem_of_getElem? (i := 20) rfl)
theorem aw_645 : (Cond.selects RX7 yX7_seen yX7_seen : Cond) ∈ wsA := iA_27 _ (List.mem_of_getElem? (i := 21) rfl)
theorem aw_646 : (Cond.code yX7_seen cX7_seen 4 (some .int) : Cond) ∈ wsA := iA_27 _ (List.mem_of_getElem? (i := 22) rfl)
theorem aw_647 : (Cond.fieldLink RX7 201 "LastCallersWord$Sightings" "size" "I" : Cond) ∈ wsA := iA_27 _ (List.mem_of_getElem? (i := 23) rfl)
theorem aw_648 : (Cond.methodLink RX7 202 yX4_add : Cond) ∈ wsA := iA_28 _ (List.mem_of_getElem? (i := 0) rfl)
theorem aw_649 : (Cond.instanceMethod yX4_add : Cond) ∈ wsA := iA_28 _ (List.mem_of_getElem? (i := 1) rfl)
theorem aw_650 : (Cond.selects RX4 yX4_add yX4_add : Cond) ∈ wsA := iA_28 _ (List.mem_of_getElem? (i := 2) rfl)
theorem aw_651 : (Cond.code yX4_add cX4_add 4 none : Cond) ∈ wsA := iA_28 _ (List.mem_of_getElem? (i := 3) rfl)
theorem aw_652 : (Cond.instanceMethod yX8_seen : Cond) ∈ wsA := iA_28 _ (List.mem_of_getElem? (i := 4) rfl)
theorem aw_653 : (Cond.selects RX8 yX8_seen yX8_seen : Cond) ∈ wsA := iA_28 _ (List.mem_of_getElem? (i := 5) rfl)
theorem aw_654 : (Cond.code yX8_seen cX8_seen 4 (some .int) : Cond) ∈ wsA := iA_28 _ (List.mem_of_getElem? (i := 6) rfl)
theorem aw_655 : (Cond.instanceMethod yX7_forget : Cond) ∈ wsA := iA_28 _ (List.mem_of_getElem? (i := 7) rfl)
theorem aw_656 : (Cond.selects RX7 yX7_forget yX7_forget : Cond) ∈ wsA := iA_28 _ (List.mem_of_getElem? (i := 8) rfl)
theorem aw_657 : (Cond.code yX7_forget cX7_forget 2 (some .int) : Cond) ∈ wsA := iA_28 _ (List.mem_of_getElem? (i := 9) rfl)
theorem aw_658 : (Cond.instanceMethod yX8_forget : Cond) ∈ wsA := iA_28 _ (List.mem_of_getElem? (i := 10) rfl)
theorem aw_659 : (Cond.selects RX8 yX8_forget yX8_forget : Cond) ∈ wsA := iA_28 _ (List.mem_of_getElem? (i := 11) rfl)
theorem aw_660 : (Cond.code yX8_forget cX8_forget 2 (some .int) : Cond) ∈ wsA := iA_28 _ (List.mem_of_getElem? (i := 12) rfl)
theorem aw_661 : (Cond.instanceMethod yX7_called : Cond) ∈ wsA := iA_28 _ (List.mem_of_getElem? (i := 13) rfl)
theorem aw_662 : (Cond.selects RX7 yX7_called yX7_called : Cond) ∈ wsA := iA_28 _ (List.mem_of_getElem? (i := 14) rfl)
theorem aw_663 : (Cond.code yX7_called cX7_called 6 (some .int) : Cond) ∈ wsA := iA_28 _ (List.mem_of_getElem? (i := 15) rfl)
theorem aw_664 : (Cond.methodLink RX7 207 yX4_lookedAt : Cond) ∈ wsA := iA_28 _ (List.mem_of_getElem? (i := 16) rfl)
theorem aw_665 : (Cond.instanceMethod yX4_lookedAt : Cond) ∈ wsA := iA_28 _ (List.mem_of_getElem? (i := 17) rfl)
theorem aw_666 : (Cond.selects RX4 yX4_lookedAt yX4_lookedAt : Cond) ∈ wsA := iA_28 _ (List.mem_of_getElem? (i := 18) rfl)
theorem aw_667 : (Cond.code yX4_lookedAt cX4_lookedAt 4 (some .int) : Cond) ∈ wsA := iA_28 _ (List.mem_of_getElem? (i := 19) rfl)
theorem aw_668 : (Cond.methodLink RX7 210 yX4_cameInAt : Cond) ∈ wsA := iA_28 _ (List.mem_of_getElem? (i := 20) rfl)
theorem aw_669 : (Cond.instanceMethod yX4_cameInAt : Cond) ∈ wsA := iA_28 _ (List.mem_of_getElem? (i := 21) rfl)
theorem aw_670 : (Cond.selects RX4 yX4_cameInAt yX4_cameInAt : Cond) ∈ wsA := iA_28 _ (List.mem_of_getElem? (i := 22) rfl)
theorem aw_671 : (Cond.code yX4_cameInAt cX4_cameInAt 4 (some .int) : Cond) ∈ wsA := iA_28 _ (List.mem_of_getElem? (i := 23) rfl)
theorem aw_672 : (Cond.instanceMethod yX8_called : Cond) ∈ wsA := iA_29 _ (List.mem_of_getElem? (i := 0) rfl)
theorem aw_673 : (Cond.selects RX8 yX8_called yX8_called : Cond) ∈ wsA := iA_29 _ (List.mem_of_getElem? (i := 1) rfl)
theorem aw_674 : (Cond.code yX8_called cX8_called 7 (some .int) : Cond) ∈ wsA := iA_29 _ (List.mem_of_getElem? (i := 2) rfl)
theorem aw_675 : (Cond.instanceMethod yX7_guess : Cond) ∈ wsA := iA_29 _ (List.mem_of_getElem? (i := 3) rfl)
theorem aw_676 : (Cond.selects RX7 yX7_guess yX7_guess : Cond) ∈ wsA := iA_29 _ (List.mem_of_getElem? (i := 4) rfl)
theorem aw_677 : (Cond.code yX7_guess cX7_guess 3 (some .int) : Cond) ∈ wsA := iA_29 _ (List.mem_of_getElem? (i := 5) rfl)
theorem aw_678 : (Cond.fieldLink RX7 213 "LastCallersWord$Plan" "words" "I" : Cond) ∈ wsA := iA_29 _ (List.mem_of_getElem? (i := 6) rfl)
theorem aw_679 : (Cond.methodLink RX7 216 yX1_rankOf : Cond) ∈ wsA := iA_29 _ (List.mem_of_getElem? (i := 7) rfl)
theorem aw_680 : (Cond.instanceMethod yX1_rankOf : Cond) ∈ wsA := iA_29 _ (List.mem_of_getElem? (i := 8) rfl)
theorem aw_681 : (Cond.selects RX1 yX1_rankOf yX1_rankOf : Cond) ∈ wsA := iA_29 _ (List.mem_of_getElem? (i := 9) rfl)
theorem aw_682 : (Cond.code yX1_rankOf cX1_rankOf 6 (some .int) : Cond) ∈ wsA := iA_29 _ (List.mem_of_getElem? (i := 10) rfl)
theorem aw_683 : (Cond.instanceMethod yX8_guess : Cond) ∈ wsA := iA_29 _ (List.mem_of_getElem? (i := 11) rfl)
theorem aw_684 : (Cond.selects RX8 yX8_guess yX8_guess : Cond) ∈ wsA := iA_29 _ (List.mem_of_getElem? (i := 12) rfl)
theorem aw_685 : (Cond.code yX8_guess cX8_guess 3 (some .int) : Cond) ∈ wsA := iA_29 _ (List.mem_of_getElem? (i := 13) rfl)
theorem aw_686 : (Cond.methodLink RX8 213 yX8_rankOf : Cond) ∈ wsA := iA_29 _ (List.mem_of_getElem? (i := 14) rfl)
theorem aw_687 : (Cond.instanceMethod yX8_rankOf : Cond) ∈ wsA := iA_29 _ (List.mem_of_getElem? (i := 15) rfl)
theorem aw_688 : (Cond.selects RX8 yX8_rankOf yX8_rankOf : Cond) ∈ wsA := iA_29 _ (List.mem_of_getElem? (i := 16) rfl)
theorem aw_689 : (Cond.code yX8_rankOf cX8_rankOf 4 (some .int) : Cond) ∈ wsA := iA_29 _ (List.mem_of_getElem? (i := 17) rfl)
theorem aw_690 : (Cond.instanceMethod yX7_mean : Cond) ∈ wsA := iA_29 _ (List.mem_of_getElem? (i := 18) rfl)
theorem aw_691 : (Cond.selects RX7 yX7_mean yX7_mean : Cond) ∈ wsA := iA_29 _ (List.mem_of_getElem? (i := 19) rfl)
theorem aw_692 : (Cond.code yX7_mean cX7_mean 4 (some .int) : Cond) ∈ wsA := iA_29 _ (List.mem_of_getElem? (i := 20) rfl)
theorem aw_693 : (Cond.fieldLink RX7 219 "LastCallersWord$Plan" "parts" "[I" : Cond) ∈ wsA := iA_29 _ (List.mem_of_getElem? (i := 21) rfl)
theorem aw_694 : (Cond.methodLink RX7 222 yX1_allParts : Cond) ∈ wsA := iA_29 _ (List.mem_of_getElem? (i := 22) rfl)
theorem aw_695 : (Cond.instanceMethod yX1_allParts : Cond) ∈ wsA := iA_29 _ (List.mem_of_getElem? (i := 23) rfl)
theorem aw_696 : (Cond.selects RX1 yX1_allParts yX1_allParts : Cond) ∈ wsA := iA_30 _ (List.mem_of_getElem? (i := 0) rfl)
theorem aw_697 : (Cond.code yX1_allParts cX1_allParts 3 (some .int) : Cond) ∈ wsA := iA_30 _ (List.mem_of_getElem? (i := 1) rfl)
theorem aw_698 : (Cond.methodLink RX7 225 yX7_inLowestTerms : Cond) ∈ wsA := iA_30 _ (List.mem_of_getElem? (i := 2) rfl)
theorem aw_699 : (Cond.static yX7_inLowestTerms : Cond) ∈ wsA := iA_30 _ (List.mem_of_getElem? (i := 3) rfl)
theorem aw_700 : (Cond.code yX7_inLowestTerms cX7_inLowestTerms 4 (some .int) : Cond) ∈ wsA := iA_30 _ (List.mem_of_getElem? (i := 4) rfl)
theorem aw_701 : (Cond.methodLink RX7 270 yX7_commonDivisor : Cond) ∈ wsA := iA_30 _ (List.mem_of_getElem? (i := 5) rfl)
theorem aw_702 : (Cond.static yX7_commonDivisor : Cond) ∈ wsA := iA_30 _ (List.mem_of_getElem? (i := 6) rfl)
theorem aw_703 : (Cond.code yX7_commonDivisor cX7_commonDivisor 6 (some .int) : Cond) ∈ wsA := iA_30 _ (List.mem_of_getElem? (i := 7) rfl)
theorem aw_704 : (Cond.methodLink RX7 259 yX7_quotient : Cond) ∈ wsA := iA_30 _ (List.mem_of_getElem? (i := 8) rfl)
theorem aw_705 : (Cond.static yX7_quotient : Cond) ∈ wsA := iA_30 _ (List.mem_of_getElem? (i := 9) rfl)
theorem aw_706 : (Cond.code yX7_quotient cX7_quotient 2 (some .int) : Cond) ∈ wsA := iA_30 _ (List.mem_of_getElem? (i := 10) rfl)
theorem aw_707 : (Cond.instanceMethod yX8_mean : Cond) ∈ wsA := iA_30 _ (List.mem_of_getElem? (i := 11) rfl)
theorem aw_708 : (Cond.selects RX8 yX8_mean yX8_mean : Cond) ∈ wsA := iA_30 _ (List.mem_of_getElem? (i := 12) rfl)
theorem aw_709 : (Cond.code yX8_mean cX8_mean 4 (some .int) : Cond) ∈ wsA := iA_30 _ (List.mem_of_getElem? (i := 13) rfl)
theorem aw_710 : (Cond.methodLink RX8 216 yX8_allParts : Cond) ∈ wsA := iA_30 _ (List.mem_of_getElem? (i := 14) rfl)
theorem aw_711 : (Cond.instanceMethod yX8_allParts : Cond) ∈ wsA := iA_30 _ (List.mem_of_getElem? (i := 15) rfl)
theorem aw_712 : (Cond.selects RX8 yX8_allParts yX8_allParts : Cond) ∈ wsA := iA_30 _ (List.mem_of_getElem? (i := 16) rfl)
theorem aw_713 : (Cond.code yX8_allParts cX8_allParts 3 (some .int) : Cond) ∈ wsA := iA_30 _ (List.mem_of_getElem? (i := 17) rfl)
theorem aw_714 : (Cond.methodLink RX8 219 yX8_lowest : Cond) ∈ wsA := iA_30 _ (List.mem_of_getElem? (i := 18) rfl)
theorem aw_715 : (Cond.static yX8_lowest : Cond) ∈ wsA := iA_30 _ (List.mem_of_getElem? (i := 19) rfl)
theorem aw_716 : (Cond.code yX8_lowest cX8_lowest 6 (some .int) : Cond) ∈ wsA := iA_30 _ (List.mem_of_getElem? (i := 20) rfl)
theorem aw_717 : (Cond.instanceMethod yX7_inTime : Cond) ∈ wsA := iA_30 _ (List.mem_of_getElem? (i := 21) rfl)
theorem aw_718 : (Cond.selects RX7 yX7_inTime yX7_inTime : Cond) ∈ wsA := iA_30 _ (List.mem_of_getElem? (i := 22) rfl)
theorem aw_719 : (Cond.code yX7_inTime cX7_inTime 4 (some .int) : Cond) ∈ wsA := iA_30 _ (List.mem_of_getElem? (i := 23) rfl)
theorem aw_720 : (Cond.instanceMethod yX8_inTime : Cond) ∈ wsA := iA_31 _ (List.mem_of_getElem? (i := 0) rfl)
theorem aw_721 : (Cond.selects RX8 yX8_inTime yX8_inTime : Cond) ∈ wsA := iA_31 _ (List.mem_of_getElem? (i := 1) rfl)
theorem aw_722 : (Cond.code yX8_inTime cX8_inTime 4 (some .int) : Cond) ∈ wsA := iA_31 _ (List.mem_of_getElem? (i := 2) rfl)
theorem aw_723 : (Cond.instanceMethod yX7_likely : Cond) ∈ wsA := iA_31 _ (List.mem_of_getElem? (i := 3) rfl)
theorem aw_724 : (Cond.selects RX7 yX7_likely yX7_likely : Cond) ∈ wsA := iA_31 _ (List.mem_of_getElem? (i := 4) rfl)
theorem aw_725 : (Cond.code yX7_likely cX7_likely 7 (some .int) : Cond) ∈ wsA := iA_31 _ (List.mem_of_getElem? (i := 5) rfl)
theorem aw_726 : (Cond.methodLink RX7 232 yX7_knowersByVisitors : Cond) ∈ wsA := iA_31 _ (List.mem_of_getElem? (i := 6) rfl)
theorem aw_727 : (Cond.instanceMethod yX7_knowersByVisitors : Cond) ∈ wsA := iA_31 _ (List.mem_of_getElem? (i := 7) rfl)
theorem aw_728 : (Cond.selects RX7 yX7_knowersByVisitors yX7_knowersByVisitors : Cond) ∈ wsA := iA_31 _ (List.mem_of_getElem? (i := 8) rfl)
theorem aw_729 : (Cond.code yX7_knowersByVisitors cX7_knowersByVisitors 8 (some .int) : Cond) ∈ wsA := iA_31 _ (List.mem_of_getElem? (i := 9) rfl)
theorem aw_730 : (Cond.methodLink RX7 256 yX7_remainder : Cond) ∈ wsA := iA_31 _ (List.mem_of_getElem? (i := 10) rfl)
theorem aw_731 : (Cond.static yX7_remainder : Cond) ∈ wsA := iA_31 _ (List.mem_of_getElem? (i := 11) rfl)
theorem aw_732 : (Cond.code yX7_remainder cX7_remainder 2 (some .int) : Cond) ∈ wsA := iA_31 _ (List.mem_of_getElem? (i := 12) rfl)
theorem aw_733 : (Cond.instanceMethod yX8_likely : Cond) ∈ wsA := iA_31 _ (List.mem_of_getElem? (i := 13) rfl)
theorem aw_734 : (Cond.selects RX8 yX8_likely yX8_likely : Cond) ∈ wsA := iA_31 _ (List.mem_of_getElem? (i := 14) rfl)
theorem aw_735 : (Cond.code yX8_likely cX8_likely 10 (some .int) : Cond) ∈ wsA := iA_31 _ (List.mem_of_getElem? (i := 15) rfl)
theorem aw_736 : (Cond.instanceMethod yX7_street : Cond) ∈ wsA := iA_31 _ (List.mem_of_getElem? (i := 16) rfl)
theorem aw_737 : (Cond.selects RX7 yX7_street yX7_street : Cond) ∈ wsA := iA_31 _ (List.mem_of_getElem? (i := 17) rfl)
theorem aw_738 : (Cond.code yX7_street cX7_street 6 (some .int) : Cond) ∈ wsA := iA_31 _ (List.mem_of_getElem? (i := 18) rfl)
theorem aw_739 : (Cond.methodLink RX7 235 arraycopyName : Cond) ∈ wsA := iA_31 _ (List.mem_of_getElem? (i := 19) rfl)
theorem aw_740 : (Cond.methodLink RX7 241 yX7_drawOf : Cond) ∈ wsA := iA_31 _ (List.mem_of_getElem? (i := 20) rfl)
theorem aw_741 : (Cond.static yX7_drawOf : Cond) ∈ wsA := iA_31 _ (List.mem_of_getElem? (i := 21) rfl)
theorem aw_742 : (Cond.code yX7_drawOf cX7_drawOf 4 (some .int) : Cond) ∈ wsA := iA_31 _ (List.mem_of_getElem? (i := 22) rfl)
theorem aw_743 : (Cond.constantLong RX7 262 (7919) : Cond) ∈ wsA := iA_31 _ (List.mem_of_getElem? (i := 23) rfl)
theorem aw_744 : (Cond.constantLong RX7 264 (6151) : Cond) ∈ wsA := iA_32 _ (List.mem_of_getElem? (i := 0) rfl)
theorem aw_745 : (Cond.constantLong RX7 266 (65521) : Cond) ∈ wsA := iA_32 _ (List.mem_of_getElem? (i := 1) rfl)
theorem aw_746 : (Cond.constantLong RX7 268 (4) : Cond) ∈ wsA := iA_32 _ (List.mem_of_getElem? (i := 2) rfl)
theorem aw_747 : (Cond.methodLink RX7 244 yX7_goOnInStreet : Cond) ∈ wsA := iA_32 _ (List.mem_of_getElem? (i := 3) rfl)
theorem aw_748 : (Cond.instanceMethod yX7_goOnInStreet : Cond) ∈ wsA := iA_32 _ (List.mem_of_getElem? (i := 4) rfl)
theorem aw_749 : (Cond.selects RX7 yX7_goOnInStreet yX7_goOnInStreet : Cond) ∈ wsA := iA_32 _ (List.mem_of_getElem? (i := 5) rfl)
theorem aw_750 : (Cond.code yX7_goOnInStreet cX7_goOnInStreet 3 none : Cond) ∈ wsA := iA_32 _ (List.mem_of_getElem? (i := 6) rfl)
theorem aw_751 : (Cond.instanceMethod yX8_street : Cond) ∈ wsA := iA_32 _ (List.mem_of_getElem? (i := 7) rfl)
theorem aw_752 : (Cond.selects RX8 yX8_street yX8_street : Cond) ∈ wsA := iA_32 _ (List.mem_of_getElem? (i := 8) rfl)
theorem aw_753 : (Cond.code yX8_street cX8_street 9 (some .int) : Cond) ∈ wsA := iA_32 _ (List.mem_of_getElem? (i := 9) rfl)
theorem aw_754 : (Cond.constantLong RX8 222 (7919) : Cond) ∈ wsA := iA_32 _ (List.mem_of_getElem? (i := 10) rfl)
theorem aw_755 : (Cond.constantLong RX8 224 (6151) : Cond) ∈ wsA := iA_32 _ (List.mem_of_getElem? (i := 11) rfl)
theorem aw_756 : (Cond.constantLong RX8 226 (65521) : Cond) ∈ wsA := iA_32 _ (List.mem_of_getElem? (i := 12) rfl)
theorem aw_757 : (Cond.constantLong RX8 228 (4) : Cond) ∈ wsA := iA_32 _ (List.mem_of_getElem? (i := 13) rfl)
theorem aw_758 : (Cond.instanceMethod yX7_keep : Cond) ∈ wsA := iA_32 _ (List.mem_of_getElem? (i := 14) rfl)
theorem aw_759 : (Cond.selects RX7 yX7_keep yX7_keep : Cond) ∈ wsA := iA_32 _ (List.mem_of_getElem? (i := 15) rfl)
theorem aw_760 : (Cond.code yX7_keep cX7_keep 1 (some .int) : Cond) ∈ wsA := iA_32 _ (List.mem_of_getElem? (i := 16) rfl)
theorem aw_761 : (Cond.instanceMethod yX8_keep : Cond) ∈ wsA := iA_32 _ (List.mem_of_getElem? (i := 17) rfl)
theorem aw_762 : (Cond.selects RX8 yX8_keep yX8_keep : Cond) ∈ wsA := iA_32 _ (List.mem_of_getElem? (i := 18) rfl)
theorem aw_763 : (Cond.code yX8_keep cX8_keep 1 (some .int) : Cond) ∈ wsA := iA_32 _ (List.mem_of_getElem? (i := 19) rfl)
theorem aw_764 : (Cond.instanceMethod yX7_back : Cond) ∈ wsA := iA_32 _ (List.mem_of_getElem? (i := 20) rfl)
theorem aw_765 : (Cond.selects RX7 yX7_back yX7_back : Cond) ∈ wsA := iA_32 _ (List.mem_of_getElem? (i := 21) rfl)
theorem aw_766 : (Cond.code yX7_back cX7_back 1 (some .int) : Cond) ∈ wsA := iA_32 _ (List.mem_of_getElem? (i := 22) rfl)
theorem aw_767 : (Cond.instanceMethod yX8_back : Cond) ∈ wsA := iA_32 _ (List.mem_of_getElem? (i := 23) rfl)
theorem aw_768 : (Cond.selects RX8 yX8_back yX8_back : Cond) ∈ wsA := iA_33 _ (List.mem_of_getElem? (i := 0) rfl)
theorem aw_769 : (Cond.code yX8_back cX8_back 1 (some .int) : Cond) ∈ wsA := iA_33 _ (List.mem_of_getElem? (i := 1) rfl)
theorem aw_770 : (Cond.instanceMethod yX7_count : Cond) ∈ wsA := iA_33 _ (List.mem_of_getElem? (i := 2) rfl)
theorem aw_771 : (Cond.selects RX7 yX7_count yX7_count : Cond) ∈ wsA := iA_33 _ (List.mem_of_getElem? (i := 3) rfl)
theorem aw_772 : (Cond.code yX7_count cX7_count 2 (some .int) : Cond) ∈ wsA := iA_33 _ (List.mem_of_getElem? (i := 4) rfl)
theorem aw_773 : (Cond.instanceMethod yX8_count : Cond) ∈ wsA := iA_33 _ (List.mem_of_getElem? (i := 5) rfl)
theorem aw_774 : (Cond.selects RX8 yX8_count yX8_count : Cond) ∈ wsA := iA_33 _ (List.mem_of_getElem? (i := 6) rfl)
theorem aw_775 : (Cond.code yX8_count cX8_count 2 (some .int) : Cond) ∈ wsA := iA_33 _ (List.mem_of_getElem? (i := 7) rfl)
set_option maxRecDepth 20000 in
theorem gA : wsA.all goodWord = true := by decide +kernel
theorem gsub {c : Cond} {ws : List Cond} (h : ∀ w ∈ ws, w ∈ wsA) : GoodIn (c :: wsA) ws := fun w hw => ⟨List.mem_cons_of_mem _ (h w hw), good_of_word (List.all_eq_true.mp gA w (h w hw))⟩
theorem gin {cc : Cond} (h : cc ∈ wsA) : ∀ w ∈ cc :: wsA, w ∈ wsA := fun w hw => (List.mem_cons.mp hw).elim (fun e => by rw [e]; exact h) id
theorem ginV {cc : Cond} {own C : String} {idx : Nat} {y : MethodName} (h2 : Cond.instanceMethod y ∈ wsA) (h3 : Cond.selects C y y ∈ wsA) (h4 : Cond.initialized C ∈ wsA) (h5 : cc ∈ wsA) : ∀ w ∈ wsV own idx C y (cc :: wsA), w = Cond.methodLink own idx y ∨ w ∈ wsA := by
  intro w hw
  unfold wsV at hw
  rcases List.mem_append.mp hw with h | h
  · simp only [List.mem_cons, List.not_mem_nil, or_false] at h
    rcases h with rfl | rfl | rfl | rfl
    · exact Or.inl rfl
    · exact Or.inr h2
    · exact Or.inr h3
    · exact Or.inr h4
  · exact Or.inr (gin h5 w h)
theorem ginS {cc : Cond} {own : String} {idx : Nat} {y : MethodName} (h2 : Cond.static y ∈ wsA) (h4 : Cond.initialized y.cls ∈ wsA) (h5 : cc ∈ wsA) : ∀ w ∈ va_wsS own idx y (cc :: wsA), w = Cond.methodLink own idx y ∨ w ∈ wsA := by
  intro w hw
  unfold va_wsS at hw
  rcases List.mem_append.mp hw with h | h
  · simp only [List.mem_cons, List.not_mem_nil, or_false] at h
    rcases h with rfl | rfl | rfl
    · exact Or.inl rfl
    · exact Or.inr h2
    · exact Or.inr h4
  · exact Or.inr (gin h5 w h)
theorem gwc {c cc : Cond} (h : cc ∈ wsA) : GoodIn (c :: wsA) (cc :: wsA) := gsub (gin h)
theorem gwV {c cc : Cond} {own C : String} {idx : Nat} {y : MethodName} (h1 : Cond.methodLink own idx y ∈ wsA) (h2 : Cond.instanceMethod y ∈ wsA) (h3 : Cond.selects C y y ∈ wsA) (h4 : Cond.initialized C ∈ wsA) (h5 : cc ∈ wsA) : GoodIn (c :: wsA) (wsV own idx C y (cc :: wsA)) := gsub (fun w hw => (ginV h2 h3 h4 h5 w hw).elim (fun e => by rw [e]; exact h1) id)
theorem gwS {c cc : Cond} {own : String} {idx : Nat} {y : MethodName} (h1 : Cond.methodLink own idx y ∈ wsA) (h2 : Cond.static y ∈ wsA) (h4 : Cond.initialized y.cls ∈ wsA) (h5 : cc ∈ wsA) : GoodIn (c :: wsA) (va_wsS own idx y (cc :: wsA)) := gsub (fun w hw => (ginS h2 h4 h5 w hw).elim (fun e => by rw [e]; exact h1) id)
def wsX0_init : List Cond := Cond.code yX0_init cX0_init 1 none :: wsA
def wsX0_append : List Cond := Cond.code yX0_append cX0_append 2 none :: wsA
def wsX0_signAt : List Cond := Cond.code yX0_signAt cX0_signAt 2 (some .char) :: wsA
def wsX0_clear : List Cond := Cond.code yX0_clear cX0_clear 1 none :: wsA
def wsX1_init : List Cond := Cond.code yX1_init cX1_init 1 none :: wsA
def wsX1_clear : List Cond := Cond.code yX1_clear cX1_clear 1 none :: wsA
def wsX1_isWhole : List Cond := Cond.code yX1_isWhole cX1_isWhole 1 (some .boolean) :: wsA
def wsX1_copyFrom : List Cond := Cond.code yX1_copyFrom cX1_copyFrom 2 none :: wsA
def wsX1_rankOf : List Cond := Cond.code yX1_rankOf cX1_rankOf 6 (some .int) :: wsA
def wsX1_allParts : List Cond := Cond.code yX1_allParts cX1_allParts 3 (some .int) :: wsA
def wsX2_init : List Cond := Cond.code yX2_init cX2_init 3 none :: wsA
def wsX2_findFault : List Cond := Cond.code yX2_findFault cX2_findFault 3 (some .int) :: wsA
def wsX2_readBody : List Cond := Cond.code yX2_readBody cX2_readBody 2 (some .boolean) :: wsA
def wsX2_readPersons : List Cond := Cond.code yX2_readPersons cX2_readPersons 2 (some .boolean) :: wsA
def wsX2_readPerson : List Cond := Cond.code yX2_readPerson cX2_readPerson 5 (some .boolean) :: wsA
def wsX2_readDoor : List Cond := Cond.code yX2_readDoor cX2_readDoor 3 (some .boolean) :: wsA
def wsX2_readWord : List Cond := Cond.code yX2_readWord cX2_readWord 2 (some .boolean) :: wsA
def wsX2_readLimit : List Cond := Cond.code yX2_readLimit cX2_readLimit 2 (some .boolean) :: wsA
def wsX2_isOneOfAll : List Cond := Cond.code yX2_isOneOfAll cX2_isOneOfAll 2 (some .boolean) :: wsA
def wsX2_take : List Cond := Cond.code yX2_take cX2_take 2 (some .boolean) :: wsA
def wsX2_number : List Cond := Cond.code yX2_number cX2_number 3 (some .int) :: wsA
def wsX2_figure : List Cond := Cond.code yX2_figure cX2_figure 2 (some .int) :: wsA
def wsX3_init : List Cond := Cond.code yX3_init cX3_init 3 none :: wsA
def wsX3_put : List Cond := Cond.code yX3_put cX3_put 2 none :: wsA
def wsX3_dropOldest : List Cond := Cond.code yX3_dropOldest cX3_dropOldest 3 none :: wsA
def wsX3_takeLatestInto : List Cond := Cond.code yX3_takeLatestInto cX3_takeLatestInto 2 none :: wsA
def wsX3_clear : List Cond := Cond.code yX3_clear cX3_clear 1 none :: wsA
def wsX4_init : List Cond := Cond.code yX4_init cX4_init 1 none :: wsA
def wsX4_add : List Cond := Cond.code yX4_add cX4_add 4 none :: wsA
def wsX4_lookedAt : List Cond := Cond.code yX4_lookedAt cX4_lookedAt 4 (some .int) :: wsA
def wsX4_cameInAt : List Cond := Cond.code yX4_cameInAt cX4_cameInAt 4 (some .int) :: wsA
def wsX4_clear : List Cond := Cond.code yX4_clear cX4_clear 1 none :: wsA
def wsX5_init : List Cond := Cond.code yX5_init cX5_init 1 none :: wsA
def wsX5_begin : List Cond := Cond.code yX5_begin cX5_begin 2 none :: wsA
def wsX5_forgiveAll : List Cond := Cond.code yX5_forgiveAll cX5_forgiveAll 2 none :: wsA
def wsX5_copyFrom : List Cond := Cond.code yX5_copyFrom cX5_copyFrom 2 none :: wsA
def wsX6_init : List Cond := Cond.code yX6_init cX6_init 3 none :: wsA
def wsX6_everyone : List Cond := Cond.code yX6_everyone cX6_everyone 1 (some .int) :: wsA
def wsX6_knowersByCall : List Cond := Cond.code yX6_knowersByCall cX6_knowersByCall 2 (some .int) :: wsA
def wsX6_listeners : List Cond := Cond.code yX6_listeners cX6_listeners 2 (some .int) :: wsA
def wsX6_dearestOnes : List Cond := Cond.code yX6_dearestOnes cX6_dearestOnes 5 (some .int) :: wsA
def wsX6_dearestOf : List Cond := Cond.code yX6_dearestOf cX6_dearestOf 7 (some .int) :: wsA
def wsX6_likedOnes : List Cond := Cond.code yX6_likedOnes cX6_likedOnes 5 (some .int) :: wsA
def wsX6_afterDay : List Cond := Cond.code yX6_afterDay cX6_afterDay 4 (some .int) :: wsA
def wsX6_afterDays : List Cond := Cond.code yX6_afterDays cX6_afterDays 5 (some .int) :: wsA
def wsX7_init : List Cond := Cond.code yX7_init cX7_init 2 none :: wsA
def wsX7_write : List Cond := Cond.code yX7_write cX7_write 2 (some .int) :: wsA
def wsX7_wipe : List Cond := Cond.code yX7_wipe cX7_wipe 2 (some .int) :: wsA
def wsX7_fault : List Cond := Cond.code yX7_fault cX7_fault 1 (some .int) :: wsA
def wsX7_lay : List Cond := Cond.code yX7_lay cX7_lay 1 (some .int) :: wsA
def wsX7_person : List Cond := Cond.code yX7_person cX7_person 3 (some .int) :: wsA
def wsX7_likes : List Cond := Cond.code yX7_likes cX7_likes 3 (some .int) :: wsA
def wsX7_door : List Cond := Cond.code yX7_door cX7_door 3 (some .int) :: wsA
def wsX7_call : List Cond := Cond.code yX7_call cX7_call 3 (some .int) :: wsA
def wsX7_tries : List Cond := Cond.code yX7_tries cX7_tries 3 (some .int) :: wsA
def wsX7_day : List Cond := Cond.code yX7_day cX7_day 2 (some .int) :: wsA
def wsX7_alter : List Cond := Cond.code yX7_alter cX7_alter 5 (some .int) :: wsA
def wsX7_undo : List Cond := Cond.code yX7_undo cX7_undo 1 (some .int) :: wsA
def wsX7_shutOut : List Cond := Cond.code yX7_shutOut cX7_shutOut 1 (some .int) :: wsA
def wsX7_knowsBy : List Cond := Cond.code yX7_knowsBy cX7_knowsBy 3 (some .int) :: wsA
def wsX7_when : List Cond := Cond.code yX7_when cX7_when 5 (some .int) :: wsA
def wsX7_lets : List Cond := Cond.code yX7_lets cX7_lets 3 (some .int) :: wsA
def wsX7_keeps : List Cond := Cond.code yX7_keeps cX7_keeps 4 (some .int) :: wsA
def wsX7_allIn : List Cond := Cond.code yX7_allIn cX7_allIn 2 (some .int) :: wsA
def wsX7_friend : List Cond := Cond.code yX7_friend cX7_friend 7 (some .int) :: wsA
def wsX7_seen : List Cond := Cond.code yX7_seen cX7_seen 4 (some .int) :: wsA
def wsX7_forget : List Cond := Cond.code yX7_forget cX7_forget 2 (some .int) :: wsA
def wsX7_called : List Cond := Cond.code yX7_called cX7_called 6 (some .int) :: wsA
def wsX7_guess : List Cond := Cond.code yX7_guess cX7_guess 3 (some .int) :: wsA
def wsX7_mean : List Cond := Cond.code yX7_mean cX7_mean 4 (some .int) :: wsA
def wsX7_inTime : List Cond := Cond.code yX7_inTime cX7_inTime 4 (some .int) :: wsA
def wsX7_likely : List Cond := Cond.code yX7_likely cX7_likely 7 (some .int) :: wsA
def wsX7_street : List Cond := Cond.code yX7_street cX7_street 6 (some .int) :: wsA
def wsX7_keep : List Cond := Cond.code yX7_keep cX7_keep 1 (some .int) :: wsA
def wsX7_back : List Cond := Cond.code yX7_back cX7_back 1 (some .int) :: wsA
def wsX7_count : List Cond := Cond.code yX7_count cX7_count 2 (some .int) :: wsA
def wsX7_layDraft : List Cond := Cond.code yX7_layDraft cX7_layDraft 2 none :: wsA
def wsX7_isPerson : List Cond := Cond.code yX7_isPerson cX7_isPerson 2 (some .boolean) :: wsA
def wsX7_isDoor : List Cond := Cond.code yX7_isDoor cX7_isDoor 2 (some .boolean) :: wsA
def wsX7_isPart : List Cond := Cond.code yX7_isPart cX7_isPart 1 (some .boolean) :: wsA
def wsX7_isBarred : List Cond := Cond.code yX7_isBarred cX7_isBarred 3 (some .boolean) :: wsA
def wsX7_barredAt : List Cond := Cond.code yX7_barredAt cX7_barredAt 4 (some .int) :: wsA
def wsX7_shutOutBy : List Cond := Cond.code yX7_shutOutBy cX7_shutOutBy 4 (some .int) :: wsA
def wsX7_callersWhoReach : List Cond := Cond.code yX7_callersWhoReach cX7_callersWhoReach 5 (some .int) :: wsA
def wsX7_knowersByVisitors : List Cond := Cond.code yX7_knowersByVisitors cX7_knowersByVisitors 8 (some .int) :: wsA
def wsX7_goOnInStreet : List Cond := Cond.code yX7_goOnInStreet cX7_goOnInStreet 3 none :: wsA
def wsX7_drawOf : List Cond := Cond.code yX7_drawOf cX7_drawOf 4 (some .int) :: wsA
def wsX7_inLowestTerms : List Cond := Cond.code yX7_inLowestTerms cX7_inLowestTerms 4 (some .int) :: wsA
def wsX7_commonDivisor : List Cond := Cond.code yX7_commonDivisor cX7_commonDivisor 6 (some .int) :: wsA
def wsX7_quotient : List Cond := Cond.code yX7_quotient cX7_quotient 2 (some .int) :: wsA
def wsX7_remainder : List Cond := Cond.code yX7_remainder cX7_remainder 2 (some .int) :: wsA
def wsX7_has : List Cond := Cond.code yX7_has cX7_has 2 (some .boolean) :: wsA
def wsX7_lowest : List Cond := Cond.code yX7_lowest cX7_lowest 1 (some .int) :: wsA
def wsX7_pair : List Cond := Cond.code yX7_pair cX7_pair 2 (some .int) :: wsA
def wsX8_init : List Cond := Cond.code yX8_init cX8_init 1 none :: wsA
def wsX8_tellsPerson : List Cond := Cond.code yX8_tellsPerson cX8_tellsPerson 8 none :: wsA
def wsX8_tellsDoor : List Cond := Cond.code yX8_tellsDoor cX8_tellsDoor 3 none :: wsA
def wsX8_in : List Cond := Cond.code yX8_in cX8_in 3 (some .boolean) :: wsA
def wsX8_has : List Cond := Cond.code yX8_has cX8_has 2 (some .boolean) :: wsA
def wsX8_bits : List Cond := Cond.code yX8_bits cX8_bits 3 (some .int) :: wsA
def wsX8_isPerson : List Cond := Cond.code yX8_isPerson cX8_isPerson 2 (some .boolean) :: wsA
def wsX8_isDoor : List Cond := Cond.code yX8_isDoor cX8_isDoor 2 (some .boolean) :: wsA
def wsX8_write : List Cond := Cond.code yX8_write cX8_write 2 (some .int) :: wsA
def wsX8_wipe : List Cond := Cond.code yX8_wipe cX8_wipe 2 (some .int) :: wsA
def wsX8_letterAt : List Cond := Cond.code yX8_letterAt cX8_letterAt 2 (some .int) :: wsA
def wsX8_isFigure : List Cond := Cond.code yX8_isFigure cX8_isFigure 1 (some .boolean) :: wsA
def wsX8_readNumbers : List Cond := Cond.code yX8_readNumbers cX8_readNumbers 3 (some .boolean) :: wsA
def wsX8_isTold : List Cond := Cond.code yX8_isTold cX8_isTold 4 (some .boolean) :: wsA
def wsX8_clearTold : List Cond := Cond.code yX8_clearTold cX8_clearTold 2 none :: wsA
def wsX8_readPersonsOf : List Cond := Cond.code yX8_readPersonsOf cX8_readPersonsOf 2 (some .boolean) :: wsA
def wsX8_readPersonOf : List Cond := Cond.code yX8_readPersonOf cX8_readPersonOf 2 (some .boolean) :: wsA
def wsX8_readDoorOf : List Cond := Cond.code yX8_readDoorOf cX8_readDoorOf 1 (some .boolean) :: wsA
def wsX8_readWordOf : List Cond := Cond.code yX8_readWordOf cX8_readWordOf 1 (some .boolean) :: wsA
def wsX8_readBarsOf : List Cond := Cond.code yX8_readBarsOf cX8_readBarsOf 2 (some .boolean) :: wsA
def wsX8_readItem : List Cond := Cond.code yX8_readItem cX8_readItem 2 (some .boolean) :: wsA
def wsX8_fault : List Cond := Cond.code yX8_fault cX8_fault 2 (some .int) :: wsA
def wsX8_lay : List Cond := Cond.code yX8_lay cX8_lay 1 (some .int) :: wsA
def wsX8_copies : List Cond := Cond.code yX8_copies cX8_copies 6 none :: wsA
def wsX8_settles : List Cond := Cond.code yX8_settles cX8_settles 2 none :: wsA
def wsX8_asItIs : List Cond := Cond.code yX8_asItIs cX8_asItIs 1 none :: wsA
def wsX8_likingOf : List Cond := Cond.code yX8_likingOf cX8_likingOf 3 (some .int) :: wsA
def wsX8_dearest : List Cond := Cond.code yX8_dearest cX8_dearest 7 (some .int) :: wsA
def wsX8_tellsTo : List Cond := Cond.code yX8_tellsTo cX8_tellsTo 7 (some .int) :: wsA
def wsX8_calls : List Cond := Cond.code yX8_calls cX8_calls 3 none :: wsA
def wsX8_dayAt : List Cond := Cond.code yX8_dayAt cX8_dayAt 6 none :: wsA
def wsX8_goes : List Cond := Cond.code yX8_goes cX8_goes 2 none :: wsA
def wsX8_isShutOut : List Cond := Cond.code yX8_isShutOut cX8_isShutOut 2 (some .boolean) :: wsA
def wsX8_shutOutNow : List Cond := Cond.code yX8_shutOutNow cX8_shutOutNow 3 (some .int) :: wsA
def wsX8_person : List Cond := Cond.code yX8_person cX8_person 3 (some .int) :: wsA
def wsX8_likes : List Cond := Cond.code yX8_likes cX8_likes 3 (some .int) :: wsA
def wsX8_barredAt : List Cond := Cond.code yX8_barredAt cX8_barredAt 4 (some .int) :: wsA
def wsX8_door : List Cond := Cond.code yX8_door cX8_door 3 (some .int) :: wsA
def wsX8_remembers : List Cond := Cond.code yX8_remembers cX8_remembers 2 none :: wsA
def wsX8_call : List Cond := Cond.code yX8_call cX8_call 3 (some .int) :: wsA
def wsX8_tries : List Cond := Cond.code yX8_tries cX8_tries 3 (some .int) :: wsA
def wsX8_day : List Cond := Cond.code yX8_day cX8_day 1 (some .int) :: wsA
def wsX8_alter : List Cond := Cond.code yX8_alter cX8_alter 5 (some .int) :: wsA
def wsX8_undo : List Cond := Cond.code yX8_undo cX8_undo 1 (some .int) :: wsA
def wsX8_shutOut : List Cond := Cond.code yX8_shutOut cX8_shutOut 1 (some .int) :: wsA
def wsX8_knownBehind : List Cond := Cond.code yX8_knownBehind cX8_knownBehind 4 (some .int) :: wsA
def wsX8_knowsBy : List Cond := Cond.code yX8_knowsBy cX8_knowsBy 3 (some .int) :: wsA
def wsX8_when : List Cond := Cond.code yX8_when cX8_when 4 (some .int) :: wsA
def wsX8_letsIn : List Cond := Cond.code yX8_letsIn cX8_letsIn 6 (some .int) :: wsA
def wsX8_lets : List Cond := Cond.code yX8_lets cX8_lets 3 (some .int) :: wsA
def wsX8_keeps : List Cond := Cond.code yX8_keeps cX8_keeps 4 (some .int) :: wsA
def wsX8_allIn : List Cond := Cond.code yX8_allIn cX8_allIn 4 (some .int) :: wsA
def wsX8_friend : List Cond := Cond.code yX8_friend cX8_friend 8 (some .int) :: wsA
def wsX8_seen : List Cond := Cond.code yX8_seen cX8_seen 4 (some .int) :: wsA
def wsX8_forget : List Cond := Cond.code yX8_forget cX8_forget 2 (some .int) :: wsA
def wsX8_called : List Cond := Cond.code yX8_called cX8_called 7 (some .int) :: wsA
def wsX8_rankOf : List Cond := Cond.code yX8_rankOf cX8_rankOf 4 (some .int) :: wsA
def wsX8_guess : List Cond := Cond.code yX8_guess cX8_guess 3 (some .int) :: wsA
def wsX8_lowest : List Cond := Cond.code yX8_lowest cX8_lowest 6 (some .int) :: wsA
def wsX8_allParts : List Cond := Cond.code yX8_allParts cX8_allParts 3 (some .int) :: wsA
def wsX8_mean : List Cond := Cond.code yX8_mean cX8_mean 4 (some .int) :: wsA
def wsX8_inTime : List Cond := Cond.code yX8_inTime cX8_inTime 4 (some .int) :: wsA
def wsX8_likely : List Cond := Cond.code yX8_likely cX8_likely 10 (some .int) :: wsA
def wsX8_street : List Cond := Cond.code yX8_street cX8_street 9 (some .int) :: wsA
def wsX8_keep : List Cond := Cond.code yX8_keep cX8_keep 1 (some .int) :: wsA
def wsX8_back : List Cond := Cond.code yX8_back cX8_back 1 (some .int) :: wsA
def wsX8_count : List Cond := Cond.code yX8_count cX8_count 2 (some .int) :: wsA
def wsJ6_numberOfTrailingZeros_0f7a4 : List Cond := Cond.code yJ6_numberOfTrailingZeros_0f7a4 cJ6_numberOfTrailingZeros_0f7a4 2 (some .int) :: wsA
def wsJ6_bitCount_0f7a4 : List Cond := Cond.code yJ6_bitCount_0f7a4 cJ6_bitCount_0f7a4 1 (some .int) :: wsA
def wsJ9_max_7cf53 : List Cond := Cond.code yJ9_max_7cf53 cJ9_max_7cf53 2 (some .int) :: wsA
def wsJ0_length_8abf5 : List Cond := Cond.code yJ0_length_8abf5 cJ0_length_8abf5 1 (some .int) :: wsA
def wsJ0_charAt_5068e : List Cond := Cond.code yJ0_charAt_5068e cJ0_charAt_5068e 2 (some .char) :: wsA
def wsJ0_coder_7d493 : List Cond := Cond.code yJ0_coder_7d493 cJ0_coder_7d493 1 (some .byte) :: wsA
def wsJ0_isLatin1_aae02 : List Cond := Cond.code yJ0_isLatin1_aae02 cJ0_isLatin1_aae02 1 (some .boolean) :: wsA
def wsJ0_checkIndex_df160 : List Cond := Cond.code yJ0_checkIndex_df160 cJ0_checkIndex_df160 2 none :: wsA
def wsJ1_charAt_3b067 : List Cond := Cond.code yJ1_charAt_3b067 cJ1_charAt_3b067 2 (some .char) :: wsA
def wsJ2_getChar_3b067 : List Cond := Cond.code yJ2_getChar_3b067 cJ2_getChar_3b067 2 (some .char) :: wsA
def wsJ2_length_9d52b : List Cond := Cond.code yJ2_length_9d52b cJ2_length_9d52b 1 (some .int) :: wsA
def wsJ2_charAt_3b067 : List Cond := Cond.code yJ2_charAt_3b067 cJ2_charAt_3b067 2 (some .char) :: wsA
def wsJ2_checkIndex_2214a : List Cond := Cond.code yJ2_checkIndex_2214a cJ2_checkIndex_2214a 2 none :: wsA
def wsJ3_checkIndex_8e157 : List Cond := Cond.code yJ3_checkIndex_8e157 cJ3_checkIndex_8e157 3 (some .int) :: wsA
abbrev vwCl : List vw_C := [(RX0, TX0, 2), (RX1, TX1, 10), (RX2, TX2, 4), (RX3, TX3, 2), (RX4, TX4, 4), (RX5, TX5, 5), (RX6, TX6, 2), (RX7, TX7, 10), (RX8, TX8, 29)]
