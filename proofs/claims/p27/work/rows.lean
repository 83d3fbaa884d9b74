section
-- ===== PART A: goes FIRST, ahead of the names: the tables' words, and 'selects' of the private methods out of them =====
/-- a private method of a class that the tables say can be made, by its rows of tables_1 -/
def lw_okq (q : MethodName × Nat) : Prop := (q.1.cls ≠ "java/lang/invoke/MethodHandle" ∧ q.1.cls ≠ "java/lang/invoke/VarHandle") ∧ Cond.instantiable q.1.cls q.2 ∈ tables_1 ∧ Cond.privateMethod q.1 ∈ tables_1 ∧ Cond.instanceMethod q.1 ∈ tables_1
theorem lw_p0 : lw_okq (⟨"SingerQueue", "beginWithout", "(II)I"⟩, 7) := ⟨⟨by decide +kernel, by decide +kernel⟩, List.mem_of_getElem? (i := 15) (by decide +kernel), List.mem_of_getElem? (i := 548) (by decide +kernel), List.mem_of_getElem? (i := 549) (by decide +kernel)⟩
def lw_privs_1 : List (MethodName × Nat) := [(⟨"SingerQueue", "beginWithout", "(II)I"⟩, 7)]
theorem lw_r1 : ∀ q ∈ lw_privs_1, lw_okq q := List.forall_mem_cons.mpr ⟨lw_p0, fun _ h => absurd h List.not_mem_nil⟩
def lw_privs : List (MethodName × Nat) := lw_privs_1
def lw_tbl : List Cond := k2_sels lw_privs ++ tables_1
theorem lw_privs_ok : ∀ q ∈ lw_privs, lw_okq q := lw_r1
end
section
/-! ===== BEGIN words of one list among another's, by their places ===== -/
theorem goodIn_r {big : List Cond} (ws : List Cond) (ps : List Nat) (hp : ws = ps.filterMap (fun i => big[i]?)) (h : ws.all goodWord = true) : GoodIn big ws := by
  intro w hw
  have h1 := List.all_eq_true.mp h w hw
  rw [hp] at hw
  obtain ⟨i, -, hi⟩ := List.mem_filterMap.mp hw
  have hm : w ∈ big := by first | exact List.mem_of_getElem? hi | exact List.getElem?_mem hi
  exact ⟨hm, good_of_word h1⟩
theorem goodIn_app {big a b : List Cond} (ha : GoodIn big a) (hb : GoodIn big b) : GoodIn big (a ++ b) := fun w h => (List.mem_append.mp h).elim (ha w) (hb w)
theorem goodIn_ca {big a b : List Cond} {c : Cond} (ha : GoodIn big (c :: a)) (hb : GoodIn big b) : GoodIn big (c :: (a ++ b)) := fun w h => (List.mem_cons.mp h).elim (fun e => ha w (List.mem_cons.mpr (Or.inl e))) (fun h => (List.mem_append.mp h).elim (fun h => ha w (List.mem_cons.mpr (Or.inr h))) (hb w))
theorem goodIn_sub {big ws : List Cond} (hm : ∀ w ∈ ws, w ∈ big) (h : ws.all goodWord = true) : GoodIn big ws := fun w hw => ⟨hm w hw, good_of_word (List.all_eq_true.mp h w hw)⟩
/-! ===== END ===== -/

/-! ===== BEGIN printed: names, fields, word lists, decode rows ===== -/
def RX0 : String := "SingerQueue$Evening"
def TX0 : u_T := fun k => match k with
  | 0 => ("SingerQueue$Evening", "singers", "LSingerQueue$Singers;", true)
  | 1 => ("SingerQueue$Evening", "songs", "LSingerQueue$Songs;", true)
  | 2 => ("SingerQueue$Evening", "wishes", "LSingerQueue$Wishes;", true)
  | 3 => ("SingerQueue$Evening", "past", "LSingerQueue$PastTurns;", true)
  | 4 => ("SingerQueue$Evening", "minute", "I", false)
  | _ => ("SingerQueue$Evening", "turnsSung", "I", false)
def tyX0 : Nat → FieldType := fun k => match k with
  | 0 => .object "SingerQueue$Singers"
  | 1 => .object "SingerQueue$Songs"
  | 2 => .object "SingerQueue$Wishes"
  | 3 => .object "SingerQueue$PastTurns"
  | 4 => .int
  | _ => .int
abbrev wsX00 : List Cond := u_ws RX0 TX0 6
theorem nmX0 : ∀ a, a < 6 → ∀ b, b < 6 → a ≠ b → (TX0 a).2.1 ≠ (TX0 b).2.1 := by decide +kernel
theorem tyX0_ok : ∀ k, k < 6 → parseFieldDescriptor (TX0 k).2.2.1 = some (tyX0 k) := by decide +kernel
abbrev cX0_init : ByteArray := prog_2_method_1_code
def yX0_init : MethodName := ⟨RX0, "<init>", "()V"⟩
abbrev cX0_errorOfNames : ByteArray := prog_2_method_2_code
def yX0_errorOfNames : MethodName := ⟨RX0, "errorOfNames", "(III)I"⟩
abbrev cX0_errorOfWish : ByteArray := prog_2_method_3_code
def yX0_errorOfWish : MethodName := ⟨RX0, "errorOfWish", "(IIII)I"⟩
abbrev cX0_keyAndTen : ByteArray := prog_2_method_4_code
def yX0_keyAndTen : MethodName := ⟨RX0, "keyAndTen", "(III)I"⟩
abbrev cX0_singersWithKey : ByteArray := prog_2_method_5_code
def yX0_singersWithKey : MethodName := ⟨RX0, "singersWithKey", "(I)I"⟩
abbrev cX0_isReady : ByteArray := prog_2_method_6_code
def yX0_isReady : MethodName := ⟨RX0, "isReady", "(I)Z"⟩
abbrev cX0_lengthOfWish : ByteArray := prog_2_method_7_code
def yX0_lengthOfWish : MethodName := ⟨RX0, "lengthOfWish", "(I)I"⟩
abbrev cX0_nextWish : ByteArray := prog_2_method_8_code
def yX0_nextWish : MethodName := ⟨RX0, "nextWish", "()I"⟩
abbrev cX0_singTurn : ByteArray := prog_2_method_9_code
def yX0_singTurn : MethodName := ⟨RX0, "singTurn", "(I)V"⟩
abbrev cX0_copyFrom : ByteArray := prog_2_method_10_code
def yX0_copyFrom : MethodName := ⟨RX0, "copyFrom", "(LSingerQueue$Evening;)V"⟩
def RX1 : String := "SingerQueue$History"
def TX1 : u_T := fun k => match k with
  | 0 => ("SingerQueue$History", "states", "[LSingerQueue$Evening;", true)
  | 1 => ("SingerQueue$History", "size", "I", false)
  | _ => ("SingerQueue$History", "place", "I", false)
def tyX1 : Nat → FieldType := fun k => match k with
  | 0 => .array (.object "SingerQueue$Evening")
  | 1 => .int
  | _ => .int
abbrev wsX10 : List Cond := u_ws RX1 TX1 3
theorem nmX1 : ∀ a, a < 3 → ∀ b, b < 3 → a ≠ b → (TX1 a).2.1 ≠ (TX1 b).2.1 := by decide +kernel
theorem tyX1_ok : ∀ k, k < 3 → parseFieldDescriptor (TX1 k).2.2.1 = some (tyX1 k) := by decide +kernel
abbrev cX1_init : ByteArray := prog_3_method_1_code
def yX1_init : MethodName := ⟨RX1, "<init>", "()V"⟩
abbrev cX1_keep : ByteArray := prog_3_method_2_code
def yX1_keep : MethodName := ⟨RX1, "keep", "(LSingerQueue$Evening;)V"⟩
def RX2 : String := "SingerQueue$Pad"
def TX2 : u_T := fun k => match k with
  | 0 => ("SingerQueue$Pad", "text", "[C", true)
  | _ => ("SingerQueue$Pad", "length", "I", false)
def tyX2 : Nat → FieldType := fun k => match k with
  | 0 => .array .char
  | _ => .int
abbrev wsX20 : List Cond := u_ws RX2 TX2 2
theorem nmX2 : ∀ a, a < 2 → ∀ b, b < 2 → a ≠ b → (TX2 a).2.1 ≠ (TX2 b).2.1 := by decide +kernel
theorem tyX2_ok : ∀ k, k < 2 → parseFieldDescriptor (TX2 k).2.2.1 = some (tyX2 k) := by decide +kernel
abbrev cX2_init : ByteArray := prog_4_method_1_code
def yX2_init : MethodName := ⟨RX2, "<init>", "()V"⟩
def RX3 : String := "SingerQueue$PadReader"
def TX3 : u_T := fun k => match k with
  | 0 => ("SingerQueue$PadReader", "first", "[I", true)
  | 1 => ("SingerQueue$PadReader", "other", "[I", true)
  | 2 => ("SingerQueue$PadReader", "song", "[I", true)
  | 3 => ("SingerQueue$PadReader", "size", "I", false)
  | _ => ("SingerQueue$PadReader", "at", "I", false)
def tyX3 : Nat → FieldType := fun k => match k with
  | 0 => .array .int
  | 1 => .array .int
  | 2 => .array .int
  | 3 => .int
  | _ => .int
abbrev wsX30 : List Cond := u_ws RX3 TX3 5
theorem nmX3 : ∀ a, a < 5 → ∀ b, b < 5 → a ≠ b → (TX3 a).2.1 ≠ (TX3 b).2.1 := by decide +kernel
theorem tyX3_ok : ∀ k, k < 5 → parseFieldDescriptor (TX3 k).2.2.1 = some (tyX3 k) := by decide +kernel
abbrev cX3_init : ByteArray := prog_5_method_1_code
def yX3_init : MethodName := ⟨RX3, "<init>", "()V"⟩
def RX4 : String := "SingerQueue$PastTurns"
def TX4 : u_T := fun k => match k with
  | 0 => ("SingerQueue$PastTurns", "size", "I", false)
  | 1 => ("SingerQueue$PastTurns", "first", "[I", true)
  | 2 => ("SingerQueue$PastTurns", "other", "[I", true)
  | 3 => ("SingerQueue$PastTurns", "song", "[I", true)
  | _ => ("SingerQueue$PastTurns", "begin", "[I", true)
def tyX4 : Nat → FieldType := fun k => match k with
  | 0 => .int
  | 1 => .array .int
  | 2 => .array .int
  | 3 => .array .int
  | _ => .array .int
abbrev wsX40 : List Cond := u_ws RX4 TX4 5
theorem nmX4 : ∀ a, a < 5 → ∀ b, b < 5 → a ≠ b → (TX4 a).2.1 ≠ (TX4 b).2.1 := by decide +kernel
theorem tyX4_ok : ∀ k, k < 5 → parseFieldDescriptor (TX4 k).2.2.1 = some (tyX4 k) := by decide +kernel
abbrev cX4_init : ByteArray := prog_6_method_1_code
def yX4_init : MethodName := ⟨RX4, "<init>", "()V"⟩
abbrev cX4_remember : ByteArray := prog_6_method_2_code
def yX4_remember : MethodName := ⟨RX4, "remember", "(IIII)V"⟩
abbrev cX4_copyFrom : ByteArray := prog_6_method_3_code
def yX4_copyFrom : MethodName := ⟨RX4, "copyFrom", "(LSingerQueue$PastTurns;)V"⟩
def RX5 : String := "SingerQueue$Preview"
def TX5 : u_T := fun k => match k with
  | 0 => ("SingerQueue$Preview", "turns", "[I", true)
  | 1 => ("SingerQueue$Preview", "turnsAhead", "I", false)
  | _ => ("SingerQueue$Preview", "minute", "I", false)
def tyX5 : Nat → FieldType := fun k => match k with
  | 0 => .array .int
  | 1 => .int
  | _ => .int
abbrev wsX50 : List Cond := u_ws RX5 TX5 3
theorem nmX5 : ∀ a, a < 3 → ∀ b, b < 3 → a ≠ b → (TX5 a).2.1 ≠ (TX5 b).2.1 := by decide +kernel
theorem tyX5_ok : ∀ k, k < 3 → parseFieldDescriptor (TX5 k).2.2.1 = some (tyX5 k) := by decide +kernel
abbrev cX5_init : ByteArray := prog_7_method_1_code
def yX5_init : MethodName := ⟨RX5, "<init>", "()V"⟩
abbrev cX5_lookAhead : ByteArray := prog_7_method_2_code
def yX5_lookAhead : MethodName := ⟨RX5, "lookAhead", "(LSingerQueue$Evening;II)V"⟩
abbrev cX5_addTurn : ByteArray := prog_7_method_3_code
def yX5_addTurn : MethodName := ⟨RX5, "addTurn", "(I)V"⟩
def RX6 : String := "SingerQueue$Singers"
def TX6 : u_T := fun k => match k with
  | 0 => ("SingerQueue$Singers", "size", "I", false)
  | 1 => ("SingerQueue$Singers", "there", "I", false)
  | 2 => ("SingerQueue$Singers", "tired", "I", false)
  | 3 => ("SingerQueue$Singers", "lowest", "[I", true)
  | 4 => ("SingerQueue$Singers", "highest", "[I", true)
  | 5 => ("SingerQueue$Singers", "turns", "[I", true)
  | _ => ("SingerQueue$Singers", "minutes", "[I", true)
def tyX6 : Nat → FieldType := fun k => match k with
  | 0 => .int
  | 1 => .int
  | 2 => .int
  | 3 => .array .int
  | 4 => .array .int
  | 5 => .array .int
  | _ => .array .int
abbrev wsX60 : List Cond := u_ws RX6 TX6 7
theorem nmX6 : ∀ a, a < 7 → ∀ b, b < 7 → a ≠ b → (TX6 a).2.1 ≠ (TX6 b).2.1 := by decide +kernel
theorem tyX6_ok : ∀ k, k < 7 → parseFieldDescriptor (TX6 k).2.2.1 = some (tyX6 k) := by decide +kernel
abbrev cX6_init : ByteArray := prog_8_method_1_code
def yX6_init : MethodName := ⟨RX6, "<init>", "()V"⟩
abbrev cX6_has : ByteArray := prog_8_method_2_code
def yX6_has : MethodName := ⟨RX6, "has", "(I)Z"⟩
abbrev cX6_isThere : ByteArray := prog_8_method_3_code
def yX6_isThere : MethodName := ⟨RX6, "isThere", "(I)Z"⟩
abbrev cX6_setThere : ByteArray := prog_8_method_4_code
def yX6_setThere : MethodName := ⟨RX6, "setThere", "(IZ)V"⟩
abbrev cX6_add : ByteArray := prog_8_method_5_code
def yX6_add : MethodName := ⟨RX6, "add", "(II)I"⟩
abbrev cX6_singTurn : ByteArray := prog_8_method_6_code
def yX6_singTurn : MethodName := ⟨RX6, "singTurn", "(II)V"⟩
abbrev cX6_copyFrom : ByteArray := prog_8_method_7_code
def yX6_copyFrom : MethodName := ⟨RX6, "copyFrom", "(LSingerQueue$Singers;)V"⟩
def RX7 : String := "SingerQueue$Songs"
def TX7 : u_T := fun k => match k with
  | 0 => ("SingerQueue$Songs", "size", "I", false)
  | 1 => ("SingerQueue$Songs", "lowest", "[I", true)
  | 2 => ("SingerQueue$Songs", "highest", "[I", true)
  | 3 => ("SingerQueue$Songs", "length", "[I", true)
  | _ => ("SingerQueue$Songs", "timesSung", "[I", true)
def tyX7 : Nat → FieldType := fun k => match k with
  | 0 => .int
  | 1 => .array .int
  | 2 => .array .int
  | 3 => .array .int
  | _ => .array .int
abbrev wsX70 : List Cond := u_ws RX7 TX7 5
theorem nmX7 : ∀ a, a < 5 → ∀ b, b < 5 → a ≠ b → (TX7 a).2.1 ≠ (TX7 b).2.1 := by decide +kernel
theorem tyX7_ok : ∀ k, k < 5 → parseFieldDescriptor (TX7 k).2.2.1 = some (tyX7 k) := by decide +kernel
abbrev cX7_init : ByteArray := prog_9_method_1_code
def yX7_init : MethodName := ⟨RX7, "<init>", "()V"⟩
abbrev cX7_has : ByteArray := prog_9_method_2_code
def yX7_has : MethodName := ⟨RX7, "has", "(I)Z"⟩
abbrev cX7_add : ByteArray := prog_9_method_3_code
def yX7_add : MethodName := ⟨RX7, "add", "(III)I"⟩
abbrev cX7_keyAndTenBetween : ByteArray := prog_9_method_4_code
def yX7_keyAndTenBetween : MethodName := ⟨RX7, "keyAndTenBetween", "(III)I"⟩
abbrev cX7_fits : ByteArray := prog_9_method_5_code
def yX7_fits : MethodName := ⟨RX7, "fits", "(IIII)Z"⟩
abbrev cX7_copyFrom : ByteArray := prog_9_method_6_code
def yX7_copyFrom : MethodName := ⟨RX7, "copyFrom", "(LSingerQueue$Songs;)V"⟩
def RX8 : String := "SingerQueue$Wishes"
def TX8 : u_T := fun k => match k with
  | 0 => ("SingerQueue$Wishes", "size", "I", false)
  | 1 => ("SingerQueue$Wishes", "first", "[I", true)
  | 2 => ("SingerQueue$Wishes", "other", "[I", true)
  | _ => ("SingerQueue$Wishes", "song", "[I", true)
def tyX8 : Nat → FieldType := fun k => match k with
  | 0 => .int
  | 1 => .array .int
  | 2 => .array .int
  | _ => .array .int
abbrev wsX80 : List Cond := u_ws RX8 TX8 4
theorem nmX8 : ∀ a, a < 4 → ∀ b, b < 4 → a ≠ b → (TX8 a).2.1 ≠ (TX8 b).2.1 := by decide +kernel
theorem tyX8_ok : ∀ k, k < 4 → parseFieldDescriptor (TX8 k).2.2.1 = some (tyX8 k) := by decide +kernel
abbrev cX8_init : ByteArray := prog_10_method_1_code
def yX8_init : MethodName := ⟨RX8, "<init>", "()V"⟩
abbrev cX8_has : ByteArray := prog_10_method_2_code
def yX8_has : MethodName := ⟨RX8, "has", "(I)Z"⟩
abbrev cX8_add : ByteArray := prog_10_method_3_code
def yX8_add : MethodName := ⟨RX8, "add", "(III)I"⟩
abbrev cX8_removeAt : ByteArray := prog_10_method_4_code
def yX8_removeAt : MethodName := ⟨RX8, "removeAt", "(I)V"⟩
abbrev cX8_singersOf : ByteArray := prog_10_method_5_code
def yX8_singersOf : MethodName := ⟨RX8, "singersOf", "(I)I"⟩
abbrev cX8_numberWith : ByteArray := prog_10_method_6_code
def yX8_numberWith : MethodName := ⟨RX8, "numberWith", "(I)I"⟩
abbrev cX8_readyOnes : ByteArray := prog_10_method_7_code
def yX8_readyOnes : MethodName := ⟨RX8, "readyOnes", "(I)I"⟩
abbrev cX8_freshOnes : ByteArray := prog_10_method_8_code
def yX8_freshOnes : MethodName := ⟨RX8, "freshOnes", "(I)I"⟩
abbrev cX8_onesWithout : ByteArray := prog_10_method_9_code
def yX8_onesWithout : MethodName := ⟨RX8, "onesWithout", "(I)I"⟩
abbrev cX8_turnsFor : ByteArray := prog_10_method_10_code
def yX8_turnsFor : MethodName := ⟨RX8, "turnsFor", "(I[I)I"⟩
abbrev cX8_nextAmong : ByteArray := prog_10_method_11_code
def yX8_nextAmong : MethodName := ⟨RX8, "nextAmong", "(II[I)I"⟩
abbrev cX8_fewestTurnsAmong : ByteArray := prog_10_method_12_code
def yX8_fewestTurnsAmong : MethodName := ⟨RX8, "fewestTurnsAmong", "(I[I)I"⟩
abbrev cX8_copyFrom : ByteArray := prog_10_method_13_code
def yX8_copyFrom : MethodName := ⟨RX8, "copyFrom", "(LSingerQueue$Wishes;)V"⟩
def RX9 : String := "SingerQueue"
def TX9 : u_T := fun k => match k with
  | 0 => ("SingerQueue", "evening", "LSingerQueue$Evening;", true)
  | 1 => ("SingerQueue", "history", "LSingerQueue$History;", true)
  | 2 => ("SingerQueue", "slots", "[LSingerQueue$Evening;", true)
  | 3 => ("SingerQueue", "hasBeenSaved", "[Z", true)
  | 4 => ("SingerQueue", "pad", "LSingerQueue$Pad;", true)
  | 5 => ("SingerQueue", "padReader", "LSingerQueue$PadReader;", true)
  | _ => ("SingerQueue", "preview", "LSingerQueue$Preview;", true)
def tyX9 : Nat → FieldType := fun k => match k with
  | 0 => .object "SingerQueue$Evening"
  | 1 => .object "SingerQueue$History"
  | 2 => .array (.object "SingerQueue$Evening")
  | 3 => .array .boolean
  | 4 => .object "SingerQueue$Pad"
  | 5 => .object "SingerQueue$PadReader"
  | _ => .object "SingerQueue$Preview"
abbrev wsX90 : List Cond := u_ws RX9 TX9 7
theorem nmX9 : ∀ a, a < 7 → ∀ b, b < 7 → a ≠ b → (TX9 a).2.1 ≠ (TX9 b).2.1 := by decide +kernel
theorem tyX9_ok : ∀ k, k < 7 → parseFieldDescriptor (TX9 k).2.2.1 = some (tyX9 k) := by decide +kernel
abbrev cX9_init : ByteArray := prog_1_method_1_code
def yX9_init : MethodName := ⟨RX9, "<init>", "()V"⟩
abbrev cX9_singer : ByteArray := prog_1_method_2_code
def yX9_singer : MethodName := ⟨RX9, "singer", "(II)I"⟩
abbrev cX9_song : ByteArray := prog_1_method_3_code
def yX9_song : MethodName := ⟨RX9, "song", "(III)I"⟩
abbrev cX9_leave : ByteArray := prog_1_method_4_code
def yX9_leave : MethodName := ⟨RX9, "leave", "(IZ)I"⟩
abbrev cX9_wish : ByteArray := prog_1_method_5_code
def yX9_wish : MethodName := ⟨RX9, "wish", "(III)I"⟩
abbrev cX9_takeBack : ByteArray := prog_1_method_6_code
def yX9_takeBack : MethodName := ⟨RX9, "takeBack", "(I)I"⟩
abbrev cX9_sing : ByteArray := prog_1_method_7_code
def yX9_sing : MethodName := ⟨RX9, "sing", "(I)I"⟩
abbrev cX9_of : ByteArray := prog_1_method_9_code
def yX9_of : MethodName := ⟨RX9, "of", "(II)I"⟩
abbrev cX9_inQueue : ByteArray := prog_1_method_10_code
def yX9_inQueue : MethodName := ⟨RX9, "inQueue", "(II)I"⟩
abbrev cX9_key : ByteArray := prog_1_method_11_code
def yX9_key : MethodName := ⟨RX9, "key", "(III)I"⟩
abbrev cX9_ofSong : ByteArray := prog_1_method_12_code
def yX9_ofSong : MethodName := ⟨RX9, "ofSong", "(II)I"⟩
abbrev cX9_past : ByteArray := prog_1_method_13_code
def yX9_past : MethodName := ⟨RX9, "past", "(II)I"⟩
abbrev cX9_count : ByteArray := prog_1_method_14_code
def yX9_count : MethodName := ⟨RX9, "count", "(I)I"⟩
abbrev cX9_turnOf : ByteArray := prog_1_method_15_code
def yX9_turnOf : MethodName := ⟨RX9, "turnOf", "(II)I"⟩
abbrev cX9_endOfAll : ByteArray := prog_1_method_16_code
def yX9_endOfAll : MethodName := ⟨RX9, "endOfAll", "()I"⟩
abbrev cX9_ifLeft : ByteArray := prog_1_method_17_code
def yX9_ifLeft : MethodName := ⟨RX9, "ifLeft", "(I)I"⟩
abbrev cX9_heldUpBy : ByteArray := prog_1_method_18_code
def yX9_heldUpBy : MethodName := ⟨RX9, "heldUpBy", "(II)I"⟩
abbrev cX9_together : ByteArray := prog_1_method_19_code
def yX9_together : MethodName := ⟨RX9, "together", "(II)I"⟩
abbrev cX9_isBetween : ByteArray := prog_1_method_26_code
def yX9_isBetween : MethodName := ⟨RX9, "isBetween", "(III)Z"⟩
abbrev cX9_isToneRange : ByteArray := prog_1_method_27_code
def yX9_isToneRange : MethodName := ⟨RX9, "isToneRange", "(II)Z"⟩
abbrev cX9_isIn : ByteArray := prog_1_method_28_code
def yX9_isIn : MethodName := ⟨RX9, "isIn", "(II)Z"⟩
abbrev cX9_asNumber : ByteArray := prog_1_method_29_code
def yX9_asNumber : MethodName := ⟨RX9, "asNumber", "(Z)I"⟩
abbrev cX9_copyRow : ByteArray := prog_1_method_30_code
def yX9_copyRow : MethodName := ⟨RX9, "copyRow", "([I[I)V"⟩
abbrev cX9_beginWithout : ByteArray := prog_1_method_32_code
def yX9_beginWithout : MethodName := ⟨RX9, "beginWithout", "(II)I"⟩
def RX10 : String := "SingerQueueModel"
def TX10 : u_T := fun k => match k with
  | _ => ("", "", "", false)
def tyX10 : Nat → FieldType := fun k => match k with
  | _ => .int
abbrev wsX100 : List Cond := u_ws RX10 TX10 0
theorem nmX10 : ∀ a, a < 0 → ∀ b, b < 0 → a ≠ b → (TX10 a).2.1 ≠ (TX10 b).2.1 := by decide +kernel
theorem tyX10_ok : ∀ k, k < 0 → parseFieldDescriptor (TX10 k).2.2.1 = some (tyX10 k) := by decide +kernel
def RJ6 : String := "java/lang/Integer"
def TJ6 : u_T := fun k => match k with
  | _ => ("", "", "", false)
def tyJ6 : Nat → FieldType := fun k => match k with
  | _ => .int
abbrev wsJ60 : List Cond := u_ws RJ6 TJ6 0
theorem nmJ6 : ∀ a, a < 0 → ∀ b, b < 0 → a ≠ b → (TJ6 a).2.1 ≠ (TJ6 b).2.1 := by decide +kernel
theorem tyJ6_ok : ∀ k, k < 0 → parseFieldDescriptor (TJ6 k).2.2.1 = some (tyJ6 k) := by decide +kernel
abbrev cJ6_bitCount_0f7a4 : ByteArray := prog_13_method_49_code
def yJ6_bitCount_0f7a4 : MethodName := ⟨RJ6, "bitCount", "(I)I"⟩
def RJ9 : String := "java/lang/Math"
def TJ9 : u_T := fun k => match k with
  | _ => ("", "", "", false)
def tyJ9 : Nat → FieldType := fun k => match k with
  | _ => .int
abbrev wsJ90 : List Cond := u_ws RJ9 TJ9 0
theorem nmJ9 : ∀ a, a < 0 → ∀ b, b < 0 → a ≠ b → (TJ9 a).2.1 ≠ (TJ9 b).2.1 := by decide +kernel
theorem tyJ9_ok : ∀ k, k < 0 → parseFieldDescriptor (TJ9 k).2.2.1 = some (tyJ9 k) := by decide +kernel
abbrev cJ9_max_7cf53 : ByteArray := prog_14_method_65_code
def yJ9_max_7cf53 : MethodName := ⟨RJ9, "max", "(II)I"⟩
abbrev cJ9_min_7cf53 : ByteArray := prog_14_method_69_code
def yJ9_min_7cf53 : MethodName := ⟨RJ9, "min", "(II)I"⟩
def RJ10 : String := "java/lang/System"
def TJ10 : u_T := fun k => match k with
  | _ => ("", "", "", false)
def tyJ10 : Nat → FieldType := fun k => match k with
  | _ => .int
abbrev wsJ100 : List Cond := u_ws RJ10 TJ10 0
theorem nmJ10 : ∀ a, a < 0 → ∀ b, b < 0 → a ≠ b → (TJ10 a).2.1 ≠ (TJ10 b).2.1 := by decide +kernel
theorem tyJ10_ok : ∀ k, k < 0 → parseFieldDescriptor (TJ10 k).2.2.1 = some (tyJ10 k) := by decide +kernel
def RL : String := "SingerQueueLaw"
abbrev cL_cell : ByteArray := method_2_code
def yL_cell : MethodName := ⟨RL, "cell", "([II)I"⟩
abbrev cL_low : ByteArray := method_3_code
def yL_low : MethodName := ⟨RL, "low", "(II)I"⟩
abbrev cL_key : ByteArray := method_4_code
def yL_key : MethodName := ⟨RL, "key", "(III[I[I)I"⟩
abbrev cL_set : ByteArray := method_5_code
def yL_set : MethodName := ⟨RL, "set", "(I)I"⟩
abbrev cL_turns : ByteArray := method_6_code
def yL_turns : MethodName := ⟨RL, "turns", "(I[I)I"⟩
abbrev cL_next : ByteArray := method_7_code
def yL_next : MethodName := ⟨RL, "next", "([I[I[I)I"⟩
abbrev cL_sing : ByteArray := method_8_code
def yL_sing : MethodName := ⟨RL, "sing", "(I[I[I[I[I[I[I)V"⟩
abbrev cL_copy : ByteArray := method_9_code
def yL_copy : MethodName := ⟨RL, "copy", "([I[II)V"⟩
abbrev cL_comes : ByteArray := method_10_code
def yL_comes : MethodName := ⟨RL, "comes", "(II[I[I[I[I[I[I[I[I[I[I)I"⟩
abbrev cL_bits : ByteArray := method_11_code
def yL_bits : MethodName := ⟨RL, "bits", "(I)I"⟩
abbrev cL_same : ByteArray := method_12_code
def yL_same : MethodName := ⟨RL, "same", "(LSingerQueue;I[I[I[I[I[I[I[I[I[I[I[I[I)Z"⟩
abbrev cL_law : ByteArray := code
def yL_law : MethodName := ⟨RL, "law", "([I)Z"⟩
def wsX6_init : List Cond := .code yX6_init cX6_init 1 none :: ([.methodLink RX6 3 objectInit, .instanceMethod objectInit, .code objectInit ⟨#[0xb1]⟩ 1 none, .arrayClass .int, .fieldLink RX6 9 "SingerQueue$Singers" "lowest" "[I", .fieldLink RX6 15 "SingerQueue$Singers" "highest" "[I", .fieldLink RX6 18 "SingerQueue$Singers" "turns" "[I", .fieldLink RX6 21 "SingerQueue$Singers" "minutes" "[I"] ++ wsX60)
def wsX7_init : List Cond := .code yX7_init cX7_init 1 none :: ([.methodLink RX7 3 objectInit, .instanceMethod objectInit, .code objectInit ⟨#[0xb1]⟩ 1 none, .arrayClass .int, .fieldLink RX7 9 "SingerQueue$Songs" "lowest" "[I", .fieldLink RX7 15 "SingerQueue$Songs" "highest" "[I", .fieldLink RX7 18 "SingerQueue$Songs" "length" "[I", .fieldLink RX7 21 "SingerQueue$Songs" "timesSung" "[I"] ++ wsX70)
def wsX8_init : List Cond := .code yX8_init cX8_init 1 none :: ([.methodLink RX8 3 objectInit, .instanceMethod objectInit, .code objectInit ⟨#[0xb1]⟩ 1 none, .arrayClass .int, .fieldLink RX8 9 "SingerQueue$Wishes" "first" "[I", .fieldLink RX8 15 "SingerQueue$Wishes" "other" "[I", .fieldLink RX8 18 "SingerQueue$Wishes" "song" "[I"] ++ wsX80)
def wsX4_init : List Cond := .code yX4_init cX4_init 1 none :: ([.methodLink RX4 3 objectInit, .instanceMethod objectInit, .code objectInit ⟨#[0xb1]⟩ 1 none, .arrayClass .int, .fieldLink RX4 9 "SingerQueue$PastTurns" "first" "[I", .fieldLink RX4 15 "SingerQueue$PastTurns" "other" "[I", .fieldLink RX4 18 "SingerQueue$PastTurns" "song" "[I", .fieldLink RX4 21 "SingerQueue$PastTurns" "begin" "[I"] ++ wsX40)
def wsX0_init_r1 : List Cond := [Cond.methodLink RX0 3 objectInit, Cond.instanceMethod objectInit, Cond.code objectInit ⟨#[0xb1]⟩ 1 none, Cond.classLink RX0 9 RX6, Cond.instantiable RX6 7, Cond.initialized RX6, Cond.fieldLink RX0 12 "SingerQueue$Evening" "singers" "LSingerQueue$Singers;", Cond.classLink RX0 18 RX7, Cond.instantiable RX7 5, Cond.initialized RX7, Cond.fieldLink RX0 21 "SingerQueue$Evening" "songs" "LSingerQueue$Songs;", Cond.classLink RX0 25 RX8, Cond.instantiable RX8 4, Cond.initialized RX8, Cond.fieldLink RX0 28 "SingerQueue$Evening" "wishes" "LSingerQueue$Wishes;", Cond.classLink RX0 32 RX4, Cond.instantiable RX4 5, Cond.initialized RX4, Cond.fieldLink RX0 35 "SingerQueue$Evening" "past" "LSingerQueue$PastTurns;", Cond.instanceMethod yX6_init, Cond.code yX6_init cX6_init 1 none, Cond.methodLink RX6 3 objectInit, Cond.arrayClass .int, Cond.fieldLink RX6 9 "SingerQueue$Singers" "lowest" "[I"]
def wsX0_init_r2 : List Cond := [Cond.fieldLink RX6 15 "SingerQueue$Singers" "highest" "[I", Cond.fieldLink RX6 18 "SingerQueue$Singers" "turns" "[I", Cond.fieldLink RX6 21 "SingerQueue$Singers" "minutes" "[I", Cond.instanceMethod yX7_init, Cond.code yX7_init cX7_init 1 none, Cond.methodLink RX7 3 objectInit, Cond.fieldLink RX7 9 "SingerQueue$Songs" "lowest" "[I", Cond.fieldLink RX7 15 "SingerQueue$Songs" "highest" "[I", Cond.fieldLink RX7 18 "SingerQueue$Songs" "length" "[I", Cond.fieldLink RX7 21 "SingerQueue$Songs" "timesSung" "[I", Cond.instanceMethod yX8_init, Cond.code yX8_init cX8_init 1 none, Cond.methodLink RX8 3 objectInit, Cond.fieldLink RX8 9 "SingerQueue$Wishes" "first" "[I", Cond.fieldLink RX8 15 "SingerQueue$Wishes" "other" "[I", Cond.fieldLink RX8 18 "SingerQueue$Wishes" "song" "[I", Cond.instanceMethod yX4_init, Cond.code yX4_init cX4_init 1 none, Cond.methodLink RX4 3 objectInit, Cond.fieldLink RX4 9 "SingerQueue$PastTurns" "first" "[I", Cond.fieldLink RX4 15 "SingerQueue$PastTurns" "other" "[I", Cond.fieldLink RX4 18 "SingerQueue$PastTurns" "song" "[I", Cond.fieldLink RX4 21 "SingerQueue$PastTurns" "begin" "[I"]
def wsX0_init : List Cond := .code yX0_init cX0_init 1 none :: ((wsX0_init_r1 ++ wsX0_init_r2) ++ wsX60 ++ wsX00 ++ wsX70 ++ wsX80 ++ wsX40)
def wsX9_isBetween : List Cond := .code yX9_isBetween cX9_isBetween 3 (some .boolean) :: ([])
def wsX6_has : List Cond := .code yX6_has cX6_has 2 (some .boolean) :: ([.fieldLink RX6 24 "SingerQueue$Singers" "size" "I", .static yX9_isBetween, .initialized RX9, .code yX9_isBetween cX9_isBetween 3 (some .boolean)] ++ wsX60)
def wsX7_has : List Cond := .code yX7_has cX7_has 2 (some .boolean) :: ([.fieldLink RX7 24 "SingerQueue$Songs" "size" "I", .static yX9_isBetween, .initialized RX9, .code yX9_isBetween cX9_isBetween 3 (some .boolean)] ++ wsX70)
def wsX0_errorOfNames : List Cond := .code yX0_errorOfNames cX0_errorOfNames 4 (some .int) :: ([.fieldLink RX0 12 "SingerQueue$Evening" "singers" "LSingerQueue$Singers;", .fieldLink RX0 21 "SingerQueue$Evening" "songs" "LSingerQueue$Songs;", .methodLink RX0 39 yX6_has, .instanceMethod yX6_has, .selects RX6 yX6_has yX6_has, .initialized RX6, .code yX6_has cX6_has 2 (some .boolean), .fieldLink RX6 24 "SingerQueue$Singers" "size" "I", .static yX9_isBetween, .initialized RX9, .code yX9_isBetween cX9_isBetween 3 (some .boolean), .methodLink RX0 43 yX7_has, .instanceMethod yX7_has, .selects RX7 yX7_has yX7_has, .initialized RX7, .code yX7_has cX7_has 2 (some .boolean), .fieldLink RX7 24 "SingerQueue$Songs" "size" "I"] ++ wsX00 ++ wsX60 ++ wsX70)
def wsX7_fits : List Cond := .code yX7_fits cX7_fits 5 (some .boolean) :: ([.fieldLink RX7 9 "SingerQueue$Songs" "lowest" "[I", .fieldLink RX7 15 "SingerQueue$Songs" "highest" "[I"] ++ wsX70)
def wsX7_keyAndTenBetween : List Cond := .code yX7_keyAndTenBetween cX7_keyAndTenBetween 5 (some .int) :: ([.methodLink RX7 32 yX7_fits, .instanceMethod yX7_fits, .selects RX7 yX7_fits yX7_fits, .initialized RX7, .code yX7_fits cX7_fits 5 (some .boolean), .fieldLink RX7 9 "SingerQueue$Songs" "lowest" "[I", .fieldLink RX7 15 "SingerQueue$Songs" "highest" "[I"] ++ wsX70)
def wsX0_keyAndTen : List Cond := .code yX0_keyAndTen cX0_keyAndTen 6 (some .int) :: ([.fieldLink RX0 12 "SingerQueue$Evening" "singers" "LSingerQueue$Singers;", .fieldLink RX0 51 "SingerQueue$Singers" "lowest" "[I", .fieldLink RX0 55 "SingerQueue$Singers" "highest" "[I", .methodLink RX0 58 Lib.Math.max.name, .static Lib.Math.max.name, .initialized "java/lang/Math", .code Lib.Math.max.name Lib.Math.max.code 2 (some .int), .methodLink RX0 64 Lib.Math.min.name, .static Lib.Math.min.name, .code Lib.Math.min.name Lib.Math.min.code 2 (some .int), .fieldLink RX0 21 "SingerQueue$Evening" "songs" "LSingerQueue$Songs;", .methodLink RX0 67 yX7_keyAndTenBetween, .instanceMethod yX7_keyAndTenBetween, .selects RX7 yX7_keyAndTenBetween yX7_keyAndTenBetween, .initialized RX7, .code yX7_keyAndTenBetween cX7_keyAndTenBetween 5 (some .int), .methodLink RX7 32 yX7_fits, .instanceMethod yX7_fits, .selects RX7 yX7_fits yX7_fits, .code yX7_fits cX7_fits 5 (some .boolean), .fieldLink RX7 9 "SingerQueue$Songs" "lowest" "[I", .fieldLink RX7 15 "SingerQueue$Songs" "highest" "[I"] ++ wsX00 ++ wsX60 ++ wsX70)
def wsX0_errorOfWish_r1 : List Cond := [Cond.methodLink RX0 44 yX0_errorOfNames, Cond.instanceMethod yX0_errorOfNames, Cond.selects RX0 yX0_errorOfNames yX0_errorOfNames, Cond.initialized RX0, Cond.code yX0_errorOfNames cX0_errorOfNames 4 (some .int), Cond.fieldLink RX0 12 "SingerQueue$Evening" "singers" "LSingerQueue$Singers;", Cond.fieldLink RX0 21 "SingerQueue$Evening" "songs" "LSingerQueue$Songs;", Cond.methodLink RX0 39 yX6_has, Cond.instanceMethod yX6_has, Cond.selects RX6 yX6_has yX6_has, Cond.initialized RX6, Cond.code yX6_has cX6_has 2 (some .boolean), Cond.fieldLink RX6 24 "SingerQueue$Singers" "size" "I", Cond.static yX9_isBetween, Cond.initialized RX9, Cond.code yX9_isBetween cX9_isBetween 3 (some .boolean), Cond.methodLink RX0 43 yX7_has, Cond.instanceMethod yX7_has, Cond.selects RX7 yX7_has yX7_has, Cond.initialized RX7, Cond.code yX7_has cX7_has 2 (some .boolean), Cond.fieldLink RX7 24 "SingerQueue$Songs" "size" "I", Cond.methodLink RX0 48 yX0_keyAndTen, Cond.instanceMethod yX0_keyAndTen]
def wsX0_errorOfWish_r2 : List Cond := [Cond.selects RX0 yX0_keyAndTen yX0_keyAndTen, Cond.code yX0_keyAndTen cX0_keyAndTen 6 (some .int), Cond.fieldLink RX0 51 "SingerQueue$Singers" "lowest" "[I", Cond.fieldLink RX0 55 "SingerQueue$Singers" "highest" "[I", Cond.methodLink RX0 58 Lib.Math.max.name, Cond.static Lib.Math.max.name, Cond.initialized "java/lang/Math", Cond.code Lib.Math.max.name Lib.Math.max.code 2 (some .int), Cond.methodLink RX0 64 Lib.Math.min.name, Cond.static Lib.Math.min.name, Cond.code Lib.Math.min.name Lib.Math.min.code 2 (some .int), Cond.methodLink RX0 67 yX7_keyAndTenBetween, Cond.instanceMethod yX7_keyAndTenBetween, Cond.selects RX7 yX7_keyAndTenBetween yX7_keyAndTenBetween, Cond.code yX7_keyAndTenBetween cX7_keyAndTenBetween 5 (some .int), Cond.methodLink RX7 32 yX7_fits, Cond.instanceMethod yX7_fits, Cond.selects RX7 yX7_fits yX7_fits, Cond.code yX7_fits cX7_fits 5 (some .boolean), Cond.fieldLink RX7 9 "SingerQueue$Songs" "lowest" "[I", Cond.fieldLink RX7 15 "SingerQueue$Songs" "highest" "[I"]
def wsX0_errorOfWish : List Cond := .code yX0_errorOfWish cX0_errorOfWish 6 (some .int) :: ((wsX0_errorOfWish_r1 ++ wsX0_errorOfWish_r2) ++ wsX00 ++ wsX60 ++ wsX70)
def wsX0_singersWithKey_r1 : List Cond := [Cond.fieldLink RX0 12 "SingerQueue$Evening" "singers" "LSingerQueue$Singers;", Cond.fieldLink RX0 70 "SingerQueue$Singers" "size" "I", Cond.methodLink RX0 48 yX0_keyAndTen, Cond.instanceMethod yX0_keyAndTen, Cond.selects RX0 yX0_keyAndTen yX0_keyAndTen, Cond.initialized RX0, Cond.code yX0_keyAndTen cX0_keyAndTen 6 (some .int), Cond.fieldLink RX0 51 "SingerQueue$Singers" "lowest" "[I", Cond.fieldLink RX0 55 "SingerQueue$Singers" "highest" "[I", Cond.methodLink RX0 58 Lib.Math.max.name, Cond.static Lib.Math.max.name, Cond.initialized "java/lang/Math", Cond.code Lib.Math.max.name Lib.Math.max.code 2 (some .int), Cond.methodLink RX0 64 Lib.Math.min.name, Cond.static Lib.Math.min.name, Cond.code Lib.Math.min.name Lib.Math.min.code 2 (some .int), Cond.fieldLink RX0 21 "SingerQueue$Evening" "songs" "LSingerQueue$Songs;", Cond.methodLink RX0 67 yX7_keyAndTenBetween, Cond.instanceMethod yX7_keyAndTenBetween, Cond.selects RX7 yX7_keyAndTenBetween yX7_keyAndTenBetween, Cond.initialized RX7, Cond.code yX7_keyAndTenBetween cX7_keyAndTenBetween 5 (some .int), Cond.methodLink RX7 32 yX7_fits, Cond.instanceMethod yX7_fits]
def wsX0_singersWithKey_r2 : List Cond := [Cond.selects RX7 yX7_fits yX7_fits, Cond.code yX7_fits cX7_fits 5 (some .boolean), Cond.fieldLink RX7 9 "SingerQueue$Songs" "lowest" "[I", Cond.fieldLink RX7 15 "SingerQueue$Songs" "highest" "[I"]
def wsX0_singersWithKey : List Cond := .code yX0_singersWithKey cX0_singersWithKey 4 (some .int) :: ((wsX0_singersWithKey_r1 ++ wsX0_singersWithKey_r2) ++ wsX00 ++ wsX60 ++ wsX70)
def wsX8_singersOf : List Cond := .code yX8_singersOf cX8_singersOf 3 (some .int) :: ([.fieldLink RX8 9 "SingerQueue$Wishes" "first" "[I", .fieldLink RX8 15 "SingerQueue$Wishes" "other" "[I"] ++ wsX80)
def wsX8_onesWithout : List Cond := .code yX8_onesWithout cX8_onesWithout 4 (some .int) :: ([.fieldLink RX8 21 "SingerQueue$Wishes" "size" "I", .methodLink RX8 29 yX8_singersOf, .instanceMethod yX8_singersOf, .selects RX8 yX8_singersOf yX8_singersOf, .initialized RX8, .code yX8_singersOf cX8_singersOf 3 (some .int), .fieldLink RX8 9 "SingerQueue$Wishes" "first" "[I", .fieldLink RX8 15 "SingerQueue$Wishes" "other" "[I"] ++ wsX80)
def wsX8_readyOnes : List Cond := .code yX8_readyOnes cX8_readyOnes 2 (some .int) :: ([.methodLink RX8 37 yX8_onesWithout, .instanceMethod yX8_onesWithout, .selects RX8 yX8_onesWithout yX8_onesWithout, .initialized RX8, .code yX8_onesWithout cX8_onesWithout 4 (some .int), .fieldLink RX8 21 "SingerQueue$Wishes" "size" "I", .methodLink RX8 29 yX8_singersOf, .instanceMethod yX8_singersOf, .selects RX8 yX8_singersOf yX8_singersOf, .code yX8_singersOf cX8_singersOf 3 (some .int), .fieldLink RX8 9 "SingerQueue$Wishes" "first" "[I", .fieldLink RX8 15 "SingerQueue$Wishes" "other" "[I"] ++ wsX80)
def wsX9_isIn : List Cond := .code yX9_isIn cX9_isIn 2 (some .boolean) :: ([])
def wsX0_isReady : List Cond := .code yX0_isReady cX0_isReady 2 (some .boolean) :: ([.fieldLink RX0 28 "SingerQueue$Evening" "wishes" "LSingerQueue$Wishes;", .fieldLink RX0 12 "SingerQueue$Evening" "singers" "LSingerQueue$Singers;", .fieldLink RX0 74 "SingerQueue$Singers" "there" "I", .methodLink RX0 77 yX8_readyOnes, .instanceMethod yX8_readyOnes, .selects RX8 yX8_readyOnes yX8_readyOnes, .initialized RX8, .code yX8_readyOnes cX8_readyOnes 2 (some .int), .methodLink RX8 37 yX8_onesWithout, .instanceMethod yX8_onesWithout, .selects RX8 yX8_onesWithout yX8_onesWithout, .code yX8_onesWithout cX8_onesWithout 4 (some .int), .fieldLink RX8 21 "SingerQueue$Wishes" "size" "I", .methodLink RX8 29 yX8_singersOf, .instanceMethod yX8_singersOf, .selects RX8 yX8_singersOf yX8_singersOf, .code yX8_singersOf cX8_singersOf 3 (some .int), .fieldLink RX8 9 "SingerQueue$Wishes" "first" "[I", .fieldLink RX8 15 "SingerQueue$Wishes" "other" "[I", .static yX9_isIn, .initialized RX9, .code yX9_isIn cX9_isIn 2 (some .boolean)] ++ wsX00 ++ wsX60 ++ wsX80)
def wsX0_lengthOfWish : List Cond := .code yX0_lengthOfWish cX0_lengthOfWish 2 (some .int) :: ([.fieldLink RX0 21 "SingerQueue$Evening" "songs" "LSingerQueue$Songs;", .fieldLink RX0 85 "SingerQueue$Songs" "length" "[I", .fieldLink RX0 28 "SingerQueue$Evening" "wishes" "LSingerQueue$Wishes;", .fieldLink RX0 88 "SingerQueue$Wishes" "song" "[I"] ++ wsX00 ++ wsX70 ++ wsX80)
def wsX8_freshOnes : List Cond := .code yX8_freshOnes cX8_freshOnes 2 (some .int) :: ([.methodLink RX8 37 yX8_onesWithout, .instanceMethod yX8_onesWithout, .selects RX8 yX8_onesWithout yX8_onesWithout, .initialized RX8, .code yX8_onesWithout cX8_onesWithout 4 (some .int), .fieldLink RX8 21 "SingerQueue$Wishes" "size" "I", .methodLink RX8 29 yX8_singersOf, .instanceMethod yX8_singersOf, .selects RX8 yX8_singersOf yX8_singersOf, .code yX8_singersOf cX8_singersOf 3 (some .int), .fieldLink RX8 9 "SingerQueue$Wishes" "first" "[I", .fieldLink RX8 15 "SingerQueue$Wishes" "other" "[I"] ++ wsX80)
def wsX8_turnsFor : List Cond := .code yX8_turnsFor cX8_turnsFor 4 (some .int) :: ([.fieldLink RX8 9 "SingerQueue$Wishes" "first" "[I", .fieldLink RX8 15 "SingerQueue$Wishes" "other" "[I", .methodLink RX8 40 Lib.Math.max.name, .static Lib.Math.max.name, .initialized "java/lang/Math", .code Lib.Math.max.name Lib.Math.max.code 2 (some .int)] ++ wsX80)
def wsX8_fewestTurnsAmong : List Cond := .code yX8_fewestTurnsAmong cX8_fewestTurnsAmong 5 (some .int) :: ([.fieldLink RX8 21 "SingerQueue$Wishes" "size" "I", .static yX9_isIn, .initialized RX9, .code yX9_isIn cX9_isIn 2 (some .boolean), .methodLink RX8 53 yX8_turnsFor, .instanceMethod yX8_turnsFor, .selects RX8 yX8_turnsFor yX8_turnsFor, .initialized RX8, .code yX8_turnsFor cX8_turnsFor 4 (some .int), .fieldLink RX8 9 "SingerQueue$Wishes" "first" "[I", .fieldLink RX8 15 "SingerQueue$Wishes" "other" "[I", .methodLink RX8 40 Lib.Math.max.name, .static Lib.Math.max.name, .initialized "java/lang/Math", .code Lib.Math.max.name Lib.Math.max.code 2 (some .int)] ++ wsX80)
def wsX8_nextAmong_r1 : List Cond := [Cond.methodLink RX8 46 yX8_freshOnes, Cond.instanceMethod yX8_freshOnes, Cond.selects RX8 yX8_freshOnes yX8_freshOnes, Cond.initialized RX8, Cond.code yX8_freshOnes cX8_freshOnes 2 (some .int), Cond.methodLink RX8 37 yX8_onesWithout, Cond.instanceMethod yX8_onesWithout, Cond.selects RX8 yX8_onesWithout yX8_onesWithout, Cond.code yX8_onesWithout cX8_onesWithout 4 (some .int), Cond.fieldLink RX8 21 "SingerQueue$Wishes" "size" "I", Cond.methodLink RX8 29 yX8_singersOf, Cond.instanceMethod yX8_singersOf, Cond.selects RX8 yX8_singersOf yX8_singersOf, Cond.code yX8_singersOf cX8_singersOf 3 (some .int), Cond.fieldLink RX8 9 "SingerQueue$Wishes" "first" "[I", Cond.fieldLink RX8 15 "SingerQueue$Wishes" "other" "[I", Cond.methodLink RX8 49 yX8_fewestTurnsAmong, Cond.instanceMethod yX8_fewestTurnsAmong, Cond.selects RX8 yX8_fewestTurnsAmong yX8_fewestTurnsAmong, Cond.code yX8_fewestTurnsAmong cX8_fewestTurnsAmong 5 (some .int), Cond.static yX9_isIn, Cond.initialized RX9, Cond.code yX9_isIn cX9_isIn 2 (some .boolean), Cond.methodLink RX8 53 yX8_turnsFor]
def wsX8_nextAmong_r2 : List Cond := [Cond.instanceMethod yX8_turnsFor, Cond.selects RX8 yX8_turnsFor yX8_turnsFor, Cond.code yX8_turnsFor cX8_turnsFor 4 (some .int), Cond.methodLink RX8 40 Lib.Math.max.name, Cond.static Lib.Math.max.name, Cond.initialized "java/lang/Math", Cond.code Lib.Math.max.name Lib.Math.max.code 2 (some .int)]
def wsX8_nextAmong : List Cond := .code yX8_nextAmong cX8_nextAmong 5 (some .int) :: ((wsX8_nextAmong_r1 ++ wsX8_nextAmong_r2) ++ wsX80)
def wsX0_nextWish_r1 : List Cond := [Cond.fieldLink RX0 28 "SingerQueue$Evening" "wishes" "LSingerQueue$Wishes;", Cond.fieldLink RX0 12 "SingerQueue$Evening" "singers" "LSingerQueue$Singers;", Cond.fieldLink RX0 74 "SingerQueue$Singers" "there" "I", Cond.fieldLink RX0 91 "SingerQueue$Singers" "tired" "I", Cond.fieldLink RX0 94 "SingerQueue$Singers" "turns" "[I", Cond.methodLink RX0 77 yX8_readyOnes, Cond.instanceMethod yX8_readyOnes, Cond.selects RX8 yX8_readyOnes yX8_readyOnes, Cond.initialized RX8, Cond.code yX8_readyOnes cX8_readyOnes 2 (some .int), Cond.methodLink RX8 37 yX8_onesWithout, Cond.instanceMethod yX8_onesWithout, Cond.selects RX8 yX8_onesWithout yX8_onesWithout, Cond.code yX8_onesWithout cX8_onesWithout 4 (some .int), Cond.fieldLink RX8 21 "SingerQueue$Wishes" "size" "I", Cond.methodLink RX8 29 yX8_singersOf, Cond.instanceMethod yX8_singersOf, Cond.selects RX8 yX8_singersOf yX8_singersOf, Cond.code yX8_singersOf cX8_singersOf 3 (some .int), Cond.fieldLink RX8 9 "SingerQueue$Wishes" "first" "[I", Cond.fieldLink RX8 15 "SingerQueue$Wishes" "other" "[I", Cond.methodLink RX0 97 yX8_nextAmong, Cond.instanceMethod yX8_nextAmong, Cond.selects RX8 yX8_nextAmong yX8_nextAmong]
def wsX0_nextWish_r2 : List Cond := [Cond.code yX8_nextAmong cX8_nextAmong 5 (some .int), Cond.methodLink RX8 46 yX8_freshOnes, Cond.instanceMethod yX8_freshOnes, Cond.selects RX8 yX8_freshOnes yX8_freshOnes, Cond.code yX8_freshOnes cX8_freshOnes 2 (some .int), Cond.methodLink RX8 49 yX8_fewestTurnsAmong, Cond.instanceMethod yX8_fewestTurnsAmong, Cond.selects RX8 yX8_fewestTurnsAmong yX8_fewestTurnsAmong, Cond.code yX8_fewestTurnsAmong cX8_fewestTurnsAmong 5 (some .int), Cond.static yX9_isIn, Cond.initialized RX9, Cond.code yX9_isIn cX9_isIn 2 (some .boolean), Cond.methodLink RX8 53 yX8_turnsFor, Cond.instanceMethod yX8_turnsFor, Cond.selects RX8 yX8_turnsFor yX8_turnsFor, Cond.code yX8_turnsFor cX8_turnsFor 4 (some .int), Cond.methodLink RX8 40 Lib.Math.max.name, Cond.static Lib.Math.max.name, Cond.initialized "java/lang/Math", Cond.code Lib.Math.max.name Lib.Math.max.code 2 (some .int)]
def wsX0_nextWish : List Cond := .code yX0_nextWish cX0_nextWish 1 (some .int) :: ((wsX0_nextWish_r1 ++ wsX0_nextWish_r2) ++ wsX00 ++ wsX60 ++ wsX80)
def wsX4_remember : List Cond := .code yX4_remember cX4_remember 6 none :: ([.fieldLink RX4 24 "SingerQueue$PastTurns" "size" "I", .methodLink RX4 28 Lib.Math.min.name, .static Lib.Math.min.name, .initialized "java/lang/Math", .code Lib.Math.min.name Lib.Math.min.code 2 (some .int), .fieldLink RX4 9 "SingerQueue$PastTurns" "first" "[I", .fieldLink RX4 15 "SingerQueue$PastTurns" "other" "[I", .fieldLink RX4 18 "SingerQueue$PastTurns" "song" "[I", .fieldLink RX4 21 "SingerQueue$PastTurns" "begin" "[I"] ++ wsX40)
def wsX6_singTurn : List Cond := .code yX6_singTurn cX6_singTurn 4 none :: ([.fieldLink RX6 24 "SingerQueue$Singers" "size" "I", .fieldLink RX6 18 "SingerQueue$Singers" "turns" "[I", .fieldLink RX6 21 "SingerQueue$Singers" "minutes" "[I", .fieldLink RX6 43 "SingerQueue$Singers" "tired" "I", .static yX9_isIn, .initialized RX9, .code yX9_isIn cX9_isIn 2 (some .boolean)] ++ wsX60)
def wsX8_removeAt : List Cond := .code yX8_removeAt cX8_removeAt 3 none :: ([.fieldLink RX8 21 "SingerQueue$Wishes" "size" "I", .fieldLink RX8 9 "SingerQueue$Wishes" "first" "[I", .fieldLink RX8 15 "SingerQueue$Wishes" "other" "[I", .fieldLink RX8 18 "SingerQueue$Wishes" "song" "[I"] ++ wsX80)
def wsX0_singTurn_r1 : List Cond := [Cond.fieldLink RX0 28 "SingerQueue$Evening" "wishes" "LSingerQueue$Wishes;", Cond.fieldLink RX0 88 "SingerQueue$Wishes" "song" "[I", Cond.fieldLink RX0 35 "SingerQueue$Evening" "past" "LSingerQueue$PastTurns;", Cond.fieldLink RX0 104 "SingerQueue$Wishes" "first" "[I", Cond.fieldLink RX0 107 "SingerQueue$Wishes" "other" "[I", Cond.fieldLink RX0 110 "SingerQueue$Evening" "minute" "I", Cond.fieldLink RX0 12 "SingerQueue$Evening" "singers" "LSingerQueue$Singers;", Cond.fieldLink RX0 21 "SingerQueue$Evening" "songs" "LSingerQueue$Songs;", Cond.fieldLink RX0 124 "SingerQueue$Songs" "timesSung" "[I", Cond.fieldLink RX0 127 "SingerQueue$Evening" "turnsSung" "I", Cond.methodLink RX0 101 yX0_lengthOfWish, Cond.instanceMethod yX0_lengthOfWish, Cond.selects RX0 yX0_lengthOfWish yX0_lengthOfWish, Cond.initialized RX0, Cond.code yX0_lengthOfWish cX0_lengthOfWish 2 (some .int), Cond.fieldLink RX0 85 "SingerQueue$Songs" "length" "[I", Cond.methodLink RX0 113 yX4_remember, Cond.instanceMethod yX4_remember, Cond.selects RX4 yX4_remember yX4_remember, Cond.initialized RX4, Cond.code yX4_remember cX4_remember 6 none, Cond.fieldLink RX4 24 "SingerQueue$PastTurns" "size" "I", Cond.methodLink RX4 28 Lib.Math.min.name, Cond.static Lib.Math.min.name]
def wsX0_singTurn_r2 : List Cond := [Cond.initialized "java/lang/Math", Cond.code Lib.Math.min.name Lib.Math.min.code 2 (some .int), Cond.fieldLink RX4 9 "SingerQueue$PastTurns" "first" "[I", Cond.fieldLink RX4 15 "SingerQueue$PastTurns" "other" "[I", Cond.fieldLink RX4 18 "SingerQueue$PastTurns" "song" "[I", Cond.fieldLink RX4 21 "SingerQueue$PastTurns" "begin" "[I", Cond.methodLink RX0 117 yX8_singersOf, Cond.instanceMethod yX8_singersOf, Cond.selects RX8 yX8_singersOf yX8_singersOf, Cond.initialized RX8, Cond.code yX8_singersOf cX8_singersOf 3 (some .int), Cond.fieldLink RX8 9 "SingerQueue$Wishes" "first" "[I", Cond.fieldLink RX8 15 "SingerQueue$Wishes" "other" "[I", Cond.methodLink RX0 120 yX6_singTurn, Cond.instanceMethod yX6_singTurn, Cond.selects RX6 yX6_singTurn yX6_singTurn, Cond.initialized RX6, Cond.code yX6_singTurn cX6_singTurn 4 none, Cond.fieldLink RX6 24 "SingerQueue$Singers" "size" "I", Cond.fieldLink RX6 18 "SingerQueue$Singers" "turns" "[I", Cond.fieldLink RX6 21 "SingerQueue$Singers" "minutes" "[I", Cond.fieldLink RX6 43 "SingerQueue$Singers" "tired" "I", Cond.static yX9_isIn, Cond.initialized RX9]
def wsX0_singTurn_r3 : List Cond := [Cond.code yX9_isIn cX9_isIn 2 (some .boolean), Cond.methodLink RX0 130 yX8_removeAt, Cond.instanceMethod yX8_removeAt, Cond.selects RX8 yX8_removeAt yX8_removeAt, Cond.code yX8_removeAt cX8_removeAt 3 none, Cond.fieldLink RX8 21 "SingerQueue$Wishes" "size" "I", Cond.fieldLink RX8 18 "SingerQueue$Wishes" "song" "[I"]
def wsX0_singTurn : List Cond := .code yX0_singTurn cX0_singTurn 4 none :: ((wsX0_singTurn_r1 ++ (wsX0_singTurn_r2 ++ wsX0_singTurn_r3)) ++ wsX00 ++ wsX80 ++ wsX70 ++ wsX40 ++ wsX60)
def wsX9_copyRow : List Cond := .code yX9_copyRow cX9_copyRow 2 none :: ([.methodLink RX9 259 Lib.Math.min.name, .static Lib.Math.min.name, .initialized "java/lang/Math", .code Lib.Math.min.name Lib.Math.min.code 2 (some .int), .methodLink RX9 264 arraycopyName, .native arraycopyName, .static arraycopyName, .initialized "java/lang/System"])
def wsX6_copyFrom : List Cond := .code yX6_copyFrom cX6_copyFrom 2 none :: ([.fieldLink RX6 24 "SingerQueue$Singers" "size" "I", .fieldLink RX6 32 "SingerQueue$Singers" "there" "I", .fieldLink RX6 43 "SingerQueue$Singers" "tired" "I", .fieldLink RX6 9 "SingerQueue$Singers" "lowest" "[I", .fieldLink RX6 15 "SingerQueue$Singers" "highest" "[I", .fieldLink RX6 18 "SingerQueue$Singers" "turns" "[I", .fieldLink RX6 21 "SingerQueue$Singers" "minutes" "[I", .static yX9_copyRow, .initialized RX9, .code yX9_copyRow cX9_copyRow 2 none, .methodLink RX9 259 Lib.Math.min.name, .static Lib.Math.min.name, .initialized "java/lang/Math", .code Lib.Math.min.name Lib.Math.min.code 2 (some .int), .methodLink RX9 264 arraycopyName, .native arraycopyName, .static arraycopyName, .initialized "java/lang/System"] ++ wsX60)
def wsX7_copyFrom : List Cond := .code yX7_copyFrom cX7_copyFrom 2 none :: ([.fieldLink RX7 24 "SingerQueue$Songs" "size" "I", .fieldLink RX7 9 "SingerQueue$Songs" "lowest" "[I", .fieldLink RX7 15 "SingerQueue$Songs" "highest" "[I", .fieldLink RX7 18 "SingerQueue$Songs" "length" "[I", .fieldLink RX7 21 "SingerQueue$Songs" "timesSung" "[I", .static yX9_copyRow, .initialized RX9, .code yX9_copyRow cX9_copyRow 2 none, .methodLink RX9 259 Lib.Math.min.name, .static Lib.Math.min.name, .initialized "java/lang/Math", .code Lib.Math.min.name Lib.Math.min.code 2 (some .int), .methodLink RX9 264 arraycopyName, .native arraycopyName, .static arraycopyName, .initialized "java/lang/System"] ++ wsX70)
def wsX8_copyFrom : List Cond := .code yX8_copyFrom cX8_copyFrom 2 none :: ([.fieldLink RX8 21 "SingerQueue$Wishes" "size" "I", .fieldLink RX8 9 "SingerQueue$Wishes" "first" "[I", .fieldLink RX8 15 "SingerQueue$Wishes" "other" "[I", .fieldLink RX8 18 "SingerQueue$Wishes" "song" "[I", .static yX9_copyRow, .initialized RX9, .code yX9_copyRow cX9_copyRow 2 none, .methodLink RX9 259 Lib.Math.min.name, .static Lib.Math.min.name, .initialized "java/lang/Math", .code Lib.Math.min.name Lib.Math.min.code 2 (some .int), .methodLink RX9 264 arraycopyName, .native arraycopyName, .static arraycopyName, .initialized "java/lang/System"] ++ wsX80)
def wsX4_copyFrom : List Cond := .code yX4_copyFrom cX4_copyFrom 2 none :: ([.fieldLink RX4 24 "SingerQueue$PastTurns" "size" "I", .fieldLink RX4 9 "SingerQueue$PastTurns" "first" "[I", .fieldLink RX4 15 "SingerQueue$PastTurns" "other" "[I", .fieldLink RX4 18 "SingerQueue$PastTurns" "song" "[I", .fieldLink RX4 21 "SingerQueue$PastTurns" "begin" "[I", .static yX9_copyRow, .initialized RX9, .code yX9_copyRow cX9_copyRow 2 none, .methodLink RX9 259 Lib.Math.min.name, .static Lib.Math.min.name, .initialized "java/lang/Math", .code Lib.Math.min.name Lib.Math.min.code 2 (some .int), .methodLink RX9 264 arraycopyName, .native arraycopyName, .static arraycopyName, .initialized "java/lang/System"] ++ wsX40)
def wsX0_copyFrom_r1 : List Cond := [Cond.fieldLink RX0 12 "SingerQueue$Evening" "singers" "LSingerQueue$Singers;", Cond.fieldLink RX0 21 "SingerQueue$Evening" "songs" "LSingerQueue$Songs;", Cond.fieldLink RX0 28 "SingerQueue$Evening" "wishes" "LSingerQueue$Wishes;", Cond.fieldLink RX0 35 "SingerQueue$Evening" "past" "LSingerQueue$PastTurns;", Cond.fieldLink RX0 110 "SingerQueue$Evening" "minute" "I", Cond.fieldLink RX0 127 "SingerQueue$Evening" "turnsSung" "I", Cond.methodLink RX0 134 yX6_copyFrom, Cond.instanceMethod yX6_copyFrom, Cond.selects RX6 yX6_copyFrom yX6_copyFrom, Cond.initialized RX6, Cond.code yX6_copyFrom cX6_copyFrom 2 none, Cond.fieldLink RX6 24 "SingerQueue$Singers" "size" "I", Cond.fieldLink RX6 32 "SingerQueue$Singers" "there" "I", Cond.fieldLink RX6 43 "SingerQueue$Singers" "tired" "I", Cond.fieldLink RX6 9 "SingerQueue$Singers" "lowest" "[I", Cond.fieldLink RX6 15 "SingerQueue$Singers" "highest" "[I", Cond.fieldLink RX6 18 "SingerQueue$Singers" "turns" "[I", Cond.fieldLink RX6 21 "SingerQueue$Singers" "minutes" "[I", Cond.static yX9_copyRow, Cond.initialized RX9, Cond.code yX9_copyRow cX9_copyRow 2 none, Cond.methodLink RX9 259 Lib.Math.min.name, Cond.static Lib.Math.min.name, Cond.initialized "java/lang/Math"]
def wsX0_copyFrom_r2 : List Cond := [Cond.code Lib.Math.min.name Lib.Math.min.code 2 (some .int), Cond.methodLink RX9 264 arraycopyName, Cond.native arraycopyName, Cond.static arraycopyName, Cond.initialized "java/lang/System", Cond.methodLink RX0 138 yX7_copyFrom, Cond.instanceMethod yX7_copyFrom, Cond.selects RX7 yX7_copyFrom yX7_copyFrom, Cond.initialized RX7, Cond.code yX7_copyFrom cX7_copyFrom 2 none, Cond.fieldLink RX7 24 "SingerQueue$Songs" "size" "I", Cond.fieldLink RX7 9 "SingerQueue$Songs" "lowest" "[I", Cond.fieldLink RX7 15 "SingerQueue$Songs" "highest" "[I", Cond.fieldLink RX7 18 "SingerQueue$Songs" "length" "[I", Cond.fieldLink RX7 21 "SingerQueue$Songs" "timesSung" "[I", Cond.methodLink RX0 141 yX8_copyFrom, Cond.instanceMethod yX8_copyFrom, Cond.selects RX8 yX8_copyFrom yX8_copyFrom, Cond.initialized RX8, Cond.code yX8_copyFrom cX8_copyFrom 2 none, Cond.fieldLink RX8 21 "SingerQueue$Wishes" "size" "I", Cond.fieldLink RX8 9 "SingerQueue$Wishes" "first" "[I", Cond.fieldLink RX8 15 "SingerQueue$Wishes" "other" "[I", Cond.fieldLink RX8 18 "SingerQueue$Wishes" "song" "[I"]
def wsX0_copyFrom_r3 : List Cond := [Cond.methodLink RX0 144 yX4_copyFrom, Cond.instanceMethod yX4_copyFrom, Cond.selects RX4 yX4_copyFrom yX4_copyFrom, Cond.initialized RX4, Cond.code yX4_copyFrom cX4_copyFrom 2 none, Cond.fieldLink RX4 24 "SingerQueue$PastTurns" "size" "I", Cond.fieldLink RX4 9 "SingerQueue$PastTurns" "first" "[I", Cond.fieldLink RX4 15 "SingerQueue$PastTurns" "other" "[I", Cond.fieldLink RX4 18 "SingerQueue$PastTurns" "song" "[I", Cond.fieldLink RX4 21 "SingerQueue$PastTurns" "begin" "[I"]
def wsX0_copyFrom : List Cond := .code yX0_copyFrom cX0_copyFrom 2 none :: ((wsX0_copyFrom_r1 ++ (wsX0_copyFrom_r2 ++ wsX0_copyFrom_r3)) ++ wsX00 ++ wsX60 ++ wsX70 ++ wsX80 ++ wsX40)
def wsX1_init_r1 : List Cond := [Cond.methodLink RX1 3 objectInit, Cond.instanceMethod objectInit, Cond.code objectInit ⟨#[0xb1]⟩ 1 none, Cond.classLink RX1 9 RX0, Cond.fieldLink RX1 11 "SingerQueue$History" "states" "[LSingerQueue$Evening;", Cond.instantiable RX0 6, Cond.initialized RX0, Cond.instanceMethod yX0_init, Cond.code yX0_init cX0_init 1 none, Cond.methodLink RX0 3 objectInit, Cond.classLink RX0 9 RX6, Cond.instantiable RX6 7, Cond.initialized RX6, Cond.fieldLink RX0 12 "SingerQueue$Evening" "singers" "LSingerQueue$Singers;", Cond.classLink RX0 18 RX7, Cond.instantiable RX7 5, Cond.initialized RX7, Cond.fieldLink RX0 21 "SingerQueue$Evening" "songs" "LSingerQueue$Songs;", Cond.classLink RX0 25 RX8, Cond.instantiable RX8 4, Cond.initialized RX8, Cond.fieldLink RX0 28 "SingerQueue$Evening" "wishes" "LSingerQueue$Wishes;", Cond.classLink RX0 32 RX4, Cond.instantiable RX4 5]
def wsX1_init_r2 : List Cond := [Cond.initialized RX4, Cond.fieldLink RX0 35 "SingerQueue$Evening" "past" "LSingerQueue$PastTurns;", Cond.instanceMethod yX6_init, Cond.code yX6_init cX6_init 1 none, Cond.methodLink RX6 3 objectInit, Cond.arrayClass .int, Cond.fieldLink RX6 9 "SingerQueue$Singers" "lowest" "[I", Cond.fieldLink RX6 15 "SingerQueue$Singers" "highest" "[I", Cond.fieldLink RX6 18 "SingerQueue$Singers" "turns" "[I", Cond.fieldLink RX6 21 "SingerQueue$Singers" "minutes" "[I", Cond.instanceMethod yX7_init, Cond.code yX7_init cX7_init 1 none, Cond.methodLink RX7 3 objectInit, Cond.fieldLink RX7 9 "SingerQueue$Songs" "lowest" "[I", Cond.fieldLink RX7 15 "SingerQueue$Songs" "highest" "[I", Cond.fieldLink RX7 18 "SingerQueue$Songs" "length" "[I", Cond.fieldLink RX7 21 "SingerQueue$Songs" "timesSung" "[I", Cond.instanceMethod yX8_init, Cond.code yX8_init cX8_init 1 none, Cond.methodLink RX8 3 objectInit, Cond.fieldLink RX8 9 "SingerQueue$Wishes" "first" "[I", Cond.fieldLink RX8 15 "SingerQueue$Wishes" "other" "[I", Cond.fieldLink RX8 18 "SingerQueue$Wishes" "song" "[I", Cond.instanceMethod yX4_init]
def wsX1_init_r3 : List Cond := [Cond.code yX4_init cX4_init 1 none, Cond.methodLink RX4 3 objectInit, Cond.fieldLink RX4 9 "SingerQueue$PastTurns" "first" "[I", Cond.fieldLink RX4 15 "SingerQueue$PastTurns" "other" "[I", Cond.fieldLink RX4 18 "SingerQueue$PastTurns" "song" "[I", Cond.fieldLink RX4 21 "SingerQueue$PastTurns" "begin" "[I"]
def wsX1_init : List Cond := .code yX1_init cX1_init 2 none :: ((wsX1_init_r1 ++ (wsX1_init_r2 ++ wsX1_init_r3)) ++ wsX10 ++ wsX00 ++ wsX60 ++ wsX70 ++ wsX80 ++ wsX40)
def wsX1_keep_r1 : List Cond := [Cond.fieldLink RX1 11 "SingerQueue$History" "states" "[LSingerQueue$Evening;", Cond.fieldLink RX1 18 "SingerQueue$History" "place" "I", Cond.fieldLink RX1 26 "SingerQueue$History" "size" "I", Cond.methodLink RX1 29 Lib.Math.min.name, Cond.static Lib.Math.min.name, Cond.initialized "java/lang/Math", Cond.code Lib.Math.min.name Lib.Math.min.code 2 (some .int), Cond.methodLink RX1 22 yX0_copyFrom, Cond.instanceMethod yX0_copyFrom, Cond.selects RX0 yX0_copyFrom yX0_copyFrom, Cond.initialized RX0, Cond.code yX0_copyFrom cX0_copyFrom 2 none, Cond.fieldLink RX0 12 "SingerQueue$Evening" "singers" "LSingerQueue$Singers;", Cond.fieldLink RX0 21 "SingerQueue$Evening" "songs" "LSingerQueue$Songs;", Cond.fieldLink RX0 28 "SingerQueue$Evening" "wishes" "LSingerQueue$Wishes;", Cond.fieldLink RX0 35 "SingerQueue$Evening" "past" "LSingerQueue$PastTurns;", Cond.fieldLink RX0 110 "SingerQueue$Evening" "minute" "I", Cond.fieldLink RX0 127 "SingerQueue$Evening" "turnsSung" "I", Cond.methodLink RX0 134 yX6_copyFrom, Cond.instanceMethod yX6_copyFrom, Cond.selects RX6 yX6_copyFrom yX6_copyFrom, Cond.initialized RX6, Cond.code yX6_copyFrom cX6_copyFrom 2 none, Cond.fieldLink RX6 24 "SingerQueue$Singers" "size" "I"]
def wsX1_keep_r2 : List Cond := [Cond.fieldLink RX6 32 "SingerQueue$Singers" "there" "I", Cond.fieldLink RX6 43 "SingerQueue$Singers" "tired" "I", Cond.fieldLink RX6 9 "SingerQueue$Singers" "lowest" "[I", Cond.fieldLink RX6 15 "SingerQueue$Singers" "highest" "[I", Cond.fieldLink RX6 18 "SingerQueue$Singers" "turns" "[I", Cond.fieldLink RX6 21 "SingerQueue$Singers" "minutes" "[I", Cond.static yX9_copyRow, Cond.initialized RX9, Cond.code yX9_copyRow cX9_copyRow 2 none, Cond.methodLink RX9 259 Lib.Math.min.name, Cond.methodLink RX9 264 arraycopyName, Cond.native arraycopyName, Cond.static arraycopyName, Cond.initialized "java/lang/System", Cond.methodLink RX0 138 yX7_copyFrom, Cond.instanceMethod yX7_copyFrom, Cond.selects RX7 yX7_copyFrom yX7_copyFrom, Cond.initialized RX7, Cond.code yX7_copyFrom cX7_copyFrom 2 none, Cond.fieldLink RX7 24 "SingerQueue$Songs" "size" "I", Cond.fieldLink RX7 9 "SingerQueue$Songs" "lowest" "[I", Cond.fieldLink RX7 15 "SingerQueue$Songs" "highest" "[I", Cond.fieldLink RX7 18 "SingerQueue$Songs" "length" "[I", Cond.fieldLink RX7 21 "SingerQueue$Songs" "timesSung" "[I"]
def wsX1_keep_r3 : List Cond := [Cond.methodLink RX0 141 yX8_copyFrom, Cond.instanceMethod yX8_copyFrom, Cond.selects RX8 yX8_copyFrom yX8_copyFrom, Cond.initialized RX8, Cond.code yX8_copyFrom cX8_copyFrom 2 none, Cond.fieldLink RX8 21 "SingerQueue$Wishes" "size" "I", Cond.fieldLink RX8 9 "SingerQueue$Wishes" "first" "[I", Cond.fieldLink RX8 15 "SingerQueue$Wishes" "other" "[I", Cond.fieldLink RX8 18 "SingerQueue$Wishes" "song" "[I", Cond.methodLink RX0 144 yX4_copyFrom, Cond.instanceMethod yX4_copyFrom, Cond.selects RX4 yX4_copyFrom yX4_copyFrom, Cond.initialized RX4, Cond.code yX4_copyFrom cX4_copyFrom 2 none, Cond.fieldLink RX4 24 "SingerQueue$PastTurns" "size" "I", Cond.fieldLink RX4 9 "SingerQueue$PastTurns" "first" "[I", Cond.fieldLink RX4 15 "SingerQueue$PastTurns" "other" "[I", Cond.fieldLink RX4 18 "SingerQueue$PastTurns" "song" "[I", Cond.fieldLink RX4 21 "SingerQueue$PastTurns" "begin" "[I"]
def wsX1_keep : List Cond := .code yX1_keep cX1_keep 2 none :: ((wsX1_keep_r1 ++ (wsX1_keep_r2 ++ wsX1_keep_r3)) ++ wsX10 ++ wsX00 ++ wsX60 ++ wsX70 ++ wsX80 ++ wsX40)
def wsX2_init : List Cond := .code yX2_init cX2_init 1 none :: ([.methodLink RX2 3 objectInit, .instanceMethod objectInit, .code objectInit ⟨#[0xb1]⟩ 1 none, .arrayClass .char, .fieldLink RX2 9 "SingerQueue$Pad" "text" "[C"] ++ wsX20)
def wsX3_init : List Cond := .code yX3_init cX3_init 1 none :: ([.methodLink RX3 3 objectInit, .instanceMethod objectInit, .code objectInit ⟨#[0xb1]⟩ 1 none, .arrayClass .int, .fieldLink RX3 9 "SingerQueue$PadReader" "first" "[I", .fieldLink RX3 15 "SingerQueue$PadReader" "other" "[I", .fieldLink RX3 18 "SingerQueue$PadReader" "song" "[I"] ++ wsX30)
def wsX5_init : List Cond := .code yX5_init cX5_init 1 none :: ([.methodLink RX5 3 objectInit, .instanceMethod objectInit, .code objectInit ⟨#[0xb1]⟩ 1 none, .arrayClass .int, .fieldLink RX5 9 "SingerQueue$Preview" "turns" "[I"] ++ wsX50)
def wsX5_addTurn : List Cond := .code yX5_addTurn cX5_addTurn 3 none :: ([.fieldLink RX5 9 "SingerQueue$Preview" "turns" "[I", .static yX9_isIn, .initialized RX9, .code yX9_isIn cX9_isIn 2 (some .boolean)] ++ wsX50)
def wsX5_lookAhead_r1 : List Cond := [Cond.fieldLink RX5 15 "SingerQueue$Evening" "wishes" "LSingerQueue$Wishes;", Cond.fieldLink RX5 21 "SingerQueue$Evening" "singers" "LSingerQueue$Singers;", Cond.fieldLink RX5 25 "SingerQueue$Singers" "turns" "[I", Cond.fieldLink RX5 9 "SingerQueue$Preview" "turns" "[I", Cond.fieldLink RX5 32 "SingerQueue$Singers" "there" "I", Cond.fieldLink RX5 42 "SingerQueue$Singers" "tired" "I", Cond.fieldLink RX5 45 "SingerQueue$Evening" "minute" "I", Cond.fieldLink RX5 48 "SingerQueue$Preview" "minute" "I", Cond.fieldLink RX5 49 "SingerQueue$Preview" "turnsAhead" "I", Cond.static yX9_copyRow, Cond.initialized RX9, Cond.code yX9_copyRow cX9_copyRow 2 none, Cond.methodLink RX9 259 Lib.Math.min.name, Cond.static Lib.Math.min.name, Cond.initialized "java/lang/Math", Cond.code Lib.Math.min.name Lib.Math.min.code 2 (some .int), Cond.methodLink RX9 264 arraycopyName, Cond.native arraycopyName, Cond.static arraycopyName, Cond.initialized "java/lang/System", Cond.methodLink RX5 36 yX8_readyOnes, Cond.instanceMethod yX8_readyOnes, Cond.selects RX8 yX8_readyOnes yX8_readyOnes, Cond.initialized RX8]
def wsX5_lookAhead_r2 : List Cond := [Cond.code yX8_readyOnes cX8_readyOnes 2 (some .int), Cond.methodLink RX8 37 yX8_onesWithout, Cond.instanceMethod yX8_onesWithout, Cond.selects RX8 yX8_onesWithout yX8_onesWithout, Cond.code yX8_onesWithout cX8_onesWithout 4 (some .int), Cond.fieldLink RX8 21 "SingerQueue$Wishes" "size" "I", Cond.methodLink RX8 29 yX8_singersOf, Cond.instanceMethod yX8_singersOf, Cond.selects RX8 yX8_singersOf yX8_singersOf, Cond.code yX8_singersOf cX8_singersOf 3 (some .int), Cond.fieldLink RX8 9 "SingerQueue$Wishes" "first" "[I", Cond.fieldLink RX8 15 "SingerQueue$Wishes" "other" "[I", Cond.methodLink RX5 52 yX8_nextAmong, Cond.instanceMethod yX8_nextAmong, Cond.selects RX8 yX8_nextAmong yX8_nextAmong, Cond.code yX8_nextAmong cX8_nextAmong 5 (some .int), Cond.methodLink RX8 46 yX8_freshOnes, Cond.instanceMethod yX8_freshOnes, Cond.selects RX8 yX8_freshOnes yX8_freshOnes, Cond.code yX8_freshOnes cX8_freshOnes 2 (some .int), Cond.methodLink RX8 49 yX8_fewestTurnsAmong, Cond.instanceMethod yX8_fewestTurnsAmong, Cond.selects RX8 yX8_fewestTurnsAmong yX8_fewestTurnsAmong, Cond.code yX8_fewestTurnsAmong cX8_fewestTurnsAmong 5 (some .int)]
def wsX5_lookAhead_r3 : List Cond := [Cond.static yX9_isIn, Cond.code yX9_isIn cX9_isIn 2 (some .boolean), Cond.methodLink RX8 53 yX8_turnsFor, Cond.instanceMethod yX8_turnsFor, Cond.selects RX8 yX8_turnsFor yX8_turnsFor, Cond.code yX8_turnsFor cX8_turnsFor 4 (some .int), Cond.methodLink RX8 40 Lib.Math.max.name, Cond.static Lib.Math.max.name, Cond.code Lib.Math.max.name Lib.Math.max.code 2 (some .int), Cond.methodLink RX5 56 yX0_lengthOfWish, Cond.instanceMethod yX0_lengthOfWish, Cond.selects RX0 yX0_lengthOfWish yX0_lengthOfWish, Cond.initialized RX0, Cond.code yX0_lengthOfWish cX0_lengthOfWish 2 (some .int), Cond.fieldLink RX0 21 "SingerQueue$Evening" "songs" "LSingerQueue$Songs;", Cond.fieldLink RX0 85 "SingerQueue$Songs" "length" "[I", Cond.fieldLink RX0 28 "SingerQueue$Evening" "wishes" "LSingerQueue$Wishes;", Cond.fieldLink RX0 88 "SingerQueue$Wishes" "song" "[I", Cond.methodLink RX5 59 yX8_singersOf, Cond.methodLink RX5 62 yX5_addTurn, Cond.instanceMethod yX5_addTurn, Cond.selects RX5 yX5_addTurn yX5_addTurn, Cond.initialized RX5, Cond.code yX5_addTurn cX5_addTurn 3 none]
def wsX5_lookAhead : List Cond := .code yX5_lookAhead cX5_lookAhead 8 none :: ((wsX5_lookAhead_r1 ++ (wsX5_lookAhead_r2 ++ wsX5_lookAhead_r3)) ++ wsX00 ++ wsX60 ++ wsX50 ++ wsX80 ++ wsX70)
def wsX6_isThere : List Cond := .code yX6_isThere cX6_isThere 2 (some .boolean) :: ([.fieldLink RX6 32 "SingerQueue$Singers" "there" "I", .static yX9_isIn, .initialized RX9, .code yX9_isIn cX9_isIn 2 (some .boolean)] ++ wsX60)
def wsX6_setThere : List Cond := .code yX6_setThere cX6_setThere 4 none :: ([.fieldLink RX6 32 "SingerQueue$Singers" "there" "I"] ++ wsX60)
def wsX6_add : List Cond := .code yX6_add cX6_add 4 (some .int) :: ([.fieldLink RX6 24 "SingerQueue$Singers" "size" "I", .fieldLink RX6 9 "SingerQueue$Singers" "lowest" "[I", .fieldLink RX6 15 "SingerQueue$Singers" "highest" "[I", .methodLink RX6 39 yX6_setThere, .instanceMethod yX6_setThere, .selects RX6 yX6_setThere yX6_setThere, .initialized RX6, .code yX6_setThere cX6_setThere 4 none, .fieldLink RX6 32 "SingerQueue$Singers" "there" "I"] ++ wsX60)
def wsX7_add : List Cond := .code yX7_add cX7_add 5 (some .int) :: ([.fieldLink RX7 24 "SingerQueue$Songs" "size" "I", .fieldLink RX7 9 "SingerQueue$Songs" "lowest" "[I", .fieldLink RX7 15 "SingerQueue$Songs" "highest" "[I", .fieldLink RX7 18 "SingerQueue$Songs" "length" "[I"] ++ wsX70)
def wsX8_has : List Cond := .code yX8_has cX8_has 2 (some .boolean) :: ([.fieldLink RX8 21 "SingerQueue$Wishes" "size" "I", .static yX9_isBetween, .initialized RX9, .code yX9_isBetween cX9_isBetween 3 (some .boolean)] ++ wsX80)
def wsX8_add : List Cond := .code yX8_add cX8_add 5 (some .int) :: ([.fieldLink RX8 21 "SingerQueue$Wishes" "size" "I", .fieldLink RX8 9 "SingerQueue$Wishes" "first" "[I", .fieldLink RX8 15 "SingerQueue$Wishes" "other" "[I", .fieldLink RX8 18 "SingerQueue$Wishes" "song" "[I"] ++ wsX80)
def wsX8_numberWith : List Cond := .code yX8_numberWith cX8_numberWith 4 (some .int) :: ([.fieldLink RX8 21 "SingerQueue$Wishes" "size" "I", .methodLink RX8 29 yX8_singersOf, .instanceMethod yX8_singersOf, .selects RX8 yX8_singersOf yX8_singersOf, .initialized RX8, .code yX8_singersOf cX8_singersOf 3 (some .int), .fieldLink RX8 9 "SingerQueue$Wishes" "first" "[I", .fieldLink RX8 15 "SingerQueue$Wishes" "other" "[I", .static yX9_isIn, .initialized RX9, .code yX9_isIn cX9_isIn 2 (some .boolean)] ++ wsX80)
def wsX9_init_r1 : List Cond := [Cond.methodLink RX9 3 objectInit, Cond.instanceMethod objectInit, Cond.code objectInit ⟨#[0xb1]⟩ 1 none, Cond.classLink RX9 9 RX0, Cond.instantiable RX0 6, Cond.initialized RX0, Cond.fieldLink RX9 12 "SingerQueue" "evening" "LSingerQueue$Evening;", Cond.classLink RX9 16 RX1, Cond.instantiable RX1 3, Cond.initialized RX1, Cond.fieldLink RX9 19 "SingerQueue" "history" "LSingerQueue$History;", Cond.fieldLink RX9 23 "SingerQueue" "slots" "[LSingerQueue$Evening;", Cond.arrayClass .boolean, Cond.fieldLink RX9 27 "SingerQueue" "hasBeenSaved" "[Z", Cond.classLink RX9 31 RX2, Cond.instantiable RX2 2, Cond.initialized RX2, Cond.fieldLink RX9 34 "SingerQueue" "pad" "LSingerQueue$Pad;", Cond.classLink RX9 38 RX3, Cond.instantiable RX3 5, Cond.initialized RX3, Cond.fieldLink RX9 41 "SingerQueue" "padReader" "LSingerQueue$PadReader;", Cond.classLink RX9 45 RX5, Cond.instantiable RX5 3]
def wsX9_init_r2 : List Cond := [Cond.initialized RX5, Cond.fieldLink RX9 48 "SingerQueue" "preview" "LSingerQueue$Preview;", Cond.instanceMethod yX0_init, Cond.code yX0_init cX0_init 1 none, Cond.methodLink RX0 3 objectInit, Cond.classLink RX0 9 RX6, Cond.instantiable RX6 7, Cond.initialized RX6, Cond.fieldLink RX0 12 "SingerQueue$Evening" "singers" "LSingerQueue$Singers;", Cond.classLink RX0 18 RX7, Cond.instantiable RX7 5, Cond.initialized RX7, Cond.fieldLink RX0 21 "SingerQueue$Evening" "songs" "LSingerQueue$Songs;", Cond.classLink RX0 25 RX8, Cond.instantiable RX8 4, Cond.initialized RX8, Cond.fieldLink RX0 28 "SingerQueue$Evening" "wishes" "LSingerQueue$Wishes;", Cond.classLink RX0 32 RX4, Cond.instantiable RX4 5, Cond.initialized RX4, Cond.fieldLink RX0 35 "SingerQueue$Evening" "past" "LSingerQueue$PastTurns;", Cond.instanceMethod yX6_init, Cond.code yX6_init cX6_init 1 none, Cond.methodLink RX6 3 objectInit]
def wsX9_init_r3 : List Cond := [Cond.arrayClass .int, Cond.fieldLink RX6 9 "SingerQueue$Singers" "lowest" "[I", Cond.fieldLink RX6 15 "SingerQueue$Singers" "highest" "[I", Cond.fieldLink RX6 18 "SingerQueue$Singers" "turns" "[I", Cond.fieldLink RX6 21 "SingerQueue$Singers" "minutes" "[I", Cond.instanceMethod yX7_init, Cond.code yX7_init cX7_init 1 none, Cond.methodLink RX7 3 objectInit, Cond.fieldLink RX7 9 "SingerQueue$Songs" "lowest" "[I", Cond.fieldLink RX7 15 "SingerQueue$Songs" "highest" "[I", Cond.fieldLink RX7 18 "SingerQueue$Songs" "length" "[I", Cond.fieldLink RX7 21 "SingerQueue$Songs" "timesSung" "[I", Cond.instanceMethod yX8_init, Cond.code yX8_init cX8_init 1 none, Cond.methodLink RX8 3 objectInit, Cond.fieldLink RX8 9 "SingerQueue$Wishes" "first" "[I", Cond.fieldLink RX8 15 "SingerQueue$Wishes" "other" "[I", Cond.fieldLink RX8 18 "SingerQueue$Wishes" "song" "[I", Cond.instanceMethod yX4_init, Cond.code yX4_init cX4_init 1 none, Cond.methodLink RX4 3 objectInit, Cond.fieldLink RX4 9 "SingerQueue$PastTurns" "first" "[I", Cond.fieldLink RX4 15 "SingerQueue$PastTurns" "other" "[I", Cond.fieldLink RX4 18 "SingerQueue$PastTurns" "song" "[I"]
def wsX9_init_r4 : List Cond := [Cond.fieldLink RX4 21 "SingerQueue$PastTurns" "begin" "[I", Cond.methodLink RX9 18 yX1_init, Cond.instanceMethod yX1_init, Cond.code yX1_init cX1_init 2 none, Cond.methodLink RX1 3 objectInit, Cond.classLink RX1 9 RX0, Cond.fieldLink RX1 11 "SingerQueue$History" "states" "[LSingerQueue$Evening;", Cond.instanceMethod yX2_init, Cond.code yX2_init cX2_init 1 none, Cond.methodLink RX2 3 objectInit, Cond.arrayClass .char, Cond.fieldLink RX2 9 "SingerQueue$Pad" "text" "[C", Cond.instanceMethod yX3_init, Cond.code yX3_init cX3_init 1 none, Cond.methodLink RX3 3 objectInit, Cond.fieldLink RX3 9 "SingerQueue$PadReader" "first" "[I", Cond.fieldLink RX3 15 "SingerQueue$PadReader" "other" "[I", Cond.fieldLink RX3 18 "SingerQueue$PadReader" "song" "[I", Cond.instanceMethod yX5_init, Cond.code yX5_init cX5_init 1 none, Cond.methodLink RX5 3 objectInit, Cond.fieldLink RX5 9 "SingerQueue$Preview" "turns" "[I"]
def wsX9_init : List Cond := .code yX9_init cX9_init 2 none :: ((wsX9_init_r1 ++ (wsX9_init_r2 ++ (wsX9_init_r3 ++ wsX9_init_r4))) ++ wsX00 ++ wsX90 ++ wsX10 ++ wsX20 ++ wsX30 ++ wsX50 ++ wsX60 ++ wsX70 ++ wsX80 ++ wsX40)
def wsX9_isToneRange : List Cond := .code yX9_isToneRange cX9_isToneRange 2 (some .boolean) :: ([.methodLink RX9 74 yX9_isBetween, .static yX9_isBetween, .initialized RX9, .code yX9_isBetween cX9_isBetween 3 (some .boolean)])
def wsX9_singer_r1 : List Cond := [Cond.fieldLink RX9 12 "SingerQueue" "evening" "LSingerQueue$Evening;", Cond.fieldLink RX9 56 "SingerQueue$Evening" "singers" "LSingerQueue$Singers;", Cond.fieldLink RX9 60 "SingerQueue$Singers" "size" "I", Cond.fieldLink RX9 19 "SingerQueue" "history" "LSingerQueue$History;", Cond.methodLink RX9 52 yX9_isToneRange, Cond.static yX9_isToneRange, Cond.initialized RX9, Cond.code yX9_isToneRange cX9_isToneRange 2 (some .boolean), Cond.methodLink RX9 74 yX9_isBetween, Cond.static yX9_isBetween, Cond.code yX9_isBetween cX9_isBetween 3 (some .boolean), Cond.methodLink RX9 66 yX1_keep, Cond.instanceMethod yX1_keep, Cond.selects RX1 yX1_keep yX1_keep, Cond.initialized RX1, Cond.code yX1_keep cX1_keep 2 none, Cond.fieldLink RX1 11 "SingerQueue$History" "states" "[LSingerQueue$Evening;", Cond.fieldLink RX1 18 "SingerQueue$History" "place" "I", Cond.fieldLink RX1 26 "SingerQueue$History" "size" "I", Cond.methodLink RX1 29 Lib.Math.min.name, Cond.static Lib.Math.min.name, Cond.initialized "java/lang/Math", Cond.code Lib.Math.min.name Lib.Math.min.code 2 (some .int), Cond.methodLink RX1 22 yX0_copyFrom]
def wsX9_singer_r2 : List Cond := [Cond.instanceMethod yX0_copyFrom, Cond.selects RX0 yX0_copyFrom yX0_copyFrom, Cond.initialized RX0, Cond.code yX0_copyFrom cX0_copyFrom 2 none, Cond.fieldLink RX0 12 "SingerQueue$Evening" "singers" "LSingerQueue$Singers;", Cond.fieldLink RX0 21 "SingerQueue$Evening" "songs" "LSingerQueue$Songs;", Cond.fieldLink RX0 28 "SingerQueue$Evening" "wishes" "LSingerQueue$Wishes;", Cond.fieldLink RX0 35 "SingerQueue$Evening" "past" "LSingerQueue$PastTurns;", Cond.fieldLink RX0 110 "SingerQueue$Evening" "minute" "I", Cond.fieldLink RX0 127 "SingerQueue$Evening" "turnsSung" "I", Cond.methodLink RX0 134 yX6_copyFrom, Cond.instanceMethod yX6_copyFrom, Cond.selects RX6 yX6_copyFrom yX6_copyFrom, Cond.initialized RX6, Cond.code yX6_copyFrom cX6_copyFrom 2 none, Cond.fieldLink RX6 24 "SingerQueue$Singers" "size" "I", Cond.fieldLink RX6 32 "SingerQueue$Singers" "there" "I", Cond.fieldLink RX6 43 "SingerQueue$Singers" "tired" "I", Cond.fieldLink RX6 9 "SingerQueue$Singers" "lowest" "[I", Cond.fieldLink RX6 15 "SingerQueue$Singers" "highest" "[I", Cond.fieldLink RX6 18 "SingerQueue$Singers" "turns" "[I", Cond.fieldLink RX6 21 "SingerQueue$Singers" "minutes" "[I", Cond.static yX9_copyRow, Cond.code yX9_copyRow cX9_copyRow 2 none]
def wsX9_singer_r3 : List Cond := [Cond.methodLink RX9 259 Lib.Math.min.name, Cond.methodLink RX9 264 arraycopyName, Cond.native arraycopyName, Cond.static arraycopyName, Cond.initialized "java/lang/System", Cond.methodLink RX0 138 yX7_copyFrom, Cond.instanceMethod yX7_copyFrom, Cond.selects RX7 yX7_copyFrom yX7_copyFrom, Cond.initialized RX7, Cond.code yX7_copyFrom cX7_copyFrom 2 none, Cond.fieldLink RX7 24 "SingerQueue$Songs" "size" "I", Cond.fieldLink RX7 9 "SingerQueue$Songs" "lowest" "[I", Cond.fieldLink RX7 15 "SingerQueue$Songs" "highest" "[I", Cond.fieldLink RX7 18 "SingerQueue$Songs" "length" "[I", Cond.fieldLink RX7 21 "SingerQueue$Songs" "timesSung" "[I", Cond.methodLink RX0 141 yX8_copyFrom, Cond.instanceMethod yX8_copyFrom, Cond.selects RX8 yX8_copyFrom yX8_copyFrom, Cond.initialized RX8, Cond.code yX8_copyFrom cX8_copyFrom 2 none, Cond.fieldLink RX8 21 "SingerQueue$Wishes" "size" "I", Cond.fieldLink RX8 9 "SingerQueue$Wishes" "first" "[I", Cond.fieldLink RX8 15 "SingerQueue$Wishes" "other" "[I", Cond.fieldLink RX8 18 "SingerQueue$Wishes" "song" "[I"]
def wsX9_singer_r4 : List Cond := [Cond.methodLink RX0 144 yX4_copyFrom, Cond.instanceMethod yX4_copyFrom, Cond.selects RX4 yX4_copyFrom yX4_copyFrom, Cond.initialized RX4, Cond.code yX4_copyFrom cX4_copyFrom 2 none, Cond.fieldLink RX4 24 "SingerQueue$PastTurns" "size" "I", Cond.fieldLink RX4 9 "SingerQueue$PastTurns" "first" "[I", Cond.fieldLink RX4 15 "SingerQueue$PastTurns" "other" "[I", Cond.fieldLink RX4 18 "SingerQueue$PastTurns" "song" "[I", Cond.fieldLink RX4 21 "SingerQueue$PastTurns" "begin" "[I", Cond.methodLink RX9 70 yX6_add, Cond.instanceMethod yX6_add, Cond.selects RX6 yX6_add yX6_add, Cond.code yX6_add cX6_add 4 (some .int), Cond.methodLink RX6 39 yX6_setThere, Cond.instanceMethod yX6_setThere, Cond.selects RX6 yX6_setThere yX6_setThere, Cond.code yX6_setThere cX6_setThere 4 none]
def wsX9_singer : List Cond := .code yX9_singer cX9_singer 3 (some .int) :: ((wsX9_singer_r1 ++ (wsX9_singer_r2 ++ (wsX9_singer_r3 ++ wsX9_singer_r4))) ++ wsX90 ++ wsX00 ++ wsX60 ++ wsX10 ++ wsX70 ++ wsX80 ++ wsX40)
def wsX9_song_r1 : List Cond := [Cond.fieldLink RX9 12 "SingerQueue" "evening" "LSingerQueue$Evening;", Cond.fieldLink RX9 78 "SingerQueue$Evening" "songs" "LSingerQueue$Songs;", Cond.fieldLink RX9 82 "SingerQueue$Songs" "size" "I", Cond.fieldLink RX9 19 "SingerQueue" "history" "LSingerQueue$History;", Cond.methodLink RX9 52 yX9_isToneRange, Cond.static yX9_isToneRange, Cond.initialized RX9, Cond.code yX9_isToneRange cX9_isToneRange 2 (some .boolean), Cond.methodLink RX9 74 yX9_isBetween, Cond.static yX9_isBetween, Cond.code yX9_isBetween cX9_isBetween 3 (some .boolean), Cond.methodLink RX9 66 yX1_keep, Cond.instanceMethod yX1_keep, Cond.selects RX1 yX1_keep yX1_keep, Cond.initialized RX1, Cond.code yX1_keep cX1_keep 2 none, Cond.fieldLink RX1 11 "SingerQueue$History" "states" "[LSingerQueue$Evening;", Cond.fieldLink RX1 18 "SingerQueue$History" "place" "I", Cond.fieldLink RX1 26 "SingerQueue$History" "size" "I", Cond.methodLink RX1 29 Lib.Math.min.name, Cond.static Lib.Math.min.name, Cond.initialized "java/lang/Math", Cond.code Lib.Math.min.name Lib.Math.min.code 2 (some .int), Cond.methodLink RX1 22 yX0_copyFrom]
def wsX9_song_r2 : List Cond := [Cond.instanceMethod yX0_copyFrom, Cond.selects RX0 yX0_copyFrom yX0_copyFrom, Cond.initialized RX0, Cond.code yX0_copyFrom cX0_copyFrom 2 none, Cond.fieldLink RX0 12 "SingerQueue$Evening" "singers" "LSingerQueue$Singers;", Cond.fieldLink RX0 21 "SingerQueue$Evening" "songs" "LSingerQueue$Songs;", Cond.fieldLink RX0 28 "SingerQueue$Evening" "wishes" "LSingerQueue$Wishes;", Cond.fieldLink RX0 35 "SingerQueue$Evening" "past" "LSingerQueue$PastTurns;", Cond.fieldLink RX0 110 "SingerQueue$Evening" "minute" "I", Cond.fieldLink RX0 127 "SingerQueue$Evening" "turnsSung" "I", Cond.methodLink RX0 134 yX6_copyFrom, Cond.instanceMethod yX6_copyFrom, Cond.selects RX6 yX6_copyFrom yX6_copyFrom, Cond.initialized RX6, Cond.code yX6_copyFrom cX6_copyFrom 2 none, Cond.fieldLink RX6 24 "SingerQueue$Singers" "size" "I", Cond.fieldLink RX6 32 "SingerQueue$Singers" "there" "I", Cond.fieldLink RX6 43 "SingerQueue$Singers" "tired" "I", Cond.fieldLink RX6 9 "SingerQueue$Singers" "lowest" "[I", Cond.fieldLink RX6 15 "SingerQueue$Singers" "highest" "[I", Cond.fieldLink RX6 18 "SingerQueue$Singers" "turns" "[I", Cond.fieldLink RX6 21 "SingerQueue$Singers" "minutes" "[I", Cond.static yX9_copyRow, Cond.code yX9_copyRow cX9_copyRow 2 none]
def wsX9_song_r3 : List Cond := [Cond.methodLink RX9 259 Lib.Math.min.name, Cond.methodLink RX9 264 arraycopyName, Cond.native arraycopyName, Cond.static arraycopyName, Cond.initialized "java/lang/System", Cond.methodLink RX0 138 yX7_copyFrom, Cond.instanceMethod yX7_copyFrom, Cond.selects RX7 yX7_copyFrom yX7_copyFrom, Cond.initialized RX7, Cond.code yX7_copyFrom cX7_copyFrom 2 none, Cond.fieldLink RX7 24 "SingerQueue$Songs" "size" "I", Cond.fieldLink RX7 9 "SingerQueue$Songs" "lowest" "[I", Cond.fieldLink RX7 15 "SingerQueue$Songs" "highest" "[I", Cond.fieldLink RX7 18 "SingerQueue$Songs" "length" "[I", Cond.fieldLink RX7 21 "SingerQueue$Songs" "timesSung" "[I", Cond.methodLink RX0 141 yX8_copyFrom, Cond.instanceMethod yX8_copyFrom, Cond.selects RX8 yX8_copyFrom yX8_copyFrom, Cond.initialized RX8, Cond.code yX8_copyFrom cX8_copyFrom 2 none, Cond.fieldLink RX8 21 "SingerQueue$Wishes" "size" "I", Cond.fieldLink RX8 9 "SingerQueue$Wishes" "first" "[I", Cond.fieldLink RX8 15 "SingerQueue$Wishes" "other" "[I", Cond.fieldLink RX8 18 "SingerQueue$Wishes" "song" "[I"]
def wsX9_song_r4 : List Cond := [Cond.methodLink RX0 144 yX4_copyFrom, Cond.instanceMethod yX4_copyFrom, Cond.selects RX4 yX4_copyFrom yX4_copyFrom, Cond.initialized RX4, Cond.code yX4_copyFrom cX4_copyFrom 2 none, Cond.fieldLink RX4 24 "SingerQueue$PastTurns" "size" "I", Cond.fieldLink RX4 9 "SingerQueue$PastTurns" "first" "[I", Cond.fieldLink RX4 15 "SingerQueue$PastTurns" "other" "[I", Cond.fieldLink RX4 18 "SingerQueue$PastTurns" "song" "[I", Cond.fieldLink RX4 21 "SingerQueue$PastTurns" "begin" "[I", Cond.methodLink RX9 85 yX7_add, Cond.instanceMethod yX7_add, Cond.selects RX7 yX7_add yX7_add, Cond.code yX7_add cX7_add 5 (some .int)]
def wsX9_song : List Cond := .code yX9_song cX9_song 4 (some .int) :: ((wsX9_song_r1 ++ (wsX9_song_r2 ++ (wsX9_song_r3 ++ wsX9_song_r4))) ++ wsX90 ++ wsX00 ++ wsX70 ++ wsX10 ++ wsX60 ++ wsX80 ++ wsX40)
def wsJ6_bitCount_0f7a4 : List Cond := .code yJ6_bitCount_0f7a4 cJ6_bitCount_0f7a4 1 (some .int) :: ([.constant RJ6 265 (1431655765), .constant RJ6 266 (858993459), .constant RJ6 267 (252645135)])
def wsX9_leave_r1 : List Cond := [Cond.fieldLink RX9 12 "SingerQueue" "evening" "LSingerQueue$Evening;", Cond.fieldLink RX9 56 "SingerQueue$Evening" "singers" "LSingerQueue$Singers;", Cond.fieldLink RX9 19 "SingerQueue" "history" "LSingerQueue$History;", Cond.fieldLink RX9 99 "SingerQueue$Singers" "there" "I", Cond.methodLink RX9 88 yX6_has, Cond.instanceMethod yX6_has, Cond.selects RX6 yX6_has yX6_has, Cond.initialized RX6, Cond.code yX6_has cX6_has 2 (some .boolean), Cond.fieldLink RX6 24 "SingerQueue$Singers" "size" "I", Cond.static yX9_isBetween, Cond.initialized RX9, Cond.code yX9_isBetween cX9_isBetween 3 (some .boolean), Cond.methodLink RX9 92 yX6_isThere, Cond.instanceMethod yX6_isThere, Cond.selects RX6 yX6_isThere yX6_isThere, Cond.code yX6_isThere cX6_isThere 2 (some .boolean), Cond.fieldLink RX6 32 "SingerQueue$Singers" "there" "I", Cond.static yX9_isIn, Cond.code yX9_isIn cX9_isIn 2 (some .boolean), Cond.methodLink RX9 66 yX1_keep, Cond.instanceMethod yX1_keep, Cond.selects RX1 yX1_keep yX1_keep, Cond.initialized RX1]
def wsX9_leave_r2 : List Cond := [Cond.code yX1_keep cX1_keep 2 none, Cond.fieldLink RX1 11 "SingerQueue$History" "states" "[LSingerQueue$Evening;", Cond.fieldLink RX1 18 "SingerQueue$History" "place" "I", Cond.fieldLink RX1 26 "SingerQueue$History" "size" "I", Cond.methodLink RX1 29 Lib.Math.min.name, Cond.static Lib.Math.min.name, Cond.initialized "java/lang/Math", Cond.code Lib.Math.min.name Lib.Math.min.code 2 (some .int), Cond.methodLink RX1 22 yX0_copyFrom, Cond.instanceMethod yX0_copyFrom, Cond.selects RX0 yX0_copyFrom yX0_copyFrom, Cond.initialized RX0, Cond.code yX0_copyFrom cX0_copyFrom 2 none, Cond.fieldLink RX0 12 "SingerQueue$Evening" "singers" "LSingerQueue$Singers;", Cond.fieldLink RX0 21 "SingerQueue$Evening" "songs" "LSingerQueue$Songs;", Cond.fieldLink RX0 28 "SingerQueue$Evening" "wishes" "LSingerQueue$Wishes;", Cond.fieldLink RX0 35 "SingerQueue$Evening" "past" "LSingerQueue$PastTurns;", Cond.fieldLink RX0 110 "SingerQueue$Evening" "minute" "I", Cond.fieldLink RX0 127 "SingerQueue$Evening" "turnsSung" "I", Cond.methodLink RX0 134 yX6_copyFrom, Cond.instanceMethod yX6_copyFrom, Cond.selects RX6 yX6_copyFrom yX6_copyFrom, Cond.code yX6_copyFrom cX6_copyFrom 2 none, Cond.fieldLink RX6 43 "SingerQueue$Singers" "tired" "I"]
def wsX9_leave_r3 : List Cond := [Cond.fieldLink RX6 9 "SingerQueue$Singers" "lowest" "[I", Cond.fieldLink RX6 15 "SingerQueue$Singers" "highest" "[I", Cond.fieldLink RX6 18 "SingerQueue$Singers" "turns" "[I", Cond.fieldLink RX6 21 "SingerQueue$Singers" "minutes" "[I", Cond.static yX9_copyRow, Cond.code yX9_copyRow cX9_copyRow 2 none, Cond.methodLink RX9 259 Lib.Math.min.name, Cond.methodLink RX9 264 arraycopyName, Cond.native arraycopyName, Cond.static arraycopyName, Cond.initialized "java/lang/System", Cond.methodLink RX0 138 yX7_copyFrom, Cond.instanceMethod yX7_copyFrom, Cond.selects RX7 yX7_copyFrom yX7_copyFrom, Cond.initialized RX7, Cond.code yX7_copyFrom cX7_copyFrom 2 none, Cond.fieldLink RX7 24 "SingerQueue$Songs" "size" "I", Cond.fieldLink RX7 9 "SingerQueue$Songs" "lowest" "[I", Cond.fieldLink RX7 15 "SingerQueue$Songs" "highest" "[I", Cond.fieldLink RX7 18 "SingerQueue$Songs" "length" "[I", Cond.fieldLink RX7 21 "SingerQueue$Songs" "timesSung" "[I", Cond.methodLink RX0 141 yX8_copyFrom, Cond.instanceMethod yX8_copyFrom, Cond.selects RX8 yX8_copyFrom yX8_copyFrom]
def wsX9_leave_r4 : List Cond := [Cond.initialized RX8, Cond.code yX8_copyFrom cX8_copyFrom 2 none, Cond.fieldLink RX8 21 "SingerQueue$Wishes" "size" "I", Cond.fieldLink RX8 9 "SingerQueue$Wishes" "first" "[I", Cond.fieldLink RX8 15 "SingerQueue$Wishes" "other" "[I", Cond.fieldLink RX8 18 "SingerQueue$Wishes" "song" "[I", Cond.methodLink RX0 144 yX4_copyFrom, Cond.instanceMethod yX4_copyFrom, Cond.selects RX4 yX4_copyFrom yX4_copyFrom, Cond.initialized RX4, Cond.code yX4_copyFrom cX4_copyFrom 2 none, Cond.fieldLink RX4 24 "SingerQueue$PastTurns" "size" "I", Cond.fieldLink RX4 9 "SingerQueue$PastTurns" "first" "[I", Cond.fieldLink RX4 15 "SingerQueue$PastTurns" "other" "[I", Cond.fieldLink RX4 18 "SingerQueue$PastTurns" "song" "[I", Cond.fieldLink RX4 21 "SingerQueue$PastTurns" "begin" "[I", Cond.methodLink RX9 95 yX6_setThere, Cond.instanceMethod yX6_setThere, Cond.selects RX6 yX6_setThere yX6_setThere, Cond.code yX6_setThere cX6_setThere 4 none, Cond.methodLink RX9 102 yJ6_bitCount_0f7a4, Cond.static yJ6_bitCount_0f7a4, Cond.initialized RJ6, Cond.code yJ6_bitCount_0f7a4 cJ6_bitCount_0f7a4 1 (some .int)]
def wsX9_leave_r5 : List Cond := [Cond.constant RJ6 265 (1431655765), Cond.constant RJ6 266 (858993459), Cond.constant RJ6 267 (252645135)]
def wsX9_leave : List Cond := .code yX9_leave cX9_leave 3 (some .int) :: ((wsX9_leave_r1 ++ (wsX9_leave_r2 ++ (wsX9_leave_r3 ++ (wsX9_leave_r4 ++ wsX9_leave_r5)))) ++ wsX90 ++ wsX00 ++ wsX60 ++ wsX10 ++ wsX70 ++ wsX80 ++ wsX40)
def wsX9_wish_r1 : List Cond := [Cond.fieldLink RX9 12 "SingerQueue" "evening" "LSingerQueue$Evening;", Cond.fieldLink RX9 108 "SingerQueue$Evening" "wishes" "LSingerQueue$Wishes;", Cond.fieldLink RX9 112 "SingerQueue$Wishes" "size" "I", Cond.fieldLink RX9 19 "SingerQueue" "history" "LSingerQueue$History;", Cond.methodLink RX9 115 yX0_errorOfWish, Cond.instanceMethod yX0_errorOfWish, Cond.selects RX0 yX0_errorOfWish yX0_errorOfWish, Cond.initialized RX0, Cond.code yX0_errorOfWish cX0_errorOfWish 6 (some .int), Cond.methodLink RX0 44 yX0_errorOfNames, Cond.instanceMethod yX0_errorOfNames, Cond.selects RX0 yX0_errorOfNames yX0_errorOfNames, Cond.code yX0_errorOfNames cX0_errorOfNames 4 (some .int), Cond.fieldLink RX0 12 "SingerQueue$Evening" "singers" "LSingerQueue$Singers;", Cond.fieldLink RX0 21 "SingerQueue$Evening" "songs" "LSingerQueue$Songs;", Cond.methodLink RX0 39 yX6_has, Cond.instanceMethod yX6_has, Cond.selects RX6 yX6_has yX6_has, Cond.initialized RX6, Cond.code yX6_has cX6_has 2 (some .boolean), Cond.fieldLink RX6 24 "SingerQueue$Singers" "size" "I", Cond.static yX9_isBetween, Cond.initialized RX9, Cond.code yX9_isBetween cX9_isBetween 3 (some .boolean)]
def wsX9_wish_r2 : List Cond := [Cond.methodLink RX0 43 yX7_has, Cond.instanceMethod yX7_has, Cond.selects RX7 yX7_has yX7_has, Cond.initialized RX7, Cond.code yX7_has cX7_has 2 (some .boolean), Cond.fieldLink RX7 24 "SingerQueue$Songs" "size" "I", Cond.methodLink RX0 48 yX0_keyAndTen, Cond.instanceMethod yX0_keyAndTen, Cond.selects RX0 yX0_keyAndTen yX0_keyAndTen, Cond.code yX0_keyAndTen cX0_keyAndTen 6 (some .int), Cond.fieldLink RX0 51 "SingerQueue$Singers" "lowest" "[I", Cond.fieldLink RX0 55 "SingerQueue$Singers" "highest" "[I", Cond.methodLink RX0 58 Lib.Math.max.name, Cond.static Lib.Math.max.name, Cond.initialized "java/lang/Math", Cond.code Lib.Math.max.name Lib.Math.max.code 2 (some .int), Cond.methodLink RX0 64 Lib.Math.min.name, Cond.static Lib.Math.min.name, Cond.code Lib.Math.min.name Lib.Math.min.code 2 (some .int), Cond.methodLink RX0 67 yX7_keyAndTenBetween, Cond.instanceMethod yX7_keyAndTenBetween, Cond.selects RX7 yX7_keyAndTenBetween yX7_keyAndTenBetween, Cond.code yX7_keyAndTenBetween cX7_keyAndTenBetween 5 (some .int), Cond.methodLink RX7 32 yX7_fits]
def wsX9_wish_r3 : List Cond := [Cond.instanceMethod yX7_fits, Cond.selects RX7 yX7_fits yX7_fits, Cond.code yX7_fits cX7_fits 5 (some .boolean), Cond.fieldLink RX7 9 "SingerQueue$Songs" "lowest" "[I", Cond.fieldLink RX7 15 "SingerQueue$Songs" "highest" "[I", Cond.methodLink RX9 66 yX1_keep, Cond.instanceMethod yX1_keep, Cond.selects RX1 yX1_keep yX1_keep, Cond.initialized RX1, Cond.code yX1_keep cX1_keep 2 none, Cond.fieldLink RX1 11 "SingerQueue$History" "states" "[LSingerQueue$Evening;", Cond.fieldLink RX1 18 "SingerQueue$History" "place" "I", Cond.fieldLink RX1 26 "SingerQueue$History" "size" "I", Cond.methodLink RX1 29 Lib.Math.min.name, Cond.methodLink RX1 22 yX0_copyFrom, Cond.instanceMethod yX0_copyFrom, Cond.selects RX0 yX0_copyFrom yX0_copyFrom, Cond.code yX0_copyFrom cX0_copyFrom 2 none, Cond.fieldLink RX0 28 "SingerQueue$Evening" "wishes" "LSingerQueue$Wishes;", Cond.fieldLink RX0 35 "SingerQueue$Evening" "past" "LSingerQueue$PastTurns;", Cond.fieldLink RX0 110 "SingerQueue$Evening" "minute" "I", Cond.fieldLink RX0 127 "SingerQueue$Evening" "turnsSung" "I", Cond.methodLink RX0 134 yX6_copyFrom, Cond.instanceMethod yX6_copyFrom]
def wsX9_wish_r4 : List Cond := [Cond.selects RX6 yX6_copyFrom yX6_copyFrom, Cond.code yX6_copyFrom cX6_copyFrom 2 none, Cond.fieldLink RX6 32 "SingerQueue$Singers" "there" "I", Cond.fieldLink RX6 43 "SingerQueue$Singers" "tired" "I", Cond.fieldLink RX6 9 "SingerQueue$Singers" "lowest" "[I", Cond.fieldLink RX6 15 "SingerQueue$Singers" "highest" "[I", Cond.fieldLink RX6 18 "SingerQueue$Singers" "turns" "[I", Cond.fieldLink RX6 21 "SingerQueue$Singers" "minutes" "[I", Cond.static yX9_copyRow, Cond.code yX9_copyRow cX9_copyRow 2 none, Cond.methodLink RX9 259 Lib.Math.min.name, Cond.methodLink RX9 264 arraycopyName, Cond.native arraycopyName, Cond.static arraycopyName, Cond.initialized "java/lang/System", Cond.methodLink RX0 138 yX7_copyFrom, Cond.instanceMethod yX7_copyFrom, Cond.selects RX7 yX7_copyFrom yX7_copyFrom, Cond.code yX7_copyFrom cX7_copyFrom 2 none, Cond.fieldLink RX7 18 "SingerQueue$Songs" "length" "[I", Cond.fieldLink RX7 21 "SingerQueue$Songs" "timesSung" "[I", Cond.methodLink RX0 141 yX8_copyFrom, Cond.instanceMethod yX8_copyFrom, Cond.selects RX8 yX8_copyFrom yX8_copyFrom]
def wsX9_wish_r5 : List Cond := [Cond.initialized RX8, Cond.code yX8_copyFrom cX8_copyFrom 2 none, Cond.fieldLink RX8 21 "SingerQueue$Wishes" "size" "I", Cond.fieldLink RX8 9 "SingerQueue$Wishes" "first" "[I", Cond.fieldLink RX8 15 "SingerQueue$Wishes" "other" "[I", Cond.fieldLink RX8 18 "SingerQueue$Wishes" "song" "[I", Cond.methodLink RX0 144 yX4_copyFrom, Cond.instanceMethod yX4_copyFrom, Cond.selects RX4 yX4_copyFrom yX4_copyFrom, Cond.initialized RX4, Cond.code yX4_copyFrom cX4_copyFrom 2 none, Cond.fieldLink RX4 24 "SingerQueue$PastTurns" "size" "I", Cond.fieldLink RX4 9 "SingerQueue$PastTurns" "first" "[I", Cond.fieldLink RX4 15 "SingerQueue$PastTurns" "other" "[I", Cond.fieldLink RX4 18 "SingerQueue$PastTurns" "song" "[I", Cond.fieldLink RX4 21 "SingerQueue$PastTurns" "begin" "[I", Cond.methodLink RX9 119 yX8_add, Cond.instanceMethod yX8_add, Cond.selects RX8 yX8_add yX8_add, Cond.code yX8_add cX8_add 5 (some .int)]
def wsX9_wish : List Cond := .code yX9_wish cX9_wish 5 (some .int) :: ((wsX9_wish_r1 ++ (wsX9_wish_r2 ++ (wsX9_wish_r3 ++ (wsX9_wish_r4 ++ wsX9_wish_r5)))) ++ wsX90 ++ wsX00 ++ wsX80 ++ wsX60 ++ wsX70 ++ wsX10 ++ wsX40)
def wsX9_takeBack_r1 : List Cond := [Cond.fieldLink RX9 12 "SingerQueue" "evening" "LSingerQueue$Evening;", Cond.fieldLink RX9 108 "SingerQueue$Evening" "wishes" "LSingerQueue$Wishes;", Cond.fieldLink RX9 19 "SingerQueue" "history" "LSingerQueue$History;", Cond.fieldLink RX9 112 "SingerQueue$Wishes" "size" "I", Cond.methodLink RX9 120 yX8_has, Cond.instanceMethod yX8_has, Cond.selects RX8 yX8_has yX8_has, Cond.initialized RX8, Cond.code yX8_has cX8_has 2 (some .boolean), Cond.fieldLink RX8 21 "SingerQueue$Wishes" "size" "I", Cond.static yX9_isBetween, Cond.initialized RX9, Cond.code yX9_isBetween cX9_isBetween 3 (some .boolean), Cond.methodLink RX9 66 yX1_keep, Cond.instanceMethod yX1_keep, Cond.selects RX1 yX1_keep yX1_keep, Cond.initialized RX1, Cond.code yX1_keep cX1_keep 2 none, Cond.fieldLink RX1 11 "SingerQueue$History" "states" "[LSingerQueue$Evening;", Cond.fieldLink RX1 18 "SingerQueue$History" "place" "I", Cond.fieldLink RX1 26 "SingerQueue$History" "size" "I", Cond.methodLink RX1 29 Lib.Math.min.name, Cond.static Lib.Math.min.name, Cond.initialized "java/lang/Math"]
def wsX9_takeBack_r2 : List Cond := [Cond.code Lib.Math.min.name Lib.Math.min.code 2 (some .int), Cond.methodLink RX1 22 yX0_copyFrom, Cond.instanceMethod yX0_copyFrom, Cond.selects RX0 yX0_copyFrom yX0_copyFrom, Cond.initialized RX0, Cond.code yX0_copyFrom cX0_copyFrom 2 none, Cond.fieldLink RX0 12 "SingerQueue$Evening" "singers" "LSingerQueue$Singers;", Cond.fieldLink RX0 21 "SingerQueue$Evening" "songs" "LSingerQueue$Songs;", Cond.fieldLink RX0 28 "SingerQueue$Evening" "wishes" "LSingerQueue$Wishes;", Cond.fieldLink RX0 35 "SingerQueue$Evening" "past" "LSingerQueue$PastTurns;", Cond.fieldLink RX0 110 "SingerQueue$Evening" "minute" "I", Cond.fieldLink RX0 127 "SingerQueue$Evening" "turnsSung" "I", Cond.methodLink RX0 134 yX6_copyFrom, Cond.instanceMethod yX6_copyFrom, Cond.selects RX6 yX6_copyFrom yX6_copyFrom, Cond.initialized RX6, Cond.code yX6_copyFrom cX6_copyFrom 2 none, Cond.fieldLink RX6 24 "SingerQueue$Singers" "size" "I", Cond.fieldLink RX6 32 "SingerQueue$Singers" "there" "I", Cond.fieldLink RX6 43 "SingerQueue$Singers" "tired" "I", Cond.fieldLink RX6 9 "SingerQueue$Singers" "lowest" "[I", Cond.fieldLink RX6 15 "SingerQueue$Singers" "highest" "[I", Cond.fieldLink RX6 18 "SingerQueue$Singers" "turns" "[I", Cond.fieldLink RX6 21 "SingerQueue$Singers" "minutes" "[I"]
def wsX9_takeBack_r3 : List Cond := [Cond.static yX9_copyRow, Cond.code yX9_copyRow cX9_copyRow 2 none, Cond.methodLink RX9 259 Lib.Math.min.name, Cond.methodLink RX9 264 arraycopyName, Cond.native arraycopyName, Cond.static arraycopyName, Cond.initialized "java/lang/System", Cond.methodLink RX0 138 yX7_copyFrom, Cond.instanceMethod yX7_copyFrom, Cond.selects RX7 yX7_copyFrom yX7_copyFrom, Cond.initialized RX7, Cond.code yX7_copyFrom cX7_copyFrom 2 none, Cond.fieldLink RX7 24 "SingerQueue$Songs" "size" "I", Cond.fieldLink RX7 9 "SingerQueue$Songs" "lowest" "[I", Cond.fieldLink RX7 15 "SingerQueue$Songs" "highest" "[I", Cond.fieldLink RX7 18 "SingerQueue$Songs" "length" "[I", Cond.fieldLink RX7 21 "SingerQueue$Songs" "timesSung" "[I", Cond.methodLink RX0 141 yX8_copyFrom, Cond.instanceMethod yX8_copyFrom, Cond.selects RX8 yX8_copyFrom yX8_copyFrom, Cond.code yX8_copyFrom cX8_copyFrom 2 none, Cond.fieldLink RX8 9 "SingerQueue$Wishes" "first" "[I", Cond.fieldLink RX8 15 "SingerQueue$Wishes" "other" "[I", Cond.fieldLink RX8 18 "SingerQueue$Wishes" "song" "[I"]
def wsX9_takeBack_r4 : List Cond := [Cond.methodLink RX0 144 yX4_copyFrom, Cond.instanceMethod yX4_copyFrom, Cond.selects RX4 yX4_copyFrom yX4_copyFrom, Cond.initialized RX4, Cond.code yX4_copyFrom cX4_copyFrom 2 none, Cond.fieldLink RX4 24 "SingerQueue$PastTurns" "size" "I", Cond.fieldLink RX4 9 "SingerQueue$PastTurns" "first" "[I", Cond.fieldLink RX4 15 "SingerQueue$PastTurns" "other" "[I", Cond.fieldLink RX4 18 "SingerQueue$PastTurns" "song" "[I", Cond.fieldLink RX4 21 "SingerQueue$PastTurns" "begin" "[I", Cond.methodLink RX9 121 yX8_removeAt, Cond.instanceMethod yX8_removeAt, Cond.selects RX8 yX8_removeAt yX8_removeAt, Cond.code yX8_removeAt cX8_removeAt 3 none]
def wsX9_takeBack : List Cond := .code yX9_takeBack cX9_takeBack 2 (some .int) :: ((wsX9_takeBack_r1 ++ (wsX9_takeBack_r2 ++ (wsX9_takeBack_r3 ++ wsX9_takeBack_r4))) ++ wsX90 ++ wsX00 ++ wsX80 ++ wsX10 ++ wsX60 ++ wsX70 ++ wsX40)
def wsX9_sing_r1 : List Cond := [Cond.fieldLink RX9 19 "SingerQueue" "history" "LSingerQueue$History;", Cond.fieldLink RX9 12 "SingerQueue" "evening" "LSingerQueue$Evening;", Cond.methodLink RX9 74 yX9_isBetween, Cond.static yX9_isBetween, Cond.initialized RX9, Cond.code yX9_isBetween cX9_isBetween 3 (some .boolean), Cond.methodLink RX9 66 yX1_keep, Cond.instanceMethod yX1_keep, Cond.selects RX1 yX1_keep yX1_keep, Cond.initialized RX1, Cond.code yX1_keep cX1_keep 2 none, Cond.fieldLink RX1 11 "SingerQueue$History" "states" "[LSingerQueue$Evening;", Cond.fieldLink RX1 18 "SingerQueue$History" "place" "I", Cond.fieldLink RX1 26 "SingerQueue$History" "size" "I", Cond.methodLink RX1 29 Lib.Math.min.name, Cond.static Lib.Math.min.name, Cond.initialized "java/lang/Math", Cond.code Lib.Math.min.name Lib.Math.min.code 2 (some .int), Cond.methodLink RX1 22 yX0_copyFrom, Cond.instanceMethod yX0_copyFrom, Cond.selects RX0 yX0_copyFrom yX0_copyFrom, Cond.initialized RX0, Cond.code yX0_copyFrom cX0_copyFrom 2 none, Cond.fieldLink RX0 12 "SingerQueue$Evening" "singers" "LSingerQueue$Singers;"]
def wsX9_sing_r2 : List Cond := [Cond.fieldLink RX0 21 "SingerQueue$Evening" "songs" "LSingerQueue$Songs;", Cond.fieldLink RX0 28 "SingerQueue$Evening" "wishes" "LSingerQueue$Wishes;", Cond.fieldLink RX0 35 "SingerQueue$Evening" "past" "LSingerQueue$PastTurns;", Cond.fieldLink RX0 110 "SingerQueue$Evening" "minute" "I", Cond.fieldLink RX0 127 "SingerQueue$Evening" "turnsSung" "I", Cond.methodLink RX0 134 yX6_copyFrom, Cond.instanceMethod yX6_copyFrom, Cond.selects RX6 yX6_copyFrom yX6_copyFrom, Cond.initialized RX6, Cond.code yX6_copyFrom cX6_copyFrom 2 none, Cond.fieldLink RX6 24 "SingerQueue$Singers" "size" "I", Cond.fieldLink RX6 32 "SingerQueue$Singers" "there" "I", Cond.fieldLink RX6 43 "SingerQueue$Singers" "tired" "I", Cond.fieldLink RX6 9 "SingerQueue$Singers" "lowest" "[I", Cond.fieldLink RX6 15 "SingerQueue$Singers" "highest" "[I", Cond.fieldLink RX6 18 "SingerQueue$Singers" "turns" "[I", Cond.fieldLink RX6 21 "SingerQueue$Singers" "minutes" "[I", Cond.static yX9_copyRow, Cond.code yX9_copyRow cX9_copyRow 2 none, Cond.methodLink RX9 259 Lib.Math.min.name, Cond.methodLink RX9 264 arraycopyName, Cond.native arraycopyName, Cond.static arraycopyName, Cond.initialized "java/lang/System"]
def wsX9_sing_r3 : List Cond := [Cond.methodLink RX0 138 yX7_copyFrom, Cond.instanceMethod yX7_copyFrom, Cond.selects RX7 yX7_copyFrom yX7_copyFrom, Cond.initialized RX7, Cond.code yX7_copyFrom cX7_copyFrom 2 none, Cond.fieldLink RX7 24 "SingerQueue$Songs" "size" "I", Cond.fieldLink RX7 9 "SingerQueue$Songs" "lowest" "[I", Cond.fieldLink RX7 15 "SingerQueue$Songs" "highest" "[I", Cond.fieldLink RX7 18 "SingerQueue$Songs" "length" "[I", Cond.fieldLink RX7 21 "SingerQueue$Songs" "timesSung" "[I", Cond.methodLink RX0 141 yX8_copyFrom, Cond.instanceMethod yX8_copyFrom, Cond.selects RX8 yX8_copyFrom yX8_copyFrom, Cond.initialized RX8, Cond.code yX8_copyFrom cX8_copyFrom 2 none, Cond.fieldLink RX8 21 "SingerQueue$Wishes" "size" "I", Cond.fieldLink RX8 9 "SingerQueue$Wishes" "first" "[I", Cond.fieldLink RX8 15 "SingerQueue$Wishes" "other" "[I", Cond.fieldLink RX8 18 "SingerQueue$Wishes" "song" "[I", Cond.methodLink RX0 144 yX4_copyFrom, Cond.instanceMethod yX4_copyFrom, Cond.selects RX4 yX4_copyFrom yX4_copyFrom, Cond.initialized RX4, Cond.code yX4_copyFrom cX4_copyFrom 2 none]
def wsX9_sing_r4 : List Cond := [Cond.fieldLink RX4 24 "SingerQueue$PastTurns" "size" "I", Cond.fieldLink RX4 9 "SingerQueue$PastTurns" "first" "[I", Cond.fieldLink RX4 15 "SingerQueue$PastTurns" "other" "[I", Cond.fieldLink RX4 18 "SingerQueue$PastTurns" "song" "[I", Cond.fieldLink RX4 21 "SingerQueue$PastTurns" "begin" "[I", Cond.methodLink RX9 125 yX0_nextWish, Cond.instanceMethod yX0_nextWish, Cond.selects RX0 yX0_nextWish yX0_nextWish, Cond.code yX0_nextWish cX0_nextWish 1 (some .int), Cond.fieldLink RX0 74 "SingerQueue$Singers" "there" "I", Cond.fieldLink RX0 91 "SingerQueue$Singers" "tired" "I", Cond.fieldLink RX0 94 "SingerQueue$Singers" "turns" "[I", Cond.methodLink RX0 77 yX8_readyOnes, Cond.instanceMethod yX8_readyOnes, Cond.selects RX8 yX8_readyOnes yX8_readyOnes, Cond.code yX8_readyOnes cX8_readyOnes 2 (some .int), Cond.methodLink RX8 37 yX8_onesWithout, Cond.instanceMethod yX8_onesWithout, Cond.selects RX8 yX8_onesWithout yX8_onesWithout, Cond.code yX8_onesWithout cX8_onesWithout 4 (some .int), Cond.methodLink RX8 29 yX8_singersOf, Cond.instanceMethod yX8_singersOf, Cond.selects RX8 yX8_singersOf yX8_singersOf, Cond.code yX8_singersOf cX8_singersOf 3 (some .int)]
def wsX9_sing_r5 : List Cond := [Cond.methodLink RX0 97 yX8_nextAmong, Cond.instanceMethod yX8_nextAmong, Cond.selects RX8 yX8_nextAmong yX8_nextAmong, Cond.code yX8_nextAmong cX8_nextAmong 5 (some .int), Cond.methodLink RX8 46 yX8_freshOnes, Cond.instanceMethod yX8_freshOnes, Cond.selects RX8 yX8_freshOnes yX8_freshOnes, Cond.code yX8_freshOnes cX8_freshOnes 2 (some .int), Cond.methodLink RX8 49 yX8_fewestTurnsAmong, Cond.instanceMethod yX8_fewestTurnsAmong, Cond.selects RX8 yX8_fewestTurnsAmong yX8_fewestTurnsAmong, Cond.code yX8_fewestTurnsAmong cX8_fewestTurnsAmong 5 (some .int), Cond.static yX9_isIn, Cond.code yX9_isIn cX9_isIn 2 (some .boolean), Cond.methodLink RX8 53 yX8_turnsFor, Cond.instanceMethod yX8_turnsFor, Cond.selects RX8 yX8_turnsFor yX8_turnsFor, Cond.code yX8_turnsFor cX8_turnsFor 4 (some .int), Cond.methodLink RX8 40 Lib.Math.max.name, Cond.static Lib.Math.max.name, Cond.code Lib.Math.max.name Lib.Math.max.code 2 (some .int), Cond.methodLink RX9 129 yX0_singTurn, Cond.instanceMethod yX0_singTurn, Cond.selects RX0 yX0_singTurn yX0_singTurn]
def wsX9_sing_r6 : List Cond := [Cond.code yX0_singTurn cX0_singTurn 4 none, Cond.fieldLink RX0 88 "SingerQueue$Wishes" "song" "[I", Cond.fieldLink RX0 104 "SingerQueue$Wishes" "first" "[I", Cond.fieldLink RX0 107 "SingerQueue$Wishes" "other" "[I", Cond.fieldLink RX0 124 "SingerQueue$Songs" "timesSung" "[I", Cond.methodLink RX0 101 yX0_lengthOfWish, Cond.instanceMethod yX0_lengthOfWish, Cond.selects RX0 yX0_lengthOfWish yX0_lengthOfWish, Cond.code yX0_lengthOfWish cX0_lengthOfWish 2 (some .int), Cond.fieldLink RX0 85 "SingerQueue$Songs" "length" "[I", Cond.methodLink RX0 113 yX4_remember, Cond.instanceMethod yX4_remember, Cond.selects RX4 yX4_remember yX4_remember, Cond.code yX4_remember cX4_remember 6 none, Cond.methodLink RX4 28 Lib.Math.min.name, Cond.methodLink RX0 117 yX8_singersOf, Cond.methodLink RX0 120 yX6_singTurn, Cond.instanceMethod yX6_singTurn, Cond.selects RX6 yX6_singTurn yX6_singTurn, Cond.code yX6_singTurn cX6_singTurn 4 none, Cond.methodLink RX0 130 yX8_removeAt, Cond.instanceMethod yX8_removeAt, Cond.selects RX8 yX8_removeAt yX8_removeAt, Cond.code yX8_removeAt cX8_removeAt 3 none]
def wsX9_sing : List Cond := .code yX9_sing cX9_sing 4 (some .int) :: ((wsX9_sing_r1 ++ (wsX9_sing_r2 ++ (wsX9_sing_r3 ++ (wsX9_sing_r4 ++ (wsX9_sing_r5 ++ wsX9_sing_r6))))) ++ wsX90 ++ wsX10 ++ wsX00 ++ wsX60 ++ wsX70 ++ wsX80 ++ wsX40)
def wsX9_asNumber : List Cond := .code yX9_asNumber cX9_asNumber 1 (some .int) :: ([])
def wsX9_of_r1 : List Cond := [Cond.fieldLink RX9 12 "SingerQueue" "evening" "LSingerQueue$Evening;", Cond.fieldLink RX9 56 "SingerQueue$Evening" "singers" "LSingerQueue$Singers;", Cond.fieldLink RX9 153 "SingerQueue$Singers" "lowest" "[I", Cond.fieldLink RX9 156 "SingerQueue$Singers" "highest" "[I", Cond.fieldLink RX9 163 "SingerQueue$Singers" "turns" "[I", Cond.fieldLink RX9 166 "SingerQueue$Singers" "tired" "I", Cond.fieldLink RX9 108 "SingerQueue$Evening" "wishes" "LSingerQueue$Wishes;", Cond.fieldLink RX9 175 "SingerQueue$Singers" "minutes" "[I", Cond.methodLink RX9 88 yX6_has, Cond.instanceMethod yX6_has, Cond.selects RX6 yX6_has yX6_has, Cond.initialized RX6, Cond.code yX6_has cX6_has 2 (some .boolean), Cond.fieldLink RX6 24 "SingerQueue$Singers" "size" "I", Cond.static yX9_isBetween, Cond.initialized RX9, Cond.code yX9_isBetween cX9_isBetween 3 (some .boolean), Cond.methodLink RX9 92 yX6_isThere, Cond.instanceMethod yX6_isThere, Cond.selects RX6 yX6_isThere yX6_isThere, Cond.code yX6_isThere cX6_isThere 2 (some .boolean), Cond.fieldLink RX6 32 "SingerQueue$Singers" "there" "I", Cond.static yX9_isIn, Cond.code yX9_isIn cX9_isIn 2 (some .boolean)]
def wsX9_of_r2 : List Cond := [Cond.methodLink RX9 159 yX9_asNumber, Cond.static yX9_asNumber, Cond.code yX9_asNumber cX9_asNumber 1 (some .int), Cond.methodLink RX9 169 yX9_isIn, Cond.methodLink RX9 172 yX8_numberWith, Cond.instanceMethod yX8_numberWith, Cond.selects RX8 yX8_numberWith yX8_numberWith, Cond.initialized RX8, Cond.code yX8_numberWith cX8_numberWith 4 (some .int), Cond.fieldLink RX8 21 "SingerQueue$Wishes" "size" "I", Cond.methodLink RX8 29 yX8_singersOf, Cond.instanceMethod yX8_singersOf, Cond.selects RX8 yX8_singersOf yX8_singersOf, Cond.code yX8_singersOf cX8_singersOf 3 (some .int), Cond.fieldLink RX8 9 "SingerQueue$Wishes" "first" "[I", Cond.fieldLink RX8 15 "SingerQueue$Wishes" "other" "[I"]
def wsX9_of : List Cond := .code yX9_of cX9_of 4 (some .int) :: ((wsX9_of_r1 ++ wsX9_of_r2) ++ wsX90 ++ wsX00 ++ wsX60 ++ wsX80)
def wsX9_inQueue_r1 : List Cond := [Cond.fieldLink RX9 12 "SingerQueue" "evening" "LSingerQueue$Evening;", Cond.fieldLink RX9 108 "SingerQueue$Evening" "wishes" "LSingerQueue$Wishes;", Cond.fieldLink RX9 178 "SingerQueue$Wishes" "first" "[I", Cond.fieldLink RX9 179 "SingerQueue$Wishes" "other" "[I", Cond.fieldLink RX9 180 "SingerQueue$Wishes" "song" "[I", Cond.fieldLink RX9 56 "SingerQueue$Evening" "singers" "LSingerQueue$Singers;", Cond.fieldLink RX9 99 "SingerQueue$Singers" "there" "I", Cond.fieldLink RX9 166 "SingerQueue$Singers" "tired" "I", Cond.fieldLink RX9 163 "SingerQueue$Singers" "turns" "[I", Cond.methodLink RX9 120 yX8_has, Cond.instanceMethod yX8_has, Cond.selects RX8 yX8_has yX8_has, Cond.initialized RX8, Cond.code yX8_has cX8_has 2 (some .boolean), Cond.fieldLink RX8 21 "SingerQueue$Wishes" "size" "I", Cond.static yX9_isBetween, Cond.initialized RX9, Cond.code yX9_isBetween cX9_isBetween 3 (some .boolean), Cond.methodLink RX9 181 yX0_keyAndTen, Cond.instanceMethod yX0_keyAndTen, Cond.selects RX0 yX0_keyAndTen yX0_keyAndTen, Cond.initialized RX0, Cond.code yX0_keyAndTen cX0_keyAndTen 6 (some .int), Cond.fieldLink RX0 12 "SingerQueue$Evening" "singers" "LSingerQueue$Singers;"]
def wsX9_inQueue_r2 : List Cond := [Cond.fieldLink RX0 51 "SingerQueue$Singers" "lowest" "[I", Cond.fieldLink RX0 55 "SingerQueue$Singers" "highest" "[I", Cond.methodLink RX0 58 Lib.Math.max.name, Cond.static Lib.Math.max.name, Cond.initialized "java/lang/Math", Cond.code Lib.Math.max.name Lib.Math.max.code 2 (some .int), Cond.methodLink RX0 64 Lib.Math.min.name, Cond.static Lib.Math.min.name, Cond.code Lib.Math.min.name Lib.Math.min.code 2 (some .int), Cond.fieldLink RX0 21 "SingerQueue$Evening" "songs" "LSingerQueue$Songs;", Cond.methodLink RX0 67 yX7_keyAndTenBetween, Cond.instanceMethod yX7_keyAndTenBetween, Cond.selects RX7 yX7_keyAndTenBetween yX7_keyAndTenBetween, Cond.initialized RX7, Cond.code yX7_keyAndTenBetween cX7_keyAndTenBetween 5 (some .int), Cond.methodLink RX7 32 yX7_fits, Cond.instanceMethod yX7_fits, Cond.selects RX7 yX7_fits yX7_fits, Cond.code yX7_fits cX7_fits 5 (some .boolean), Cond.fieldLink RX7 9 "SingerQueue$Songs" "lowest" "[I", Cond.fieldLink RX7 15 "SingerQueue$Songs" "highest" "[I", Cond.methodLink RX9 184 yX8_readyOnes, Cond.instanceMethod yX8_readyOnes, Cond.selects RX8 yX8_readyOnes yX8_readyOnes]
def wsX9_inQueue_r3 : List Cond := [Cond.code yX8_readyOnes cX8_readyOnes 2 (some .int), Cond.methodLink RX8 37 yX8_onesWithout, Cond.instanceMethod yX8_onesWithout, Cond.selects RX8 yX8_onesWithout yX8_onesWithout, Cond.code yX8_onesWithout cX8_onesWithout 4 (some .int), Cond.methodLink RX8 29 yX8_singersOf, Cond.instanceMethod yX8_singersOf, Cond.selects RX8 yX8_singersOf yX8_singersOf, Cond.code yX8_singersOf cX8_singersOf 3 (some .int), Cond.fieldLink RX8 9 "SingerQueue$Wishes" "first" "[I", Cond.fieldLink RX8 15 "SingerQueue$Wishes" "other" "[I", Cond.methodLink RX9 169 yX9_isIn, Cond.static yX9_isIn, Cond.code yX9_isIn cX9_isIn 2 (some .boolean), Cond.methodLink RX9 159 yX9_asNumber, Cond.static yX9_asNumber, Cond.code yX9_asNumber cX9_asNumber 1 (some .int), Cond.methodLink RX9 187 yX8_freshOnes, Cond.instanceMethod yX8_freshOnes, Cond.selects RX8 yX8_freshOnes yX8_freshOnes, Cond.code yX8_freshOnes cX8_freshOnes 2 (some .int), Cond.methodLink RX9 190 yX8_turnsFor, Cond.instanceMethod yX8_turnsFor, Cond.selects RX8 yX8_turnsFor yX8_turnsFor]
def wsX9_inQueue_r4 : List Cond := [Cond.code yX8_turnsFor cX8_turnsFor 4 (some .int), Cond.methodLink RX8 40 Lib.Math.max.name]
def wsX9_inQueue : List Cond := .code yX9_inQueue cX9_inQueue 4 (some .int) :: ((wsX9_inQueue_r1 ++ (wsX9_inQueue_r2 ++ (wsX9_inQueue_r3 ++ wsX9_inQueue_r4))) ++ wsX90 ++ wsX00 ++ wsX80 ++ wsX60 ++ wsX70)
def wsX9_key_r1 : List Cond := [Cond.fieldLink RX9 12 "SingerQueue" "evening" "LSingerQueue$Evening;", Cond.methodLink RX9 194 yX0_errorOfNames, Cond.instanceMethod yX0_errorOfNames, Cond.selects RX0 yX0_errorOfNames yX0_errorOfNames, Cond.initialized RX0, Cond.code yX0_errorOfNames cX0_errorOfNames 4 (some .int), Cond.fieldLink RX0 12 "SingerQueue$Evening" "singers" "LSingerQueue$Singers;", Cond.fieldLink RX0 21 "SingerQueue$Evening" "songs" "LSingerQueue$Songs;", Cond.methodLink RX0 39 yX6_has, Cond.instanceMethod yX6_has, Cond.selects RX6 yX6_has yX6_has, Cond.initialized RX6, Cond.code yX6_has cX6_has 2 (some .boolean), Cond.fieldLink RX6 24 "SingerQueue$Singers" "size" "I", Cond.static yX9_isBetween, Cond.initialized RX9, Cond.code yX9_isBetween cX9_isBetween 3 (some .boolean), Cond.methodLink RX0 43 yX7_has, Cond.instanceMethod yX7_has, Cond.selects RX7 yX7_has yX7_has, Cond.initialized RX7, Cond.code yX7_has cX7_has 2 (some .boolean), Cond.fieldLink RX7 24 "SingerQueue$Songs" "size" "I", Cond.methodLink RX9 181 yX0_keyAndTen]
def wsX9_key_r2 : List Cond := [Cond.instanceMethod yX0_keyAndTen, Cond.selects RX0 yX0_keyAndTen yX0_keyAndTen, Cond.code yX0_keyAndTen cX0_keyAndTen 6 (some .int), Cond.fieldLink RX0 51 "SingerQueue$Singers" "lowest" "[I", Cond.fieldLink RX0 55 "SingerQueue$Singers" "highest" "[I", Cond.methodLink RX0 58 Lib.Math.max.name, Cond.static Lib.Math.max.name, Cond.initialized "java/lang/Math", Cond.code Lib.Math.max.name Lib.Math.max.code 2 (some .int), Cond.methodLink RX0 64 Lib.Math.min.name, Cond.static Lib.Math.min.name, Cond.code Lib.Math.min.name Lib.Math.min.code 2 (some .int), Cond.methodLink RX0 67 yX7_keyAndTenBetween, Cond.instanceMethod yX7_keyAndTenBetween, Cond.selects RX7 yX7_keyAndTenBetween yX7_keyAndTenBetween, Cond.code yX7_keyAndTenBetween cX7_keyAndTenBetween 5 (some .int), Cond.methodLink RX7 32 yX7_fits, Cond.instanceMethod yX7_fits, Cond.selects RX7 yX7_fits yX7_fits, Cond.code yX7_fits cX7_fits 5 (some .boolean), Cond.fieldLink RX7 9 "SingerQueue$Songs" "lowest" "[I", Cond.fieldLink RX7 15 "SingerQueue$Songs" "highest" "[I"]
def wsX9_key : List Cond := .code yX9_key cX9_key 5 (some .int) :: ((wsX9_key_r1 ++ wsX9_key_r2) ++ wsX90 ++ wsX00 ++ wsX60 ++ wsX70)
def wsX9_ofSong_r1 : List Cond := [Cond.fieldLink RX9 12 "SingerQueue" "evening" "LSingerQueue$Evening;", Cond.fieldLink RX9 78 "SingerQueue$Evening" "songs" "LSingerQueue$Songs;", Cond.fieldLink RX9 198 "SingerQueue$Songs" "lowest" "[I", Cond.fieldLink RX9 199 "SingerQueue$Songs" "highest" "[I", Cond.fieldLink RX9 200 "SingerQueue$Songs" "length" "[I", Cond.fieldLink RX9 205 "SingerQueue$Songs" "timesSung" "[I", Cond.methodLink RX9 197 yX7_has, Cond.instanceMethod yX7_has, Cond.selects RX7 yX7_has yX7_has, Cond.initialized RX7, Cond.code yX7_has cX7_has 2 (some .boolean), Cond.fieldLink RX7 24 "SingerQueue$Songs" "size" "I", Cond.static yX9_isBetween, Cond.initialized RX9, Cond.code yX9_isBetween cX9_isBetween 3 (some .boolean), Cond.methodLink RX9 202 yX0_singersWithKey, Cond.instanceMethod yX0_singersWithKey, Cond.selects RX0 yX0_singersWithKey yX0_singersWithKey, Cond.initialized RX0, Cond.code yX0_singersWithKey cX0_singersWithKey 4 (some .int), Cond.fieldLink RX0 12 "SingerQueue$Evening" "singers" "LSingerQueue$Singers;", Cond.fieldLink RX0 70 "SingerQueue$Singers" "size" "I", Cond.methodLink RX0 48 yX0_keyAndTen, Cond.instanceMethod yX0_keyAndTen]
def wsX9_ofSong_r2 : List Cond := [Cond.selects RX0 yX0_keyAndTen yX0_keyAndTen, Cond.code yX0_keyAndTen cX0_keyAndTen 6 (some .int), Cond.fieldLink RX0 51 "SingerQueue$Singers" "lowest" "[I", Cond.fieldLink RX0 55 "SingerQueue$Singers" "highest" "[I", Cond.methodLink RX0 58 Lib.Math.max.name, Cond.static Lib.Math.max.name, Cond.initialized "java/lang/Math", Cond.code Lib.Math.max.name Lib.Math.max.code 2 (some .int), Cond.methodLink RX0 64 Lib.Math.min.name, Cond.static Lib.Math.min.name, Cond.code Lib.Math.min.name Lib.Math.min.code 2 (some .int), Cond.fieldLink RX0 21 "SingerQueue$Evening" "songs" "LSingerQueue$Songs;", Cond.methodLink RX0 67 yX7_keyAndTenBetween, Cond.instanceMethod yX7_keyAndTenBetween, Cond.selects RX7 yX7_keyAndTenBetween yX7_keyAndTenBetween, Cond.code yX7_keyAndTenBetween cX7_keyAndTenBetween 5 (some .int), Cond.methodLink RX7 32 yX7_fits, Cond.instanceMethod yX7_fits, Cond.selects RX7 yX7_fits yX7_fits, Cond.code yX7_fits cX7_fits 5 (some .boolean), Cond.fieldLink RX7 9 "SingerQueue$Songs" "lowest" "[I", Cond.fieldLink RX7 15 "SingerQueue$Songs" "highest" "[I"]
def wsX9_ofSong : List Cond := .code yX9_ofSong cX9_ofSong 4 (some .int) :: ((wsX9_ofSong_r1 ++ wsX9_ofSong_r2) ++ wsX90 ++ wsX00 ++ wsX70 ++ wsX60)
def wsX9_past : List Cond := .code yX9_past cX9_past 4 (some .int) :: ([.fieldLink RX9 12 "SingerQueue" "evening" "LSingerQueue$Evening;", .fieldLink RX9 208 "SingerQueue$Evening" "past" "LSingerQueue$PastTurns;", .fieldLink RX9 212 "SingerQueue$PastTurns" "size" "I", .fieldLink RX9 215 "SingerQueue$PastTurns" "first" "[I", .fieldLink RX9 216 "SingerQueue$PastTurns" "other" "[I", .fieldLink RX9 217 "SingerQueue$PastTurns" "song" "[I", .fieldLink RX9 218 "SingerQueue$PastTurns" "begin" "[I", .methodLink RX9 74 yX9_isBetween, .static yX9_isBetween, .initialized RX9, .code yX9_isBetween cX9_isBetween 3 (some .boolean)] ++ wsX90 ++ wsX00 ++ wsX40)
def wsX9_count_r1 : List Cond := [Cond.fieldLink RX9 12 "SingerQueue" "evening" "LSingerQueue$Evening;", Cond.fieldLink RX9 56 "SingerQueue$Evening" "singers" "LSingerQueue$Singers;", Cond.fieldLink RX9 60 "SingerQueue$Singers" "size" "I", Cond.fieldLink RX9 99 "SingerQueue$Singers" "there" "I", Cond.fieldLink RX9 78 "SingerQueue$Evening" "songs" "LSingerQueue$Songs;", Cond.fieldLink RX9 82 "SingerQueue$Songs" "size" "I", Cond.fieldLink RX9 108 "SingerQueue$Evening" "wishes" "LSingerQueue$Wishes;", Cond.fieldLink RX9 112 "SingerQueue$Wishes" "size" "I", Cond.fieldLink RX9 221 "SingerQueue$Evening" "minute" "I", Cond.fieldLink RX9 224 "SingerQueue$Evening" "turnsSung" "I", Cond.fieldLink RX9 166 "SingerQueue$Singers" "tired" "I", Cond.fieldLink RX9 34 "SingerQueue" "pad" "LSingerQueue$Pad;", Cond.fieldLink RX9 150 "SingerQueue$Pad" "length" "I", Cond.fieldLink RX9 19 "SingerQueue" "history" "LSingerQueue$History;", Cond.fieldLink RX9 227 "SingerQueue$History" "size" "I", Cond.methodLink RX9 184 yX8_readyOnes, Cond.instanceMethod yX8_readyOnes, Cond.selects RX8 yX8_readyOnes yX8_readyOnes, Cond.initialized RX8, Cond.code yX8_readyOnes cX8_readyOnes 2 (some .int), Cond.methodLink RX8 37 yX8_onesWithout, Cond.instanceMethod yX8_onesWithout, Cond.selects RX8 yX8_onesWithout yX8_onesWithout, Cond.code yX8_onesWithout cX8_onesWithout 4 (some .int)]
def wsX9_count_r2 : List Cond := [Cond.fieldLink RX8 21 "SingerQueue$Wishes" "size" "I", Cond.methodLink RX8 29 yX8_singersOf, Cond.instanceMethod yX8_singersOf, Cond.selects RX8 yX8_singersOf yX8_singersOf, Cond.code yX8_singersOf cX8_singersOf 3 (some .int), Cond.fieldLink RX8 9 "SingerQueue$Wishes" "first" "[I", Cond.fieldLink RX8 15 "SingerQueue$Wishes" "other" "[I", Cond.methodLink RX9 102 yJ6_bitCount_0f7a4, Cond.static yJ6_bitCount_0f7a4, Cond.initialized RJ6, Cond.code yJ6_bitCount_0f7a4 cJ6_bitCount_0f7a4 1 (some .int), Cond.constant RJ6 265 (1431655765), Cond.constant RJ6 266 (858993459), Cond.constant RJ6 267 (252645135), Cond.methodLink RX9 125 yX0_nextWish, Cond.instanceMethod yX0_nextWish, Cond.selects RX0 yX0_nextWish yX0_nextWish, Cond.initialized RX0, Cond.code yX0_nextWish cX0_nextWish 1 (some .int), Cond.fieldLink RX0 28 "SingerQueue$Evening" "wishes" "LSingerQueue$Wishes;", Cond.fieldLink RX0 12 "SingerQueue$Evening" "singers" "LSingerQueue$Singers;", Cond.fieldLink RX0 74 "SingerQueue$Singers" "there" "I", Cond.fieldLink RX0 91 "SingerQueue$Singers" "tired" "I", Cond.fieldLink RX0 94 "SingerQueue$Singers" "turns" "[I"]
def wsX9_count_r3 : List Cond := [Cond.methodLink RX0 77 yX8_readyOnes, Cond.methodLink RX0 97 yX8_nextAmong, Cond.instanceMethod yX8_nextAmong, Cond.selects RX8 yX8_nextAmong yX8_nextAmong, Cond.code yX8_nextAmong cX8_nextAmong 5 (some .int), Cond.methodLink RX8 46 yX8_freshOnes, Cond.instanceMethod yX8_freshOnes, Cond.selects RX8 yX8_freshOnes yX8_freshOnes, Cond.code yX8_freshOnes cX8_freshOnes 2 (some .int), Cond.methodLink RX8 49 yX8_fewestTurnsAmong, Cond.instanceMethod yX8_fewestTurnsAmong, Cond.selects RX8 yX8_fewestTurnsAmong yX8_fewestTurnsAmong, Cond.code yX8_fewestTurnsAmong cX8_fewestTurnsAmong 5 (some .int), Cond.static yX9_isIn, Cond.initialized RX9, Cond.code yX9_isIn cX9_isIn 2 (some .boolean), Cond.methodLink RX8 53 yX8_turnsFor, Cond.instanceMethod yX8_turnsFor, Cond.selects RX8 yX8_turnsFor yX8_turnsFor, Cond.code yX8_turnsFor cX8_turnsFor 4 (some .int), Cond.methodLink RX8 40 Lib.Math.max.name, Cond.static Lib.Math.max.name, Cond.initialized "java/lang/Math", Cond.code Lib.Math.max.name Lib.Math.max.code 2 (some .int)]
def wsX9_count : List Cond := .code yX9_count cX9_count 2 (some .int) :: ((wsX9_count_r1 ++ (wsX9_count_r2 ++ wsX9_count_r3)) ++ wsX90 ++ wsX00 ++ wsX60 ++ wsX70 ++ wsX80 ++ wsX20 ++ wsX10)
def wsX9_turnOf_r1 : List Cond := [Cond.fieldLink RX9 12 "SingerQueue" "evening" "LSingerQueue$Evening;", Cond.fieldLink RX9 108 "SingerQueue$Evening" "wishes" "LSingerQueue$Wishes;", Cond.fieldLink RX9 48 "SingerQueue" "preview" "LSingerQueue$Preview;", Cond.fieldLink RX9 235 "SingerQueue$Preview" "turnsAhead" "I", Cond.fieldLink RX9 238 "SingerQueue$Preview" "minute" "I", Cond.methodLink RX9 120 yX8_has, Cond.instanceMethod yX8_has, Cond.selects RX8 yX8_has yX8_has, Cond.initialized RX8, Cond.code yX8_has cX8_has 2 (some .boolean), Cond.fieldLink RX8 21 "SingerQueue$Wishes" "size" "I", Cond.static yX9_isBetween, Cond.initialized RX9, Cond.code yX9_isBetween cX9_isBetween 3 (some .boolean), Cond.methodLink RX9 74 yX9_isBetween, Cond.methodLink RX9 228 yX0_isReady, Cond.instanceMethod yX0_isReady, Cond.selects RX0 yX0_isReady yX0_isReady, Cond.initialized RX0, Cond.code yX0_isReady cX0_isReady 2 (some .boolean), Cond.fieldLink RX0 28 "SingerQueue$Evening" "wishes" "LSingerQueue$Wishes;", Cond.fieldLink RX0 12 "SingerQueue$Evening" "singers" "LSingerQueue$Singers;", Cond.fieldLink RX0 74 "SingerQueue$Singers" "there" "I", Cond.methodLink RX0 77 yX8_readyOnes]
def wsX9_turnOf_r2 : List Cond := [Cond.instanceMethod yX8_readyOnes, Cond.selects RX8 yX8_readyOnes yX8_readyOnes, Cond.code yX8_readyOnes cX8_readyOnes 2 (some .int), Cond.methodLink RX8 37 yX8_onesWithout, Cond.instanceMethod yX8_onesWithout, Cond.selects RX8 yX8_onesWithout yX8_onesWithout, Cond.code yX8_onesWithout cX8_onesWithout 4 (some .int), Cond.methodLink RX8 29 yX8_singersOf, Cond.instanceMethod yX8_singersOf, Cond.selects RX8 yX8_singersOf yX8_singersOf, Cond.code yX8_singersOf cX8_singersOf 3 (some .int), Cond.fieldLink RX8 9 "SingerQueue$Wishes" "first" "[I", Cond.fieldLink RX8 15 "SingerQueue$Wishes" "other" "[I", Cond.static yX9_isIn, Cond.code yX9_isIn cX9_isIn 2 (some .boolean), Cond.methodLink RX9 231 yX5_lookAhead, Cond.instanceMethod yX5_lookAhead, Cond.selects RX5 yX5_lookAhead yX5_lookAhead, Cond.initialized RX5, Cond.code yX5_lookAhead cX5_lookAhead 8 none, Cond.fieldLink RX5 15 "SingerQueue$Evening" "wishes" "LSingerQueue$Wishes;", Cond.fieldLink RX5 21 "SingerQueue$Evening" "singers" "LSingerQueue$Singers;", Cond.fieldLink RX5 25 "SingerQueue$Singers" "turns" "[I", Cond.fieldLink RX5 9 "SingerQueue$Preview" "turns" "[I"]
def wsX9_turnOf_r3 : List Cond := [Cond.fieldLink RX5 32 "SingerQueue$Singers" "there" "I", Cond.fieldLink RX5 42 "SingerQueue$Singers" "tired" "I", Cond.fieldLink RX5 45 "SingerQueue$Evening" "minute" "I", Cond.fieldLink RX5 48 "SingerQueue$Preview" "minute" "I", Cond.fieldLink RX5 49 "SingerQueue$Preview" "turnsAhead" "I", Cond.static yX9_copyRow, Cond.code yX9_copyRow cX9_copyRow 2 none, Cond.methodLink RX9 259 Lib.Math.min.name, Cond.static Lib.Math.min.name, Cond.initialized "java/lang/Math", Cond.code Lib.Math.min.name Lib.Math.min.code 2 (some .int), Cond.methodLink RX9 264 arraycopyName, Cond.native arraycopyName, Cond.static arraycopyName, Cond.initialized "java/lang/System", Cond.methodLink RX5 36 yX8_readyOnes, Cond.methodLink RX5 52 yX8_nextAmong, Cond.instanceMethod yX8_nextAmong, Cond.selects RX8 yX8_nextAmong yX8_nextAmong, Cond.code yX8_nextAmong cX8_nextAmong 5 (some .int), Cond.methodLink RX8 46 yX8_freshOnes, Cond.instanceMethod yX8_freshOnes, Cond.selects RX8 yX8_freshOnes yX8_freshOnes, Cond.code yX8_freshOnes cX8_freshOnes 2 (some .int)]
def wsX9_turnOf_r4 : List Cond := [Cond.methodLink RX8 49 yX8_fewestTurnsAmong, Cond.instanceMethod yX8_fewestTurnsAmong, Cond.selects RX8 yX8_fewestTurnsAmong yX8_fewestTurnsAmong, Cond.code yX8_fewestTurnsAmong cX8_fewestTurnsAmong 5 (some .int), Cond.methodLink RX8 53 yX8_turnsFor, Cond.instanceMethod yX8_turnsFor, Cond.selects RX8 yX8_turnsFor yX8_turnsFor, Cond.code yX8_turnsFor cX8_turnsFor 4 (some .int), Cond.methodLink RX8 40 Lib.Math.max.name, Cond.static Lib.Math.max.name, Cond.code Lib.Math.max.name Lib.Math.max.code 2 (some .int), Cond.methodLink RX5 56 yX0_lengthOfWish, Cond.instanceMethod yX0_lengthOfWish, Cond.selects RX0 yX0_lengthOfWish yX0_lengthOfWish, Cond.code yX0_lengthOfWish cX0_lengthOfWish 2 (some .int), Cond.fieldLink RX0 21 "SingerQueue$Evening" "songs" "LSingerQueue$Songs;", Cond.fieldLink RX0 85 "SingerQueue$Songs" "length" "[I", Cond.fieldLink RX0 88 "SingerQueue$Wishes" "song" "[I", Cond.methodLink RX5 59 yX8_singersOf, Cond.methodLink RX5 62 yX5_addTurn, Cond.instanceMethod yX5_addTurn, Cond.selects RX5 yX5_addTurn yX5_addTurn, Cond.code yX5_addTurn cX5_addTurn 3 none]
def wsX9_turnOf : List Cond := .code yX9_turnOf cX9_turnOf 3 (some .int) :: ((wsX9_turnOf_r1 ++ (wsX9_turnOf_r2 ++ (wsX9_turnOf_r3 ++ wsX9_turnOf_r4))) ++ wsX90 ++ wsX00 ++ wsX50 ++ wsX80 ++ wsX60 ++ wsX70)
def wsX9_endOfAll_r1 : List Cond := [Cond.fieldLink RX9 12 "SingerQueue" "evening" "LSingerQueue$Evening;", Cond.fieldLink RX9 108 "SingerQueue$Evening" "wishes" "LSingerQueue$Wishes;", Cond.fieldLink RX9 56 "SingerQueue$Evening" "singers" "LSingerQueue$Singers;", Cond.fieldLink RX9 99 "SingerQueue$Singers" "there" "I", Cond.fieldLink RX9 221 "SingerQueue$Evening" "minute" "I", Cond.fieldLink RX9 112 "SingerQueue$Wishes" "size" "I", Cond.methodLink RX9 184 yX8_readyOnes, Cond.instanceMethod yX8_readyOnes, Cond.selects RX8 yX8_readyOnes yX8_readyOnes, Cond.initialized RX8, Cond.code yX8_readyOnes cX8_readyOnes 2 (some .int), Cond.methodLink RX8 37 yX8_onesWithout, Cond.instanceMethod yX8_onesWithout, Cond.selects RX8 yX8_onesWithout yX8_onesWithout, Cond.code yX8_onesWithout cX8_onesWithout 4 (some .int), Cond.fieldLink RX8 21 "SingerQueue$Wishes" "size" "I", Cond.methodLink RX8 29 yX8_singersOf, Cond.instanceMethod yX8_singersOf, Cond.selects RX8 yX8_singersOf yX8_singersOf, Cond.code yX8_singersOf cX8_singersOf 3 (some .int), Cond.fieldLink RX8 9 "SingerQueue$Wishes" "first" "[I", Cond.fieldLink RX8 15 "SingerQueue$Wishes" "other" "[I", Cond.methodLink RX9 169 yX9_isIn, Cond.static yX9_isIn]
def wsX9_endOfAll_r2 : List Cond := [Cond.initialized RX9, Cond.code yX9_isIn cX9_isIn 2 (some .boolean), Cond.methodLink RX9 239 yX0_lengthOfWish, Cond.instanceMethod yX0_lengthOfWish, Cond.selects RX0 yX0_lengthOfWish yX0_lengthOfWish, Cond.initialized RX0, Cond.code yX0_lengthOfWish cX0_lengthOfWish 2 (some .int), Cond.fieldLink RX0 21 "SingerQueue$Evening" "songs" "LSingerQueue$Songs;", Cond.fieldLink RX0 85 "SingerQueue$Songs" "length" "[I", Cond.fieldLink RX0 28 "SingerQueue$Evening" "wishes" "LSingerQueue$Wishes;", Cond.fieldLink RX0 88 "SingerQueue$Wishes" "song" "[I"]
def wsX9_endOfAll : List Cond := .code yX9_endOfAll cX9_endOfAll 4 (some .int) :: ((wsX9_endOfAll_r1 ++ wsX9_endOfAll_r2) ++ wsX90 ++ wsX00 ++ wsX60 ++ wsX80 ++ wsX70)
def wsX9_ifLeft_r1 : List Cond := [Cond.fieldLink RX9 12 "SingerQueue" "evening" "LSingerQueue$Evening;", Cond.fieldLink RX9 56 "SingerQueue$Evening" "singers" "LSingerQueue$Singers;", Cond.fieldLink RX9 99 "SingerQueue$Singers" "there" "I", Cond.fieldLink RX9 108 "SingerQueue$Evening" "wishes" "LSingerQueue$Wishes;", Cond.fieldLink RX9 112 "SingerQueue$Wishes" "size" "I", Cond.methodLink RX9 88 yX6_has, Cond.instanceMethod yX6_has, Cond.selects RX6 yX6_has yX6_has, Cond.initialized RX6, Cond.code yX6_has cX6_has 2 (some .boolean), Cond.fieldLink RX6 24 "SingerQueue$Singers" "size" "I", Cond.static yX9_isBetween, Cond.initialized RX9, Cond.code yX9_isBetween cX9_isBetween 3 (some .boolean), Cond.methodLink RX9 184 yX8_readyOnes, Cond.instanceMethod yX8_readyOnes, Cond.selects RX8 yX8_readyOnes yX8_readyOnes, Cond.initialized RX8, Cond.code yX8_readyOnes cX8_readyOnes 2 (some .int), Cond.methodLink RX8 37 yX8_onesWithout, Cond.instanceMethod yX8_onesWithout, Cond.selects RX8 yX8_onesWithout yX8_onesWithout, Cond.code yX8_onesWithout cX8_onesWithout 4 (some .int), Cond.fieldLink RX8 21 "SingerQueue$Wishes" "size" "I"]
def wsX9_ifLeft_r2 : List Cond := [Cond.methodLink RX8 29 yX8_singersOf, Cond.instanceMethod yX8_singersOf, Cond.selects RX8 yX8_singersOf yX8_singersOf, Cond.code yX8_singersOf cX8_singersOf 3 (some .int), Cond.fieldLink RX8 9 "SingerQueue$Wishes" "first" "[I", Cond.fieldLink RX8 15 "SingerQueue$Wishes" "other" "[I", Cond.methodLink RX9 102 yJ6_bitCount_0f7a4, Cond.static yJ6_bitCount_0f7a4, Cond.initialized RJ6, Cond.code yJ6_bitCount_0f7a4 cJ6_bitCount_0f7a4 1 (some .int), Cond.constant RJ6 265 (1431655765), Cond.constant RJ6 266 (858993459), Cond.constant RJ6 267 (252645135)]
def wsX9_ifLeft : List Cond := .code yX9_ifLeft cX9_ifLeft 3 (some .int) :: ((wsX9_ifLeft_r1 ++ wsX9_ifLeft_r2) ++ wsX90 ++ wsX00 ++ wsX60 ++ wsX80)
def wsX9_beginWithout_r1 : List Cond := [Cond.fieldLink RX9 48 "SingerQueue" "preview" "LSingerQueue$Preview;", Cond.fieldLink RX9 12 "SingerQueue" "evening" "LSingerQueue$Evening;", Cond.fieldLink RX9 238 "SingerQueue$Preview" "minute" "I", Cond.methodLink RX9 231 yX5_lookAhead, Cond.instanceMethod yX5_lookAhead, Cond.selects RX5 yX5_lookAhead yX5_lookAhead, Cond.initialized RX5, Cond.code yX5_lookAhead cX5_lookAhead 8 none, Cond.fieldLink RX5 15 "SingerQueue$Evening" "wishes" "LSingerQueue$Wishes;", Cond.fieldLink RX5 21 "SingerQueue$Evening" "singers" "LSingerQueue$Singers;", Cond.fieldLink RX5 25 "SingerQueue$Singers" "turns" "[I", Cond.fieldLink RX5 9 "SingerQueue$Preview" "turns" "[I", Cond.fieldLink RX5 32 "SingerQueue$Singers" "there" "I", Cond.fieldLink RX5 42 "SingerQueue$Singers" "tired" "I", Cond.fieldLink RX5 45 "SingerQueue$Evening" "minute" "I", Cond.fieldLink RX5 48 "SingerQueue$Preview" "minute" "I", Cond.fieldLink RX5 49 "SingerQueue$Preview" "turnsAhead" "I", Cond.static yX9_copyRow, Cond.initialized RX9, Cond.code yX9_copyRow cX9_copyRow 2 none, Cond.methodLink RX9 259 Lib.Math.min.name, Cond.static Lib.Math.min.name, Cond.initialized "java/lang/Math", Cond.code Lib.Math.min.name Lib.Math.min.code 2 (some .int)]
def wsX9_beginWithout_r2 : List Cond := [Cond.methodLink RX9 264 arraycopyName, Cond.native arraycopyName, Cond.static arraycopyName, Cond.initialized "java/lang/System", Cond.methodLink RX5 36 yX8_readyOnes, Cond.instanceMethod yX8_readyOnes, Cond.selects RX8 yX8_readyOnes yX8_readyOnes, Cond.initialized RX8, Cond.code yX8_readyOnes cX8_readyOnes 2 (some .int), Cond.methodLink RX8 37 yX8_onesWithout, Cond.instanceMethod yX8_onesWithout, Cond.selects RX8 yX8_onesWithout yX8_onesWithout, Cond.code yX8_onesWithout cX8_onesWithout 4 (some .int), Cond.fieldLink RX8 21 "SingerQueue$Wishes" "size" "I", Cond.methodLink RX8 29 yX8_singersOf, Cond.instanceMethod yX8_singersOf, Cond.selects RX8 yX8_singersOf yX8_singersOf, Cond.code yX8_singersOf cX8_singersOf 3 (some .int), Cond.fieldLink RX8 9 "SingerQueue$Wishes" "first" "[I", Cond.fieldLink RX8 15 "SingerQueue$Wishes" "other" "[I", Cond.methodLink RX5 52 yX8_nextAmong, Cond.instanceMethod yX8_nextAmong, Cond.selects RX8 yX8_nextAmong yX8_nextAmong, Cond.code yX8_nextAmong cX8_nextAmong 5 (some .int)]
def wsX9_beginWithout_r3 : List Cond := [Cond.methodLink RX8 46 yX8_freshOnes, Cond.instanceMethod yX8_freshOnes, Cond.selects RX8 yX8_freshOnes yX8_freshOnes, Cond.code yX8_freshOnes cX8_freshOnes 2 (some .int), Cond.methodLink RX8 49 yX8_fewestTurnsAmong, Cond.instanceMethod yX8_fewestTurnsAmong, Cond.selects RX8 yX8_fewestTurnsAmong yX8_fewestTurnsAmong, Cond.code yX8_fewestTurnsAmong cX8_fewestTurnsAmong 5 (some .int), Cond.static yX9_isIn, Cond.code yX9_isIn cX9_isIn 2 (some .boolean), Cond.methodLink RX8 53 yX8_turnsFor, Cond.instanceMethod yX8_turnsFor, Cond.selects RX8 yX8_turnsFor yX8_turnsFor, Cond.code yX8_turnsFor cX8_turnsFor 4 (some .int), Cond.methodLink RX8 40 Lib.Math.max.name, Cond.static Lib.Math.max.name, Cond.code Lib.Math.max.name Lib.Math.max.code 2 (some .int), Cond.methodLink RX5 56 yX0_lengthOfWish, Cond.instanceMethod yX0_lengthOfWish, Cond.selects RX0 yX0_lengthOfWish yX0_lengthOfWish, Cond.initialized RX0, Cond.code yX0_lengthOfWish cX0_lengthOfWish 2 (some .int), Cond.fieldLink RX0 21 "SingerQueue$Evening" "songs" "LSingerQueue$Songs;", Cond.fieldLink RX0 85 "SingerQueue$Songs" "length" "[I"]
def wsX9_beginWithout_r4 : List Cond := [Cond.fieldLink RX0 28 "SingerQueue$Evening" "wishes" "LSingerQueue$Wishes;", Cond.fieldLink RX0 88 "SingerQueue$Wishes" "song" "[I", Cond.methodLink RX5 59 yX8_singersOf, Cond.methodLink RX5 62 yX5_addTurn, Cond.instanceMethod yX5_addTurn, Cond.selects RX5 yX5_addTurn yX5_addTurn, Cond.code yX5_addTurn cX5_addTurn 3 none]
def wsX9_beginWithout : List Cond := .code yX9_beginWithout cX9_beginWithout 3 (some .int) :: ((wsX9_beginWithout_r1 ++ (wsX9_beginWithout_r2 ++ (wsX9_beginWithout_r3 ++ wsX9_beginWithout_r4))) ++ wsX90 ++ wsX50 ++ wsX00 ++ wsX60 ++ wsX80 ++ wsX70)
def wsX9_heldUpBy_r1 : List Cond := [Cond.fieldLink RX9 12 "SingerQueue" "evening" "LSingerQueue$Evening;", Cond.fieldLink RX9 108 "SingerQueue$Evening" "wishes" "LSingerQueue$Wishes;", Cond.fieldLink RX9 112 "SingerQueue$Wishes" "size" "I", Cond.methodLink RX9 120 yX8_has, Cond.instanceMethod yX8_has, Cond.selects RX8 yX8_has yX8_has, Cond.initialized RX8, Cond.code yX8_has cX8_has 2 (some .boolean), Cond.fieldLink RX8 21 "SingerQueue$Wishes" "size" "I", Cond.static yX9_isBetween, Cond.initialized RX9, Cond.code yX9_isBetween cX9_isBetween 3 (some .boolean), Cond.methodLink RX9 74 yX9_isBetween, Cond.methodLink RX9 228 yX0_isReady, Cond.instanceMethod yX0_isReady, Cond.selects RX0 yX0_isReady yX0_isReady, Cond.initialized RX0, Cond.code yX0_isReady cX0_isReady 2 (some .boolean), Cond.fieldLink RX0 28 "SingerQueue$Evening" "wishes" "LSingerQueue$Wishes;", Cond.fieldLink RX0 12 "SingerQueue$Evening" "singers" "LSingerQueue$Singers;", Cond.fieldLink RX0 74 "SingerQueue$Singers" "there" "I", Cond.methodLink RX0 77 yX8_readyOnes, Cond.instanceMethod yX8_readyOnes, Cond.selects RX8 yX8_readyOnes yX8_readyOnes]
def wsX9_heldUpBy_r2 : List Cond := [Cond.code yX8_readyOnes cX8_readyOnes 2 (some .int), Cond.methodLink RX8 37 yX8_onesWithout, Cond.instanceMethod yX8_onesWithout, Cond.selects RX8 yX8_onesWithout yX8_onesWithout, Cond.code yX8_onesWithout cX8_onesWithout 4 (some .int), Cond.methodLink RX8 29 yX8_singersOf, Cond.instanceMethod yX8_singersOf, Cond.selects RX8 yX8_singersOf yX8_singersOf, Cond.code yX8_singersOf cX8_singersOf 3 (some .int), Cond.fieldLink RX8 9 "SingerQueue$Wishes" "first" "[I", Cond.fieldLink RX8 15 "SingerQueue$Wishes" "other" "[I", Cond.static yX9_isIn, Cond.code yX9_isIn cX9_isIn 2 (some .boolean), Cond.methodLink RX9 242 yX9_beginWithout, Cond.instanceMethod yX9_beginWithout, Cond.selects RX9 yX9_beginWithout yX9_beginWithout, Cond.code yX9_beginWithout cX9_beginWithout 3 (some .int), Cond.fieldLink RX9 48 "SingerQueue" "preview" "LSingerQueue$Preview;", Cond.fieldLink RX9 238 "SingerQueue$Preview" "minute" "I", Cond.methodLink RX9 231 yX5_lookAhead, Cond.instanceMethod yX5_lookAhead, Cond.selects RX5 yX5_lookAhead yX5_lookAhead, Cond.initialized RX5, Cond.code yX5_lookAhead cX5_lookAhead 8 none]
def wsX9_heldUpBy_r3 : List Cond := [Cond.fieldLink RX5 15 "SingerQueue$Evening" "wishes" "LSingerQueue$Wishes;", Cond.fieldLink RX5 21 "SingerQueue$Evening" "singers" "LSingerQueue$Singers;", Cond.fieldLink RX5 25 "SingerQueue$Singers" "turns" "[I", Cond.fieldLink RX5 9 "SingerQueue$Preview" "turns" "[I", Cond.fieldLink RX5 32 "SingerQueue$Singers" "there" "I", Cond.fieldLink RX5 42 "SingerQueue$Singers" "tired" "I", Cond.fieldLink RX5 45 "SingerQueue$Evening" "minute" "I", Cond.fieldLink RX5 48 "SingerQueue$Preview" "minute" "I", Cond.fieldLink RX5 49 "SingerQueue$Preview" "turnsAhead" "I", Cond.static yX9_copyRow, Cond.code yX9_copyRow cX9_copyRow 2 none, Cond.methodLink RX9 259 Lib.Math.min.name, Cond.static Lib.Math.min.name, Cond.initialized "java/lang/Math", Cond.code Lib.Math.min.name Lib.Math.min.code 2 (some .int), Cond.methodLink RX9 264 arraycopyName, Cond.native arraycopyName, Cond.static arraycopyName, Cond.initialized "java/lang/System", Cond.methodLink RX5 36 yX8_readyOnes, Cond.methodLink RX5 52 yX8_nextAmong, Cond.instanceMethod yX8_nextAmong, Cond.selects RX8 yX8_nextAmong yX8_nextAmong, Cond.code yX8_nextAmong cX8_nextAmong 5 (some .int)]
def wsX9_heldUpBy_r4 : List Cond := [Cond.methodLink RX8 46 yX8_freshOnes, Cond.instanceMethod yX8_freshOnes, Cond.selects RX8 yX8_freshOnes yX8_freshOnes, Cond.code yX8_freshOnes cX8_freshOnes 2 (some .int), Cond.methodLink RX8 49 yX8_fewestTurnsAmong, Cond.instanceMethod yX8_fewestTurnsAmong, Cond.selects RX8 yX8_fewestTurnsAmong yX8_fewestTurnsAmong, Cond.code yX8_fewestTurnsAmong cX8_fewestTurnsAmong 5 (some .int), Cond.methodLink RX8 53 yX8_turnsFor, Cond.instanceMethod yX8_turnsFor, Cond.selects RX8 yX8_turnsFor yX8_turnsFor, Cond.code yX8_turnsFor cX8_turnsFor 4 (some .int), Cond.methodLink RX8 40 Lib.Math.max.name, Cond.static Lib.Math.max.name, Cond.code Lib.Math.max.name Lib.Math.max.code 2 (some .int), Cond.methodLink RX5 56 yX0_lengthOfWish, Cond.instanceMethod yX0_lengthOfWish, Cond.selects RX0 yX0_lengthOfWish yX0_lengthOfWish, Cond.code yX0_lengthOfWish cX0_lengthOfWish 2 (some .int), Cond.fieldLink RX0 21 "SingerQueue$Evening" "songs" "LSingerQueue$Songs;", Cond.fieldLink RX0 85 "SingerQueue$Songs" "length" "[I", Cond.fieldLink RX0 88 "SingerQueue$Wishes" "song" "[I", Cond.methodLink RX5 59 yX8_singersOf, Cond.methodLink RX5 62 yX5_addTurn]
def wsX9_heldUpBy_r5 : List Cond := [Cond.instanceMethod yX5_addTurn, Cond.selects RX5 yX5_addTurn yX5_addTurn, Cond.code yX5_addTurn cX5_addTurn 3 none]
def wsX9_heldUpBy : List Cond := .code yX9_heldUpBy cX9_heldUpBy 8 (some .int) :: ((wsX9_heldUpBy_r1 ++ (wsX9_heldUpBy_r2 ++ (wsX9_heldUpBy_r3 ++ (wsX9_heldUpBy_r4 ++ wsX9_heldUpBy_r5)))) ++ wsX90 ++ wsX00 ++ wsX80 ++ wsX60 ++ wsX50 ++ wsX70)
def wsX9_together_r1 : List Cond := [Cond.fieldLink RX9 12 "SingerQueue" "evening" "LSingerQueue$Evening;", Cond.fieldLink RX9 56 "SingerQueue$Evening" "singers" "LSingerQueue$Singers;", Cond.fieldLink RX9 78 "SingerQueue$Evening" "songs" "LSingerQueue$Songs;", Cond.fieldLink RX9 82 "SingerQueue$Songs" "size" "I", Cond.methodLink RX9 88 yX6_has, Cond.instanceMethod yX6_has, Cond.selects RX6 yX6_has yX6_has, Cond.initialized RX6, Cond.code yX6_has cX6_has 2 (some .boolean), Cond.fieldLink RX6 24 "SingerQueue$Singers" "size" "I", Cond.static yX9_isBetween, Cond.initialized RX9, Cond.code yX9_isBetween cX9_isBetween 3 (some .boolean), Cond.methodLink RX9 181 yX0_keyAndTen, Cond.instanceMethod yX0_keyAndTen, Cond.selects RX0 yX0_keyAndTen yX0_keyAndTen, Cond.initialized RX0, Cond.code yX0_keyAndTen cX0_keyAndTen 6 (some .int), Cond.fieldLink RX0 12 "SingerQueue$Evening" "singers" "LSingerQueue$Singers;", Cond.fieldLink RX0 51 "SingerQueue$Singers" "lowest" "[I", Cond.fieldLink RX0 55 "SingerQueue$Singers" "highest" "[I", Cond.methodLink RX0 58 Lib.Math.max.name, Cond.static Lib.Math.max.name, Cond.initialized "java/lang/Math"]
def wsX9_together_r2 : List Cond := [Cond.code Lib.Math.max.name Lib.Math.max.code 2 (some .int), Cond.methodLink RX0 64 Lib.Math.min.name, Cond.static Lib.Math.min.name, Cond.code Lib.Math.min.name Lib.Math.min.code 2 (some .int), Cond.fieldLink RX0 21 "SingerQueue$Evening" "songs" "LSingerQueue$Songs;", Cond.methodLink RX0 67 yX7_keyAndTenBetween, Cond.instanceMethod yX7_keyAndTenBetween, Cond.selects RX7 yX7_keyAndTenBetween yX7_keyAndTenBetween, Cond.initialized RX7, Cond.code yX7_keyAndTenBetween cX7_keyAndTenBetween 5 (some .int), Cond.methodLink RX7 32 yX7_fits, Cond.instanceMethod yX7_fits, Cond.selects RX7 yX7_fits yX7_fits, Cond.code yX7_fits cX7_fits 5 (some .boolean), Cond.fieldLink RX7 9 "SingerQueue$Songs" "lowest" "[I", Cond.fieldLink RX7 15 "SingerQueue$Songs" "highest" "[I"]
def wsX9_together : List Cond := .code yX9_together cX9_together 5 (some .int) :: ((wsX9_together_r1 ++ wsX9_together_r2) ++ wsX90 ++ wsX00 ++ wsX70 ++ wsX60)
def wsJ9_max_7cf53 : List Cond := .code yJ9_max_7cf53 cJ9_max_7cf53 2 (some .int) :: ([])
def wsJ9_min_7cf53 : List Cond := .code yJ9_min_7cf53 cJ9_min_7cf53 2 (some .int) :: ([])
def wsL_cell : List Cond := .code yL_cell cL_cell 2 (some .int) :: ([.constant RL 7 (744459835), .constant RL 8 (1672598679)])
def wsL_low : List Cond := .code yL_low cL_low 2 (some .int) :: ([.constant RL 9 (2147483647)])
def wsL_key : List Cond := .code yL_key cL_key 7 (some .int) :: ([])
def wsL_set : List Cond := .code yL_set cL_set 2 (some .int) :: ([])
def wsL_turns : List Cond := .code yL_turns cL_turns 4 (some .int) :: ([])
def wsL_next : List Cond := .code yL_next cL_next 7 (some .int) :: ([.constant RL 20 (99999), .methodLink RL 10 yL_set, .static yL_set, .initialized RL, .code yL_set cL_set 2 (some .int), .methodLink RL 16 yL_turns, .static yL_turns, .code yL_turns cL_turns 4 (some .int)])
def wsL_sing : List Cond := .code yL_sing cL_sing 11 none :: ([.methodLink RL 10 yL_set, .static yL_set, .initialized RL, .code yL_set cL_set 2 (some .int)])
def wsL_copy : List Cond := .code yL_copy cL_copy 4 none :: ([])
def wsL_comes : List Cond := .code yL_comes cL_comes 15 (some .int) :: ([.methodLink RL 21 yL_copy, .static yL_copy, .initialized RL, .code yL_copy cL_copy 4 none, .methodLink RL 25 yL_next, .static yL_next, .code yL_next cL_next 7 (some .int), .constant RL 20 (99999), .methodLink RL 10 yL_set, .static yL_set, .code yL_set cL_set 2 (some .int), .methodLink RL 16 yL_turns, .static yL_turns, .code yL_turns cL_turns 4 (some .int), .methodLink RL 29 yL_sing, .static yL_sing, .code yL_sing cL_sing 11 none])
def wsL_bits : List Cond := .code yL_bits cL_bits 3 (some .int) :: ([])
def wsL_same_r1 : List Cond := [Cond.methodLink RL 10 yL_set, Cond.static yL_set, Cond.initialized RL, Cond.code yL_set cL_set 2 (some .int), Cond.methodLink RL 33 yX9_inQueue, Cond.instanceMethod yX9_inQueue, Cond.selects RX9 yX9_inQueue yX9_inQueue, Cond.initialized RX9, Cond.code yX9_inQueue cX9_inQueue 4 (some .int), Cond.fieldLink RX9 12 "SingerQueue" "evening" "LSingerQueue$Evening;", Cond.fieldLink RX9 108 "SingerQueue$Evening" "wishes" "LSingerQueue$Wishes;", Cond.fieldLink RX9 178 "SingerQueue$Wishes" "first" "[I", Cond.fieldLink RX9 179 "SingerQueue$Wishes" "other" "[I", Cond.fieldLink RX9 180 "SingerQueue$Wishes" "song" "[I", Cond.fieldLink RX9 56 "SingerQueue$Evening" "singers" "LSingerQueue$Singers;", Cond.fieldLink RX9 99 "SingerQueue$Singers" "there" "I", Cond.fieldLink RX9 166 "SingerQueue$Singers" "tired" "I", Cond.fieldLink RX9 163 "SingerQueue$Singers" "turns" "[I", Cond.methodLink RX9 120 yX8_has, Cond.instanceMethod yX8_has, Cond.selects RX8 yX8_has yX8_has, Cond.initialized RX8, Cond.code yX8_has cX8_has 2 (some .boolean), Cond.fieldLink RX8 21 "SingerQueue$Wishes" "size" "I"]
def wsL_same_r2 : List Cond := [Cond.static yX9_isBetween, Cond.code yX9_isBetween cX9_isBetween 3 (some .boolean), Cond.methodLink RX9 181 yX0_keyAndTen, Cond.instanceMethod yX0_keyAndTen, Cond.selects RX0 yX0_keyAndTen yX0_keyAndTen, Cond.initialized RX0, Cond.code yX0_keyAndTen cX0_keyAndTen 6 (some .int), Cond.fieldLink RX0 12 "SingerQueue$Evening" "singers" "LSingerQueue$Singers;", Cond.fieldLink RX0 51 "SingerQueue$Singers" "lowest" "[I", Cond.fieldLink RX0 55 "SingerQueue$Singers" "highest" "[I", Cond.methodLink RX0 58 Lib.Math.max.name, Cond.static Lib.Math.max.name, Cond.initialized "java/lang/Math", Cond.code Lib.Math.max.name Lib.Math.max.code 2 (some .int), Cond.methodLink RX0 64 Lib.Math.min.name, Cond.static Lib.Math.min.name, Cond.code Lib.Math.min.name Lib.Math.min.code 2 (some .int), Cond.fieldLink RX0 21 "SingerQueue$Evening" "songs" "LSingerQueue$Songs;", Cond.methodLink RX0 67 yX7_keyAndTenBetween, Cond.instanceMethod yX7_keyAndTenBetween, Cond.selects RX7 yX7_keyAndTenBetween yX7_keyAndTenBetween, Cond.initialized RX7, Cond.code yX7_keyAndTenBetween cX7_keyAndTenBetween 5 (some .int), Cond.methodLink RX7 32 yX7_fits]
def wsL_same_r3 : List Cond := [Cond.instanceMethod yX7_fits, Cond.selects RX7 yX7_fits yX7_fits, Cond.code yX7_fits cX7_fits 5 (some .boolean), Cond.fieldLink RX7 9 "SingerQueue$Songs" "lowest" "[I", Cond.fieldLink RX7 15 "SingerQueue$Songs" "highest" "[I", Cond.methodLink RX9 184 yX8_readyOnes, Cond.instanceMethod yX8_readyOnes, Cond.selects RX8 yX8_readyOnes yX8_readyOnes, Cond.code yX8_readyOnes cX8_readyOnes 2 (some .int), Cond.methodLink RX8 37 yX8_onesWithout, Cond.instanceMethod yX8_onesWithout, Cond.selects RX8 yX8_onesWithout yX8_onesWithout, Cond.code yX8_onesWithout cX8_onesWithout 4 (some .int), Cond.methodLink RX8 29 yX8_singersOf, Cond.instanceMethod yX8_singersOf, Cond.selects RX8 yX8_singersOf yX8_singersOf, Cond.code yX8_singersOf cX8_singersOf 3 (some .int), Cond.fieldLink RX8 9 "SingerQueue$Wishes" "first" "[I", Cond.fieldLink RX8 15 "SingerQueue$Wishes" "other" "[I", Cond.methodLink RX9 169 yX9_isIn, Cond.static yX9_isIn, Cond.code yX9_isIn cX9_isIn 2 (some .boolean), Cond.methodLink RX9 159 yX9_asNumber, Cond.static yX9_asNumber]
def wsL_same_r4 : List Cond := [Cond.code yX9_asNumber cX9_asNumber 1 (some .int), Cond.methodLink RX9 187 yX8_freshOnes, Cond.instanceMethod yX8_freshOnes, Cond.selects RX8 yX8_freshOnes yX8_freshOnes, Cond.code yX8_freshOnes cX8_freshOnes 2 (some .int), Cond.methodLink RX9 190 yX8_turnsFor, Cond.instanceMethod yX8_turnsFor, Cond.selects RX8 yX8_turnsFor yX8_turnsFor, Cond.code yX8_turnsFor cX8_turnsFor 4 (some .int), Cond.methodLink RX8 40 Lib.Math.max.name, Cond.methodLink RL 39 yL_key, Cond.static yL_key, Cond.code yL_key cL_key 7 (some .int), Cond.methodLink RL 16 yL_turns, Cond.static yL_turns, Cond.code yL_turns cL_turns 4 (some .int), Cond.methodLink RL 43 yX9_turnOf, Cond.instanceMethod yX9_turnOf, Cond.selects RX9 yX9_turnOf yX9_turnOf, Cond.code yX9_turnOf cX9_turnOf 3 (some .int), Cond.fieldLink RX9 48 "SingerQueue" "preview" "LSingerQueue$Preview;", Cond.fieldLink RX9 235 "SingerQueue$Preview" "turnsAhead" "I", Cond.fieldLink RX9 238 "SingerQueue$Preview" "minute" "I", Cond.methodLink RX9 74 yX9_isBetween]
def wsL_same_r5 : List Cond := [Cond.methodLink RX9 228 yX0_isReady, Cond.instanceMethod yX0_isReady, Cond.selects RX0 yX0_isReady yX0_isReady, Cond.code yX0_isReady cX0_isReady 2 (some .boolean), Cond.fieldLink RX0 28 "SingerQueue$Evening" "wishes" "LSingerQueue$Wishes;", Cond.fieldLink RX0 74 "SingerQueue$Singers" "there" "I", Cond.methodLink RX0 77 yX8_readyOnes, Cond.methodLink RX9 231 yX5_lookAhead, Cond.instanceMethod yX5_lookAhead, Cond.selects RX5 yX5_lookAhead yX5_lookAhead, Cond.initialized RX5, Cond.code yX5_lookAhead cX5_lookAhead 8 none, Cond.fieldLink RX5 15 "SingerQueue$Evening" "wishes" "LSingerQueue$Wishes;", Cond.fieldLink RX5 21 "SingerQueue$Evening" "singers" "LSingerQueue$Singers;", Cond.fieldLink RX5 25 "SingerQueue$Singers" "turns" "[I", Cond.fieldLink RX5 9 "SingerQueue$Preview" "turns" "[I", Cond.fieldLink RX5 32 "SingerQueue$Singers" "there" "I", Cond.fieldLink RX5 42 "SingerQueue$Singers" "tired" "I", Cond.fieldLink RX5 45 "SingerQueue$Evening" "minute" "I", Cond.fieldLink RX5 48 "SingerQueue$Preview" "minute" "I", Cond.fieldLink RX5 49 "SingerQueue$Preview" "turnsAhead" "I", Cond.static yX9_copyRow, Cond.code yX9_copyRow cX9_copyRow 2 none, Cond.methodLink RX9 259 Lib.Math.min.name]
def wsL_same_r6 : List Cond := [Cond.methodLink RX9 264 arraycopyName, Cond.native arraycopyName, Cond.static arraycopyName, Cond.initialized "java/lang/System", Cond.methodLink RX5 36 yX8_readyOnes, Cond.methodLink RX5 52 yX8_nextAmong, Cond.instanceMethod yX8_nextAmong, Cond.selects RX8 yX8_nextAmong yX8_nextAmong, Cond.code yX8_nextAmong cX8_nextAmong 5 (some .int), Cond.methodLink RX8 46 yX8_freshOnes, Cond.methodLink RX8 49 yX8_fewestTurnsAmong, Cond.instanceMethod yX8_fewestTurnsAmong, Cond.selects RX8 yX8_fewestTurnsAmong yX8_fewestTurnsAmong, Cond.code yX8_fewestTurnsAmong cX8_fewestTurnsAmong 5 (some .int), Cond.methodLink RX8 53 yX8_turnsFor, Cond.methodLink RX5 56 yX0_lengthOfWish, Cond.instanceMethod yX0_lengthOfWish, Cond.selects RX0 yX0_lengthOfWish yX0_lengthOfWish, Cond.code yX0_lengthOfWish cX0_lengthOfWish 2 (some .int), Cond.fieldLink RX0 85 "SingerQueue$Songs" "length" "[I", Cond.fieldLink RX0 88 "SingerQueue$Wishes" "song" "[I", Cond.methodLink RX5 59 yX8_singersOf, Cond.methodLink RX5 62 yX5_addTurn, Cond.instanceMethod yX5_addTurn]
def wsL_same_r7 : List Cond := [Cond.selects RX5 yX5_addTurn yX5_addTurn, Cond.code yX5_addTurn cX5_addTurn 3 none, Cond.methodLink RL 46 yX9_heldUpBy, Cond.instanceMethod yX9_heldUpBy, Cond.selects RX9 yX9_heldUpBy yX9_heldUpBy, Cond.code yX9_heldUpBy cX9_heldUpBy 8 (some .int), Cond.fieldLink RX9 112 "SingerQueue$Wishes" "size" "I", Cond.methodLink RX9 242 yX9_beginWithout, Cond.instanceMethod yX9_beginWithout, Cond.selects RX9 yX9_beginWithout yX9_beginWithout, Cond.code yX9_beginWithout cX9_beginWithout 3 (some .int), Cond.methodLink RL 49 yL_comes, Cond.static yL_comes, Cond.code yL_comes cL_comes 15 (some .int), Cond.methodLink RL 21 yL_copy, Cond.static yL_copy, Cond.code yL_copy cL_copy 4 none, Cond.methodLink RL 25 yL_next, Cond.static yL_next, Cond.code yL_next cL_next 7 (some .int), Cond.constant RL 20 (99999), Cond.methodLink RL 29 yL_sing, Cond.static yL_sing, Cond.code yL_sing cL_sing 11 none]
def wsL_same_r8 : List Cond := [Cond.methodLink RL 53 yL_low, Cond.static yL_low, Cond.code yL_low cL_low 2 (some .int), Cond.constant RL 9 (2147483647), Cond.methodLink RL 56 yX9_of, Cond.instanceMethod yX9_of, Cond.selects RX9 yX9_of yX9_of, Cond.code yX9_of cX9_of 4 (some .int), Cond.fieldLink RX9 153 "SingerQueue$Singers" "lowest" "[I", Cond.fieldLink RX9 156 "SingerQueue$Singers" "highest" "[I", Cond.fieldLink RX9 175 "SingerQueue$Singers" "minutes" "[I", Cond.methodLink RX9 88 yX6_has, Cond.instanceMethod yX6_has, Cond.selects RX6 yX6_has yX6_has, Cond.initialized RX6, Cond.code yX6_has cX6_has 2 (some .boolean), Cond.fieldLink RX6 24 "SingerQueue$Singers" "size" "I", Cond.methodLink RX9 92 yX6_isThere, Cond.instanceMethod yX6_isThere, Cond.selects RX6 yX6_isThere yX6_isThere, Cond.code yX6_isThere cX6_isThere 2 (some .boolean), Cond.fieldLink RX6 32 "SingerQueue$Singers" "there" "I", Cond.methodLink RX9 172 yX8_numberWith, Cond.instanceMethod yX8_numberWith]
def wsL_same_r9 : List Cond := [Cond.selects RX8 yX8_numberWith yX8_numberWith, Cond.code yX8_numberWith cX8_numberWith 4 (some .int), Cond.methodLink RL 59 yX9_ifLeft, Cond.instanceMethod yX9_ifLeft, Cond.selects RX9 yX9_ifLeft yX9_ifLeft, Cond.code yX9_ifLeft cX9_ifLeft 3 (some .int), Cond.methodLink RX9 102 yJ6_bitCount_0f7a4, Cond.static yJ6_bitCount_0f7a4, Cond.initialized RJ6, Cond.code yJ6_bitCount_0f7a4 cJ6_bitCount_0f7a4 1 (some .int), Cond.constant RJ6 265 (1431655765), Cond.constant RJ6 266 (858993459), Cond.constant RJ6 267 (252645135), Cond.methodLink RL 62 yX9_together, Cond.instanceMethod yX9_together, Cond.selects RX9 yX9_together yX9_together, Cond.code yX9_together cX9_together 5 (some .int), Cond.fieldLink RX9 78 "SingerQueue$Evening" "songs" "LSingerQueue$Songs;", Cond.fieldLink RX9 82 "SingerQueue$Songs" "size" "I", Cond.methodLink RL 65 yX9_ofSong, Cond.instanceMethod yX9_ofSong, Cond.selects RX9 yX9_ofSong yX9_ofSong, Cond.code yX9_ofSong cX9_ofSong 4 (some .int), Cond.fieldLink RX9 198 "SingerQueue$Songs" "lowest" "[I"]
def wsL_same_r10 : List Cond := [Cond.fieldLink RX9 199 "SingerQueue$Songs" "highest" "[I", Cond.fieldLink RX9 200 "SingerQueue$Songs" "length" "[I", Cond.fieldLink RX9 205 "SingerQueue$Songs" "timesSung" "[I", Cond.methodLink RX9 197 yX7_has, Cond.instanceMethod yX7_has, Cond.selects RX7 yX7_has yX7_has, Cond.code yX7_has cX7_has 2 (some .boolean), Cond.fieldLink RX7 24 "SingerQueue$Songs" "size" "I", Cond.methodLink RX9 202 yX0_singersWithKey, Cond.instanceMethod yX0_singersWithKey, Cond.selects RX0 yX0_singersWithKey yX0_singersWithKey, Cond.code yX0_singersWithKey cX0_singersWithKey 4 (some .int), Cond.fieldLink RX0 70 "SingerQueue$Singers" "size" "I", Cond.methodLink RX0 48 yX0_keyAndTen, Cond.methodLink RL 68 yX9_past, Cond.instanceMethod yX9_past, Cond.selects RX9 yX9_past yX9_past, Cond.code yX9_past cX9_past 4 (some .int), Cond.fieldLink RX9 208 "SingerQueue$Evening" "past" "LSingerQueue$PastTurns;", Cond.fieldLink RX9 212 "SingerQueue$PastTurns" "size" "I", Cond.fieldLink RX9 215 "SingerQueue$PastTurns" "first" "[I", Cond.fieldLink RX9 216 "SingerQueue$PastTurns" "other" "[I", Cond.fieldLink RX9 217 "SingerQueue$PastTurns" "song" "[I", Cond.fieldLink RX9 218 "SingerQueue$PastTurns" "begin" "[I"]
def wsL_same_r11 : List Cond := [Cond.methodLink RL 71 yX9_count, Cond.instanceMethod yX9_count, Cond.selects RX9 yX9_count yX9_count, Cond.code yX9_count cX9_count 2 (some .int), Cond.fieldLink RX9 60 "SingerQueue$Singers" "size" "I", Cond.fieldLink RX9 221 "SingerQueue$Evening" "minute" "I", Cond.fieldLink RX9 224 "SingerQueue$Evening" "turnsSung" "I", Cond.fieldLink RX9 34 "SingerQueue" "pad" "LSingerQueue$Pad;", Cond.fieldLink RX9 150 "SingerQueue$Pad" "length" "I", Cond.fieldLink RX9 19 "SingerQueue" "history" "LSingerQueue$History;", Cond.fieldLink RX9 227 "SingerQueue$History" "size" "I", Cond.methodLink RX9 125 yX0_nextWish, Cond.instanceMethod yX0_nextWish, Cond.selects RX0 yX0_nextWish yX0_nextWish, Cond.code yX0_nextWish cX0_nextWish 1 (some .int), Cond.fieldLink RX0 91 "SingerQueue$Singers" "tired" "I", Cond.fieldLink RX0 94 "SingerQueue$Singers" "turns" "[I", Cond.methodLink RX0 97 yX8_nextAmong, Cond.methodLink RL 74 yX9_endOfAll, Cond.instanceMethod yX9_endOfAll, Cond.selects RX9 yX9_endOfAll yX9_endOfAll, Cond.code yX9_endOfAll cX9_endOfAll 4 (some .int), Cond.methodLink RX9 239 yX0_lengthOfWish]
def wsL_same : List Cond := .code yL_same cL_same 26 (some .boolean) :: ((wsL_same_r1 ++ (wsL_same_r2 ++ (wsL_same_r3 ++ (wsL_same_r4 ++ (wsL_same_r5 ++ (wsL_same_r6 ++ (wsL_same_r7 ++ (wsL_same_r8 ++ (wsL_same_r9 ++ (wsL_same_r10 ++ wsL_same_r11)))))))))) ++ wsX90 ++ wsX00 ++ wsX80 ++ wsX60 ++ wsX70 ++ wsX50 ++ wsX40 ++ wsX20 ++ wsX10)
def wsL_law_r1 : List Cond := [Cond.classLink RL 34 RX9, Cond.instantiable RX9 7, Cond.initialized RX9, Cond.arrayClass .int, Cond.methodLink RL 78 yX9_init, Cond.instanceMethod yX9_init, Cond.code yX9_init cX9_init 2 none, Cond.methodLink RX9 3 objectInit, Cond.instanceMethod objectInit, Cond.code objectInit ⟨#[0xb1]⟩ 1 none, Cond.classLink RX9 9 RX0, Cond.instantiable RX0 6, Cond.initialized RX0, Cond.fieldLink RX9 12 "SingerQueue" "evening" "LSingerQueue$Evening;", Cond.classLink RX9 16 RX1, Cond.instantiable RX1 3, Cond.initialized RX1, Cond.fieldLink RX9 19 "SingerQueue" "history" "LSingerQueue$History;", Cond.fieldLink RX9 23 "SingerQueue" "slots" "[LSingerQueue$Evening;", Cond.arrayClass .boolean, Cond.fieldLink RX9 27 "SingerQueue" "hasBeenSaved" "[Z", Cond.classLink RX9 31 RX2, Cond.instantiable RX2 2, Cond.initialized RX2]
def wsL_law_r2 : List Cond := [Cond.fieldLink RX9 34 "SingerQueue" "pad" "LSingerQueue$Pad;", Cond.classLink RX9 38 RX3, Cond.instantiable RX3 5, Cond.initialized RX3, Cond.fieldLink RX9 41 "SingerQueue" "padReader" "LSingerQueue$PadReader;", Cond.classLink RX9 45 RX5, Cond.instantiable RX5 3, Cond.initialized RX5, Cond.fieldLink RX9 48 "SingerQueue" "preview" "LSingerQueue$Preview;", Cond.instanceMethod yX0_init, Cond.code yX0_init cX0_init 1 none, Cond.methodLink RX0 3 objectInit, Cond.classLink RX0 9 RX6, Cond.instantiable RX6 7, Cond.initialized RX6, Cond.fieldLink RX0 12 "SingerQueue$Evening" "singers" "LSingerQueue$Singers;", Cond.classLink RX0 18 RX7, Cond.instantiable RX7 5, Cond.initialized RX7, Cond.fieldLink RX0 21 "SingerQueue$Evening" "songs" "LSingerQueue$Songs;", Cond.classLink RX0 25 RX8, Cond.instantiable RX8 4, Cond.initialized RX8, Cond.fieldLink RX0 28 "SingerQueue$Evening" "wishes" "LSingerQueue$Wishes;"]
def wsL_law_r3 : List Cond := [Cond.classLink RX0 32 RX4, Cond.instantiable RX4 5, Cond.initialized RX4, Cond.fieldLink RX0 35 "SingerQueue$Evening" "past" "LSingerQueue$PastTurns;", Cond.instanceMethod yX6_init, Cond.code yX6_init cX6_init 1 none, Cond.methodLink RX6 3 objectInit, Cond.fieldLink RX6 9 "SingerQueue$Singers" "lowest" "[I", Cond.fieldLink RX6 15 "SingerQueue$Singers" "highest" "[I", Cond.fieldLink RX6 18 "SingerQueue$Singers" "turns" "[I", Cond.fieldLink RX6 21 "SingerQueue$Singers" "minutes" "[I", Cond.instanceMethod yX7_init, Cond.code yX7_init cX7_init 1 none, Cond.methodLink RX7 3 objectInit, Cond.fieldLink RX7 9 "SingerQueue$Songs" "lowest" "[I", Cond.fieldLink RX7 15 "SingerQueue$Songs" "highest" "[I", Cond.fieldLink RX7 18 "SingerQueue$Songs" "length" "[I", Cond.fieldLink RX7 21 "SingerQueue$Songs" "timesSung" "[I", Cond.instanceMethod yX8_init, Cond.code yX8_init cX8_init 1 none, Cond.methodLink RX8 3 objectInit, Cond.fieldLink RX8 9 "SingerQueue$Wishes" "first" "[I", Cond.fieldLink RX8 15 "SingerQueue$Wishes" "other" "[I", Cond.fieldLink RX8 18 "SingerQueue$Wishes" "song" "[I"]
def wsL_law_r4 : List Cond := [Cond.instanceMethod yX4_init, Cond.code yX4_init cX4_init 1 none, Cond.methodLink RX4 3 objectInit, Cond.fieldLink RX4 9 "SingerQueue$PastTurns" "first" "[I", Cond.fieldLink RX4 15 "SingerQueue$PastTurns" "other" "[I", Cond.fieldLink RX4 18 "SingerQueue$PastTurns" "song" "[I", Cond.fieldLink RX4 21 "SingerQueue$PastTurns" "begin" "[I", Cond.methodLink RX9 18 yX1_init, Cond.instanceMethod yX1_init, Cond.code yX1_init cX1_init 2 none, Cond.methodLink RX1 3 objectInit, Cond.classLink RX1 9 RX0, Cond.fieldLink RX1 11 "SingerQueue$History" "states" "[LSingerQueue$Evening;", Cond.instanceMethod yX2_init, Cond.code yX2_init cX2_init 1 none, Cond.methodLink RX2 3 objectInit, Cond.arrayClass .char, Cond.fieldLink RX2 9 "SingerQueue$Pad" "text" "[C", Cond.instanceMethod yX3_init, Cond.code yX3_init cX3_init 1 none, Cond.methodLink RX3 3 objectInit, Cond.fieldLink RX3 9 "SingerQueue$PadReader" "first" "[I", Cond.fieldLink RX3 15 "SingerQueue$PadReader" "other" "[I", Cond.fieldLink RX3 18 "SingerQueue$PadReader" "song" "[I"]
def wsL_law_r5 : List Cond := [Cond.instanceMethod yX5_init, Cond.code yX5_init cX5_init 1 none, Cond.methodLink RX5 3 objectInit, Cond.fieldLink RX5 9 "SingerQueue$Preview" "turns" "[I", Cond.methodLink RL 79 yL_cell, Cond.static yL_cell, Cond.initialized RL, Cond.code yL_cell cL_cell 2 (some .int), Cond.constant RL 7 (744459835), Cond.constant RL 8 (1672598679), Cond.methodLink RL 53 yL_low, Cond.static yL_low, Cond.code yL_low cL_low 2 (some .int), Cond.constant RL 9 (2147483647), Cond.methodLink RL 83 yX9_singer, Cond.instanceMethod yX9_singer, Cond.selects RX9 yX9_singer yX9_singer, Cond.code yX9_singer cX9_singer 3 (some .int), Cond.fieldLink RX9 56 "SingerQueue$Evening" "singers" "LSingerQueue$Singers;", Cond.fieldLink RX9 60 "SingerQueue$Singers" "size" "I", Cond.methodLink RX9 52 yX9_isToneRange, Cond.static yX9_isToneRange, Cond.code yX9_isToneRange cX9_isToneRange 2 (some .boolean), Cond.methodLink RX9 74 yX9_isBetween]
def wsL_law_r6 : List Cond := [Cond.static yX9_isBetween, Cond.code yX9_isBetween cX9_isBetween 3 (some .boolean), Cond.methodLink RX9 66 yX1_keep, Cond.instanceMethod yX1_keep, Cond.selects RX1 yX1_keep yX1_keep, Cond.code yX1_keep cX1_keep 2 none, Cond.fieldLink RX1 18 "SingerQueue$History" "place" "I", Cond.fieldLink RX1 26 "SingerQueue$History" "size" "I", Cond.methodLink RX1 29 Lib.Math.min.name, Cond.static Lib.Math.min.name, Cond.initialized "java/lang/Math", Cond.code Lib.Math.min.name Lib.Math.min.code 2 (some .int), Cond.methodLink RX1 22 yX0_copyFrom, Cond.instanceMethod yX0_copyFrom, Cond.selects RX0 yX0_copyFrom yX0_copyFrom, Cond.code yX0_copyFrom cX0_copyFrom 2 none, Cond.fieldLink RX0 110 "SingerQueue$Evening" "minute" "I", Cond.fieldLink RX0 127 "SingerQueue$Evening" "turnsSung" "I", Cond.methodLink RX0 134 yX6_copyFrom, Cond.instanceMethod yX6_copyFrom, Cond.selects RX6 yX6_copyFrom yX6_copyFrom, Cond.code yX6_copyFrom cX6_copyFrom 2 none, Cond.fieldLink RX6 24 "SingerQueue$Singers" "size" "I", Cond.fieldLink RX6 32 "SingerQueue$Singers" "there" "I"]
def wsL_law_r7 : List Cond := [Cond.fieldLink RX6 43 "SingerQueue$Singers" "tired" "I", Cond.static yX9_copyRow, Cond.code yX9_copyRow cX9_copyRow 2 none, Cond.methodLink RX9 259 Lib.Math.min.name, Cond.methodLink RX9 264 arraycopyName, Cond.native arraycopyName, Cond.static arraycopyName, Cond.initialized "java/lang/System", Cond.methodLink RX0 138 yX7_copyFrom, Cond.instanceMethod yX7_copyFrom, Cond.selects RX7 yX7_copyFrom yX7_copyFrom, Cond.code yX7_copyFrom cX7_copyFrom 2 none, Cond.fieldLink RX7 24 "SingerQueue$Songs" "size" "I", Cond.methodLink RX0 141 yX8_copyFrom, Cond.instanceMethod yX8_copyFrom, Cond.selects RX8 yX8_copyFrom yX8_copyFrom, Cond.code yX8_copyFrom cX8_copyFrom 2 none, Cond.fieldLink RX8 21 "SingerQueue$Wishes" "size" "I", Cond.methodLink RX0 144 yX4_copyFrom, Cond.instanceMethod yX4_copyFrom, Cond.selects RX4 yX4_copyFrom yX4_copyFrom, Cond.code yX4_copyFrom cX4_copyFrom 2 none, Cond.fieldLink RX4 24 "SingerQueue$PastTurns" "size" "I", Cond.methodLink RX9 70 yX6_add]
def wsL_law_r8 : List Cond := [Cond.instanceMethod yX6_add, Cond.selects RX6 yX6_add yX6_add, Cond.code yX6_add cX6_add 4 (some .int), Cond.methodLink RX6 39 yX6_setThere, Cond.instanceMethod yX6_setThere, Cond.selects RX6 yX6_setThere yX6_setThere, Cond.code yX6_setThere cX6_setThere 4 none, Cond.methodLink RL 86 yX9_song, Cond.instanceMethod yX9_song, Cond.selects RX9 yX9_song yX9_song, Cond.code yX9_song cX9_song 4 (some .int), Cond.fieldLink RX9 78 "SingerQueue$Evening" "songs" "LSingerQueue$Songs;", Cond.fieldLink RX9 82 "SingerQueue$Songs" "size" "I", Cond.methodLink RX9 85 yX7_add, Cond.instanceMethod yX7_add, Cond.selects RX7 yX7_add yX7_add, Cond.code yX7_add cX7_add 5 (some .int), Cond.methodLink RL 39 yL_key, Cond.static yL_key, Cond.code yL_key cL_key 7 (some .int), Cond.methodLink RL 90 yX9_key, Cond.instanceMethod yX9_key, Cond.selects RX9 yX9_key yX9_key, Cond.code yX9_key cX9_key 5 (some .int)]
def wsL_law_r9 : List Cond := [Cond.methodLink RX9 194 yX0_errorOfNames, Cond.instanceMethod yX0_errorOfNames, Cond.selects RX0 yX0_errorOfNames yX0_errorOfNames, Cond.code yX0_errorOfNames cX0_errorOfNames 4 (some .int), Cond.methodLink RX0 39 yX6_has, Cond.instanceMethod yX6_has, Cond.selects RX6 yX6_has yX6_has, Cond.code yX6_has cX6_has 2 (some .boolean), Cond.methodLink RX0 43 yX7_has, Cond.instanceMethod yX7_has, Cond.selects RX7 yX7_has yX7_has, Cond.code yX7_has cX7_has 2 (some .boolean), Cond.methodLink RX9 181 yX0_keyAndTen, Cond.instanceMethod yX0_keyAndTen, Cond.selects RX0 yX0_keyAndTen yX0_keyAndTen, Cond.code yX0_keyAndTen cX0_keyAndTen 6 (some .int), Cond.fieldLink RX0 51 "SingerQueue$Singers" "lowest" "[I", Cond.fieldLink RX0 55 "SingerQueue$Singers" "highest" "[I", Cond.methodLink RX0 58 Lib.Math.max.name, Cond.static Lib.Math.max.name, Cond.code Lib.Math.max.name Lib.Math.max.code 2 (some .int), Cond.methodLink RX0 64 Lib.Math.min.name, Cond.methodLink RX0 67 yX7_keyAndTenBetween, Cond.instanceMethod yX7_keyAndTenBetween]
def wsL_law_r10 : List Cond := [Cond.selects RX7 yX7_keyAndTenBetween yX7_keyAndTenBetween, Cond.code yX7_keyAndTenBetween cX7_keyAndTenBetween 5 (some .int), Cond.methodLink RX7 32 yX7_fits, Cond.instanceMethod yX7_fits, Cond.selects RX7 yX7_fits yX7_fits, Cond.code yX7_fits cX7_fits 5 (some .boolean), Cond.methodLink RL 92 yX9_wish, Cond.instanceMethod yX9_wish, Cond.selects RX9 yX9_wish yX9_wish, Cond.code yX9_wish cX9_wish 5 (some .int), Cond.fieldLink RX9 108 "SingerQueue$Evening" "wishes" "LSingerQueue$Wishes;", Cond.fieldLink RX9 112 "SingerQueue$Wishes" "size" "I", Cond.methodLink RX9 115 yX0_errorOfWish, Cond.instanceMethod yX0_errorOfWish, Cond.selects RX0 yX0_errorOfWish yX0_errorOfWish, Cond.code yX0_errorOfWish cX0_errorOfWish 6 (some .int), Cond.methodLink RX0 44 yX0_errorOfNames, Cond.methodLink RX0 48 yX0_keyAndTen, Cond.methodLink RX9 119 yX8_add, Cond.instanceMethod yX8_add, Cond.selects RX8 yX8_add yX8_add, Cond.code yX8_add cX8_add 5 (some .int), Cond.methodLink RL 95 yX9_leave, Cond.instanceMethod yX9_leave]
def wsL_law_r11 : List Cond := [Cond.selects RX9 yX9_leave yX9_leave, Cond.code yX9_leave cX9_leave 3 (some .int), Cond.fieldLink RX9 99 "SingerQueue$Singers" "there" "I", Cond.methodLink RX9 88 yX6_has, Cond.methodLink RX9 92 yX6_isThere, Cond.instanceMethod yX6_isThere, Cond.selects RX6 yX6_isThere yX6_isThere, Cond.code yX6_isThere cX6_isThere 2 (some .boolean), Cond.static yX9_isIn, Cond.code yX9_isIn cX9_isIn 2 (some .boolean), Cond.methodLink RX9 95 yX6_setThere, Cond.methodLink RX9 102 yJ6_bitCount_0f7a4, Cond.static yJ6_bitCount_0f7a4, Cond.initialized RJ6, Cond.code yJ6_bitCount_0f7a4 cJ6_bitCount_0f7a4 1 (some .int), Cond.constant RJ6 265 (1431655765), Cond.constant RJ6 266 (858993459), Cond.constant RJ6 267 (252645135), Cond.methodLink RL 99 yL_bits, Cond.static yL_bits, Cond.code yL_bits cL_bits 3 (some .int), Cond.methodLink RL 102 yX9_takeBack, Cond.instanceMethod yX9_takeBack, Cond.selects RX9 yX9_takeBack yX9_takeBack]
def wsL_law_r12 : List Cond := [Cond.code yX9_takeBack cX9_takeBack 2 (some .int), Cond.methodLink RX9 120 yX8_has, Cond.instanceMethod yX8_has, Cond.selects RX8 yX8_has yX8_has, Cond.code yX8_has cX8_has 2 (some .boolean), Cond.methodLink RX9 121 yX8_removeAt, Cond.instanceMethod yX8_removeAt, Cond.selects RX8 yX8_removeAt yX8_removeAt, Cond.code yX8_removeAt cX8_removeAt 3 none, Cond.methodLink RL 25 yL_next, Cond.static yL_next, Cond.code yL_next cL_next 7 (some .int), Cond.constant RL 20 (99999), Cond.methodLink RL 10 yL_set, Cond.static yL_set, Cond.code yL_set cL_set 2 (some .int), Cond.methodLink RL 16 yL_turns, Cond.static yL_turns, Cond.code yL_turns cL_turns 4 (some .int), Cond.methodLink RL 29 yL_sing, Cond.static yL_sing, Cond.code yL_sing cL_sing 11 none, Cond.methodLink RL 105 yX9_sing, Cond.instanceMethod yX9_sing]
def wsL_law_r13 : List Cond := [Cond.selects RX9 yX9_sing yX9_sing, Cond.code yX9_sing cX9_sing 4 (some .int), Cond.methodLink RX9 125 yX0_nextWish, Cond.instanceMethod yX0_nextWish, Cond.selects RX0 yX0_nextWish yX0_nextWish, Cond.code yX0_nextWish cX0_nextWish 1 (some .int), Cond.fieldLink RX0 74 "SingerQueue$Singers" "there" "I", Cond.fieldLink RX0 91 "SingerQueue$Singers" "tired" "I", Cond.fieldLink RX0 94 "SingerQueue$Singers" "turns" "[I", Cond.methodLink RX0 77 yX8_readyOnes, Cond.instanceMethod yX8_readyOnes, Cond.selects RX8 yX8_readyOnes yX8_readyOnes, Cond.code yX8_readyOnes cX8_readyOnes 2 (some .int), Cond.methodLink RX8 37 yX8_onesWithout, Cond.instanceMethod yX8_onesWithout, Cond.selects RX8 yX8_onesWithout yX8_onesWithout, Cond.code yX8_onesWithout cX8_onesWithout 4 (some .int), Cond.methodLink RX8 29 yX8_singersOf, Cond.instanceMethod yX8_singersOf, Cond.selects RX8 yX8_singersOf yX8_singersOf, Cond.code yX8_singersOf cX8_singersOf 3 (some .int), Cond.methodLink RX0 97 yX8_nextAmong, Cond.instanceMethod yX8_nextAmong, Cond.selects RX8 yX8_nextAmong yX8_nextAmong]
def wsL_law_r14 : List Cond := [Cond.code yX8_nextAmong cX8_nextAmong 5 (some .int), Cond.methodLink RX8 46 yX8_freshOnes, Cond.instanceMethod yX8_freshOnes, Cond.selects RX8 yX8_freshOnes yX8_freshOnes, Cond.code yX8_freshOnes cX8_freshOnes 2 (some .int), Cond.methodLink RX8 49 yX8_fewestTurnsAmong, Cond.instanceMethod yX8_fewestTurnsAmong, Cond.selects RX8 yX8_fewestTurnsAmong yX8_fewestTurnsAmong, Cond.code yX8_fewestTurnsAmong cX8_fewestTurnsAmong 5 (some .int), Cond.methodLink RX8 53 yX8_turnsFor, Cond.instanceMethod yX8_turnsFor, Cond.selects RX8 yX8_turnsFor yX8_turnsFor, Cond.code yX8_turnsFor cX8_turnsFor 4 (some .int), Cond.methodLink RX8 40 Lib.Math.max.name, Cond.methodLink RX9 129 yX0_singTurn, Cond.instanceMethod yX0_singTurn, Cond.selects RX0 yX0_singTurn yX0_singTurn, Cond.code yX0_singTurn cX0_singTurn 4 none, Cond.fieldLink RX0 88 "SingerQueue$Wishes" "song" "[I", Cond.fieldLink RX0 104 "SingerQueue$Wishes" "first" "[I", Cond.fieldLink RX0 107 "SingerQueue$Wishes" "other" "[I", Cond.fieldLink RX0 124 "SingerQueue$Songs" "timesSung" "[I", Cond.methodLink RX0 101 yX0_lengthOfWish, Cond.instanceMethod yX0_lengthOfWish]
def wsL_law_r15 : List Cond := [Cond.selects RX0 yX0_lengthOfWish yX0_lengthOfWish, Cond.code yX0_lengthOfWish cX0_lengthOfWish 2 (some .int), Cond.fieldLink RX0 85 "SingerQueue$Songs" "length" "[I", Cond.methodLink RX0 113 yX4_remember, Cond.instanceMethod yX4_remember, Cond.selects RX4 yX4_remember yX4_remember, Cond.code yX4_remember cX4_remember 6 none, Cond.methodLink RX4 28 Lib.Math.min.name, Cond.methodLink RX0 117 yX8_singersOf, Cond.methodLink RX0 120 yX6_singTurn, Cond.instanceMethod yX6_singTurn, Cond.selects RX6 yX6_singTurn yX6_singTurn, Cond.code yX6_singTurn cX6_singTurn 4 none, Cond.methodLink RX0 130 yX8_removeAt, Cond.methodLink RL 107 yL_same, Cond.static yL_same, Cond.code yL_same cL_same 26 (some .boolean), Cond.methodLink RL 33 yX9_inQueue, Cond.instanceMethod yX9_inQueue, Cond.selects RX9 yX9_inQueue yX9_inQueue, Cond.code yX9_inQueue cX9_inQueue 4 (some .int), Cond.fieldLink RX9 178 "SingerQueue$Wishes" "first" "[I", Cond.fieldLink RX9 179 "SingerQueue$Wishes" "other" "[I", Cond.fieldLink RX9 180 "SingerQueue$Wishes" "song" "[I"]
def wsL_law_r16 : List Cond := [Cond.fieldLink RX9 166 "SingerQueue$Singers" "tired" "I", Cond.fieldLink RX9 163 "SingerQueue$Singers" "turns" "[I", Cond.methodLink RX9 184 yX8_readyOnes, Cond.methodLink RX9 169 yX9_isIn, Cond.methodLink RX9 159 yX9_asNumber, Cond.static yX9_asNumber, Cond.code yX9_asNumber cX9_asNumber 1 (some .int), Cond.methodLink RX9 187 yX8_freshOnes, Cond.methodLink RX9 190 yX8_turnsFor, Cond.methodLink RL 43 yX9_turnOf, Cond.instanceMethod yX9_turnOf, Cond.selects RX9 yX9_turnOf yX9_turnOf, Cond.code yX9_turnOf cX9_turnOf 3 (some .int), Cond.fieldLink RX9 235 "SingerQueue$Preview" "turnsAhead" "I", Cond.fieldLink RX9 238 "SingerQueue$Preview" "minute" "I", Cond.methodLink RX9 228 yX0_isReady, Cond.instanceMethod yX0_isReady, Cond.selects RX0 yX0_isReady yX0_isReady, Cond.code yX0_isReady cX0_isReady 2 (some .boolean), Cond.methodLink RX9 231 yX5_lookAhead, Cond.instanceMethod yX5_lookAhead, Cond.selects RX5 yX5_lookAhead yX5_lookAhead, Cond.code yX5_lookAhead cX5_lookAhead 8 none, Cond.fieldLink RX5 15 "SingerQueue$Evening" "wishes" "LSingerQueue$Wishes;"]
def wsL_law_r17 : List Cond := [Cond.fieldLink RX5 21 "SingerQueue$Evening" "singers" "LSingerQueue$Singers;", Cond.fieldLink RX5 25 "SingerQueue$Singers" "turns" "[I", Cond.fieldLink RX5 32 "SingerQueue$Singers" "there" "I", Cond.fieldLink RX5 42 "SingerQueue$Singers" "tired" "I", Cond.fieldLink RX5 45 "SingerQueue$Evening" "minute" "I", Cond.fieldLink RX5 48 "SingerQueue$Preview" "minute" "I", Cond.fieldLink RX5 49 "SingerQueue$Preview" "turnsAhead" "I", Cond.methodLink RX5 36 yX8_readyOnes, Cond.methodLink RX5 52 yX8_nextAmong, Cond.methodLink RX5 56 yX0_lengthOfWish, Cond.methodLink RX5 59 yX8_singersOf, Cond.methodLink RX5 62 yX5_addTurn, Cond.instanceMethod yX5_addTurn, Cond.selects RX5 yX5_addTurn yX5_addTurn, Cond.code yX5_addTurn cX5_addTurn 3 none, Cond.methodLink RL 46 yX9_heldUpBy, Cond.instanceMethod yX9_heldUpBy, Cond.selects RX9 yX9_heldUpBy yX9_heldUpBy, Cond.code yX9_heldUpBy cX9_heldUpBy 8 (some .int), Cond.methodLink RX9 242 yX9_beginWithout, Cond.instanceMethod yX9_beginWithout, Cond.selects RX9 yX9_beginWithout yX9_beginWithout, Cond.code yX9_beginWithout cX9_beginWithout 3 (some .int), Cond.methodLink RL 49 yL_comes]
def wsL_law_r18 : List Cond := [Cond.static yL_comes, Cond.code yL_comes cL_comes 15 (some .int), Cond.methodLink RL 21 yL_copy, Cond.static yL_copy, Cond.code yL_copy cL_copy 4 none, Cond.methodLink RL 56 yX9_of, Cond.instanceMethod yX9_of, Cond.selects RX9 yX9_of yX9_of, Cond.code yX9_of cX9_of 4 (some .int), Cond.fieldLink RX9 153 "SingerQueue$Singers" "lowest" "[I", Cond.fieldLink RX9 156 "SingerQueue$Singers" "highest" "[I", Cond.fieldLink RX9 175 "SingerQueue$Singers" "minutes" "[I", Cond.methodLink RX9 172 yX8_numberWith, Cond.instanceMethod yX8_numberWith, Cond.selects RX8 yX8_numberWith yX8_numberWith, Cond.code yX8_numberWith cX8_numberWith 4 (some .int), Cond.methodLink RL 59 yX9_ifLeft, Cond.instanceMethod yX9_ifLeft, Cond.selects RX9 yX9_ifLeft yX9_ifLeft, Cond.code yX9_ifLeft cX9_ifLeft 3 (some .int), Cond.methodLink RL 62 yX9_together, Cond.instanceMethod yX9_together, Cond.selects RX9 yX9_together yX9_together, Cond.code yX9_together cX9_together 5 (some .int)]
def wsL_law_r19 : List Cond := [Cond.methodLink RL 65 yX9_ofSong, Cond.instanceMethod yX9_ofSong, Cond.selects RX9 yX9_ofSong yX9_ofSong, Cond.code yX9_ofSong cX9_ofSong 4 (some .int), Cond.fieldLink RX9 198 "SingerQueue$Songs" "lowest" "[I", Cond.fieldLink RX9 199 "SingerQueue$Songs" "highest" "[I", Cond.fieldLink RX9 200 "SingerQueue$Songs" "length" "[I", Cond.fieldLink RX9 205 "SingerQueue$Songs" "timesSung" "[I", Cond.methodLink RX9 197 yX7_has, Cond.methodLink RX9 202 yX0_singersWithKey, Cond.instanceMethod yX0_singersWithKey, Cond.selects RX0 yX0_singersWithKey yX0_singersWithKey, Cond.code yX0_singersWithKey cX0_singersWithKey 4 (some .int), Cond.fieldLink RX0 70 "SingerQueue$Singers" "size" "I", Cond.methodLink RL 68 yX9_past, Cond.instanceMethod yX9_past, Cond.selects RX9 yX9_past yX9_past, Cond.code yX9_past cX9_past 4 (some .int), Cond.fieldLink RX9 208 "SingerQueue$Evening" "past" "LSingerQueue$PastTurns;", Cond.fieldLink RX9 212 "SingerQueue$PastTurns" "size" "I", Cond.fieldLink RX9 215 "SingerQueue$PastTurns" "first" "[I", Cond.fieldLink RX9 216 "SingerQueue$PastTurns" "other" "[I", Cond.fieldLink RX9 217 "SingerQueue$PastTurns" "song" "[I", Cond.fieldLink RX9 218 "SingerQueue$PastTurns" "begin" "[I"]
def wsL_law_r20 : List Cond := [Cond.methodLink RL 71 yX9_count, Cond.instanceMethod yX9_count, Cond.selects RX9 yX9_count yX9_count, Cond.code yX9_count cX9_count 2 (some .int), Cond.fieldLink RX9 221 "SingerQueue$Evening" "minute" "I", Cond.fieldLink RX9 224 "SingerQueue$Evening" "turnsSung" "I", Cond.fieldLink RX9 150 "SingerQueue$Pad" "length" "I", Cond.fieldLink RX9 227 "SingerQueue$History" "size" "I", Cond.methodLink RL 74 yX9_endOfAll, Cond.instanceMethod yX9_endOfAll, Cond.selects RX9 yX9_endOfAll yX9_endOfAll, Cond.code yX9_endOfAll cX9_endOfAll 4 (some .int), Cond.methodLink RX9 239 yX0_lengthOfWish]
def wsL_law : List Cond := (wsL_law_r1 ++ (wsL_law_r2 ++ (wsL_law_r3 ++ (wsL_law_r4 ++ (wsL_law_r5 ++ (wsL_law_r6 ++ (wsL_law_r7 ++ (wsL_law_r8 ++ (wsL_law_r9 ++ (wsL_law_r10 ++ (wsL_law_r11 ++ (wsL_law_r12 ++ (wsL_law_r13 ++ (wsL_law_r14 ++ (wsL_law_r15 ++ (wsL_law_r16 ++ (wsL_law_r17 ++ (wsL_law_r18 ++ (wsL_law_r19 ++ wsL_law_r20))))))))))))))))))) ++ wsX90 ++ wsX00 ++ wsX10 ++ wsX20 ++ wsX30 ++ wsX50 ++ wsX60 ++ wsX70 ++ wsX80 ++ wsX40 ++ ([] : List Cond)
abbrev vwCl : List vw_C := [(RX0, TX0, 6), (RX1, TX1, 3), (RX2, TX2, 2), (RX3, TX3, 5), (RX4, TX4, 5), (RX5, TX5, 3), (RX6, TX6, 7), (RX7, TX7, 5), (RX8, TX8, 4), (RX9, TX9, 7)]
end
section
set_option maxRecDepth 20000 in
theorem ggX0_init_X6_init : GoodIn wsX0_init wsX6_init := goodIn_r _ [21, 22, 2, 3, 23, 24, 25, 26, 27, 48, 49, 50, 51, 52, 53, 54] (by decide +kernel) (by decide +kernel)
set_option maxRecDepth 20000 in
theorem gX0_init_X6_init_n11 : GoodIn wsX0_init (wsX6_init) := ggX0_init_X6_init
set_option maxRecDepth 20000 in
theorem ggX0_init_X7_init : GoodIn wsX0_init wsX7_init := goodIn_r _ [29, 30, 2, 3, 23, 31, 32, 33, 34, 61, 62, 63, 64, 65] (by decide +kernel) (by decide +kernel)
set_option maxRecDepth 20000 in
theorem gX0_init_X7_init_n20 : GoodIn wsX0_init (wsX7_init) := ggX0_init_X7_init
set_option maxRecDepth 20000 in
theorem ggX0_init_X8_init : GoodIn wsX0_init wsX8_init := goodIn_r _ [36, 37, 2, 3, 23, 38, 39, 40, 66, 67, 68, 69] (by decide +kernel) (by decide +kernel)
set_option maxRecDepth 20000 in
theorem gX0_init_X8_init_n27 : GoodIn wsX0_init (wsX8_init) := ggX0_init_X8_init
set_option maxRecDepth 20000 in
theorem ggX0_init_X4_init : GoodIn wsX0_init wsX4_init := goodIn_r _ [42, 43, 2, 3, 23, 44, 45, 46, 47, 70, 71, 72, 73, 74] (by decide +kernel) (by decide +kernel)
set_option maxRecDepth 20000 in
theorem gX0_init_X4_init_n34 : GoodIn wsX0_init (wsX4_init) := ggX0_init_X4_init
theorem dX0_init_0 : decode cX0_init 0 = .ok (.aload_n 0, 1) := by decide +kernel
theorem dX0_init_1 : decode cX0_init 1 = .ok (.invokespecial 3, 3) := by decide +kernel
theorem dX0_init_4 : decode cX0_init 4 = .ok (.aload_n 0, 1) := by decide +kernel
theorem dX0_init_5 : decode cX0_init 5 = .ok (.new 9, 3) := by decide +kernel
theorem dX0_init_8 : decode cX0_init 8 = .ok (.dup, 1) := by decide +kernel
theorem dX0_init_9 : decode cX0_init 9 = .ok (.invokespecial 11, 3) := by decide +kernel
theorem dX0_init_12 : decode cX0_init 12 = .ok (.putfield 12, 3) := by decide +kernel
theorem dX0_init_15 : decode cX0_init 15 = .ok (.aload_n 0, 1) := by decide +kernel
theorem dX0_init_16 : decode cX0_init 16 = .ok (.new 18, 3) := by decide +kernel
theorem dX0_init_19 : decode cX0_init 19 = .ok (.dup, 1) := by decide +kernel
theorem dX0_init_20 : decode cX0_init 20 = .ok (.invokespecial 20, 3) := by decide +kernel
theorem dX0_init_23 : decode cX0_init 23 = .ok (.putfield 21, 3) := by decide +kernel
theorem dX0_init_26 : decode cX0_init 26 = .ok (.aload_n 0, 1) := by decide +kernel
theorem dX0_init_27 : decode cX0_init 27 = .ok (.new 25, 3) := by decide +kernel
theorem dX0_init_30 : decode cX0_init 30 = .ok (.dup, 1) := by decide +kernel
theorem dX0_init_31 : decode cX0_init 31 = .ok (.invokespecial 27, 3) := by decide +kernel
theorem dX0_init_34 : decode cX0_init 34 = .ok (.putfield 28, 3) := by decide +kernel
theorem dX0_init_37 : decode cX0_init 37 = .ok (.aload_n 0, 1) := by decide +kernel
theorem dX0_init_38 : decode cX0_init 38 = .ok (.new 32, 3) := by decide +kernel
theorem dX0_init_41 : decode cX0_init 41 = .ok (.dup, 1) := by decide +kernel
theorem dX0_init_42 : decode cX0_init 42 = .ok (.invokespecial 34, 3) := by decide +kernel
theorem dX0_init_45 : decode cX0_init 45 = .ok (.putfield 35, 3) := by decide +kernel
theorem dX0_init_48 : decode cX0_init 48 = .ok (.return_, 1) := by decide +kernel
set_option maxRecDepth 20000 in
theorem ggX0_errorOfNames_X6_has : GoodIn wsX0_errorOfNames wsX6_has := goodIn_r _ [7, 8, 9, 10, 11, 24, 25, 26, 27, 28, 29, 30] (by decide +kernel) (by decide +kernel)
set_option maxRecDepth 20000 in
theorem gX0_errorOfNames_X6_has : GoodIn wsX0_errorOfNames (wsV RX0 39 RX6 yX6_has wsX6_has) := goodIn_app (goodIn_of _ (by decide +kernel)) ggX0_errorOfNames_X6_has
set_option maxRecDepth 20000 in
theorem ggX0_errorOfNames_X7_has : GoodIn wsX0_errorOfNames wsX7_has := goodIn_r _ [16, 17, 9, 10, 11, 31, 32, 33, 34, 35] (by decide +kernel) (by decide +kernel)
set_option maxRecDepth 20000 in
theorem gX0_errorOfNames_X7_has : GoodIn wsX0_errorOfNames (wsV RX0 43 RX7 yX7_has wsX7_has) := goodIn_app (goodIn_of _ (by decide +kernel)) ggX0_errorOfNames_X7_has
theorem dX0_errorOfNames_0 : decode cX0_errorOfNames 0 = .ok (.aload_n 0, 1) := by decide +kernel
theorem dX0_errorOfNames_1 : decode cX0_errorOfNames 1 = .ok (.getfield 12, 3) := by decide +kernel
theorem dX0_errorOfNames_4 : decode cX0_errorOfNames 4 = .ok (.iload_n 1, 1) := by decide +kernel
theorem dX0_errorOfNames_5 : decode cX0_errorOfNames 5 = .ok (.invokevirtual 39, 3) := by decide +kernel
theorem dX0_errorOfNames_8 : decode cX0_errorOfNames 8 = .ok (.ifCond .eq 31, 3) := by decide +kernel
theorem dX0_errorOfNames_11 : decode cX0_errorOfNames 11 = .ok (.iload_n 2, 1) := by decide +kernel
theorem dX0_errorOfNames_12 : decode cX0_errorOfNames 12 = .ok (.bipush (-6), 2) := by decide +kernel
theorem dX0_errorOfNames_14 : decode cX0_errorOfNames 14 = .ok (.if_icmp .eq 14, 3) := by decide +kernel
theorem dX0_errorOfNames_17 : decode cX0_errorOfNames 17 = .ok (.aload_n 0, 1) := by decide +kernel
theorem dX0_errorOfNames_18 : decode cX0_errorOfNames 18 = .ok (.getfield 12, 3) := by decide +kernel
theorem dX0_errorOfNames_21 : decode cX0_errorOfNames 21 = .ok (.iload_n 2, 1) := by decide +kernel
theorem dX0_errorOfNames_22 : decode cX0_errorOfNames 22 = .ok (.invokevirtual 39, 3) := by decide +kernel
theorem dX0_errorOfNames_25 : decode cX0_errorOfNames 25 = .ok (.ifCond .eq 14, 3) := by decide +kernel
theorem dX0_errorOfNames_28 : decode cX0_errorOfNames 28 = .ok (.aload_n 0, 1) := by decide +kernel
theorem dX0_errorOfNames_29 : decode cX0_errorOfNames 29 = .ok (.getfield 21, 3) := by decide +kernel
theorem dX0_errorOfNames_32 : decode cX0_errorOfNames 32 = .ok (.iload_n 3, 1) := by decide +kernel
theorem dX0_errorOfNames_33 : decode cX0_errorOfNames 33 = .ok (.invokevirtual 43, 3) := by decide +kernel
theorem dX0_errorOfNames_36 : decode cX0_errorOfNames 36 = .ok (.ifCond .ne 5, 3) := by decide +kernel
theorem dX0_errorOfNames_39 : decode cX0_errorOfNames 39 = .ok (.iconst (-1), 1) := by decide +kernel
theorem dX0_errorOfNames_40 : decode cX0_errorOfNames 40 = .ok (.ireturn, 1) := by decide +kernel
theorem dX0_errorOfNames_41 : decode cX0_errorOfNames 41 = .ok (.iload_n 1, 1) := by decide +kernel
theorem dX0_errorOfNames_42 : decode cX0_errorOfNames 42 = .ok (.iload_n 2, 1) := by decide +kernel
theorem dX0_errorOfNames_43 : decode cX0_errorOfNames 43 = .ok (.if_icmp .ne 8, 3) := by decide +kernel
theorem dX0_errorOfNames_46 : decode cX0_errorOfNames 46 = .ok (.bipush (-2), 2) := by decide +kernel
theorem dX0_errorOfNames_48 : decode cX0_errorOfNames 48 = .ok (.goto 4, 3) := by decide +kernel
theorem dX0_errorOfNames_51 : decode cX0_errorOfNames 51 = .ok (.iconst 0, 1) := by decide +kernel
theorem dX0_errorOfNames_52 : decode cX0_errorOfNames 52 = .ok (.ireturn, 1) := by decide +kernel
set_option maxRecDepth 20000 in
theorem ggX0_errorOfWish_X0_errorOfNames : GoodIn wsX0_errorOfWish wsX0_errorOfNames := goodIn_r _ [5, 6, 7, 8, 9, 10, 11, 12, 13, 14, 15, 16, 17, 18, 19, 20, 21, 22, 46, 47, 48, 49, 50, 51, 52, 53, 54, 55, 56, 57, 58, 59, 60, 61, 62, 63] (by decide +kernel) (by decide +kernel)
set_option maxRecDepth 20000 in
theorem gX0_errorOfWish_X0_errorOfNames : GoodIn wsX0_errorOfWish (wsV RX0 44 RX0 yX0_errorOfNames wsX0_errorOfNames) := goodIn_app (goodIn_of _ (by decide +kernel)) ggX0_errorOfWish_X0_errorOfNames
set_option maxRecDepth 20000 in
theorem ggX0_errorOfWish_X0_keyAndTen : GoodIn wsX0_errorOfWish wsX0_keyAndTen := goodIn_r _ [26, 6, 27, 28, 29, 30, 31, 32, 33, 34, 35, 7, 36, 37, 38, 20, 39, 40, 41, 42, 43, 44, 45, 46, 47, 48, 49, 50, 51, 52, 53, 54, 55, 56, 57, 58, 59, 60, 61, 62, 63] (by decide +kernel) (by decide +kernel)
set_option maxRecDepth 20000 in
theorem gX0_errorOfWish_X0_keyAndTen : GoodIn wsX0_errorOfWish (wsV RX0 48 RX0 yX0_keyAndTen wsX0_keyAndTen) := goodIn_app (goodIn_of _ (by decide +kernel)) ggX0_errorOfWish_X0_keyAndTen
theorem dX0_errorOfWish_0 : decode cX0_errorOfWish 0 = .ok (.aload_n 0, 1) := by decide +kernel
theorem dX0_errorOfWish_1 : decode cX0_errorOfWish 1 = .ok (.iload_n 1, 1) := by decide +kernel
theorem dX0_errorOfWish_2 : decode cX0_errorOfWish 2 = .ok (.iload_n 2, 1) := by decide +kernel
theorem dX0_errorOfWish_3 : decode cX0_errorOfWish 3 = .ok (.iload_n 3, 1) := by decide +kernel
theorem dX0_errorOfWish_4 : decode cX0_errorOfWish 4 = .ok (.invokevirtual 44, 3) := by decide +kernel
theorem dX0_errorOfWish_7 : decode cX0_errorOfWish 7 = .ok (.istore 5, 2) := by decide +kernel
theorem dX0_errorOfWish_9 : decode cX0_errorOfWish 9 = .ok (.iload 5, 2) := by decide +kernel
theorem dX0_errorOfWish_11 : decode cX0_errorOfWish 11 = .ok (.ifCond .eq 6, 3) := by decide +kernel
theorem dX0_errorOfWish_14 : decode cX0_errorOfWish 14 = .ok (.iload 5, 2) := by decide +kernel
theorem dX0_errorOfWish_16 : decode cX0_errorOfWish 16 = .ok (.ireturn, 1) := by decide +kernel
theorem dX0_errorOfWish_17 : decode cX0_errorOfWish 17 = .ok (.iload 4, 2) := by decide +kernel
theorem dX0_errorOfWish_19 : decode cX0_errorOfWish 19 = .ok (.bipush 20, 2) := by decide +kernel
theorem dX0_errorOfWish_21 : decode cX0_errorOfWish 21 = .ok (.if_icmp .lt 6, 3) := by decide +kernel
theorem dX0_errorOfWish_24 : decode cX0_errorOfWish 24 = .ok (.bipush (-4), 2) := by decide +kernel
theorem dX0_errorOfWish_26 : decode cX0_errorOfWish 26 = .ok (.ireturn, 1) := by decide +kernel
theorem dX0_errorOfWish_27 : decode cX0_errorOfWish 27 = .ok (.aload_n 0, 1) := by decide +kernel
theorem dX0_errorOfWish_28 : decode cX0_errorOfWish 28 = .ok (.iload_n 1, 1) := by decide +kernel
theorem dX0_errorOfWish_29 : decode cX0_errorOfWish 29 = .ok (.iload_n 2, 1) := by decide +kernel
theorem dX0_errorOfWish_30 : decode cX0_errorOfWish 30 = .ok (.iload_n 3, 1) := by decide +kernel
theorem dX0_errorOfWish_31 : decode cX0_errorOfWish 31 = .ok (.invokevirtual 48, 3) := by decide +kernel
theorem dX0_errorOfWish_34 : decode cX0_errorOfWish 34 = .ok (.bipush (-6), 2) := by decide +kernel
theorem dX0_errorOfWish_36 : decode cX0_errorOfWish 36 = .ok (.if_icmp .ne 8, 3) := by decide +kernel
theorem dX0_errorOfWish_39 : decode cX0_errorOfWish 39 = .ok (.bipush (-5), 2) := by decide +kernel
theorem dX0_errorOfWish_41 : decode cX0_errorOfWish 41 = .ok (.goto 4, 3) := by decide +kernel
theorem dX0_errorOfWish_44 : decode cX0_errorOfWish 44 = .ok (.iconst 0, 1) := by decide +kernel
theorem dX0_errorOfWish_45 : decode cX0_errorOfWish 45 = .ok (.ireturn, 1) := by decide +kernel
set_option maxRecDepth 20000 in
theorem ggX0_keyAndTen_X7_keyAndTenBetween : GoodIn wsX0_keyAndTen wsX7_keyAndTenBetween := goodIn_r _ [16, 17, 18, 19, 15, 20, 21, 22, 36, 37, 38, 39, 40] (by decide +kernel) (by decide +kernel)
set_option maxRecDepth 20000 in
theorem gX0_keyAndTen_X7_keyAndTenBetween : GoodIn wsX0_keyAndTen (wsV RX0 67 RX7 yX7_keyAndTenBetween wsX7_keyAndTenBetween) := goodIn_app (goodIn_of _ (by decide +kernel)) ggX0_keyAndTen_X7_keyAndTenBetween
theorem dX0_keyAndTen_0 : decode cX0_keyAndTen 0 = .ok (.aload_n 0, 1) := by decide +kernel
theorem dX0_keyAndTen_1 : decode cX0_keyAndTen 1 = .ok (.getfield 12, 3) := by decide +kernel
theorem dX0_keyAndTen_4 : decode cX0_keyAndTen 4 = .ok (.getfield 51, 3) := by decide +kernel
theorem dX0_keyAndTen_7 : decode cX0_keyAndTen 7 = .ok (.iload_n 1, 1) := by decide +kernel
theorem dX0_keyAndTen_8 : decode cX0_keyAndTen 8 = .ok (.iaload, 1) := by decide +kernel
theorem dX0_keyAndTen_9 : decode cX0_keyAndTen 9 = .ok (.istore 4, 2) := by decide +kernel
theorem dX0_keyAndTen_11 : decode cX0_keyAndTen 11 = .ok (.aload_n 0, 1) := by decide +kernel
theorem dX0_keyAndTen_12 : decode cX0_keyAndTen 12 = .ok (.getfield 12, 3) := by decide +kernel
theorem dX0_keyAndTen_15 : decode cX0_keyAndTen 15 = .ok (.getfield 55, 3) := by decide +kernel
theorem dX0_keyAndTen_18 : decode cX0_keyAndTen 18 = .ok (.iload_n 1, 1) := by decide +kernel
theorem dX0_keyAndTen_19 : decode cX0_keyAndTen 19 = .ok (.iaload, 1) := by decide +kernel
theorem dX0_keyAndTen_20 : decode cX0_keyAndTen 20 = .ok (.istore 5, 2) := by decide +kernel
theorem dX0_keyAndTen_22 : decode cX0_keyAndTen 22 = .ok (.iload_n 2, 1) := by decide +kernel
theorem dX0_keyAndTen_23 : decode cX0_keyAndTen 23 = .ok (.bipush (-6), 2) := by decide +kernel
theorem dX0_keyAndTen_25 : decode cX0_keyAndTen 25 = .ok (.if_icmp .eq 35, 3) := by decide +kernel
theorem dX0_keyAndTen_28 : decode cX0_keyAndTen 28 = .ok (.iload 4, 2) := by decide +kernel
theorem dX0_keyAndTen_30 : decode cX0_keyAndTen 30 = .ok (.aload_n 0, 1) := by decide +kernel
theorem dX0_keyAndTen_31 : decode cX0_keyAndTen 31 = .ok (.getfield 12, 3) := by decide +kernel
theorem dX0_keyAndTen_34 : decode cX0_keyAndTen 34 = .ok (.getfield 51, 3) := by decide +kernel
theorem dX0_keyAndTen_37 : decode cX0_keyAndTen 37 = .ok (.iload_n 2, 1) := by decide +kernel
theorem dX0_keyAndTen_38 : decode cX0_keyAndTen 38 = .ok (.iaload, 1) := by decide +kernel
theorem dX0_keyAndTen_39 : decode cX0_keyAndTen 39 = .ok (.invokestatic 58, 3) := by decide +kernel
theorem dX0_keyAndTen_42 : decode cX0_keyAndTen 42 = .ok (.istore 4, 2) := by decide +kernel
theorem dX0_keyAndTen_44 : decode cX0_keyAndTen 44 = .ok (.iload 5, 2) := by decide +kernel
theorem dX0_keyAndTen_46 : decode cX0_keyAndTen 46 = .ok (.aload_n 0, 1) := by decide +kernel
theorem dX0_keyAndTen_47 : decode cX0_keyAndTen 47 = .ok (.getfield 12, 3) := by decide +kernel
theorem dX0_keyAndTen_50 : decode cX0_keyAndTen 50 = .ok (.getfield 55, 3) := by decide +kernel
theorem dX0_keyAndTen_53 : decode cX0_keyAndTen 53 = .ok (.iload_n 2, 1) := by decide +kernel
theorem dX0_keyAndTen_54 : decode cX0_keyAndTen 54 = .ok (.iaload, 1) := by decide +kernel
theorem dX0_keyAndTen_55 : decode cX0_keyAndTen 55 = .ok (.invokestatic 64, 3) := by decide +kernel
theorem dX0_keyAndTen_58 : decode cX0_keyAndTen 58 = .ok (.istore 5, 2) := by decide +kernel
theorem dX0_keyAndTen_60 : decode cX0_keyAndTen 60 = .ok (.aload_n 0, 1) := by decide +kernel
theorem dX0_keyAndTen_61 : decode cX0_keyAndTen 61 = .ok (.getfield 21, 3) := by decide +kernel
theorem dX0_keyAndTen_64 : decode cX0_keyAndTen 64 = .ok (.iload 4, 2) := by decide +kernel
theorem dX0_keyAndTen_66 : decode cX0_keyAndTen 66 = .ok (.iload 5, 2) := by decide +kernel
theorem dX0_keyAndTen_68 : decode cX0_keyAndTen 68 = .ok (.iload_n 3, 1) := by decide +kernel
theorem dX0_keyAndTen_69 : decode cX0_keyAndTen 69 = .ok (.invokevirtual 67, 3) := by decide +kernel
theorem dX0_keyAndTen_72 : decode cX0_keyAndTen 72 = .ok (.ireturn, 1) := by decide +kernel
set_option maxRecDepth 20000 in
theorem ggX0_singersWithKey_X0_keyAndTen : GoodIn wsX0_singersWithKey wsX0_keyAndTen := goodIn_r _ [7, 1, 8, 9, 10, 11, 12, 13, 14, 15, 16, 17, 18, 19, 20, 21, 22, 23, 24, 25, 26, 27, 28, 29, 30, 31, 32, 33, 34, 35, 36, 37, 38, 39, 40, 41, 42, 43, 44, 45, 46] (by decide +kernel) (by decide +kernel)
set_option maxRecDepth 20000 in
theorem gX0_singersWithKey_X0_keyAndTen : GoodIn wsX0_singersWithKey (wsV RX0 48 RX0 yX0_keyAndTen wsX0_keyAndTen) := goodIn_app (goodIn_of _ (by decide +kernel)) ggX0_singersWithKey_X0_keyAndTen
theorem dX0_singersWithKey_0 : decode cX0_singersWithKey 0 = .ok (.iconst 0, 1) := by decide +kernel
theorem dX0_singersWithKey_1 : decode cX0_singersWithKey 1 = .ok (.istore_n 2, 1) := by decide +kernel
theorem dX0_singersWithKey_2 : decode cX0_singersWithKey 2 = .ok (.iconst 0, 1) := by decide +kernel
theorem dX0_singersWithKey_3 : decode cX0_singersWithKey 3 = .ok (.istore_n 3, 1) := by decide +kernel
theorem dX0_singersWithKey_4 : decode cX0_singersWithKey 4 = .ok (.iload_n 3, 1) := by decide +kernel
theorem dX0_singersWithKey_5 : decode cX0_singersWithKey 5 = .ok (.aload_n 0, 1) := by decide +kernel
theorem dX0_singersWithKey_6 : decode cX0_singersWithKey 6 = .ok (.getfield 12, 3) := by decide +kernel
theorem dX0_singersWithKey_9 : decode cX0_singersWithKey 9 = .ok (.getfield 70, 3) := by decide +kernel
theorem dX0_singersWithKey_12 : decode cX0_singersWithKey 12 = .ok (.if_icmp .ge 28, 3) := by decide +kernel
theorem dX0_singersWithKey_15 : decode cX0_singersWithKey 15 = .ok (.aload_n 0, 1) := by decide +kernel
theorem dX0_singersWithKey_16 : decode cX0_singersWithKey 16 = .ok (.iload_n 3, 1) := by decide +kernel
theorem dX0_singersWithKey_17 : decode cX0_singersWithKey 17 = .ok (.bipush (-6), 2) := by decide +kernel
theorem dX0_singersWithKey_19 : decode cX0_singersWithKey 19 = .ok (.iload_n 1, 1) := by decide +kernel
theorem dX0_singersWithKey_20 : decode cX0_singersWithKey 20 = .ok (.invokevirtual 48, 3) := by decide +kernel
theorem dX0_singersWithKey_23 : decode cX0_singersWithKey 23 = .ok (.bipush (-6), 2) := by decide +kernel
theorem dX0_singersWithKey_25 : decode cX0_singersWithKey 25 = .ok (.if_icmp .eq 9, 3) := by decide +kernel
theorem dX0_singersWithKey_28 : decode cX0_singersWithKey 28 = .ok (.iload_n 2, 1) := by decide +kernel
theorem dX0_singersWithKey_29 : decode cX0_singersWithKey 29 = .ok (.iconst 1, 1) := by decide +kernel
theorem dX0_singersWithKey_30 : decode cX0_singersWithKey 30 = .ok (.iload_n 3, 1) := by decide +kernel
theorem dX0_singersWithKey_31 : decode cX0_singersWithKey 31 = .ok (.ishl, 1) := by decide +kernel
theorem dX0_singersWithKey_32 : decode cX0_singersWithKey 32 = .ok (.ior, 1) := by decide +kernel
theorem dX0_singersWithKey_33 : decode cX0_singersWithKey 33 = .ok (.istore_n 2, 1) := by decide +kernel
theorem dX0_singersWithKey_34 : decode cX0_singersWithKey 34 = .ok (.iinc 3 1, 3) := by decide +kernel
theorem dX0_singersWithKey_37 : decode cX0_singersWithKey 37 = .ok (.goto (-33), 3) := by decide +kernel
theorem dX0_singersWithKey_40 : decode cX0_singersWithKey 40 = .ok (.iload_n 2, 1) := by decide +kernel
theorem dX0_singersWithKey_41 : decode cX0_singersWithKey 41 = .ok (.ireturn, 1) := by decide +kernel
set_option maxRecDepth 20000 in
theorem ggX0_isReady_X8_readyOnes : GoodIn wsX0_isReady wsX8_readyOnes := goodIn_r _ [8, 9, 10, 11, 7, 12, 13, 14, 15, 16, 17, 18, 19, 36, 37, 38, 39] (by decide +kernel) (by decide +kernel)
set_option maxRecDepth 20000 in
theorem gX0_isReady_X8_readyOnes : GoodIn wsX0_isReady (wsV RX0 77 RX8 yX8_readyOnes wsX8_readyOnes) := goodIn_app (goodIn_of _ (by decide +kernel)) ggX0_isReady_X8_readyOnes
set_option maxRecDepth 20000 in
theorem ggX0_isReady_X9_isIn : GoodIn wsX0_isReady wsX9_isIn := goodIn_r _ [22] (by decide +kernel) (by decide +kernel)
set_option maxRecDepth 20000 in
theorem gX0_isReady_X9_isIn_n81 : GoodIn wsX0_isReady (wsX9_isIn) := ggX0_isReady_X9_isIn
theorem dX0_isReady_0 : decode cX0_isReady 0 = .ok (.aload_n 0, 1) := by decide +kernel
theorem dX0_isReady_1 : decode cX0_isReady 1 = .ok (.getfield 28, 3) := by decide +kernel
theorem dX0_isReady_4 : decode cX0_isReady 4 = .ok (.aload_n 0, 1) := by decide +kernel
theorem dX0_isReady_5 : decode cX0_isReady 5 = .ok (.getfield 12, 3) := by decide +kernel
theorem dX0_isReady_8 : decode cX0_isReady 8 = .ok (.getfield 74, 3) := by decide +kernel
theorem dX0_isReady_11 : decode cX0_isReady 11 = .ok (.invokevirtual 77, 3) := by decide +kernel
theorem dX0_isReady_14 : decode cX0_isReady 14 = .ok (.iload_n 1, 1) := by decide +kernel
theorem dX0_isReady_15 : decode cX0_isReady 15 = .ok (.invokestatic 81, 3) := by decide +kernel
theorem dX0_isReady_18 : decode cX0_isReady 18 = .ok (.ireturn, 1) := by decide +kernel
theorem dX0_lengthOfWish_0 : decode cX0_lengthOfWish 0 = .ok (.aload_n 0, 1) := by decide +kernel
theorem dX0_lengthOfWish_1 : decode cX0_lengthOfWish 1 = .ok (.getfield 21, 3) := by decide +kernel
theorem dX0_lengthOfWish_4 : decode cX0_lengthOfWish 4 = .ok (.getfield 85, 3) := by decide +kernel
theorem dX0_lengthOfWish_7 : decode cX0_lengthOfWish 7 = .ok (.aload_n 0, 1) := by decide +kernel
theorem dX0_lengthOfWish_8 : decode cX0_lengthOfWish 8 = .ok (.getfield 28, 3) := by decide +kernel
theorem dX0_lengthOfWish_11 : decode cX0_lengthOfWish 11 = .ok (.getfield 88, 3) := by decide +kernel
theorem dX0_lengthOfWish_14 : decode cX0_lengthOfWish 14 = .ok (.iload_n 1, 1) := by decide +kernel
theorem dX0_lengthOfWish_15 : decode cX0_lengthOfWish 15 = .ok (.iaload, 1) := by decide +kernel
theorem dX0_lengthOfWish_16 : decode cX0_lengthOfWish 16 = .ok (.iaload, 1) := by decide +kernel
theorem dX0_lengthOfWish_17 : decode cX0_lengthOfWish 17 = .ok (.ireturn, 1) := by decide +kernel
set_option maxRecDepth 20000 in
theorem ggX0_nextWish_X8_readyOnes : GoodIn wsX0_nextWish wsX8_readyOnes := goodIn_r _ [10, 11, 12, 13, 9, 14, 15, 16, 17, 18, 19, 20, 21, 58, 59, 60, 61] (by decide +kernel) (by decide +kernel)
set_option maxRecDepth 20000 in
theorem gX0_nextWish_X8_readyOnes : GoodIn wsX0_nextWish (wsV RX0 77 RX8 yX8_readyOnes wsX8_readyOnes) := goodIn_app (goodIn_of _ (by decide +kernel)) ggX0_nextWish_X8_readyOnes
set_option maxRecDepth 20000 in
theorem ggX0_nextWish_X8_nextAmong : GoodIn wsX0_nextWish wsX8_nextAmong := goodIn_r _ [25, 26, 27, 28, 9, 29, 11, 12, 13, 14, 15, 16, 17, 18, 19, 20, 21, 30, 31, 32, 33, 34, 35, 36, 37, 38, 39, 40, 41, 42, 43, 44, 58, 59, 60, 61] (by decide +kernel) (by decide +kernel)
set_option maxRecDepth 20000 in
theorem gX0_nextWish_X8_nextAmong : GoodIn wsX0_nextWish (wsV RX0 97 RX8 yX8_nextAmong wsX8_nextAmong) := goodIn_app (goodIn_of _ (by decide +kernel)) ggX0_nextWish_X8_nextAmong
theorem dX0_nextWish_0 : decode cX0_nextWish 0 = .ok (.aload_n 0, 1) := by decide +kernel
theorem dX0_nextWish_1 : decode cX0_nextWish 1 = .ok (.getfield 28, 3) := by decide +kernel
theorem dX0_nextWish_4 : decode cX0_nextWish 4 = .ok (.aload_n 0, 1) := by decide +kernel
theorem dX0_nextWish_5 : decode cX0_nextWish 5 = .ok (.getfield 28, 3) := by decide +kernel
theorem dX0_nextWish_8 : decode cX0_nextWish 8 = .ok (.aload_n 0, 1) := by decide +kernel
theorem dX0_nextWish_9 : decode cX0_nextWish 9 = .ok (.getfield 12, 3) := by decide +kernel
theorem dX0_nextWish_12 : decode cX0_nextWish 12 = .ok (.getfield 74, 3) := by decide +kernel
theorem dX0_nextWish_15 : decode cX0_nextWish 15 = .ok (.invokevirtual 77, 3) := by decide +kernel
theorem dX0_nextWish_18 : decode cX0_nextWish 18 = .ok (.aload_n 0, 1) := by decide +kernel
theorem dX0_nextWish_19 : decode cX0_nextWish 19 = .ok (.getfield 12, 3) := by decide +kernel
theorem dX0_nextWish_22 : decode cX0_nextWish 22 = .ok (.getfield 91, 3) := by decide +kernel
theorem dX0_nextWish_25 : decode cX0_nextWish 25 = .ok (.aload_n 0, 1) := by decide +kernel
theorem dX0_nextWish_26 : decode cX0_nextWish 26 = .ok (.getfield 12, 3) := by decide +kernel
theorem dX0_nextWish_29 : decode cX0_nextWish 29 = .ok (.getfield 94, 3) := by decide +kernel
theorem dX0_nextWish_32 : decode cX0_nextWish 32 = .ok (.invokevirtual 97, 3) := by decide +kernel
theorem dX0_nextWish_35 : decode cX0_nextWish 35 = .ok (.ireturn, 1) := by decide +kernel
set_option maxRecDepth 20000 in
theorem ggX0_singTurn_X0_lengthOfWish : GoodIn wsX0_singTurn wsX0_lengthOfWish := goodIn_r _ [15, 8, 16, 1, 2, 56, 57, 58, 59, 60, 61, 66, 67, 68, 69, 70, 62, 63, 64, 65] (by decide +kernel) (by decide +kernel)
set_option maxRecDepth 20000 in
theorem gX0_singTurn_X0_lengthOfWish : GoodIn wsX0_singTurn (wsV RX0 101 RX0 yX0_lengthOfWish wsX0_lengthOfWish) := goodIn_app (goodIn_of _ (by decide +kernel)) ggX0_singTurn_X0_lengthOfWish
set_option maxRecDepth 20000 in
theorem ggX0_singTurn_X4_remember : GoodIn wsX0_singTurn wsX4_remember := goodIn_r _ [21, 22, 23, 24, 25, 26, 27, 28, 29, 30, 71, 72, 73, 74, 75] (by decide +kernel) (by decide +kernel)
set_option maxRecDepth 20000 in
theorem gX0_singTurn_X4_remember : GoodIn wsX0_singTurn (wsV RX0 113 RX4 yX4_remember wsX4_remember) := goodIn_app (goodIn_of _ (by decide +kernel)) ggX0_singTurn_X4_remember
set_option maxRecDepth 20000 in
theorem ggX0_singTurn_X8_singersOf : GoodIn wsX0_singTurn wsX8_singersOf := goodIn_r _ [35, 36, 37, 62, 63, 64, 65] (by decide +kernel) (by decide +kernel)
set_option maxRecDepth 20000 in
theorem gX0_singTurn_X8_singersOf : GoodIn wsX0_singTurn (wsV RX0 117 RX8 yX8_singersOf wsX8_singersOf) := goodIn_app (goodIn_of _ (by decide +kernel)) ggX0_singTurn_X8_singersOf
set_option maxRecDepth 20000 in
theorem ggX0_singTurn_X6_singTurn : GoodIn wsX0_singTurn wsX6_singTurn := goodIn_r _ [42, 43, 44, 45, 46, 47, 48, 49, 76, 77, 78, 79, 80, 81, 82] (by decide +kernel) (by decide +kernel)
set_option maxRecDepth 20000 in
theorem gX0_singTurn_X6_singTurn : GoodIn wsX0_singTurn (wsV RX0 120 RX6 yX6_singTurn wsX6_singTurn) := goodIn_app (goodIn_of _ (by decide +kernel)) ggX0_singTurn_X6_singTurn
set_option maxRecDepth 20000 in
theorem ggX0_singTurn_X8_removeAt : GoodIn wsX0_singTurn wsX8_removeAt := goodIn_r _ [53, 54, 36, 37, 55, 62, 63, 64, 65] (by decide +kernel) (by decide +kernel)
set_option maxRecDepth 20000 in
theorem gX0_singTurn_X8_removeAt : GoodIn wsX0_singTurn (wsV RX0 130 RX8 yX8_removeAt wsX8_removeAt) := goodIn_app (goodIn_of _ (by decide +kernel)) ggX0_singTurn_X8_removeAt
theorem dX0_singTurn_0 : decode cX0_singTurn 0 = .ok (.aload_n 0, 1) := by decide +kernel
theorem dX0_singTurn_1 : decode cX0_singTurn 1 = .ok (.iload_n 1, 1) := by decide +kernel
theorem dX0_singTurn_2 : decode cX0_singTurn 2 = .ok (.invokevirtual 101, 3) := by decide +kernel
theorem dX0_singTurn_5 : decode cX0_singTurn 5 = .ok (.istore_n 2, 1) := by decide +kernel
theorem dX0_singTurn_6 : decode cX0_singTurn 6 = .ok (.aload_n 0, 1) := by decide +kernel
theorem dX0_singTurn_7 : decode cX0_singTurn 7 = .ok (.getfield 28, 3) := by decide +kernel
theorem dX0_singTurn_10 : decode cX0_singTurn 10 = .ok (.getfield 88, 3) := by decide +kernel
theorem dX0_singTurn_13 : decode cX0_singTurn 13 = .ok (.iload_n 1, 1) := by decide +kernel
theorem dX0_singTurn_14 : decode cX0_singTurn 14 = .ok (.iaload, 1) := by decide +kernel
theorem dX0_singTurn_15 : decode cX0_singTurn 15 = .ok (.istore_n 3, 1) := by decide +kernel
theorem dX0_singTurn_16 : decode cX0_singTurn 16 = .ok (.aload_n 0, 1) := by decide +kernel
theorem dX0_singTurn_17 : decode cX0_singTurn 17 = .ok (.getfield 35, 3) := by decide +kernel
theorem dX0_singTurn_20 : decode cX0_singTurn 20 = .ok (.aload_n 0, 1) := by decide +kernel
theorem dX0_singTurn_21 : decode cX0_singTurn 21 = .ok (.getfield 28, 3) := by decide +kernel
theorem dX0_singTurn_24 : decode cX0_singTurn 24 = .ok (.getfield 104, 3) := by decide +kernel
theorem dX0_singTurn_27 : decode cX0_singTurn 27 = .ok (.iload_n 1, 1) := by decide +kernel
theorem dX0_singTurn_28 : decode cX0_singTurn 28 = .ok (.iaload, 1) := by decide +kernel
theorem dX0_singTurn_29 : decode cX0_singTurn 29 = .ok (.aload_n 0, 1) := by decide +kernel
theorem dX0_singTurn_30 : decode cX0_singTurn 30 = .ok (.getfield 28, 3) := by decide +kernel
theorem dX0_singTurn_33 : decode cX0_singTurn 33 = .ok (.getfield 107, 3) := by decide +kernel
theorem dX0_singTurn_36 : decode cX0_singTurn 36 = .ok (.iload_n 1, 1) := by decide +kernel
theorem dX0_singTurn_37 : decode cX0_singTurn 37 = .ok (.iaload, 1) := by decide +kernel
theorem dX0_singTurn_38 : decode cX0_singTurn 38 = .ok (.iload_n 3, 1) := by decide +kernel
theorem dX0_singTurn_39 : decode cX0_singTurn 39 = .ok (.aload_n 0, 1) := by decide +kernel
theorem dX0_singTurn_40 : decode cX0_singTurn 40 = .ok (.getfield 110, 3) := by decide +kernel
theorem dX0_singTurn_43 : decode cX0_singTurn 43 = .ok (.invokevirtual 113, 3) := by decide +kernel
theorem dX0_singTurn_46 : decode cX0_singTurn 46 = .ok (.aload_n 0, 1) := by decide +kernel
theorem dX0_singTurn_47 : decode cX0_singTurn 47 = .ok (.getfield 12, 3) := by decide +kernel
theorem dX0_singTurn_50 : decode cX0_singTurn 50 = .ok (.aload_n 0, 1) := by decide +kernel
theorem dX0_singTurn_51 : decode cX0_singTurn 51 = .ok (.getfield 28, 3) := by decide +kernel
theorem dX0_singTurn_54 : decode cX0_singTurn 54 = .ok (.iload_n 1, 1) := by decide +kernel
theorem dX0_singTurn_55 : decode cX0_singTurn 55 = .ok (.invokevirtual 117, 3) := by decide +kernel
theorem dX0_singTurn_58 : decode cX0_singTurn 58 = .ok (.iload_n 2, 1) := by decide +kernel
theorem dX0_singTurn_59 : decode cX0_singTurn 59 = .ok (.invokevirtual 120, 3) := by decide +kernel
theorem dX0_singTurn_62 : decode cX0_singTurn 62 = .ok (.aload_n 0, 1) := by decide +kernel
theorem dX0_singTurn_63 : decode cX0_singTurn 63 = .ok (.getfield 21, 3) := by decide +kernel
theorem dX0_singTurn_66 : decode cX0_singTurn 66 = .ok (.getfield 124, 3) := by decide +kernel
theorem dX0_singTurn_69 : decode cX0_singTurn 69 = .ok (.iload_n 3, 1) := by decide +kernel
theorem dX0_singTurn_70 : decode cX0_singTurn 70 = .ok (.dup2, 1) := by decide +kernel
theorem dX0_singTurn_71 : decode cX0_singTurn 71 = .ok (.iaload, 1) := by decide +kernel
theorem dX0_singTurn_72 : decode cX0_singTurn 72 = .ok (.iconst 1, 1) := by decide +kernel
theorem dX0_singTurn_73 : decode cX0_singTurn 73 = .ok (.iadd, 1) := by decide +kernel
theorem dX0_singTurn_74 : decode cX0_singTurn 74 = .ok (.iastore, 1) := by decide +kernel
theorem dX0_singTurn_75 : decode cX0_singTurn 75 = .ok (.aload_n 0, 1) := by decide +kernel
theorem dX0_singTurn_76 : decode cX0_singTurn 76 = .ok (.dup, 1) := by decide +kernel
theorem dX0_singTurn_77 : decode cX0_singTurn 77 = .ok (.getfield 110, 3) := by decide +kernel
theorem dX0_singTurn_80 : decode cX0_singTurn 80 = .ok (.iload_n 2, 1) := by decide +kernel
theorem dX0_singTurn_81 : decode cX0_singTurn 81 = .ok (.iadd, 1) := by decide +kernel
theorem dX0_singTurn_82 : decode cX0_singTurn 82 = .ok (.putfield 110, 3) := by decide +kernel
theorem dX0_singTurn_85 : decode cX0_singTurn 85 = .ok (.aload_n 0, 1) := by decide +kernel
theorem dX0_singTurn_86 : decode cX0_singTurn 86 = .ok (.dup, 1) := by decide +kernel
theorem dX0_singTurn_87 : decode cX0_singTurn 87 = .ok (.getfield 127, 3) := by decide +kernel
theorem dX0_singTurn_90 : decode cX0_singTurn 90 = .ok (.iconst 1, 1) := by decide +kernel
theorem dX0_singTurn_91 : decode cX0_singTurn 91 = .ok (.iadd, 1) := by decide +kernel
theorem dX0_singTurn_92 : decode cX0_singTurn 92 = .ok (.putfield 127, 3) := by decide +kernel
theorem dX0_singTurn_95 : decode cX0_singTurn 95 = .ok (.aload_n 0, 1) := by decide +kernel
theorem dX0_singTurn_96 : decode cX0_singTurn 96 = .ok (.getfield 28, 3) := by decide +kernel
theorem dX0_singTurn_99 : decode cX0_singTurn 99 = .ok (.iload_n 1, 1) := by decide +kernel
theorem dX0_singTurn_100 : decode cX0_singTurn 100 = .ok (.invokevirtual 130, 3) := by decide +kernel
theorem dX0_singTurn_103 : decode cX0_singTurn 103 = .ok (.return_, 1) := by decide +kernel
set_option maxRecDepth 20000 in
theorem ggX0_copyFrom_X6_copyFrom : GoodIn wsX0_copyFrom wsX6_copyFrom := goodIn_r _ [11, 12, 13, 14, 15, 16, 17, 18, 19, 20, 21, 22, 23, 24, 25, 26, 27, 28, 29, 65, 66, 67, 68, 69, 70, 71] (by decide +kernel) (by decide +kernel)
set_option maxRecDepth 20000 in
theorem gX0_copyFrom_X6_copyFrom : GoodIn wsX0_copyFrom (wsV RX0 134 RX6 yX6_copyFrom wsX6_copyFrom) := goodIn_app (goodIn_of _ (by decide +kernel)) ggX0_copyFrom_X6_copyFrom
set_option maxRecDepth 20000 in
theorem ggX0_copyFrom_X7_copyFrom : GoodIn wsX0_copyFrom wsX7_copyFrom := goodIn_r _ [34, 35, 36, 37, 38, 39, 19, 20, 21, 22, 23, 24, 25, 26, 27, 28, 29, 72, 73, 74, 75, 76] (by decide +kernel) (by decide +kernel)
set_option maxRecDepth 20000 in
theorem gX0_copyFrom_X7_copyFrom : GoodIn wsX0_copyFrom (wsV RX0 138 RX7 yX7_copyFrom wsX7_copyFrom) := goodIn_app (goodIn_of _ (by decide +kernel)) ggX0_copyFrom_X7_copyFrom
set_option maxRecDepth 20000 in
theorem ggX0_copyFrom_X8_copyFrom : GoodIn wsX0_copyFrom wsX8_copyFrom := goodIn_r _ [44, 45, 46, 47, 48, 19, 20, 21, 22, 23, 24, 25, 26, 27, 28, 29, 77, 78, 79, 80] (by decide +kernel) (by decide +kernel)
set_option maxRecDepth 20000 in
theorem gX0_copyFrom_X8_copyFrom : GoodIn wsX0_copyFrom (wsV RX0 141 RX8 yX8_copyFrom wsX8_copyFrom) := goodIn_app (goodIn_of _ (by decide +kernel)) ggX0_copyFrom_X8_copyFrom
set_option maxRecDepth 20000 in
theorem ggX0_copyFrom_X4_copyFrom : GoodIn wsX0_copyFrom wsX4_copyFrom := goodIn_r _ [53, 54, 55, 56, 57, 58, 19, 20, 21, 22, 23, 24, 25, 26, 27, 28, 29, 81, 82, 83, 84, 85] (by decide +kernel) (by decide +kernel)
set_option maxRecDepth 20000 in
theorem gX0_copyFrom_X4_copyFrom : GoodIn wsX0_copyFrom (wsV RX0 144 RX4 yX4_copyFrom wsX4_copyFrom) := goodIn_app (goodIn_of _ (by decide +kernel)) ggX0_copyFrom_X4_copyFrom
theorem dX0_copyFrom_0 : decode cX0_copyFrom 0 = .ok (.aload_n 0, 1) := by decide +kernel
theorem dX0_copyFrom_1 : decode cX0_copyFrom 1 = .ok (.getfield 12, 3) := by decide +kernel
theorem dX0_copyFrom_4 : decode cX0_copyFrom 4 = .ok (.aload_n 1, 1) := by decide +kernel
theorem dX0_copyFrom_5 : decode cX0_copyFrom 5 = .ok (.getfield 12, 3) := by decide +kernel
theorem dX0_copyFrom_8 : decode cX0_copyFrom 8 = .ok (.invokevirtual 134, 3) := by decide +kernel
theorem dX0_copyFrom_11 : decode cX0_copyFrom 11 = .ok (.aload_n 0, 1) := by decide +kernel
theorem dX0_copyFrom_12 : decode cX0_copyFrom 12 = .ok (.getfield 21, 3) := by decide +kernel
theorem dX0_copyFrom_15 : decode cX0_copyFrom 15 = .ok (.aload_n 1, 1) := by decide +kernel
theorem dX0_copyFrom_16 : decode cX0_copyFrom 16 = .ok (.getfield 21, 3) := by decide +kernel
theorem dX0_copyFrom_19 : decode cX0_copyFrom 19 = .ok (.invokevirtual 138, 3) := by decide +kernel
theorem dX0_copyFrom_22 : decode cX0_copyFrom 22 = .ok (.aload_n 0, 1) := by decide +kernel
theorem dX0_copyFrom_23 : decode cX0_copyFrom 23 = .ok (.getfield 28, 3) := by decide +kernel
theorem dX0_copyFrom_26 : decode cX0_copyFrom 26 = .ok (.aload_n 1, 1) := by decide +kernel
theorem dX0_copyFrom_27 : decode cX0_copyFrom 27 = .ok (.getfield 28, 3) := by decide +kernel
theorem dX0_copyFrom_30 : decode cX0_copyFrom 30 = .ok (.invokevirtual 141, 3) := by decide +kernel
theorem dX0_copyFrom_33 : decode cX0_copyFrom 33 = .ok (.aload_n 0, 1) := by decide +kernel
theorem dX0_copyFrom_34 : decode cX0_copyFrom 34 = .ok (.getfield 35, 3) := by decide +kernel
theorem dX0_copyFrom_37 : decode cX0_copyFrom 37 = .ok (.aload_n 1, 1) := by decide +kernel
theorem dX0_copyFrom_38 : decode cX0_copyFrom 38 = .ok (.getfield 35, 3) := by decide +kernel
theorem dX0_copyFrom_41 : decode cX0_copyFrom 41 = .ok (.invokevirtual 144, 3) := by decide +kernel
theorem dX0_copyFrom_44 : decode cX0_copyFrom 44 = .ok (.aload_n 0, 1) := by decide +kernel
theorem dX0_copyFrom_45 : decode cX0_copyFrom 45 = .ok (.aload_n 1, 1) := by decide +kernel
theorem dX0_copyFrom_46 : decode cX0_copyFrom 46 = .ok (.getfield 110, 3) := by decide +kernel
theorem dX0_copyFrom_49 : decode cX0_copyFrom 49 = .ok (.putfield 110, 3) := by decide +kernel
theorem dX0_copyFrom_52 : decode cX0_copyFrom 52 = .ok (.aload_n 0, 1) := by decide +kernel
theorem dX0_copyFrom_53 : decode cX0_copyFrom 53 = .ok (.aload_n 1, 1) := by decide +kernel
theorem dX0_copyFrom_54 : decode cX0_copyFrom 54 = .ok (.getfield 127, 3) := by decide +kernel
theorem dX0_copyFrom_57 : decode cX0_copyFrom 57 = .ok (.putfield 127, 3) := by decide +kernel
theorem dX0_copyFrom_60 : decode cX0_copyFrom 60 = .ok (.return_, 1) := by decide +kernel
set_option maxRecDepth 20000 in
theorem ggX1_init_X0_init : GoodIn wsX1_init wsX0_init := goodIn_r _ [9, 10, 2, 3, 11, 12, 13, 14, 15, 16, 17, 18, 19, 20, 21, 22, 23, 24, 25, 26, 27, 28, 29, 30, 31, 32, 33, 34, 35, 36, 37, 38, 39, 40, 41, 42, 43, 44, 45, 46, 47, 48, 49, 50, 51, 52, 53, 54, 64, 65, 66, 67, 68, 69, 70, 58, 59, 60, 61, 62, 63, 71, 72, 73, 74, 75, 76, 77, 78, 79, 80, 81, 82, 83, 84] (by decide +kernel) (by decide +kernel)
set_option maxRecDepth 20000 in
theorem gX1_init_X0_init_n17 : GoodIn wsX1_init (wsX0_init) := ggX1_init_X0_init
theorem dX1_init_0 : decode cX1_init 0 = .ok (.aload_n 0, 1) := by decide +kernel
theorem dX1_init_1 : decode cX1_init 1 = .ok (.invokespecial 3, 3) := by decide +kernel
theorem dX1_init_4 : decode cX1_init 4 = .ok (.aload_n 0, 1) := by decide +kernel
theorem dX1_init_5 : decode cX1_init 5 = .ok (.bipush 6, 2) := by decide +kernel
theorem dX1_init_7 : decode cX1_init 7 = .ok (.anewarray 9, 3) := by decide +kernel
theorem dX1_init_10 : decode cX1_init 10 = .ok (.putfield 11, 3) := by decide +kernel
theorem dX1_init_13 : decode cX1_init 13 = .ok (.iconst 0, 1) := by decide +kernel
theorem dX1_init_14 : decode cX1_init 14 = .ok (.istore_n 1, 1) := by decide +kernel
theorem dX1_init_15 : decode cX1_init 15 = .ok (.iload_n 1, 1) := by decide +kernel
theorem dX1_init_16 : decode cX1_init 16 = .ok (.bipush 6, 2) := by decide +kernel
theorem dX1_init_18 : decode cX1_init 18 = .ok (.if_icmp .ge 22, 3) := by decide +kernel
theorem dX1_init_21 : decode cX1_init 21 = .ok (.aload_n 0, 1) := by decide +kernel
theorem dX1_init_22 : decode cX1_init 22 = .ok (.getfield 11, 3) := by decide +kernel
theorem dX1_init_25 : decode cX1_init 25 = .ok (.iload_n 1, 1) := by decide +kernel
theorem dX1_init_26 : decode cX1_init 26 = .ok (.new 9, 3) := by decide +kernel
theorem dX1_init_29 : decode cX1_init 29 = .ok (.dup, 1) := by decide +kernel
theorem dX1_init_30 : decode cX1_init 30 = .ok (.invokespecial 17, 3) := by decide +kernel
theorem dX1_init_33 : decode cX1_init 33 = .ok (.aastore, 1) := by decide +kernel
theorem dX1_init_34 : decode cX1_init 34 = .ok (.iinc 1 1, 3) := by decide +kernel
theorem dX1_init_37 : decode cX1_init 37 = .ok (.goto (-22), 3) := by decide +kernel
theorem dX1_init_40 : decode cX1_init 40 = .ok (.return_, 1) := by decide +kernel
set_option maxRecDepth 20000 in
theorem ggX1_keep_X0_copyFrom : GoodIn wsX1_keep wsX0_copyFrom := goodIn_r _ [12, 13, 14, 15, 16, 17, 18, 19, 20, 21, 22, 23, 24, 25, 26, 27, 28, 29, 30, 31, 32, 33, 34, 5, 6, 7, 35, 36, 37, 38, 39, 40, 41, 42, 43, 44, 45, 46, 47, 48, 49, 50, 51, 52, 53, 54, 55, 56, 57, 58, 59, 60, 61, 62, 63, 64, 65, 66, 67, 71, 72, 73, 74, 75, 76, 77, 78, 79, 80, 81, 82, 83, 84, 85, 86, 87, 88, 89, 90, 91, 92, 93, 94, 95, 96, 97] (by decide +kernel) (by decide +kernel)
set_option maxRecDepth 20000 in
theorem gX1_keep_X0_copyFrom : GoodIn wsX1_keep (wsV RX1 22 RX0 yX0_copyFrom wsX0_copyFrom) := goodIn_app (goodIn_of _ (by decide +kernel)) ggX1_keep_X0_copyFrom
theorem dX1_keep_0 : decode cX1_keep 0 = .ok (.aload_n 0, 1) := by decide +kernel
theorem dX1_keep_1 : decode cX1_keep 1 = .ok (.getfield 11, 3) := by decide +kernel
theorem dX1_keep_4 : decode cX1_keep 4 = .ok (.aload_n 0, 1) := by decide +kernel
theorem dX1_keep_5 : decode cX1_keep 5 = .ok (.getfield 18, 3) := by decide +kernel
theorem dX1_keep_8 : decode cX1_keep 8 = .ok (.aaload, 1) := by decide +kernel
theorem dX1_keep_9 : decode cX1_keep 9 = .ok (.aload_n 1, 1) := by decide +kernel
theorem dX1_keep_10 : decode cX1_keep 10 = .ok (.invokevirtual 22, 3) := by decide +kernel
theorem dX1_keep_13 : decode cX1_keep 13 = .ok (.aload_n 0, 1) := by decide +kernel
theorem dX1_keep_14 : decode cX1_keep 14 = .ok (.aload_n 0, 1) := by decide +kernel
theorem dX1_keep_15 : decode cX1_keep 15 = .ok (.getfield 18, 3) := by decide +kernel
theorem dX1_keep_18 : decode cX1_keep 18 = .ok (.iconst 5, 1) := by decide +kernel
theorem dX1_keep_19 : decode cX1_keep 19 = .ok (.if_icmp .ne 7, 3) := by decide +kernel
theorem dX1_keep_22 : decode cX1_keep 22 = .ok (.iconst 0, 1) := by decide +kernel
theorem dX1_keep_23 : decode cX1_keep 23 = .ok (.goto 9, 3) := by decide +kernel
theorem dX1_keep_26 : decode cX1_keep 26 = .ok (.aload_n 0, 1) := by decide +kernel
theorem dX1_keep_27 : decode cX1_keep 27 = .ok (.getfield 18, 3) := by decide +kernel
theorem dX1_keep_30 : decode cX1_keep 30 = .ok (.iconst 1, 1) := by decide +kernel
theorem dX1_keep_31 : decode cX1_keep 31 = .ok (.iadd, 1) := by decide +kernel
theorem dX1_keep_32 : decode cX1_keep 32 = .ok (.putfield 18, 3) := by decide +kernel
theorem dX1_keep_35 : decode cX1_keep 35 = .ok (.aload_n 0, 1) := by decide +kernel
theorem dX1_keep_36 : decode cX1_keep 36 = .ok (.aload_n 0, 1) := by decide +kernel
theorem dX1_keep_37 : decode cX1_keep 37 = .ok (.getfield 26, 3) := by decide +kernel
theorem dX1_keep_40 : decode cX1_keep 40 = .ok (.iconst 1, 1) := by decide +kernel
theorem dX1_keep_41 : decode cX1_keep 41 = .ok (.iadd, 1) := by decide +kernel
theorem dX1_keep_42 : decode cX1_keep 42 = .ok (.bipush 6, 2) := by decide +kernel
theorem dX1_keep_44 : decode cX1_keep 44 = .ok (.invokestatic 29, 3) := by decide +kernel
theorem dX1_keep_47 : decode cX1_keep 47 = .ok (.putfield 26, 3) := by decide +kernel
theorem dX1_keep_50 : decode cX1_keep 50 = .ok (.return_, 1) := by decide +kernel
theorem dX2_init_0 : decode cX2_init 0 = .ok (.aload_n 0, 1) := by decide +kernel
theorem dX2_init_1 : decode cX2_init 1 = .ok (.invokespecial 3, 3) := by decide +kernel
theorem dX2_init_4 : decode cX2_init 4 = .ok (.aload_n 0, 1) := by decide +kernel
theorem dX2_init_5 : decode cX2_init 5 = .ok (.bipush 60, 2) := by decide +kernel
theorem dX2_init_7 : decode cX2_init 7 = .ok (.newarray .char, 2) := by decide +kernel
theorem dX2_init_9 : decode cX2_init 9 = .ok (.putfield 9, 3) := by decide +kernel
theorem dX2_init_12 : decode cX2_init 12 = .ok (.return_, 1) := by decide +kernel
theorem dX3_init_0 : decode cX3_init 0 = .ok (.aload_n 0, 1) := by decide +kernel
theorem dX3_init_1 : decode cX3_init 1 = .ok (.invokespecial 3, 3) := by decide +kernel
theorem dX3_init_4 : decode cX3_init 4 = .ok (.aload_n 0, 1) := by decide +kernel
theorem dX3_init_5 : decode cX3_init 5 = .ok (.bipush 15, 2) := by decide +kernel
theorem dX3_init_7 : decode cX3_init 7 = .ok (.newarray .int, 2) := by decide +kernel
theorem dX3_init_9 : decode cX3_init 9 = .ok (.putfield 9, 3) := by decide +kernel
theorem dX3_init_12 : decode cX3_init 12 = .ok (.aload_n 0, 1) := by decide +kernel
theorem dX3_init_13 : decode cX3_init 13 = .ok (.bipush 15, 2) := by decide +kernel
theorem dX3_init_15 : decode cX3_init 15 = .ok (.newarray .int, 2) := by decide +kernel
theorem dX3_init_17 : decode cX3_init 17 = .ok (.putfield 15, 3) := by decide +kernel
theorem dX3_init_20 : decode cX3_init 20 = .ok (.aload_n 0, 1) := by decide +kernel
theorem dX3_init_21 : decode cX3_init 21 = .ok (.bipush 15, 2) := by decide +kernel
theorem dX3_init_23 : decode cX3_init 23 = .ok (.newarray .int, 2) := by decide +kernel
theorem dX3_init_25 : decode cX3_init 25 = .ok (.putfield 18, 3) := by decide +kernel
theorem dX3_init_28 : decode cX3_init 28 = .ok (.return_, 1) := by decide +kernel
theorem dX4_init_0 : decode cX4_init 0 = .ok (.aload_n 0, 1) := by decide +kernel
theorem dX4_init_1 : decode cX4_init 1 = .ok (.invokespecial 3, 3) := by decide +kernel
theorem dX4_init_4 : decode cX4_init 4 = .ok (.aload_n 0, 1) := by decide +kernel
theorem dX4_init_5 : decode cX4_init 5 = .ok (.bipush 12, 2) := by decide +kernel
theorem dX4_init_7 : decode cX4_init 7 = .ok (.newarray .int, 2) := by decide +kernel
theorem dX4_init_9 : decode cX4_init 9 = .ok (.putfield 9, 3) := by decide +kernel
theorem dX4_init_12 : decode cX4_init 12 = .ok (.aload_n 0, 1) := by decide +kernel
theorem dX4_init_13 : decode cX4_init 13 = .ok (.bipush 12, 2) := by decide +kernel
theorem dX4_init_15 : decode cX4_init 15 = .ok (.newarray .int, 2) := by decide +kernel
theorem dX4_init_17 : decode cX4_init 17 = .ok (.putfield 15, 3) := by decide +kernel
theorem dX4_init_20 : decode cX4_init 20 = .ok (.aload_n 0, 1) := by decide +kernel
theorem dX4_init_21 : decode cX4_init 21 = .ok (.bipush 12, 2) := by decide +kernel
theorem dX4_init_23 : decode cX4_init 23 = .ok (.newarray .int, 2) := by decide +kernel
theorem dX4_init_25 : decode cX4_init 25 = .ok (.putfield 18, 3) := by decide +kernel
theorem dX4_init_28 : decode cX4_init 28 = .ok (.aload_n 0, 1) := by decide +kernel
theorem dX4_init_29 : decode cX4_init 29 = .ok (.bipush 12, 2) := by decide +kernel
theorem dX4_init_31 : decode cX4_init 31 = .ok (.newarray .int, 2) := by decide +kernel
theorem dX4_init_33 : decode cX4_init 33 = .ok (.putfield 21, 3) := by decide +kernel
theorem dX4_init_36 : decode cX4_init 36 = .ok (.return_, 1) := by decide +kernel
theorem dX4_remember_0 : decode cX4_remember 0 = .ok (.aload_n 0, 1) := by decide +kernel
theorem dX4_remember_1 : decode cX4_remember 1 = .ok (.aload_n 0, 1) := by decide +kernel
theorem dX4_remember_2 : decode cX4_remember 2 = .ok (.getfield 24, 3) := by decide +kernel
theorem dX4_remember_5 : decode cX4_remember 5 = .ok (.iconst 1, 1) := by decide +kernel
theorem dX4_remember_6 : decode cX4_remember 6 = .ok (.iadd, 1) := by decide +kernel
theorem dX4_remember_7 : decode cX4_remember 7 = .ok (.bipush 12, 2) := by decide +kernel
theorem dX4_remember_9 : decode cX4_remember 9 = .ok (.invokestatic 28, 3) := by decide +kernel
theorem dX4_remember_12 : decode cX4_remember 12 = .ok (.putfield 24, 3) := by decide +kernel
theorem dX4_remember_15 : decode cX4_remember 15 = .ok (.aload_n 0, 1) := by decide +kernel
theorem dX4_remember_16 : decode cX4_remember 16 = .ok (.getfield 24, 3) := by decide +kernel
theorem dX4_remember_19 : decode cX4_remember 19 = .ok (.iconst 1, 1) := by decide +kernel
theorem dX4_remember_20 : decode cX4_remember 20 = .ok (.isub, 1) := by decide +kernel
theorem dX4_remember_21 : decode cX4_remember 21 = .ok (.istore 5, 2) := by decide +kernel
theorem dX4_remember_23 : decode cX4_remember 23 = .ok (.iload 5, 2) := by decide +kernel
theorem dX4_remember_25 : decode cX4_remember 25 = .ok (.ifCond .le 73, 3) := by decide +kernel
theorem dX4_remember_28 : decode cX4_remember 28 = .ok (.aload_n 0, 1) := by decide +kernel
theorem dX4_remember_29 : decode cX4_remember 29 = .ok (.getfield 9, 3) := by decide +kernel
theorem dX4_remember_32 : decode cX4_remember 32 = .ok (.iload 5, 2) := by decide +kernel
theorem dX4_remember_34 : decode cX4_remember 34 = .ok (.aload_n 0, 1) := by decide +kernel
theorem dX4_remember_35 : decode cX4_remember 35 = .ok (.getfield 9, 3) := by decide +kernel
theorem dX4_remember_38 : decode cX4_remember 38 = .ok (.iload 5, 2) := by decide +kernel
theorem dX4_remember_40 : decode cX4_remember 40 = .ok (.iconst 1, 1) := by decide +kernel
theorem dX4_remember_41 : decode cX4_remember 41 = .ok (.isub, 1) := by decide +kernel
theorem dX4_remember_42 : decode cX4_remember 42 = .ok (.iaload, 1) := by decide +kernel
theorem dX4_remember_43 : decode cX4_remember 43 = .ok (.iastore, 1) := by decide +kernel
theorem dX4_remember_44 : decode cX4_remember 44 = .ok (.aload_n 0, 1) := by decide +kernel
theorem dX4_remember_45 : decode cX4_remember 45 = .ok (.getfield 15, 3) := by decide +kernel
theorem dX4_remember_48 : decode cX4_remember 48 = .ok (.iload 5, 2) := by decide +kernel
theorem dX4_remember_50 : decode cX4_remember 50 = .ok (.aload_n 0, 1) := by decide +kernel
theorem dX4_remember_51 : decode cX4_remember 51 = .ok (.getfield 15, 3) := by decide +kernel
theorem dX4_remember_54 : decode cX4_remember 54 = .ok (.iload 5, 2) := by decide +kernel
theorem dX4_remember_56 : decode cX4_remember 56 = .ok (.iconst 1, 1) := by decide +kernel
theorem dX4_remember_57 : decode cX4_remember 57 = .ok (.isub, 1) := by decide +kernel
theorem dX4_remember_58 : decode cX4_remember 58 = .ok (.iaload, 1) := by decide +kernel
theorem dX4_remember_59 : decode cX4_remember 59 = .ok (.iastore, 1) := by decide +kernel
theorem dX4_remember_60 : decode cX4_remember 60 = .ok (.aload_n 0, 1) := by decide +kernel
theorem dX4_remember_61 : decode cX4_remember 61 = .ok (.getfield 18, 3) := by decide +kernel
theorem dX4_remember_64 : decode cX4_remember 64 = .ok (.iload 5, 2) := by decide +kernel
theorem dX4_remember_66 : decode cX4_remember 66 = .ok (.aload_n 0, 1) := by decide +kernel
theorem dX4_remember_67 : decode cX4_remember 67 = .ok (.getfield 18, 3) := by decide +kernel
theorem dX4_remember_70 : decode cX4_remember 70 = .ok (.iload 5, 2) := by decide +kernel
theorem dX4_remember_72 : decode cX4_remember 72 = .ok (.iconst 1, 1) := by decide +kernel
theorem dX4_remember_73 : decode cX4_remember 73 = .ok (.isub, 1) := by decide +kernel
theorem dX4_remember_74 : decode cX4_remember 74 = .ok (.iaload, 1) := by decide +kernel
theorem dX4_remember_75 : decode cX4_remember 75 = .ok (.iastore, 1) := by decide +kernel
theorem dX4_remember_76 : decode cX4_remember 76 = .ok (.aload_n 0, 1) := by decide +kernel
theorem dX4_remember_77 : decode cX4_remember 77 = .ok (.getfield 21, 3) := by decide +kernel
theorem dX4_remember_80 : decode cX4_remember 80 = .ok (.iload 5, 2) := by decide +kernel
theorem dX4_remember_82 : decode cX4_remember 82 = .ok (.aload_n 0, 1) := by decide +kernel
theorem dX4_remember_83 : decode cX4_remember 83 = .ok (.getfield 21, 3) := by decide +kernel
theorem dX4_remember_86 : decode cX4_remember 86 = .ok (.iload 5, 2) := by decide +kernel
theorem dX4_remember_88 : decode cX4_remember 88 = .ok (.iconst 1, 1) := by decide +kernel
theorem dX4_remember_89 : decode cX4_remember 89 = .ok (.isub, 1) := by decide +kernel
theorem dX4_remember_90 : decode cX4_remember 90 = .ok (.iaload, 1) := by decide +kernel
theorem dX4_remember_91 : decode cX4_remember 91 = .ok (.iastore, 1) := by decide +kernel
theorem dX4_remember_92 : decode cX4_remember 92 = .ok (.iinc 5 (-1), 3) := by decide +kernel
theorem dX4_remember_95 : decode cX4_remember 95 = .ok (.goto (-72), 3) := by decide +kernel
theorem dX4_remember_98 : decode cX4_remember 98 = .ok (.aload_n 0, 1) := by decide +kernel
theorem dX4_remember_99 : decode cX4_remember 99 = .ok (.getfield 9, 3) := by decide +kernel
theorem dX4_remember_102 : decode cX4_remember 102 = .ok (.iconst 0, 1) := by decide +kernel
theorem dX4_remember_103 : decode cX4_remember 103 = .ok (.iload_n 1, 1) := by decide +kernel
theorem dX4_remember_104 : decode cX4_remember 104 = .ok (.iastore, 1) := by decide +kernel
theorem dX4_remember_105 : decode cX4_remember 105 = .ok (.aload_n 0, 1) := by decide +kernel
theorem dX4_remember_106 : decode cX4_remember 106 = .ok (.getfield 15, 3) := by decide +kernel
theorem dX4_remember_109 : decode cX4_remember 109 = .ok (.iconst 0, 1) := by decide +kernel
theorem dX4_remember_110 : decode cX4_remember 110 = .ok (.iload_n 2, 1) := by decide +kernel
theorem dX4_remember_111 : decode cX4_remember 111 = .ok (.iastore, 1) := by decide +kernel
theorem dX4_remember_112 : decode cX4_remember 112 = .ok (.aload_n 0, 1) := by decide +kernel
theorem dX4_remember_113 : decode cX4_remember 113 = .ok (.getfield 18, 3) := by decide +kernel
theorem dX4_remember_116 : decode cX4_remember 116 = .ok (.iconst 0, 1) := by decide +kernel
theorem dX4_remember_117 : decode cX4_remember 117 = .ok (.iload_n 3, 1) := by decide +kernel
theorem dX4_remember_118 : decode cX4_remember 118 = .ok (.iastore, 1) := by decide +kernel
theorem dX4_remember_119 : decode cX4_remember 119 = .ok (.aload_n 0, 1) := by decide +kernel
theorem dX4_remember_120 : decode cX4_remember 120 = .ok (.getfield 21, 3) := by decide +kernel
theorem dX4_remember_123 : decode cX4_remember 123 = .ok (.iconst 0, 1) := by decide +kernel
theorem dX4_remember_124 : decode cX4_remember 124 = .ok (.iload 4, 2) := by decide +kernel
theorem dX4_remember_126 : decode cX4_remember 126 = .ok (.iastore, 1) := by decide +kernel
theorem dX4_remember_127 : decode cX4_remember 127 = .ok (.return_, 1) := by decide +kernel
set_option maxRecDepth 20000 in
theorem ggX4_copyFrom_X9_copyRow : GoodIn wsX4_copyFrom wsX9_copyRow := goodIn_r _ [8, 9, 10, 11, 12, 13, 14, 15, 16] (by decide +kernel) (by decide +kernel)
set_option maxRecDepth 20000 in
theorem gX4_copyFrom_X9_copyRow_n34 : GoodIn wsX4_copyFrom (wsX9_copyRow) := ggX4_copyFrom_X9_copyRow
theorem dX4_copyFrom_0 : decode cX4_copyFrom 0 = .ok (.aload_n 0, 1) := by decide +kernel
theorem dX4_copyFrom_1 : decode cX4_copyFrom 1 = .ok (.aload_n 1, 1) := by decide +kernel
theorem dX4_copyFrom_2 : decode cX4_copyFrom 2 = .ok (.getfield 24, 3) := by decide +kernel
theorem dX4_copyFrom_5 : decode cX4_copyFrom 5 = .ok (.putfield 24, 3) := by decide +kernel
theorem dX4_copyFrom_8 : decode cX4_copyFrom 8 = .ok (.aload_n 1, 1) := by decide +kernel
theorem dX4_copyFrom_9 : decode cX4_copyFrom 9 = .ok (.getfield 9, 3) := by decide +kernel
theorem dX4_copyFrom_12 : decode cX4_copyFrom 12 = .ok (.aload_n 0, 1) := by decide +kernel
theorem dX4_copyFrom_13 : decode cX4_copyFrom 13 = .ok (.getfield 9, 3) := by decide +kernel
theorem dX4_copyFrom_16 : decode cX4_copyFrom 16 = .ok (.invokestatic 34, 3) := by decide +kernel
theorem dX4_copyFrom_19 : decode cX4_copyFrom 19 = .ok (.aload_n 1, 1) := by decide +kernel
theorem dX4_copyFrom_20 : decode cX4_copyFrom 20 = .ok (.getfield 15, 3) := by decide +kernel
theorem dX4_copyFrom_23 : decode cX4_copyFrom 23 = .ok (.aload_n 0, 1) := by decide +kernel
theorem dX4_copyFrom_24 : decode cX4_copyFrom 24 = .ok (.getfield 15, 3) := by decide +kernel
theorem dX4_copyFrom_27 : decode cX4_copyFrom 27 = .ok (.invokestatic 34, 3) := by decide +kernel
theorem dX4_copyFrom_30 : decode cX4_copyFrom 30 = .ok (.aload_n 1, 1) := by decide +kernel
theorem dX4_copyFrom_31 : decode cX4_copyFrom 31 = .ok (.getfield 18, 3) := by decide +kernel
theorem dX4_copyFrom_34 : decode cX4_copyFrom 34 = .ok (.aload_n 0, 1) := by decide +kernel
theorem dX4_copyFrom_35 : decode cX4_copyFrom 35 = .ok (.getfield 18, 3) := by decide +kernel
theorem dX4_copyFrom_38 : decode cX4_copyFrom 38 = .ok (.invokestatic 34, 3) := by decide +kernel
theorem dX4_copyFrom_41 : decode cX4_copyFrom 41 = .ok (.aload_n 1, 1) := by decide +kernel
theorem dX4_copyFrom_42 : decode cX4_copyFrom 42 = .ok (.getfield 21, 3) := by decide +kernel
theorem dX4_copyFrom_45 : decode cX4_copyFrom 45 = .ok (.aload_n 0, 1) := by decide +kernel
theorem dX4_copyFrom_46 : decode cX4_copyFrom 46 = .ok (.getfield 21, 3) := by decide +kernel
theorem dX4_copyFrom_49 : decode cX4_copyFrom 49 = .ok (.invokestatic 34, 3) := by decide +kernel
theorem dX4_copyFrom_52 : decode cX4_copyFrom 52 = .ok (.return_, 1) := by decide +kernel
theorem dX5_init_0 : decode cX5_init 0 = .ok (.aload_n 0, 1) := by decide +kernel
theorem dX5_init_1 : decode cX5_init 1 = .ok (.invokespecial 3, 3) := by decide +kernel
theorem dX5_init_4 : decode cX5_init 4 = .ok (.aload_n 0, 1) := by decide +kernel
theorem dX5_init_5 : decode cX5_init 5 = .ok (.bipush 12, 2) := by decide +kernel
theorem dX5_init_7 : decode cX5_init 7 = .ok (.newarray .int, 2) := by decide +kernel
theorem dX5_init_9 : decode cX5_init 9 = .ok (.putfield 9, 3) := by decide +kernel
theorem dX5_init_12 : decode cX5_init 12 = .ok (.return_, 1) := by decide +kernel
set_option maxRecDepth 20000 in
theorem ggX5_lookAhead_X9_copyRow : GoodIn wsX5_lookAhead wsX9_copyRow := goodIn_r _ [12, 13, 14, 15, 16, 17, 18, 19, 20] (by decide +kernel) (by decide +kernel)
set_option maxRecDepth 20000 in
theorem gX5_lookAhead_X9_copyRow_n28 : GoodIn wsX5_lookAhead (wsX9_copyRow) := ggX5_lookAhead_X9_copyRow
set_option maxRecDepth 20000 in
theorem ggX5_lookAhead_X8_readyOnes : GoodIn wsX5_lookAhead wsX8_readyOnes := goodIn_r _ [25, 26, 27, 28, 24, 29, 30, 31, 32, 33, 34, 35, 36, 89, 90, 91, 92] (by decide +kernel) (by decide +kernel)
set_option maxRecDepth 20000 in
theorem gX5_lookAhead_X8_readyOnes : GoodIn wsX5_lookAhead (wsV RX5 36 RX8 yX8_readyOnes wsX8_readyOnes) := goodIn_app (goodIn_of _ (by decide +kernel)) ggX5_lookAhead_X8_readyOnes
set_option maxRecDepth 20000 in
theorem ggX5_lookAhead_X8_nextAmong : GoodIn wsX5_lookAhead wsX8_nextAmong := goodIn_r _ [40, 41, 42, 43, 24, 44, 26, 27, 28, 29, 30, 31, 32, 33, 34, 35, 36, 45, 46, 47, 48, 49, 11, 50, 51, 52, 53, 54, 55, 56, 15, 57, 89, 90, 91, 92] (by decide +kernel) (by decide +kernel)
set_option maxRecDepth 20000 in
theorem gX5_lookAhead_X8_nextAmong : GoodIn wsX5_lookAhead (wsV RX5 52 RX8 yX8_nextAmong wsX8_nextAmong) := goodIn_app (goodIn_of _ (by decide +kernel)) ggX5_lookAhead_X8_nextAmong
set_option maxRecDepth 20000 in
theorem ggX5_lookAhead_X0_lengthOfWish : GoodIn wsX5_lookAhead wsX0_lengthOfWish := goodIn_r _ [62, 63, 64, 65, 66, 73, 74, 75, 76, 77, 78, 93, 94, 95, 96, 97, 89, 90, 91, 92] (by decide +kernel) (by decide +kernel)
set_option maxRecDepth 20000 in
theorem gX5_lookAhead_X0_lengthOfWish : GoodIn wsX5_lookAhead (wsV RX5 56 RX0 yX0_lengthOfWish wsX0_lengthOfWish) := goodIn_app (goodIn_of _ (by decide +kernel)) ggX5_lookAhead_X0_lengthOfWish
set_option maxRecDepth 20000 in
theorem ggX5_lookAhead_X8_singersOf : GoodIn wsX5_lookAhead wsX8_singersOf := goodIn_r _ [34, 35, 36, 89, 90, 91, 92] (by decide +kernel) (by decide +kernel)
set_option maxRecDepth 20000 in
theorem gX5_lookAhead_X8_singersOf : GoodIn wsX5_lookAhead (wsV RX5 59 RX8 yX8_singersOf wsX8_singersOf) := goodIn_app (goodIn_of _ (by decide +kernel)) ggX5_lookAhead_X8_singersOf
set_option maxRecDepth 20000 in
theorem ggX5_lookAhead_X5_addTurn : GoodIn wsX5_lookAhead wsX5_addTurn := goodIn_r _ [72, 4, 49, 11, 50, 86, 87, 88] (by decide +kernel) (by decide +kernel)
set_option maxRecDepth 20000 in
theorem gX5_lookAhead_X5_addTurn : GoodIn wsX5_lookAhead (wsV RX5 62 RX5 yX5_addTurn wsX5_addTurn) := goodIn_app (goodIn_of _ (by decide +kernel)) ggX5_lookAhead_X5_addTurn
theorem dX5_lookAhead_0 : decode cX5_lookAhead 0 = .ok (.aload_n 1, 1) := by decide +kernel
theorem dX5_lookAhead_1 : decode cX5_lookAhead 1 = .ok (.getfield 15, 3) := by decide +kernel
theorem dX5_lookAhead_4 : decode cX5_lookAhead 4 = .ok (.astore 4, 2) := by decide +kernel
theorem dX5_lookAhead_6 : decode cX5_lookAhead 6 = .ok (.aload_n 1, 1) := by decide +kernel
theorem dX5_lookAhead_7 : decode cX5_lookAhead 7 = .ok (.getfield 21, 3) := by decide +kernel
theorem dX5_lookAhead_10 : decode cX5_lookAhead 10 = .ok (.getfield 25, 3) := by decide +kernel
theorem dX5_lookAhead_13 : decode cX5_lookAhead 13 = .ok (.aload_n 0, 1) := by decide +kernel
theorem dX5_lookAhead_14 : decode cX5_lookAhead 14 = .ok (.getfield 9, 3) := by decide +kernel
theorem dX5_lookAhead_17 : decode cX5_lookAhead 17 = .ok (.invokestatic 28, 3) := by decide +kernel
theorem dX5_lookAhead_20 : decode cX5_lookAhead 20 = .ok (.aload 4, 2) := by decide +kernel
theorem dX5_lookAhead_22 : decode cX5_lookAhead 22 = .ok (.aload_n 1, 1) := by decide +kernel
theorem dX5_lookAhead_23 : decode cX5_lookAhead 23 = .ok (.getfield 21, 3) := by decide +kernel
theorem dX5_lookAhead_26 : decode cX5_lookAhead 26 = .ok (.getfield 32, 3) := by decide +kernel
theorem dX5_lookAhead_29 : decode cX5_lookAhead 29 = .ok (.invokevirtual 36, 3) := by decide +kernel
theorem dX5_lookAhead_32 : decode cX5_lookAhead 32 = .ok (.istore 5, 2) := by decide +kernel
theorem dX5_lookAhead_34 : decode cX5_lookAhead 34 = .ok (.iload_n 3, 1) := by decide +kernel
theorem dX5_lookAhead_35 : decode cX5_lookAhead 35 = .ok (.bipush (-6), 2) := by decide +kernel
theorem dX5_lookAhead_37 : decode cX5_lookAhead 37 = .ok (.if_icmp .eq 13, 3) := by decide +kernel
theorem dX5_lookAhead_40 : decode cX5_lookAhead 40 = .ok (.iload 5, 2) := by decide +kernel
theorem dX5_lookAhead_42 : decode cX5_lookAhead 42 = .ok (.iconst 1, 1) := by decide +kernel
theorem dX5_lookAhead_43 : decode cX5_lookAhead 43 = .ok (.iload_n 3, 1) := by decide +kernel
theorem dX5_lookAhead_44 : decode cX5_lookAhead 44 = .ok (.ishl, 1) := by decide +kernel
theorem dX5_lookAhead_45 : decode cX5_lookAhead 45 = .ok (.iconst (-1), 1) := by decide +kernel
theorem dX5_lookAhead_46 : decode cX5_lookAhead 46 = .ok (.ixor, 1) := by decide +kernel
theorem dX5_lookAhead_47 : decode cX5_lookAhead 47 = .ok (.iand, 1) := by decide +kernel
theorem dX5_lookAhead_48 : decode cX5_lookAhead 48 = .ok (.istore 5, 2) := by decide +kernel
theorem dX5_lookAhead_50 : decode cX5_lookAhead 50 = .ok (.aload_n 1, 1) := by decide +kernel
theorem dX5_lookAhead_51 : decode cX5_lookAhead 51 = .ok (.getfield 21, 3) := by decide +kernel
theorem dX5_lookAhead_54 : decode cX5_lookAhead 54 = .ok (.getfield 42, 3) := by decide +kernel
theorem dX5_lookAhead_57 : decode cX5_lookAhead 57 = .ok (.istore 6, 2) := by decide +kernel
theorem dX5_lookAhead_59 : decode cX5_lookAhead 59 = .ok (.aload_n 0, 1) := by decide +kernel
theorem dX5_lookAhead_60 : decode cX5_lookAhead 60 = .ok (.aload_n 1, 1) := by decide +kernel
theorem dX5_lookAhead_61 : decode cX5_lookAhead 61 = .ok (.getfield 45, 3) := by decide +kernel
theorem dX5_lookAhead_64 : decode cX5_lookAhead 64 = .ok (.putfield 48, 3) := by decide +kernel
theorem dX5_lookAhead_67 : decode cX5_lookAhead 67 = .ok (.aload_n 0, 1) := by decide +kernel
theorem dX5_lookAhead_68 : decode cX5_lookAhead 68 = .ok (.iconst 0, 1) := by decide +kernel
theorem dX5_lookAhead_69 : decode cX5_lookAhead 69 = .ok (.putfield 49, 3) := by decide +kernel
theorem dX5_lookAhead_72 : decode cX5_lookAhead 72 = .ok (.aload_n 0, 1) := by decide +kernel
theorem dX5_lookAhead_73 : decode cX5_lookAhead 73 = .ok (.getfield 49, 3) := by decide +kernel
theorem dX5_lookAhead_76 : decode cX5_lookAhead 76 = .ok (.bipush 20, 2) := by decide +kernel
theorem dX5_lookAhead_78 : decode cX5_lookAhead 78 = .ok (.if_icmp .ge 86, 3) := by decide +kernel
theorem dX5_lookAhead_81 : decode cX5_lookAhead 81 = .ok (.aload 4, 2) := by decide +kernel
theorem dX5_lookAhead_83 : decode cX5_lookAhead 83 = .ok (.iload 5, 2) := by decide +kernel
theorem dX5_lookAhead_85 : decode cX5_lookAhead 85 = .ok (.iload 6, 2) := by decide +kernel
theorem dX5_lookAhead_87 : decode cX5_lookAhead 87 = .ok (.aload_n 0, 1) := by decide +kernel
theorem dX5_lookAhead_88 : decode cX5_lookAhead 88 = .ok (.getfield 9, 3) := by decide +kernel
theorem dX5_lookAhead_91 : decode cX5_lookAhead 91 = .ok (.invokevirtual 52, 3) := by decide +kernel
theorem dX5_lookAhead_94 : decode cX5_lookAhead 94 = .ok (.istore 7, 2) := by decide +kernel
theorem dX5_lookAhead_96 : decode cX5_lookAhead 96 = .ok (.iload 7, 2) := by decide +kernel
theorem dX5_lookAhead_98 : decode cX5_lookAhead 98 = .ok (.iload_n 2, 1) := by decide +kernel
theorem dX5_lookAhead_99 : decode cX5_lookAhead 99 = .ok (.if_icmp .eq 10, 3) := by decide +kernel
theorem dX5_lookAhead_102 : decode cX5_lookAhead 102 = .ok (.iload 7, 2) := by decide +kernel
theorem dX5_lookAhead_104 : decode cX5_lookAhead 104 = .ok (.bipush (-6), 2) := by decide +kernel
theorem dX5_lookAhead_106 : decode cX5_lookAhead 106 = .ok (.if_icmp .ne 4, 3) := by decide +kernel
theorem dX5_lookAhead_109 : decode cX5_lookAhead 109 = .ok (.return_, 1) := by decide +kernel
theorem dX5_lookAhead_110 : decode cX5_lookAhead 110 = .ok (.iload 5, 2) := by decide +kernel
theorem dX5_lookAhead_112 : decode cX5_lookAhead 112 = .ok (.iconst 1, 1) := by decide +kernel
theorem dX5_lookAhead_113 : decode cX5_lookAhead 113 = .ok (.iload 7, 2) := by decide +kernel
theorem dX5_lookAhead_115 : decode cX5_lookAhead 115 = .ok (.ishl, 1) := by decide +kernel
theorem dX5_lookAhead_116 : decode cX5_lookAhead 116 = .ok (.iconst (-1), 1) := by decide +kernel
theorem dX5_lookAhead_117 : decode cX5_lookAhead 117 = .ok (.ixor, 1) := by decide +kernel
theorem dX5_lookAhead_118 : decode cX5_lookAhead 118 = .ok (.iand, 1) := by decide +kernel
theorem dX5_lookAhead_119 : decode cX5_lookAhead 119 = .ok (.istore 5, 2) := by decide +kernel
theorem dX5_lookAhead_121 : decode cX5_lookAhead 121 = .ok (.aload_n 0, 1) := by decide +kernel
theorem dX5_lookAhead_122 : decode cX5_lookAhead 122 = .ok (.dup, 1) := by decide +kernel
theorem dX5_lookAhead_123 : decode cX5_lookAhead 123 = .ok (.getfield 48, 3) := by decide +kernel
theorem dX5_lookAhead_126 : decode cX5_lookAhead 126 = .ok (.aload_n 1, 1) := by decide +kernel
theorem dX5_lookAhead_127 : decode cX5_lookAhead 127 = .ok (.iload 7, 2) := by decide +kernel
theorem dX5_lookAhead_129 : decode cX5_lookAhead 129 = .ok (.invokevirtual 56, 3) := by decide +kernel
theorem dX5_lookAhead_132 : decode cX5_lookAhead 132 = .ok (.iadd, 1) := by decide +kernel
theorem dX5_lookAhead_133 : decode cX5_lookAhead 133 = .ok (.putfield 48, 3) := by decide +kernel
theorem dX5_lookAhead_136 : decode cX5_lookAhead 136 = .ok (.aload 4, 2) := by decide +kernel
theorem dX5_lookAhead_138 : decode cX5_lookAhead 138 = .ok (.iload 7, 2) := by decide +kernel
theorem dX5_lookAhead_140 : decode cX5_lookAhead 140 = .ok (.invokevirtual 59, 3) := by decide +kernel
theorem dX5_lookAhead_143 : decode cX5_lookAhead 143 = .ok (.istore 6, 2) := by decide +kernel
theorem dX5_lookAhead_145 : decode cX5_lookAhead 145 = .ok (.aload_n 0, 1) := by decide +kernel
theorem dX5_lookAhead_146 : decode cX5_lookAhead 146 = .ok (.iload 6, 2) := by decide +kernel
theorem dX5_lookAhead_148 : decode cX5_lookAhead 148 = .ok (.invokevirtual 62, 3) := by decide +kernel
theorem dX5_lookAhead_151 : decode cX5_lookAhead 151 = .ok (.aload_n 0, 1) := by decide +kernel
theorem dX5_lookAhead_152 : decode cX5_lookAhead 152 = .ok (.dup, 1) := by decide +kernel
theorem dX5_lookAhead_153 : decode cX5_lookAhead 153 = .ok (.getfield 49, 3) := by decide +kernel
theorem dX5_lookAhead_156 : decode cX5_lookAhead 156 = .ok (.iconst 1, 1) := by decide +kernel
theorem dX5_lookAhead_157 : decode cX5_lookAhead 157 = .ok (.iadd, 1) := by decide +kernel
theorem dX5_lookAhead_158 : decode cX5_lookAhead 158 = .ok (.putfield 49, 3) := by decide +kernel
theorem dX5_lookAhead_161 : decode cX5_lookAhead 161 = .ok (.goto (-89), 3) := by decide +kernel
theorem dX5_lookAhead_164 : decode cX5_lookAhead 164 = .ok (.return_, 1) := by decide +kernel
set_option maxRecDepth 20000 in
theorem ggX5_addTurn_X9_isIn : GoodIn wsX5_addTurn wsX9_isIn := goodIn_r _ [4] (by decide +kernel) (by decide +kernel)
set_option maxRecDepth 20000 in
theorem gX5_addTurn_X9_isIn_n66 : GoodIn wsX5_addTurn (wsX9_isIn) := ggX5_addTurn_X9_isIn
theorem dX5_addTurn_0 : decode cX5_addTurn 0 = .ok (.iconst 0, 1) := by decide +kernel
theorem dX5_addTurn_1 : decode cX5_addTurn 1 = .ok (.istore_n 2, 1) := by decide +kernel
theorem dX5_addTurn_2 : decode cX5_addTurn 2 = .ok (.iload_n 2, 1) := by decide +kernel
theorem dX5_addTurn_3 : decode cX5_addTurn 3 = .ok (.bipush 12, 2) := by decide +kernel
theorem dX5_addTurn_5 : decode cX5_addTurn 5 = .ok (.if_icmp .ge 27, 3) := by decide +kernel
theorem dX5_addTurn_8 : decode cX5_addTurn 8 = .ok (.iload_n 1, 1) := by decide +kernel
theorem dX5_addTurn_9 : decode cX5_addTurn 9 = .ok (.iload_n 2, 1) := by decide +kernel
theorem dX5_addTurn_10 : decode cX5_addTurn 10 = .ok (.invokestatic 66, 3) := by decide +kernel
theorem dX5_addTurn_13 : decode cX5_addTurn 13 = .ok (.ifCond .eq 13, 3) := by decide +kernel
theorem dX5_addTurn_16 : decode cX5_addTurn 16 = .ok (.aload_n 0, 1) := by decide +kernel
theorem dX5_addTurn_17 : decode cX5_addTurn 17 = .ok (.getfield 9, 3) := by decide +kernel
theorem dX5_addTurn_20 : decode cX5_addTurn 20 = .ok (.iload_n 2, 1) := by decide +kernel
theorem dX5_addTurn_21 : decode cX5_addTurn 21 = .ok (.dup2, 1) := by decide +kernel
theorem dX5_addTurn_22 : decode cX5_addTurn 22 = .ok (.iaload, 1) := by decide +kernel
theorem dX5_addTurn_23 : decode cX5_addTurn 23 = .ok (.iconst 1, 1) := by decide +kernel
theorem dX5_addTurn_24 : decode cX5_addTurn 24 = .ok (.iadd, 1) := by decide +kernel
theorem dX5_addTurn_25 : decode cX5_addTurn 25 = .ok (.iastore, 1) := by decide +kernel
theorem dX5_addTurn_26 : decode cX5_addTurn 26 = .ok (.iinc 2 1, 3) := by decide +kernel
theorem dX5_addTurn_29 : decode cX5_addTurn 29 = .ok (.goto (-27), 3) := by decide +kernel
theorem dX5_addTurn_32 : decode cX5_addTurn 32 = .ok (.return_, 1) := by decide +kernel
theorem dX6_init_0 : decode cX6_init 0 = .ok (.aload_n 0, 1) := by decide +kernel
theorem dX6_init_1 : decode cX6_init 1 = .ok (.invokespecial 3, 3) := by decide +kernel
theorem dX6_init_4 : decode cX6_init 4 = .ok (.aload_n 0, 1) := by decide +kernel
theorem dX6_init_5 : decode cX6_init 5 = .ok (.bipush 12, 2) := by decide +kernel
theorem dX6_init_7 : decode cX6_init 7 = .ok (.newarray .int, 2) := by decide +kernel
theorem dX6_init_9 : decode cX6_init 9 = .ok (.putfield 9, 3) := by decide +kernel
theorem dX6_init_12 : decode cX6_init 12 = .ok (.aload_n 0, 1) := by decide +kernel
theorem dX6_init_13 : decode cX6_init 13 = .ok (.bipush 12, 2) := by decide +kernel
theorem dX6_init_15 : decode cX6_init 15 = .ok (.newarray .int, 2) := by decide +kernel
theorem dX6_init_17 : decode cX6_init 17 = .ok (.putfield 15, 3) := by decide +kernel
theorem dX6_init_20 : decode cX6_init 20 = .ok (.aload_n 0, 1) := by decide +kernel
theorem dX6_init_21 : decode cX6_init 21 = .ok (.bipush 12, 2) := by decide +kernel
theorem dX6_init_23 : decode cX6_init 23 = .ok (.newarray .int, 2) := by decide +kernel
theorem dX6_init_25 : decode cX6_init 25 = .ok (.putfield 18, 3) := by decide +kernel
theorem dX6_init_28 : decode cX6_init 28 = .ok (.aload_n 0, 1) := by decide +kernel
theorem dX6_init_29 : decode cX6_init 29 = .ok (.bipush 12, 2) := by decide +kernel
theorem dX6_init_31 : decode cX6_init 31 = .ok (.newarray .int, 2) := by decide +kernel
theorem dX6_init_33 : decode cX6_init 33 = .ok (.putfield 21, 3) := by decide +kernel
theorem dX6_init_36 : decode cX6_init 36 = .ok (.return_, 1) := by decide +kernel
set_option maxRecDepth 20000 in
theorem ggX6_has_X9_isBetween : GoodIn wsX6_has wsX9_isBetween := goodIn_r _ [4] (by decide +kernel) (by decide +kernel)
set_option maxRecDepth 20000 in
theorem gX6_has_X9_isBetween_n28 : GoodIn wsX6_has (wsX9_isBetween) := ggX6_has_X9_isBetween
theorem dX6_has_0 : decode cX6_has 0 = .ok (.iload_n 1, 1) := by decide +kernel
theorem dX6_has_1 : decode cX6_has 1 = .ok (.iconst 0, 1) := by decide +kernel
theorem dX6_has_2 : decode cX6_has 2 = .ok (.aload_n 0, 1) := by decide +kernel
theorem dX6_has_3 : decode cX6_has 3 = .ok (.getfield 24, 3) := by decide +kernel
theorem dX6_has_6 : decode cX6_has 6 = .ok (.iconst 1, 1) := by decide +kernel
theorem dX6_has_7 : decode cX6_has 7 = .ok (.isub, 1) := by decide +kernel
theorem dX6_has_8 : decode cX6_has 8 = .ok (.invokestatic 28, 3) := by decide +kernel
theorem dX6_has_11 : decode cX6_has 11 = .ok (.ireturn, 1) := by decide +kernel
set_option maxRecDepth 20000 in
theorem ggX6_isThere_X9_isIn : GoodIn wsX6_isThere wsX9_isIn := goodIn_r _ [4] (by decide +kernel) (by decide +kernel)
set_option maxRecDepth 20000 in
theorem gX6_isThere_X9_isIn_n35 : GoodIn wsX6_isThere (wsX9_isIn) := ggX6_isThere_X9_isIn
theorem dX6_isThere_0 : decode cX6_isThere 0 = .ok (.aload_n 0, 1) := by decide +kernel
theorem dX6_isThere_1 : decode cX6_isThere 1 = .ok (.getfield 32, 3) := by decide +kernel
theorem dX6_isThere_4 : decode cX6_isThere 4 = .ok (.iload_n 1, 1) := by decide +kernel
theorem dX6_isThere_5 : decode cX6_isThere 5 = .ok (.invokestatic 35, 3) := by decide +kernel
theorem dX6_isThere_8 : decode cX6_isThere 8 = .ok (.ireturn, 1) := by decide +kernel
theorem dX6_setThere_0 : decode cX6_setThere 0 = .ok (.iconst 1, 1) := by decide +kernel
theorem dX6_setThere_1 : decode cX6_setThere 1 = .ok (.iload_n 1, 1) := by decide +kernel
theorem dX6_setThere_2 : decode cX6_setThere 2 = .ok (.ishl, 1) := by decide +kernel
theorem dX6_setThere_3 : decode cX6_setThere 3 = .ok (.istore_n 3, 1) := by decide +kernel
theorem dX6_setThere_4 : decode cX6_setThere 4 = .ok (.aload_n 0, 1) := by decide +kernel
theorem dX6_setThere_5 : decode cX6_setThere 5 = .ok (.iload_n 2, 1) := by decide +kernel
theorem dX6_setThere_6 : decode cX6_setThere 6 = .ok (.ifCond .eq 12, 3) := by decide +kernel
theorem dX6_setThere_9 : decode cX6_setThere 9 = .ok (.aload_n 0, 1) := by decide +kernel
theorem dX6_setThere_10 : decode cX6_setThere 10 = .ok (.getfield 32, 3) := by decide +kernel
theorem dX6_setThere_13 : decode cX6_setThere 13 = .ok (.iload_n 3, 1) := by decide +kernel
theorem dX6_setThere_14 : decode cX6_setThere 14 = .ok (.ior, 1) := by decide +kernel
theorem dX6_setThere_15 : decode cX6_setThere 15 = .ok (.goto 11, 3) := by decide +kernel
theorem dX6_setThere_18 : decode cX6_setThere 18 = .ok (.aload_n 0, 1) := by decide +kernel
theorem dX6_setThere_19 : decode cX6_setThere 19 = .ok (.getfield 32, 3) := by decide +kernel
theorem dX6_setThere_22 : decode cX6_setThere 22 = .ok (.iload_n 3, 1) := by decide +kernel
theorem dX6_setThere_23 : decode cX6_setThere 23 = .ok (.iconst (-1), 1) := by decide +kernel
theorem dX6_setThere_24 : decode cX6_setThere 24 = .ok (.ixor, 1) := by decide +kernel
theorem dX6_setThere_25 : decode cX6_setThere 25 = .ok (.iand, 1) := by decide +kernel
theorem dX6_setThere_26 : decode cX6_setThere 26 = .ok (.putfield 32, 3) := by decide +kernel
theorem dX6_setThere_29 : decode cX6_setThere 29 = .ok (.return_, 1) := by decide +kernel
set_option maxRecDepth 20000 in
theorem ggX6_add_X6_setThere : GoodIn wsX6_add wsX6_setThere := goodIn_r _ [8, 9, 10, 11, 12, 13, 14, 15, 16] (by decide +kernel) (by decide +kernel)
set_option maxRecDepth 20000 in
theorem gX6_add_X6_setThere : GoodIn wsX6_add (wsV RX6 39 RX6 yX6_setThere wsX6_setThere) := goodIn_app (goodIn_of _ (by decide +kernel)) ggX6_add_X6_setThere
theorem dX6_add_0 : decode cX6_add 0 = .ok (.aload_n 0, 1) := by decide +kernel
theorem dX6_add_1 : decode cX6_add 1 = .ok (.getfield 24, 3) := by decide +kernel
theorem dX6_add_4 : decode cX6_add 4 = .ok (.istore_n 3, 1) := by decide +kernel
theorem dX6_add_5 : decode cX6_add 5 = .ok (.aload_n 0, 1) := by decide +kernel
theorem dX6_add_6 : decode cX6_add 6 = .ok (.getfield 9, 3) := by decide +kernel
theorem dX6_add_9 : decode cX6_add 9 = .ok (.iload_n 3, 1) := by decide +kernel
theorem dX6_add_10 : decode cX6_add 10 = .ok (.iload_n 1, 1) := by decide +kernel
theorem dX6_add_11 : decode cX6_add 11 = .ok (.iastore, 1) := by decide +kernel
theorem dX6_add_12 : decode cX6_add 12 = .ok (.aload_n 0, 1) := by decide +kernel
theorem dX6_add_13 : decode cX6_add 13 = .ok (.getfield 15, 3) := by decide +kernel
theorem dX6_add_16 : decode cX6_add 16 = .ok (.iload_n 3, 1) := by decide +kernel
theorem dX6_add_17 : decode cX6_add 17 = .ok (.iload_n 2, 1) := by decide +kernel
theorem dX6_add_18 : decode cX6_add 18 = .ok (.iastore, 1) := by decide +kernel
theorem dX6_add_19 : decode cX6_add 19 = .ok (.aload_n 0, 1) := by decide +kernel
theorem dX6_add_20 : decode cX6_add 20 = .ok (.iload_n 3, 1) := by decide +kernel
theorem dX6_add_21 : decode cX6_add 21 = .ok (.iconst 1, 1) := by decide +kernel
theorem dX6_add_22 : decode cX6_add 22 = .ok (.invokevirtual 39, 3) := by decide +kernel
theorem dX6_add_25 : decode cX6_add 25 = .ok (.aload_n 0, 1) := by decide +kernel
theorem dX6_add_26 : decode cX6_add 26 = .ok (.dup, 1) := by decide +kernel
theorem dX6_add_27 : decode cX6_add 27 = .ok (.getfield 24, 3) := by decide +kernel
theorem dX6_add_30 : decode cX6_add 30 = .ok (.iconst 1, 1) := by decide +kernel
theorem dX6_add_31 : decode cX6_add 31 = .ok (.iadd, 1) := by decide +kernel
theorem dX6_add_32 : decode cX6_add 32 = .ok (.putfield 24, 3) := by decide +kernel
theorem dX6_add_35 : decode cX6_add 35 = .ok (.iload_n 3, 1) := by decide +kernel
theorem dX6_add_36 : decode cX6_add 36 = .ok (.ireturn, 1) := by decide +kernel
set_option maxRecDepth 20000 in
theorem ggX6_singTurn_X9_isIn : GoodIn wsX6_singTurn wsX9_isIn := goodIn_r _ [7] (by decide +kernel) (by decide +kernel)
set_option maxRecDepth 20000 in
theorem gX6_singTurn_X9_isIn_n35 : GoodIn wsX6_singTurn (wsX9_isIn) := ggX6_singTurn_X9_isIn
theorem dX6_singTurn_0 : decode cX6_singTurn 0 = .ok (.iconst 0, 1) := by decide +kernel
theorem dX6_singTurn_1 : decode cX6_singTurn 1 = .ok (.istore_n 3, 1) := by decide +kernel
theorem dX6_singTurn_2 : decode cX6_singTurn 2 = .ok (.iload_n 3, 1) := by decide +kernel
theorem dX6_singTurn_3 : decode cX6_singTurn 3 = .ok (.aload_n 0, 1) := by decide +kernel
theorem dX6_singTurn_4 : decode cX6_singTurn 4 = .ok (.getfield 24, 3) := by decide +kernel
theorem dX6_singTurn_7 : decode cX6_singTurn 7 = .ok (.if_icmp .ge 37, 3) := by decide +kernel
theorem dX6_singTurn_10 : decode cX6_singTurn 10 = .ok (.iload_n 1, 1) := by decide +kernel
theorem dX6_singTurn_11 : decode cX6_singTurn 11 = .ok (.iload_n 3, 1) := by decide +kernel
theorem dX6_singTurn_12 : decode cX6_singTurn 12 = .ok (.invokestatic 35, 3) := by decide +kernel
theorem dX6_singTurn_15 : decode cX6_singTurn 15 = .ok (.ifCond .eq 23, 3) := by decide +kernel
theorem dX6_singTurn_18 : decode cX6_singTurn 18 = .ok (.aload_n 0, 1) := by decide +kernel
theorem dX6_singTurn_19 : decode cX6_singTurn 19 = .ok (.getfield 18, 3) := by decide +kernel
theorem dX6_singTurn_22 : decode cX6_singTurn 22 = .ok (.iload_n 3, 1) := by decide +kernel
theorem dX6_singTurn_23 : decode cX6_singTurn 23 = .ok (.dup2, 1) := by decide +kernel
theorem dX6_singTurn_24 : decode cX6_singTurn 24 = .ok (.iaload, 1) := by decide +kernel
theorem dX6_singTurn_25 : decode cX6_singTurn 25 = .ok (.iconst 1, 1) := by decide +kernel
theorem dX6_singTurn_26 : decode cX6_singTurn 26 = .ok (.iadd, 1) := by decide +kernel
theorem dX6_singTurn_27 : decode cX6_singTurn 27 = .ok (.iastore, 1) := by decide +kernel
theorem dX6_singTurn_28 : decode cX6_singTurn 28 = .ok (.aload_n 0, 1) := by decide +kernel
theorem dX6_singTurn_29 : decode cX6_singTurn 29 = .ok (.getfield 21, 3) := by decide +kernel
theorem dX6_singTurn_32 : decode cX6_singTurn 32 = .ok (.iload_n 3, 1) := by decide +kernel
theorem dX6_singTurn_33 : decode cX6_singTurn 33 = .ok (.dup2, 1) := by decide +kernel
theorem dX6_singTurn_34 : decode cX6_singTurn 34 = .ok (.iaload, 1) := by decide +kernel
theorem dX6_singTurn_35 : decode cX6_singTurn 35 = .ok (.iload_n 2, 1) := by decide +kernel
theorem dX6_singTurn_36 : decode cX6_singTurn 36 = .ok (.iadd, 1) := by decide +kernel
theorem dX6_singTurn_37 : decode cX6_singTurn 37 = .ok (.iastore, 1) := by decide +kernel
theorem dX6_singTurn_38 : decode cX6_singTurn 38 = .ok (.iinc 3 1, 3) := by decide +kernel
theorem dX6_singTurn_41 : decode cX6_singTurn 41 = .ok (.goto (-39), 3) := by decide +kernel
theorem dX6_singTurn_44 : decode cX6_singTurn 44 = .ok (.aload_n 0, 1) := by decide +kernel
theorem dX6_singTurn_45 : decode cX6_singTurn 45 = .ok (.iload_n 1, 1) := by decide +kernel
theorem dX6_singTurn_46 : decode cX6_singTurn 46 = .ok (.putfield 43, 3) := by decide +kernel
theorem dX6_singTurn_49 : decode cX6_singTurn 49 = .ok (.return_, 1) := by decide +kernel
set_option maxRecDepth 20000 in
theorem ggX6_copyFrom_X9_copyRow : GoodIn wsX6_copyFrom wsX9_copyRow := goodIn_r _ [10, 11, 12, 13, 14, 15, 16, 17, 18] (by decide +kernel) (by decide +kernel)
set_option maxRecDepth 20000 in
theorem gX6_copyFrom_X9_copyRow_n46 : GoodIn wsX6_copyFrom (wsX9_copyRow) := ggX6_copyFrom_X9_copyRow
theorem dX6_copyFrom_0 : decode cX6_copyFrom 0 = .ok (.aload_n 0, 1) := by decide +kernel
theorem dX6_copyFrom_1 : decode cX6_copyFrom 1 = .ok (.aload_n 1, 1) := by decide +kernel
theorem dX6_copyFrom_2 : decode cX6_copyFrom 2 = .ok (.getfield 24, 3) := by decide +kernel
theorem dX6_copyFrom_5 : decode cX6_copyFrom 5 = .ok (.putfield 24, 3) := by decide +kernel
theorem dX6_copyFrom_8 : decode cX6_copyFrom 8 = .ok (.aload_n 0, 1) := by decide +kernel
theorem dX6_copyFrom_9 : decode cX6_copyFrom 9 = .ok (.aload_n 1, 1) := by decide +kernel
theorem dX6_copyFrom_10 : decode cX6_copyFrom 10 = .ok (.getfield 32, 3) := by decide +kernel
theorem dX6_copyFrom_13 : decode cX6_copyFrom 13 = .ok (.putfield 32, 3) := by decide +kernel
theorem dX6_copyFrom_16 : decode cX6_copyFrom 16 = .ok (.aload_n 0, 1) := by decide +kernel
theorem dX6_copyFrom_17 : decode cX6_copyFrom 17 = .ok (.aload_n 1, 1) := by decide +kernel
theorem dX6_copyFrom_18 : decode cX6_copyFrom 18 = .ok (.getfield 43, 3) := by decide +kernel
theorem dX6_copyFrom_21 : decode cX6_copyFrom 21 = .ok (.putfield 43, 3) := by decide +kernel
theorem dX6_copyFrom_24 : decode cX6_copyFrom 24 = .ok (.aload_n 1, 1) := by decide +kernel
theorem dX6_copyFrom_25 : decode cX6_copyFrom 25 = .ok (.getfield 9, 3) := by decide +kernel
theorem dX6_copyFrom_28 : decode cX6_copyFrom 28 = .ok (.aload_n 0, 1) := by decide +kernel
theorem dX6_copyFrom_29 : decode cX6_copyFrom 29 = .ok (.getfield 9, 3) := by decide +kernel
theorem dX6_copyFrom_32 : decode cX6_copyFrom 32 = .ok (.invokestatic 46, 3) := by decide +kernel
theorem dX6_copyFrom_35 : decode cX6_copyFrom 35 = .ok (.aload_n 1, 1) := by decide +kernel
theorem dX6_copyFrom_36 : decode cX6_copyFrom 36 = .ok (.getfield 15, 3) := by decide +kernel
theorem dX6_copyFrom_39 : decode cX6_copyFrom 39 = .ok (.aload_n 0, 1) := by decide +kernel
theorem dX6_copyFrom_40 : decode cX6_copyFrom 40 = .ok (.getfield 15, 3) := by decide +kernel
theorem dX6_copyFrom_43 : decode cX6_copyFrom 43 = .ok (.invokestatic 46, 3) := by decide +kernel
theorem dX6_copyFrom_46 : decode cX6_copyFrom 46 = .ok (.aload_n 1, 1) := by decide +kernel
theorem dX6_copyFrom_47 : decode cX6_copyFrom 47 = .ok (.getfield 18, 3) := by decide +kernel
theorem dX6_copyFrom_50 : decode cX6_copyFrom 50 = .ok (.aload_n 0, 1) := by decide +kernel
theorem dX6_copyFrom_51 : decode cX6_copyFrom 51 = .ok (.getfield 18, 3) := by decide +kernel
theorem dX6_copyFrom_54 : decode cX6_copyFrom 54 = .ok (.invokestatic 46, 3) := by decide +kernel
theorem dX6_copyFrom_57 : decode cX6_copyFrom 57 = .ok (.aload_n 1, 1) := by decide +kernel
theorem dX6_copyFrom_58 : decode cX6_copyFrom 58 = .ok (.getfield 21, 3) := by decide +kernel
theorem dX6_copyFrom_61 : decode cX6_copyFrom 61 = .ok (.aload_n 0, 1) := by decide +kernel
theorem dX6_copyFrom_62 : decode cX6_copyFrom 62 = .ok (.getfield 21, 3) := by decide +kernel
theorem dX6_copyFrom_65 : decode cX6_copyFrom 65 = .ok (.invokestatic 46, 3) := by decide +kernel
theorem dX6_copyFrom_68 : decode cX6_copyFrom 68 = .ok (.return_, 1) := by decide +kernel
theorem dX7_init_0 : decode cX7_init 0 = .ok (.aload_n 0, 1) := by decide +kernel
theorem dX7_init_1 : decode cX7_init 1 = .ok (.invokespecial 3, 3) := by decide +kernel
theorem dX7_init_4 : decode cX7_init 4 = .ok (.aload_n 0, 1) := by decide +kernel
theorem dX7_init_5 : decode cX7_init 5 = .ok (.bipush 16, 2) := by decide +kernel
theorem dX7_init_7 : decode cX7_init 7 = .ok (.newarray .int, 2) := by decide +kernel
theorem dX7_init_9 : decode cX7_init 9 = .ok (.putfield 9, 3) := by decide +kernel
theorem dX7_init_12 : decode cX7_init 12 = .ok (.aload_n 0, 1) := by decide +kernel
theorem dX7_init_13 : decode cX7_init 13 = .ok (.bipush 16, 2) := by decide +kernel
theorem dX7_init_15 : decode cX7_init 15 = .ok (.newarray .int, 2) := by decide +kernel
theorem dX7_init_17 : decode cX7_init 17 = .ok (.putfield 15, 3) := by decide +kernel
theorem dX7_init_20 : decode cX7_init 20 = .ok (.aload_n 0, 1) := by decide +kernel
theorem dX7_init_21 : decode cX7_init 21 = .ok (.bipush 16, 2) := by decide +kernel
theorem dX7_init_23 : decode cX7_init 23 = .ok (.newarray .int, 2) := by decide +kernel
theorem dX7_init_25 : decode cX7_init 25 = .ok (.putfield 18, 3) := by decide +kernel
theorem dX7_init_28 : decode cX7_init 28 = .ok (.aload_n 0, 1) := by decide +kernel
theorem dX7_init_29 : decode cX7_init 29 = .ok (.bipush 16, 2) := by decide +kernel
theorem dX7_init_31 : decode cX7_init 31 = .ok (.newarray .int, 2) := by decide +kernel
theorem dX7_init_33 : decode cX7_init 33 = .ok (.putfield 21, 3) := by decide +kernel
theorem dX7_init_36 : decode cX7_init 36 = .ok (.return_, 1) := by decide +kernel
set_option maxRecDepth 20000 in
theorem ggX7_has_X9_isBetween : GoodIn wsX7_has wsX9_isBetween := goodIn_r _ [4] (by decide +kernel) (by decide +kernel)
set_option maxRecDepth 20000 in
theorem gX7_has_X9_isBetween_n28 : GoodIn wsX7_has (wsX9_isBetween) := ggX7_has_X9_isBetween
theorem dX7_has_0 : decode cX7_has 0 = .ok (.iload_n 1, 1) := by decide +kernel
theorem dX7_has_1 : decode cX7_has 1 = .ok (.iconst 0, 1) := by decide +kernel
theorem dX7_has_2 : decode cX7_has 2 = .ok (.aload_n 0, 1) := by decide +kernel
theorem dX7_has_3 : decode cX7_has 3 = .ok (.getfield 24, 3) := by decide +kernel
theorem dX7_has_6 : decode cX7_has 6 = .ok (.iconst 1, 1) := by decide +kernel
theorem dX7_has_7 : decode cX7_has 7 = .ok (.isub, 1) := by decide +kernel
theorem dX7_has_8 : decode cX7_has 8 = .ok (.invokestatic 28, 3) := by decide +kernel
theorem dX7_has_11 : decode cX7_has 11 = .ok (.ireturn, 1) := by decide +kernel
theorem dX7_add_0 : decode cX7_add 0 = .ok (.aload_n 0, 1) := by decide +kernel
theorem dX7_add_1 : decode cX7_add 1 = .ok (.getfield 24, 3) := by decide +kernel
theorem dX7_add_4 : decode cX7_add 4 = .ok (.istore 4, 2) := by decide +kernel
theorem dX7_add_6 : decode cX7_add 6 = .ok (.aload_n 0, 1) := by decide +kernel
theorem dX7_add_7 : decode cX7_add 7 = .ok (.getfield 9, 3) := by decide +kernel
theorem dX7_add_10 : decode cX7_add 10 = .ok (.iload 4, 2) := by decide +kernel
theorem dX7_add_12 : decode cX7_add 12 = .ok (.iload_n 1, 1) := by decide +kernel
theorem dX7_add_13 : decode cX7_add 13 = .ok (.iastore, 1) := by decide +kernel
theorem dX7_add_14 : decode cX7_add 14 = .ok (.aload_n 0, 1) := by decide +kernel
theorem dX7_add_15 : decode cX7_add 15 = .ok (.getfield 15, 3) := by decide +kernel
theorem dX7_add_18 : decode cX7_add 18 = .ok (.iload 4, 2) := by decide +kernel
theorem dX7_add_20 : decode cX7_add 20 = .ok (.iload_n 2, 1) := by decide +kernel
theorem dX7_add_21 : decode cX7_add 21 = .ok (.iastore, 1) := by decide +kernel
theorem dX7_add_22 : decode cX7_add 22 = .ok (.aload_n 0, 1) := by decide +kernel
theorem dX7_add_23 : decode cX7_add 23 = .ok (.getfield 18, 3) := by decide +kernel
theorem dX7_add_26 : decode cX7_add 26 = .ok (.iload 4, 2) := by decide +kernel
theorem dX7_add_28 : decode cX7_add 28 = .ok (.iload_n 3, 1) := by decide +kernel
theorem dX7_add_29 : decode cX7_add 29 = .ok (.iastore, 1) := by decide +kernel
theorem dX7_add_30 : decode cX7_add 30 = .ok (.aload_n 0, 1) := by decide +kernel
theorem dX7_add_31 : decode cX7_add 31 = .ok (.dup, 1) := by decide +kernel
theorem dX7_add_32 : decode cX7_add 32 = .ok (.getfield 24, 3) := by decide +kernel
theorem dX7_add_35 : decode cX7_add 35 = .ok (.iconst 1, 1) := by decide +kernel
theorem dX7_add_36 : decode cX7_add 36 = .ok (.iadd, 1) := by decide +kernel
theorem dX7_add_37 : decode cX7_add 37 = .ok (.putfield 24, 3) := by decide +kernel
theorem dX7_add_40 : decode cX7_add 40 = .ok (.iload 4, 2) := by decide +kernel
theorem dX7_add_42 : decode cX7_add 42 = .ok (.ireturn, 1) := by decide +kernel
set_option maxRecDepth 20000 in
theorem ggX7_keyAndTenBetween_X7_fits : GoodIn wsX7_keyAndTenBetween wsX7_fits := goodIn_r _ [5, 6, 7, 8, 9, 10, 11, 12] (by decide +kernel) (by decide +kernel)
set_option maxRecDepth 20000 in
theorem gX7_keyAndTenBetween_X7_fits : GoodIn wsX7_keyAndTenBetween (wsV RX7 32 RX7 yX7_fits wsX7_fits) := goodIn_app (goodIn_of _ (by decide +kernel)) ggX7_keyAndTenBetween_X7_fits
theorem dX7_keyAndTenBetween_0 : decode cX7_keyAndTenBetween 0 = .ok (.iconst 0, 1) := by decide +kernel
theorem dX7_keyAndTenBetween_1 : decode cX7_keyAndTenBetween 1 = .ok (.istore 4, 2) := by decide +kernel
theorem dX7_keyAndTenBetween_3 : decode cX7_keyAndTenBetween 3 = .ok (.iload 4, 2) := by decide +kernel
theorem dX7_keyAndTenBetween_5 : decode cX7_keyAndTenBetween 5 = .ok (.bipush 6, 2) := by decide +kernel
theorem dX7_keyAndTenBetween_7 : decode cX7_keyAndTenBetween 7 = .ok (.if_icmp .gt 46, 3) := by decide +kernel
theorem dX7_keyAndTenBetween_10 : decode cX7_keyAndTenBetween 10 = .ok (.aload_n 0, 1) := by decide +kernel
theorem dX7_keyAndTenBetween_11 : decode cX7_keyAndTenBetween 11 = .ok (.iload_n 1, 1) := by decide +kernel
theorem dX7_keyAndTenBetween_12 : decode cX7_keyAndTenBetween 12 = .ok (.iload_n 2, 1) := by decide +kernel
theorem dX7_keyAndTenBetween_13 : decode cX7_keyAndTenBetween 13 = .ok (.iload_n 3, 1) := by decide +kernel
theorem dX7_keyAndTenBetween_14 : decode cX7_keyAndTenBetween 14 = .ok (.iload 4, 2) := by decide +kernel
theorem dX7_keyAndTenBetween_16 : decode cX7_keyAndTenBetween 16 = .ok (.invokevirtual 32, 3) := by decide +kernel
theorem dX7_keyAndTenBetween_19 : decode cX7_keyAndTenBetween 19 = .ok (.ifCond .eq 9, 3) := by decide +kernel
theorem dX7_keyAndTenBetween_22 : decode cX7_keyAndTenBetween 22 = .ok (.bipush 10, 2) := by decide +kernel
theorem dX7_keyAndTenBetween_24 : decode cX7_keyAndTenBetween 24 = .ok (.iload 4, 2) := by decide +kernel
theorem dX7_keyAndTenBetween_26 : decode cX7_keyAndTenBetween 26 = .ok (.iadd, 1) := by decide +kernel
theorem dX7_keyAndTenBetween_27 : decode cX7_keyAndTenBetween 27 = .ok (.ireturn, 1) := by decide +kernel
theorem dX7_keyAndTenBetween_28 : decode cX7_keyAndTenBetween 28 = .ok (.aload_n 0, 1) := by decide +kernel
theorem dX7_keyAndTenBetween_29 : decode cX7_keyAndTenBetween 29 = .ok (.iload_n 1, 1) := by decide +kernel
theorem dX7_keyAndTenBetween_30 : decode cX7_keyAndTenBetween 30 = .ok (.iload_n 2, 1) := by decide +kernel
theorem dX7_keyAndTenBetween_31 : decode cX7_keyAndTenBetween 31 = .ok (.iload_n 3, 1) := by decide +kernel
theorem dX7_keyAndTenBetween_32 : decode cX7_keyAndTenBetween 32 = .ok (.iload 4, 2) := by decide +kernel
theorem dX7_keyAndTenBetween_34 : decode cX7_keyAndTenBetween 34 = .ok (.ineg, 1) := by decide +kernel
theorem dX7_keyAndTenBetween_35 : decode cX7_keyAndTenBetween 35 = .ok (.invokevirtual 32, 3) := by decide +kernel
theorem dX7_keyAndTenBetween_38 : decode cX7_keyAndTenBetween 38 = .ok (.ifCond .eq 9, 3) := by decide +kernel
theorem dX7_keyAndTenBetween_41 : decode cX7_keyAndTenBetween 41 = .ok (.bipush 10, 2) := by decide +kernel
theorem dX7_keyAndTenBetween_43 : decode cX7_keyAndTenBetween 43 = .ok (.iload 4, 2) := by decide +kernel
theorem dX7_keyAndTenBetween_45 : decode cX7_keyAndTenBetween 45 = .ok (.isub, 1) := by decide +kernel
theorem dX7_keyAndTenBetween_46 : decode cX7_keyAndTenBetween 46 = .ok (.ireturn, 1) := by decide +kernel
theorem dX7_keyAndTenBetween_47 : decode cX7_keyAndTenBetween 47 = .ok (.iinc 4 1, 3) := by decide +kernel
theorem dX7_keyAndTenBetween_50 : decode cX7_keyAndTenBetween 50 = .ok (.goto (-47), 3) := by decide +kernel
theorem dX7_keyAndTenBetween_53 : decode cX7_keyAndTenBetween 53 = .ok (.bipush (-6), 2) := by decide +kernel
theorem dX7_keyAndTenBetween_55 : decode cX7_keyAndTenBetween 55 = .ok (.ireturn, 1) := by decide +kernel
theorem dX7_fits_0 : decode cX7_fits 0 = .ok (.aload_n 0, 1) := by decide +kernel
theorem dX7_fits_1 : decode cX7_fits 1 = .ok (.getfield 9, 3) := by decide +kernel
theorem dX7_fits_4 : decode cX7_fits 4 = .ok (.iload_n 3, 1) := by decide +kernel
theorem dX7_fits_5 : decode cX7_fits 5 = .ok (.iaload, 1) := by decide +kernel
theorem dX7_fits_6 : decode cX7_fits 6 = .ok (.iload 4, 2) := by decide +kernel
theorem dX7_fits_8 : decode cX7_fits 8 = .ok (.iadd, 1) := by decide +kernel
theorem dX7_fits_9 : decode cX7_fits 9 = .ok (.iload_n 1, 1) := by decide +kernel
theorem dX7_fits_10 : decode cX7_fits 10 = .ok (.if_icmp .lt 20, 3) := by decide +kernel
theorem dX7_fits_13 : decode cX7_fits 13 = .ok (.aload_n 0, 1) := by decide +kernel
theorem dX7_fits_14 : decode cX7_fits 14 = .ok (.getfield 15, 3) := by decide +kernel
theorem dX7_fits_17 : decode cX7_fits 17 = .ok (.iload_n 3, 1) := by decide +kernel
theorem dX7_fits_18 : decode cX7_fits 18 = .ok (.iaload, 1) := by decide +kernel
theorem dX7_fits_19 : decode cX7_fits 19 = .ok (.iload 4, 2) := by decide +kernel
theorem dX7_fits_21 : decode cX7_fits 21 = .ok (.iadd, 1) := by decide +kernel
theorem dX7_fits_22 : decode cX7_fits 22 = .ok (.iload_n 2, 1) := by decide +kernel
theorem dX7_fits_23 : decode cX7_fits 23 = .ok (.if_icmp .gt 7, 3) := by decide +kernel
theorem dX7_fits_26 : decode cX7_fits 26 = .ok (.iconst 1, 1) := by decide +kernel
theorem dX7_fits_27 : decode cX7_fits 27 = .ok (.goto 4, 3) := by decide +kernel
theorem dX7_fits_30 : decode cX7_fits 30 = .ok (.iconst 0, 1) := by decide +kernel
theorem dX7_fits_31 : decode cX7_fits 31 = .ok (.ireturn, 1) := by decide +kernel
set_option maxRecDepth 20000 in
theorem ggX7_copyFrom_X9_copyRow : GoodIn wsX7_copyFrom wsX9_copyRow := goodIn_r _ [8, 9, 10, 11, 12, 13, 14, 15, 16] (by decide +kernel) (by decide +kernel)
set_option maxRecDepth 20000 in
theorem gX7_copyFrom_X9_copyRow_n36 : GoodIn wsX7_copyFrom (wsX9_copyRow) := ggX7_copyFrom_X9_copyRow
theorem dX7_copyFrom_0 : decode cX7_copyFrom 0 = .ok (.aload_n 0, 1) := by decide +kernel
theorem dX7_copyFrom_1 : decode cX7_copyFrom 1 = .ok (.aload_n 1, 1) := by decide +kernel
theorem dX7_copyFrom_2 : decode cX7_copyFrom 2 = .ok (.getfield 24, 3) := by decide +kernel
theorem dX7_copyFrom_5 : decode cX7_copyFrom 5 = .ok (.putfield 24, 3) := by decide +kernel
theorem dX7_copyFrom_8 : decode cX7_copyFrom 8 = .ok (.aload_n 1, 1) := by decide +kernel
theorem dX7_copyFrom_9 : decode cX7_copyFrom 9 = .ok (.getfield 9, 3) := by decide +kernel
theorem dX7_copyFrom_12 : decode cX7_copyFrom 12 = .ok (.aload_n 0, 1) := by decide +kernel
theorem dX7_copyFrom_13 : decode cX7_copyFrom 13 = .ok (.getfield 9, 3) := by decide +kernel
theorem dX7_copyFrom_16 : decode cX7_copyFrom 16 = .ok (.invokestatic 36, 3) := by decide +kernel
theorem dX7_copyFrom_19 : decode cX7_copyFrom 19 = .ok (.aload_n 1, 1) := by decide +kernel
theorem dX7_copyFrom_20 : decode cX7_copyFrom 20 = .ok (.getfield 15, 3) := by decide +kernel
theorem dX7_copyFrom_23 : decode cX7_copyFrom 23 = .ok (.aload_n 0, 1) := by decide +kernel
theorem dX7_copyFrom_24 : decode cX7_copyFrom 24 = .ok (.getfield 15, 3) := by decide +kernel
theorem dX7_copyFrom_27 : decode cX7_copyFrom 27 = .ok (.invokestatic 36, 3) := by decide +kernel
theorem dX7_copyFrom_30 : decode cX7_copyFrom 30 = .ok (.aload_n 1, 1) := by decide +kernel
theorem dX7_copyFrom_31 : decode cX7_copyFrom 31 = .ok (.getfield 18, 3) := by decide +kernel
theorem dX7_copyFrom_34 : decode cX7_copyFrom 34 = .ok (.aload_n 0, 1) := by decide +kernel
theorem dX7_copyFrom_35 : decode cX7_copyFrom 35 = .ok (.getfield 18, 3) := by decide +kernel
theorem dX7_copyFrom_38 : decode cX7_copyFrom 38 = .ok (.invokestatic 36, 3) := by decide +kernel
theorem dX7_copyFrom_41 : decode cX7_copyFrom 41 = .ok (.aload_n 1, 1) := by decide +kernel
theorem dX7_copyFrom_42 : decode cX7_copyFrom 42 = .ok (.getfield 21, 3) := by decide +kernel
theorem dX7_copyFrom_45 : decode cX7_copyFrom 45 = .ok (.aload_n 0, 1) := by decide +kernel
theorem dX7_copyFrom_46 : decode cX7_copyFrom 46 = .ok (.getfield 21, 3) := by decide +kernel
theorem dX7_copyFrom_49 : decode cX7_copyFrom 49 = .ok (.invokestatic 36, 3) := by decide +kernel
theorem dX7_copyFrom_52 : decode cX7_copyFrom 52 = .ok (.return_, 1) := by decide +kernel
theorem dX8_init_0 : decode cX8_init 0 = .ok (.aload_n 0, 1) := by decide +kernel
theorem dX8_init_1 : decode cX8_init 1 = .ok (.invokespecial 3, 3) := by decide +kernel
theorem dX8_init_4 : decode cX8_init 4 = .ok (.aload_n 0, 1) := by decide +kernel
theorem dX8_init_5 : decode cX8_init 5 = .ok (.bipush 20, 2) := by decide +kernel
theorem dX8_init_7 : decode cX8_init 7 = .ok (.newarray .int, 2) := by decide +kernel
theorem dX8_init_9 : decode cX8_init 9 = .ok (.putfield 9, 3) := by decide +kernel
theorem dX8_init_12 : decode cX8_init 12 = .ok (.aload_n 0, 1) := by decide +kernel
theorem dX8_init_13 : decode cX8_init 13 = .ok (.bipush 20, 2) := by decide +kernel
theorem dX8_init_15 : decode cX8_init 15 = .ok (.newarray .int, 2) := by decide +kernel
theorem dX8_init_17 : decode cX8_init 17 = .ok (.putfield 15, 3) := by decide +kernel
theorem dX8_init_20 : decode cX8_init 20 = .ok (.aload_n 0, 1) := by decide +kernel
theorem dX8_init_21 : decode cX8_init 21 = .ok (.bipush 20, 2) := by decide +kernel
theorem dX8_init_23 : decode cX8_init 23 = .ok (.newarray .int, 2) := by decide +kernel
theorem dX8_init_25 : decode cX8_init 25 = .ok (.putfield 18, 3) := by decide +kernel
theorem dX8_init_28 : decode cX8_init 28 = .ok (.return_, 1) := by decide +kernel
set_option maxRecDepth 20000 in
theorem ggX8_has_X9_isBetween : GoodIn wsX8_has wsX9_isBetween := goodIn_r _ [4] (by decide +kernel) (by decide +kernel)
set_option maxRecDepth 20000 in
theorem gX8_has_X9_isBetween_n25 : GoodIn wsX8_has (wsX9_isBetween) := ggX8_has_X9_isBetween
theorem dX8_has_0 : decode cX8_has 0 = .ok (.iload_n 1, 1) := by decide +kernel
theorem dX8_has_1 : decode cX8_has 1 = .ok (.iconst 0, 1) := by decide +kernel
theorem dX8_has_2 : decode cX8_has 2 = .ok (.aload_n 0, 1) := by decide +kernel
theorem dX8_has_3 : decode cX8_has 3 = .ok (.getfield 21, 3) := by decide +kernel
theorem dX8_has_6 : decode cX8_has 6 = .ok (.iconst 1, 1) := by decide +kernel
theorem dX8_has_7 : decode cX8_has 7 = .ok (.isub, 1) := by decide +kernel
theorem dX8_has_8 : decode cX8_has 8 = .ok (.invokestatic 25, 3) := by decide +kernel
theorem dX8_has_11 : decode cX8_has 11 = .ok (.ireturn, 1) := by decide +kernel
theorem dX8_add_0 : decode cX8_add 0 = .ok (.aload_n 0, 1) := by decide +kernel
theorem dX8_add_1 : decode cX8_add 1 = .ok (.getfield 21, 3) := by decide +kernel
theorem dX8_add_4 : decode cX8_add 4 = .ok (.istore 4, 2) := by decide +kernel
theorem dX8_add_6 : decode cX8_add 6 = .ok (.aload_n 0, 1) := by decide +kernel
theorem dX8_add_7 : decode cX8_add 7 = .ok (.getfield 9, 3) := by decide +kernel
theorem dX8_add_10 : decode cX8_add 10 = .ok (.iload 4, 2) := by decide +kernel
theorem dX8_add_12 : decode cX8_add 12 = .ok (.iload_n 1, 1) := by decide +kernel
theorem dX8_add_13 : decode cX8_add 13 = .ok (.iastore, 1) := by decide +kernel
theorem dX8_add_14 : decode cX8_add 14 = .ok (.aload_n 0, 1) := by decide +kernel
theorem dX8_add_15 : decode cX8_add 15 = .ok (.getfield 15, 3) := by decide +kernel
theorem dX8_add_18 : decode cX8_add 18 = .ok (.iload 4, 2) := by decide +kernel
theorem dX8_add_20 : decode cX8_add 20 = .ok (.iload_n 2, 1) := by decide +kernel
theorem dX8_add_21 : decode cX8_add 21 = .ok (.iastore, 1) := by decide +kernel
theorem dX8_add_22 : decode cX8_add 22 = .ok (.aload_n 0, 1) := by decide +kernel
theorem dX8_add_23 : decode cX8_add 23 = .ok (.getfield 18, 3) := by decide +kernel
theorem dX8_add_26 : decode cX8_add 26 = .ok (.iload 4, 2) := by decide +kernel
theorem dX8_add_28 : decode cX8_add 28 = .ok (.iload_n 3, 1) := by decide +kernel
theorem dX8_add_29 : decode cX8_add 29 = .ok (.iastore, 1) := by decide +kernel
theorem dX8_add_30 : decode cX8_add 30 = .ok (.aload_n 0, 1) := by decide +kernel
theorem dX8_add_31 : decode cX8_add 31 = .ok (.dup, 1) := by decide +kernel
theorem dX8_add_32 : decode cX8_add 32 = .ok (.getfield 21, 3) := by decide +kernel
theorem dX8_add_35 : decode cX8_add 35 = .ok (.iconst 1, 1) := by decide +kernel
theorem dX8_add_36 : decode cX8_add 36 = .ok (.iadd, 1) := by decide +kernel
theorem dX8_add_37 : decode cX8_add 37 = .ok (.putfield 21, 3) := by decide +kernel
theorem dX8_add_40 : decode cX8_add 40 = .ok (.iload 4, 2) := by decide +kernel
theorem dX8_add_42 : decode cX8_add 42 = .ok (.ireturn, 1) := by decide +kernel
theorem dX8_removeAt_0 : decode cX8_removeAt 0 = .ok (.iload_n 1, 1) := by decide +kernel
theorem dX8_removeAt_1 : decode cX8_removeAt 1 = .ok (.istore_n 2, 1) := by decide +kernel
theorem dX8_removeAt_2 : decode cX8_removeAt 2 = .ok (.iload_n 2, 1) := by decide +kernel
theorem dX8_removeAt_3 : decode cX8_removeAt 3 = .ok (.aload_n 0, 1) := by decide +kernel
theorem dX8_removeAt_4 : decode cX8_removeAt 4 = .ok (.getfield 21, 3) := by decide +kernel
theorem dX8_removeAt_7 : decode cX8_removeAt 7 = .ok (.iconst 1, 1) := by decide +kernel
theorem dX8_removeAt_8 : decode cX8_removeAt 8 = .ok (.isub, 1) := by decide +kernel
theorem dX8_removeAt_9 : decode cX8_removeAt 9 = .ok (.if_icmp .ge 51, 3) := by decide +kernel
theorem dX8_removeAt_12 : decode cX8_removeAt 12 = .ok (.aload_n 0, 1) := by decide +kernel
theorem dX8_removeAt_13 : decode cX8_removeAt 13 = .ok (.getfield 9, 3) := by decide +kernel
theorem dX8_removeAt_16 : decode cX8_removeAt 16 = .ok (.iload_n 2, 1) := by decide +kernel
theorem dX8_removeAt_17 : decode cX8_removeAt 17 = .ok (.aload_n 0, 1) := by decide +kernel
theorem dX8_removeAt_18 : decode cX8_removeAt 18 = .ok (.getfield 9, 3) := by decide +kernel
theorem dX8_removeAt_21 : decode cX8_removeAt 21 = .ok (.iload_n 2, 1) := by decide +kernel
theorem dX8_removeAt_22 : decode cX8_removeAt 22 = .ok (.iconst 1, 1) := by decide +kernel
theorem dX8_removeAt_23 : decode cX8_removeAt 23 = .ok (.iadd, 1) := by decide +kernel
theorem dX8_removeAt_24 : decode cX8_removeAt 24 = .ok (.iaload, 1) := by decide +kernel
theorem dX8_removeAt_25 : decode cX8_removeAt 25 = .ok (.iastore, 1) := by decide +kernel
theorem dX8_removeAt_26 : decode cX8_removeAt 26 = .ok (.aload_n 0, 1) := by decide +kernel
theorem dX8_removeAt_27 : decode cX8_removeAt 27 = .ok (.getfield 15, 3) := by decide +kernel
theorem dX8_removeAt_30 : decode cX8_removeAt 30 = .ok (.iload_n 2, 1) := by decide +kernel
theorem dX8_removeAt_31 : decode cX8_removeAt 31 = .ok (.aload_n 0, 1) := by decide +kernel
theorem dX8_removeAt_32 : decode cX8_removeAt 32 = .ok (.getfield 15, 3) := by decide +kernel
theorem dX8_removeAt_35 : decode cX8_removeAt 35 = .ok (.iload_n 2, 1) := by decide +kernel
theorem dX8_removeAt_36 : decode cX8_removeAt 36 = .ok (.iconst 1, 1) := by decide +kernel
theorem dX8_removeAt_37 : decode cX8_removeAt 37 = .ok (.iadd, 1) := by decide +kernel
theorem dX8_removeAt_38 : decode cX8_removeAt 38 = .ok (.iaload, 1) := by decide +kernel
theorem dX8_removeAt_39 : decode cX8_removeAt 39 = .ok (.iastore, 1) := by decide +kernel
theorem dX8_removeAt_40 : decode cX8_removeAt 40 = .ok (.aload_n 0, 1) := by decide +kernel
theorem dX8_removeAt_41 : decode cX8_removeAt 41 = .ok (.getfield 18, 3) := by decide +kernel
theorem dX8_removeAt_44 : decode cX8_removeAt 44 = .ok (.iload_n 2, 1) := by decide +kernel
theorem dX8_removeAt_45 : decode cX8_removeAt 45 = .ok (.aload_n 0, 1) := by decide +kernel
theorem dX8_removeAt_46 : decode cX8_removeAt 46 = .ok (.getfield 18, 3) := by decide +kernel
theorem dX8_removeAt_49 : decode cX8_removeAt 49 = .ok (.iload_n 2, 1) := by decide +kernel
theorem dX8_removeAt_50 : decode cX8_removeAt 50 = .ok (.iconst 1, 1) := by decide +kernel
theorem dX8_removeAt_51 : decode cX8_removeAt 51 = .ok (.iadd, 1) := by decide +kernel
theorem dX8_removeAt_52 : decode cX8_removeAt 52 = .ok (.iaload, 1) := by decide +kernel
theorem dX8_removeAt_53 : decode cX8_removeAt 53 = .ok (.iastore, 1) := by decide +kernel
theorem dX8_removeAt_54 : decode cX8_removeAt 54 = .ok (.iinc 2 1, 3) := by decide +kernel
theorem dX8_removeAt_57 : decode cX8_removeAt 57 = .ok (.goto (-55), 3) := by decide +kernel
theorem dX8_removeAt_60 : decode cX8_removeAt 60 = .ok (.aload_n 0, 1) := by decide +kernel
theorem dX8_removeAt_61 : decode cX8_removeAt 61 = .ok (.dup, 1) := by decide +kernel
theorem dX8_removeAt_62 : decode cX8_removeAt 62 = .ok (.getfield 21, 3) := by decide +kernel
theorem dX8_removeAt_65 : decode cX8_removeAt 65 = .ok (.iconst 1, 1) := by decide +kernel
theorem dX8_removeAt_66 : decode cX8_removeAt 66 = .ok (.isub, 1) := by decide +kernel
theorem dX8_removeAt_67 : decode cX8_removeAt 67 = .ok (.putfield 21, 3) := by decide +kernel
theorem dX8_removeAt_70 : decode cX8_removeAt 70 = .ok (.return_, 1) := by decide +kernel
theorem dX8_singersOf_0 : decode cX8_singersOf 0 = .ok (.iconst 1, 1) := by decide +kernel
theorem dX8_singersOf_1 : decode cX8_singersOf 1 = .ok (.aload_n 0, 1) := by decide +kernel
theorem dX8_singersOf_2 : decode cX8_singersOf 2 = .ok (.getfield 9, 3) := by decide +kernel
theorem dX8_singersOf_5 : decode cX8_singersOf 5 = .ok (.iload_n 1, 1) := by decide +kernel
theorem dX8_singersOf_6 : decode cX8_singersOf 6 = .ok (.iaload, 1) := by decide +kernel
theorem dX8_singersOf_7 : decode cX8_singersOf 7 = .ok (.ishl, 1) := by decide +kernel
theorem dX8_singersOf_8 : decode cX8_singersOf 8 = .ok (.istore_n 2, 1) := by decide +kernel
theorem dX8_singersOf_9 : decode cX8_singersOf 9 = .ok (.aload_n 0, 1) := by decide +kernel
theorem dX8_singersOf_10 : decode cX8_singersOf 10 = .ok (.getfield 15, 3) := by decide +kernel
theorem dX8_singersOf_13 : decode cX8_singersOf 13 = .ok (.iload_n 1, 1) := by decide +kernel
theorem dX8_singersOf_14 : decode cX8_singersOf 14 = .ok (.iaload, 1) := by decide +kernel
theorem dX8_singersOf_15 : decode cX8_singersOf 15 = .ok (.bipush (-6), 2) := by decide +kernel
theorem dX8_singersOf_17 : decode cX8_singersOf 17 = .ok (.if_icmp .ne 7, 3) := by decide +kernel
theorem dX8_singersOf_20 : decode cX8_singersOf 20 = .ok (.iload_n 2, 1) := by decide +kernel
theorem dX8_singersOf_21 : decode cX8_singersOf 21 = .ok (.goto 13, 3) := by decide +kernel
theorem dX8_singersOf_24 : decode cX8_singersOf 24 = .ok (.iload_n 2, 1) := by decide +kernel
theorem dX8_singersOf_25 : decode cX8_singersOf 25 = .ok (.iconst 1, 1) := by decide +kernel
theorem dX8_singersOf_26 : decode cX8_singersOf 26 = .ok (.aload_n 0, 1) := by decide +kernel
theorem dX8_singersOf_27 : decode cX8_singersOf 27 = .ok (.getfield 15, 3) := by decide +kernel
theorem dX8_singersOf_30 : decode cX8_singersOf 30 = .ok (.iload_n 1, 1) := by decide +kernel
theorem dX8_singersOf_31 : decode cX8_singersOf 31 = .ok (.iaload, 1) := by decide +kernel
theorem dX8_singersOf_32 : decode cX8_singersOf 32 = .ok (.ishl, 1) := by decide +kernel
theorem dX8_singersOf_33 : decode cX8_singersOf 33 = .ok (.ior, 1) := by decide +kernel
theorem dX8_singersOf_34 : decode cX8_singersOf 34 = .ok (.ireturn, 1) := by decide +kernel
set_option maxRecDepth 20000 in
theorem ggX8_numberWith_X8_singersOf : GoodIn wsX8_numberWith wsX8_singersOf := goodIn_r _ [6, 7, 8, 12, 13, 14, 15] (by decide +kernel) (by decide +kernel)
set_option maxRecDepth 20000 in
theorem gX8_numberWith_X8_singersOf : GoodIn wsX8_numberWith (wsV RX8 29 RX8 yX8_singersOf wsX8_singersOf) := goodIn_app (goodIn_of _ (by decide +kernel)) ggX8_numberWith_X8_singersOf
set_option maxRecDepth 20000 in
theorem ggX8_numberWith_X9_isIn : GoodIn wsX8_numberWith wsX9_isIn := goodIn_r _ [11] (by decide +kernel) (by decide +kernel)
set_option maxRecDepth 20000 in
theorem gX8_numberWith_X9_isIn_n33 : GoodIn wsX8_numberWith (wsX9_isIn) := ggX8_numberWith_X9_isIn
theorem dX8_numberWith_0 : decode cX8_numberWith 0 = .ok (.iconst 0, 1) := by decide +kernel
theorem dX8_numberWith_1 : decode cX8_numberWith 1 = .ok (.istore_n 2, 1) := by decide +kernel
theorem dX8_numberWith_2 : decode cX8_numberWith 2 = .ok (.iconst 0, 1) := by decide +kernel
theorem dX8_numberWith_3 : decode cX8_numberWith 3 = .ok (.istore_n 3, 1) := by decide +kernel
theorem dX8_numberWith_4 : decode cX8_numberWith 4 = .ok (.iload_n 3, 1) := by decide +kernel
theorem dX8_numberWith_5 : decode cX8_numberWith 5 = .ok (.aload_n 0, 1) := by decide +kernel
theorem dX8_numberWith_6 : decode cX8_numberWith 6 = .ok (.getfield 21, 3) := by decide +kernel
theorem dX8_numberWith_9 : decode cX8_numberWith 9 = .ok (.if_icmp .ge 24, 3) := by decide +kernel
theorem dX8_numberWith_12 : decode cX8_numberWith 12 = .ok (.aload_n 0, 1) := by decide +kernel
theorem dX8_numberWith_13 : decode cX8_numberWith 13 = .ok (.iload_n 3, 1) := by decide +kernel
theorem dX8_numberWith_14 : decode cX8_numberWith 14 = .ok (.invokevirtual 29, 3) := by decide +kernel
theorem dX8_numberWith_17 : decode cX8_numberWith 17 = .ok (.iload_n 1, 1) := by decide +kernel
theorem dX8_numberWith_18 : decode cX8_numberWith 18 = .ok (.invokestatic 33, 3) := by decide +kernel
theorem dX8_numberWith_21 : decode cX8_numberWith 21 = .ok (.ifCond .eq 6, 3) := by decide +kernel
theorem dX8_numberWith_24 : decode cX8_numberWith 24 = .ok (.iinc 2 1, 3) := by decide +kernel
theorem dX8_numberWith_27 : decode cX8_numberWith 27 = .ok (.iinc 3 1, 3) := by decide +kernel
theorem dX8_numberWith_30 : decode cX8_numberWith 30 = .ok (.goto (-26), 3) := by decide +kernel
theorem dX8_numberWith_33 : decode cX8_numberWith 33 = .ok (.iload_n 2, 1) := by decide +kernel
theorem dX8_numberWith_34 : decode cX8_numberWith 34 = .ok (.ireturn, 1) := by decide +kernel
set_option maxRecDepth 20000 in
theorem ggX8_readyOnes_X8_onesWithout : GoodIn wsX8_readyOnes wsX8_onesWithout := goodIn_r _ [5, 6, 7, 8, 9, 4, 10, 11, 12, 13, 14, 15, 16] (by decide +kernel) (by decide +kernel)
set_option maxRecDepth 20000 in
theorem gX8_readyOnes_X8_onesWithout : GoodIn wsX8_readyOnes (wsV RX8 37 RX8 yX8_onesWithout wsX8_onesWithout) := goodIn_app (goodIn_of _ (by decide +kernel)) ggX8_readyOnes_X8_onesWithout
theorem dX8_readyOnes_0 : decode cX8_readyOnes 0 = .ok (.aload_n 0, 1) := by decide +kernel
theorem dX8_readyOnes_1 : decode cX8_readyOnes 1 = .ok (.iload_n 1, 1) := by decide +kernel
theorem dX8_readyOnes_2 : decode cX8_readyOnes 2 = .ok (.iconst (-1), 1) := by decide +kernel
theorem dX8_readyOnes_3 : decode cX8_readyOnes 3 = .ok (.ixor, 1) := by decide +kernel
theorem dX8_readyOnes_4 : decode cX8_readyOnes 4 = .ok (.invokevirtual 37, 3) := by decide +kernel
theorem dX8_readyOnes_7 : decode cX8_readyOnes 7 = .ok (.ireturn, 1) := by decide +kernel
set_option maxRecDepth 20000 in
theorem ggX8_freshOnes_X8_onesWithout : GoodIn wsX8_freshOnes wsX8_onesWithout := goodIn_r _ [5, 6, 7, 8, 9, 4, 10, 11, 12, 13, 14, 15, 16] (by decide +kernel) (by decide +kernel)
set_option maxRecDepth 20000 in
theorem gX8_freshOnes_X8_onesWithout : GoodIn wsX8_freshOnes (wsV RX8 37 RX8 yX8_onesWithout wsX8_onesWithout) := goodIn_app (goodIn_of _ (by decide +kernel)) ggX8_freshOnes_X8_onesWithout
theorem dX8_freshOnes_0 : decode cX8_freshOnes 0 = .ok (.aload_n 0, 1) := by decide +kernel
theorem dX8_freshOnes_1 : decode cX8_freshOnes 1 = .ok (.iload_n 1, 1) := by decide +kernel
theorem dX8_freshOnes_2 : decode cX8_freshOnes 2 = .ok (.invokevirtual 37, 3) := by decide +kernel
theorem dX8_freshOnes_5 : decode cX8_freshOnes 5 = .ok (.ireturn, 1) := by decide +kernel
set_option maxRecDepth 20000 in
theorem ggX8_onesWithout_X8_singersOf : GoodIn wsX8_onesWithout wsX8_singersOf := goodIn_r _ [6, 7, 8, 9, 10, 11, 12] (by decide +kernel) (by decide +kernel)
set_option maxRecDepth 20000 in
theorem gX8_onesWithout_X8_singersOf : GoodIn wsX8_onesWithout (wsV RX8 29 RX8 yX8_singersOf wsX8_singersOf) := goodIn_app (goodIn_of _ (by decide +kernel)) ggX8_onesWithout_X8_singersOf
theorem dX8_onesWithout_0 : decode cX8_onesWithout 0 = .ok (.iconst 0, 1) := by decide +kernel
theorem dX8_onesWithout_1 : decode cX8_onesWithout 1 = .ok (.istore_n 2, 1) := by decide +kernel
theorem dX8_onesWithout_2 : decode cX8_onesWithout 2 = .ok (.iconst 0, 1) := by decide +kernel
theorem dX8_onesWithout_3 : decode cX8_onesWithout 3 = .ok (.istore_n 3, 1) := by decide +kernel
theorem dX8_onesWithout_4 : decode cX8_onesWithout 4 = .ok (.iload_n 3, 1) := by decide +kernel
theorem dX8_onesWithout_5 : decode cX8_onesWithout 5 = .ok (.aload_n 0, 1) := by decide +kernel
theorem dX8_onesWithout_6 : decode cX8_onesWithout 6 = .ok (.getfield 21, 3) := by decide +kernel
theorem dX8_onesWithout_9 : decode cX8_onesWithout 9 = .ok (.if_icmp .ge 25, 3) := by decide +kernel
theorem dX8_onesWithout_12 : decode cX8_onesWithout 12 = .ok (.aload_n 0, 1) := by decide +kernel
theorem dX8_onesWithout_13 : decode cX8_onesWithout 13 = .ok (.iload_n 3, 1) := by decide +kernel
theorem dX8_onesWithout_14 : decode cX8_onesWithout 14 = .ok (.invokevirtual 29, 3) := by decide +kernel
theorem dX8_onesWithout_17 : decode cX8_onesWithout 17 = .ok (.iload_n 1, 1) := by decide +kernel
theorem dX8_onesWithout_18 : decode cX8_onesWithout 18 = .ok (.iand, 1) := by decide +kernel
theorem dX8_onesWithout_19 : decode cX8_onesWithout 19 = .ok (.ifCond .ne 9, 3) := by decide +kernel
theorem dX8_onesWithout_22 : decode cX8_onesWithout 22 = .ok (.iload_n 2, 1) := by decide +kernel
theorem dX8_onesWithout_23 : decode cX8_onesWithout 23 = .ok (.iconst 1, 1) := by decide +kernel
theorem dX8_onesWithout_24 : decode cX8_onesWithout 24 = .ok (.iload_n 3, 1) := by decide +kernel
theorem dX8_onesWithout_25 : decode cX8_onesWithout 25 = .ok (.ishl, 1) := by decide +kernel
theorem dX8_onesWithout_26 : decode cX8_onesWithout 26 = .ok (.ior, 1) := by decide +kernel
theorem dX8_onesWithout_27 : decode cX8_onesWithout 27 = .ok (.istore_n 2, 1) := by decide +kernel
theorem dX8_onesWithout_28 : decode cX8_onesWithout 28 = .ok (.iinc 3 1, 3) := by decide +kernel
theorem dX8_onesWithout_31 : decode cX8_onesWithout 31 = .ok (.goto (-27), 3) := by decide +kernel
theorem dX8_onesWithout_34 : decode cX8_onesWithout 34 = .ok (.iload_n 2, 1) := by decide +kernel
theorem dX8_onesWithout_35 : decode cX8_onesWithout 35 = .ok (.ireturn, 1) := by decide +kernel
theorem dX8_turnsFor_0 : decode cX8_turnsFor 0 = .ok (.aload_n 2, 1) := by decide +kernel
theorem dX8_turnsFor_1 : decode cX8_turnsFor 1 = .ok (.aload_n 0, 1) := by decide +kernel
theorem dX8_turnsFor_2 : decode cX8_turnsFor 2 = .ok (.getfield 9, 3) := by decide +kernel
theorem dX8_turnsFor_5 : decode cX8_turnsFor 5 = .ok (.iload_n 1, 1) := by decide +kernel
theorem dX8_turnsFor_6 : decode cX8_turnsFor 6 = .ok (.iaload, 1) := by decide +kernel
theorem dX8_turnsFor_7 : decode cX8_turnsFor 7 = .ok (.iaload, 1) := by decide +kernel
theorem dX8_turnsFor_8 : decode cX8_turnsFor 8 = .ok (.istore_n 3, 1) := by decide +kernel
theorem dX8_turnsFor_9 : decode cX8_turnsFor 9 = .ok (.aload_n 0, 1) := by decide +kernel
theorem dX8_turnsFor_10 : decode cX8_turnsFor 10 = .ok (.getfield 15, 3) := by decide +kernel
theorem dX8_turnsFor_13 : decode cX8_turnsFor 13 = .ok (.iload_n 1, 1) := by decide +kernel
theorem dX8_turnsFor_14 : decode cX8_turnsFor 14 = .ok (.iaload, 1) := by decide +kernel
theorem dX8_turnsFor_15 : decode cX8_turnsFor 15 = .ok (.bipush (-6), 2) := by decide +kernel
theorem dX8_turnsFor_17 : decode cX8_turnsFor 17 = .ok (.if_icmp .ne 7, 3) := by decide +kernel
theorem dX8_turnsFor_20 : decode cX8_turnsFor 20 = .ok (.iload_n 3, 1) := by decide +kernel
theorem dX8_turnsFor_21 : decode cX8_turnsFor 21 = .ok (.goto 15, 3) := by decide +kernel
theorem dX8_turnsFor_24 : decode cX8_turnsFor 24 = .ok (.iload_n 3, 1) := by decide +kernel
theorem dX8_turnsFor_25 : decode cX8_turnsFor 25 = .ok (.aload_n 2, 1) := by decide +kernel
theorem dX8_turnsFor_26 : decode cX8_turnsFor 26 = .ok (.aload_n 0, 1) := by decide +kernel
theorem dX8_turnsFor_27 : decode cX8_turnsFor 27 = .ok (.getfield 15, 3) := by decide +kernel
theorem dX8_turnsFor_30 : decode cX8_turnsFor 30 = .ok (.iload_n 1, 1) := by decide +kernel
theorem dX8_turnsFor_31 : decode cX8_turnsFor 31 = .ok (.iaload, 1) := by decide +kernel
theorem dX8_turnsFor_32 : decode cX8_turnsFor 32 = .ok (.iaload, 1) := by decide +kernel
theorem dX8_turnsFor_33 : decode cX8_turnsFor 33 = .ok (.invokestatic 40, 3) := by decide +kernel
theorem dX8_turnsFor_36 : decode cX8_turnsFor 36 = .ok (.ireturn, 1) := by decide +kernel
set_option maxRecDepth 20000 in
theorem ggX8_nextAmong_X8_freshOnes : GoodIn wsX8_nextAmong wsX8_freshOnes := goodIn_r _ [5, 6, 7, 8, 4, 9, 10, 11, 12, 13, 14, 15, 16, 32, 33, 34, 35] (by decide +kernel) (by decide +kernel)
set_option maxRecDepth 20000 in
theorem gX8_nextAmong_X8_freshOnes : GoodIn wsX8_nextAmong (wsV RX8 46 RX8 yX8_freshOnes wsX8_freshOnes) := goodIn_app (goodIn_of _ (by decide +kernel)) ggX8_nextAmong_X8_freshOnes
set_option maxRecDepth 20000 in
theorem ggX8_nextAmong_X8_fewestTurnsAmong : GoodIn wsX8_nextAmong wsX8_fewestTurnsAmong := goodIn_r _ [20, 10, 21, 22, 23, 24, 25, 26, 4, 27, 15, 16, 28, 29, 30, 31, 32, 33, 34, 35] (by decide +kernel) (by decide +kernel)
set_option maxRecDepth 20000 in
theorem gX8_nextAmong_X8_fewestTurnsAmong : GoodIn wsX8_nextAmong (wsV RX8 49 RX8 yX8_fewestTurnsAmong wsX8_fewestTurnsAmong) := goodIn_app (goodIn_of _ (by decide +kernel)) ggX8_nextAmong_X8_fewestTurnsAmong
theorem dX8_nextAmong_0 : decode cX8_nextAmong 0 = .ok (.aload_n 0, 1) := by decide +kernel
theorem dX8_nextAmong_1 : decode cX8_nextAmong 1 = .ok (.iload_n 1, 1) := by decide +kernel
theorem dX8_nextAmong_2 : decode cX8_nextAmong 2 = .ok (.aload_n 0, 1) := by decide +kernel
theorem dX8_nextAmong_3 : decode cX8_nextAmong 3 = .ok (.iload_n 2, 1) := by decide +kernel
theorem dX8_nextAmong_4 : decode cX8_nextAmong 4 = .ok (.invokevirtual 46, 3) := by decide +kernel
theorem dX8_nextAmong_7 : decode cX8_nextAmong 7 = .ok (.iand, 1) := by decide +kernel
theorem dX8_nextAmong_8 : decode cX8_nextAmong 8 = .ok (.aload_n 3, 1) := by decide +kernel
theorem dX8_nextAmong_9 : decode cX8_nextAmong 9 = .ok (.invokevirtual 49, 3) := by decide +kernel
theorem dX8_nextAmong_12 : decode cX8_nextAmong 12 = .ok (.istore 4, 2) := by decide +kernel
theorem dX8_nextAmong_14 : decode cX8_nextAmong 14 = .ok (.iload 4, 2) := by decide +kernel
theorem dX8_nextAmong_16 : decode cX8_nextAmong 16 = .ok (.bipush (-6), 2) := by decide +kernel
theorem dX8_nextAmong_18 : decode cX8_nextAmong 18 = .ok (.if_icmp .eq 8, 3) := by decide +kernel
theorem dX8_nextAmong_21 : decode cX8_nextAmong 21 = .ok (.iload 4, 2) := by decide +kernel
theorem dX8_nextAmong_23 : decode cX8_nextAmong 23 = .ok (.goto 9, 3) := by decide +kernel
theorem dX8_nextAmong_26 : decode cX8_nextAmong 26 = .ok (.aload_n 0, 1) := by decide +kernel
theorem dX8_nextAmong_27 : decode cX8_nextAmong 27 = .ok (.iload_n 1, 1) := by decide +kernel
theorem dX8_nextAmong_28 : decode cX8_nextAmong 28 = .ok (.aload_n 3, 1) := by decide +kernel
theorem dX8_nextAmong_29 : decode cX8_nextAmong 29 = .ok (.invokevirtual 49, 3) := by decide +kernel
theorem dX8_nextAmong_32 : decode cX8_nextAmong 32 = .ok (.ireturn, 1) := by decide +kernel
set_option maxRecDepth 20000 in
theorem ggX8_fewestTurnsAmong_X9_isIn : GoodIn wsX8_fewestTurnsAmong wsX9_isIn := goodIn_r _ [4] (by decide +kernel) (by decide +kernel)
set_option maxRecDepth 20000 in
theorem gX8_fewestTurnsAmong_X9_isIn_n33 : GoodIn wsX8_fewestTurnsAmong (wsX9_isIn) := ggX8_fewestTurnsAmong_X9_isIn
set_option maxRecDepth 20000 in
theorem ggX8_fewestTurnsAmong_X8_turnsFor : GoodIn wsX8_fewestTurnsAmong wsX8_turnsFor := goodIn_r _ [9, 10, 11, 12, 13, 14, 15, 16, 17, 18, 19] (by decide +kernel) (by decide +kernel)
set_option maxRecDepth 20000 in
theorem gX8_fewestTurnsAmong_X8_turnsFor : GoodIn wsX8_fewestTurnsAmong (wsV RX8 53 RX8 yX8_turnsFor wsX8_turnsFor) := goodIn_app (goodIn_of _ (by decide +kernel)) ggX8_fewestTurnsAmong_X8_turnsFor
theorem dX8_fewestTurnsAmong_0 : decode cX8_fewestTurnsAmong 0 = .ok (.bipush (-6), 2) := by decide +kernel
theorem dX8_fewestTurnsAmong_2 : decode cX8_fewestTurnsAmong 2 = .ok (.istore_n 3, 1) := by decide +kernel
theorem dX8_fewestTurnsAmong_3 : decode cX8_fewestTurnsAmong 3 = .ok (.iconst 0, 1) := by decide +kernel
theorem dX8_fewestTurnsAmong_4 : decode cX8_fewestTurnsAmong 4 = .ok (.istore 4, 2) := by decide +kernel
theorem dX8_fewestTurnsAmong_6 : decode cX8_fewestTurnsAmong 6 = .ok (.iload 4, 2) := by decide +kernel
theorem dX8_fewestTurnsAmong_8 : decode cX8_fewestTurnsAmong 8 = .ok (.aload_n 0, 1) := by decide +kernel
theorem dX8_fewestTurnsAmong_9 : decode cX8_fewestTurnsAmong 9 = .ok (.getfield 21, 3) := by decide +kernel
theorem dX8_fewestTurnsAmong_12 : decode cX8_fewestTurnsAmong 12 = .ok (.if_icmp .ge 43, 3) := by decide +kernel
theorem dX8_fewestTurnsAmong_15 : decode cX8_fewestTurnsAmong 15 = .ok (.iload_n 1, 1) := by decide +kernel
theorem dX8_fewestTurnsAmong_16 : decode cX8_fewestTurnsAmong 16 = .ok (.iload 4, 2) := by decide +kernel
theorem dX8_fewestTurnsAmong_18 : decode cX8_fewestTurnsAmong 18 = .ok (.invokestatic 33, 3) := by decide +kernel
theorem dX8_fewestTurnsAmong_21 : decode cX8_fewestTurnsAmong 21 = .ok (.ifCond .eq 28, 3) := by decide +kernel
theorem dX8_fewestTurnsAmong_24 : decode cX8_fewestTurnsAmong 24 = .ok (.iload_n 3, 1) := by decide +kernel
theorem dX8_fewestTurnsAmong_25 : decode cX8_fewestTurnsAmong 25 = .ok (.bipush (-6), 2) := by decide +kernel
theorem dX8_fewestTurnsAmong_27 : decode cX8_fewestTurnsAmong 27 = .ok (.if_icmp .eq 19, 3) := by decide +kernel
theorem dX8_fewestTurnsAmong_30 : decode cX8_fewestTurnsAmong 30 = .ok (.aload_n 0, 1) := by decide +kernel
theorem dX8_fewestTurnsAmong_31 : decode cX8_fewestTurnsAmong 31 = .ok (.iload 4, 2) := by decide +kernel
theorem dX8_fewestTurnsAmong_33 : decode cX8_fewestTurnsAmong 33 = .ok (.aload_n 2, 1) := by decide +kernel
theorem dX8_fewestTurnsAmong_34 : decode cX8_fewestTurnsAmong 34 = .ok (.invokevirtual 53, 3) := by decide +kernel
theorem dX8_fewestTurnsAmong_37 : decode cX8_fewestTurnsAmong 37 = .ok (.aload_n 0, 1) := by decide +kernel
theorem dX8_fewestTurnsAmong_38 : decode cX8_fewestTurnsAmong 38 = .ok (.iload_n 3, 1) := by decide +kernel
theorem dX8_fewestTurnsAmong_39 : decode cX8_fewestTurnsAmong 39 = .ok (.aload_n 2, 1) := by decide +kernel
theorem dX8_fewestTurnsAmong_40 : decode cX8_fewestTurnsAmong 40 = .ok (.invokevirtual 53, 3) := by decide +kernel
theorem dX8_fewestTurnsAmong_43 : decode cX8_fewestTurnsAmong 43 = .ok (.if_icmp .ge 6, 3) := by decide +kernel
theorem dX8_fewestTurnsAmong_46 : decode cX8_fewestTurnsAmong 46 = .ok (.iload 4, 2) := by decide +kernel
theorem dX8_fewestTurnsAmong_48 : decode cX8_fewestTurnsAmong 48 = .ok (.istore_n 3, 1) := by decide +kernel
theorem dX8_fewestTurnsAmong_49 : decode cX8_fewestTurnsAmong 49 = .ok (.iinc 4 1, 3) := by decide +kernel
theorem dX8_fewestTurnsAmong_52 : decode cX8_fewestTurnsAmong 52 = .ok (.goto (-46), 3) := by decide +kernel
theorem dX8_fewestTurnsAmong_55 : decode cX8_fewestTurnsAmong 55 = .ok (.iload_n 3, 1) := by decide +kernel
theorem dX8_fewestTurnsAmong_56 : decode cX8_fewestTurnsAmong 56 = .ok (.ireturn, 1) := by decide +kernel
set_option maxRecDepth 20000 in
theorem ggX8_copyFrom_X9_copyRow : GoodIn wsX8_copyFrom wsX9_copyRow := goodIn_r _ [7, 8, 9, 10, 11, 12, 13, 14, 15] (by decide +kernel) (by decide +kernel)
set_option maxRecDepth 20000 in
theorem gX8_copyFrom_X9_copyRow_n56 : GoodIn wsX8_copyFrom (wsX9_copyRow) := ggX8_copyFrom_X9_copyRow
theorem dX8_copyFrom_0 : decode cX8_copyFrom 0 = .ok (.aload_n 0, 1) := by decide +kernel
theorem dX8_copyFrom_1 : decode cX8_copyFrom 1 = .ok (.aload_n 1, 1) := by decide +kernel
theorem dX8_copyFrom_2 : decode cX8_copyFrom 2 = .ok (.getfield 21, 3) := by decide +kernel
theorem dX8_copyFrom_5 : decode cX8_copyFrom 5 = .ok (.putfield 21, 3) := by decide +kernel
theorem dX8_copyFrom_8 : decode cX8_copyFrom 8 = .ok (.aload_n 1, 1) := by decide +kernel
theorem dX8_copyFrom_9 : decode cX8_copyFrom 9 = .ok (.getfield 9, 3) := by decide +kernel
theorem dX8_copyFrom_12 : decode cX8_copyFrom 12 = .ok (.aload_n 0, 1) := by decide +kernel
theorem dX8_copyFrom_13 : decode cX8_copyFrom 13 = .ok (.getfield 9, 3) := by decide +kernel
theorem dX8_copyFrom_16 : decode cX8_copyFrom 16 = .ok (.invokestatic 56, 3) := by decide +kernel
theorem dX8_copyFrom_19 : decode cX8_copyFrom 19 = .ok (.aload_n 1, 1) := by decide +kernel
theorem dX8_copyFrom_20 : decode cX8_copyFrom 20 = .ok (.getfield 15, 3) := by decide +kernel
theorem dX8_copyFrom_23 : decode cX8_copyFrom 23 = .ok (.aload_n 0, 1) := by decide +kernel
theorem dX8_copyFrom_24 : decode cX8_copyFrom 24 = .ok (.getfield 15, 3) := by decide +kernel
theorem dX8_copyFrom_27 : decode cX8_copyFrom 27 = .ok (.invokestatic 56, 3) := by decide +kernel
theorem dX8_copyFrom_30 : decode cX8_copyFrom 30 = .ok (.aload_n 1, 1) := by decide +kernel
theorem dX8_copyFrom_31 : decode cX8_copyFrom 31 = .ok (.getfield 18, 3) := by decide +kernel
theorem dX8_copyFrom_34 : decode cX8_copyFrom 34 = .ok (.aload_n 0, 1) := by decide +kernel
theorem dX8_copyFrom_35 : decode cX8_copyFrom 35 = .ok (.getfield 18, 3) := by decide +kernel
theorem dX8_copyFrom_38 : decode cX8_copyFrom 38 = .ok (.invokestatic 56, 3) := by decide +kernel
theorem dX8_copyFrom_41 : decode cX8_copyFrom 41 = .ok (.return_, 1) := by decide +kernel
end
section
set_option maxRecDepth 20000 in
theorem ggX9_init_X0_init : GoodIn wsX9_init wsX0_init := goodIn_r _ [28, 29, 2, 3, 30, 31, 32, 33, 34, 35, 36, 37, 38, 39, 40, 41, 42, 43, 44, 45, 46, 47, 48, 49, 50, 51, 52, 53, 54, 55, 56, 57, 58, 59, 60, 61, 62, 63, 64, 65, 66, 67, 68, 69, 70, 71, 72, 73, 121, 122, 123, 124, 125, 126, 127, 95, 96, 97, 98, 99, 100, 128, 129, 130, 131, 132, 133, 134, 135, 136, 137, 138, 139, 140, 141] (by decide +kernel) (by decide +kernel)
set_option maxRecDepth 20000 in
theorem gX9_init_X0_init_n11 : GoodIn wsX9_init (wsX0_init) := ggX9_init_X0_init
set_option maxRecDepth 20000 in
theorem ggX9_init_X1_init : GoodIn wsX9_init wsX1_init := goodIn_r _ [76, 77, 2, 3, 78, 79, 5, 6, 27, 28, 29, 30, 31, 32, 33, 34, 35, 36, 37, 38, 39, 40, 41, 42, 43, 44, 45, 46, 47, 48, 49, 50, 51, 52, 53, 54, 55, 56, 57, 58, 59, 60, 61, 62, 63, 64, 65, 66, 67, 68, 69, 70, 71, 72, 73, 108, 109, 110, 95, 96, 97, 98, 99, 100, 121, 122, 123, 124, 125, 126, 127, 128, 129, 130, 131, 132, 133, 134, 135, 136, 137, 138, 139, 140, 141] (by decide +kernel) (by decide +kernel)
set_option maxRecDepth 20000 in
theorem gX9_init_X1_init : GoodIn wsX9_init (wsX1_init) := ggX9_init_X1_init
set_option maxRecDepth 20000 in
theorem ggX9_init_X2_init : GoodIn wsX9_init wsX2_init := goodIn_r _ [81, 82, 2, 3, 83, 84, 111, 112] (by decide +kernel) (by decide +kernel)
set_option maxRecDepth 20000 in
theorem gX9_init_X2_init_n33 : GoodIn wsX9_init (wsX2_init) := ggX9_init_X2_init
set_option maxRecDepth 20000 in
theorem ggX9_init_X3_init : GoodIn wsX9_init wsX3_init := goodIn_r _ [86, 87, 2, 3, 49, 88, 89, 90, 113, 114, 115, 116, 117] (by decide +kernel) (by decide +kernel)
set_option maxRecDepth 20000 in
theorem gX9_init_X3_init_n40 : GoodIn wsX9_init (wsX3_init) := ggX9_init_X3_init
set_option maxRecDepth 20000 in
theorem ggX9_init_X5_init : GoodIn wsX9_init wsX5_init := goodIn_r _ [92, 93, 2, 3, 49, 94, 118, 119, 120] (by decide +kernel) (by decide +kernel)
set_option maxRecDepth 20000 in
theorem gX9_init_X5_init_n47 : GoodIn wsX9_init (wsX5_init) := ggX9_init_X5_init
theorem dX9_init_0 : decode cX9_init 0 = .ok (.aload_n 0, 1) := by decide +kernel
theorem dX9_init_1 : decode cX9_init 1 = .ok (.invokespecial 3, 3) := by decide +kernel
theorem dX9_init_4 : decode cX9_init 4 = .ok (.aload_n 0, 1) := by decide +kernel
theorem dX9_init_5 : decode cX9_init 5 = .ok (.new 9, 3) := by decide +kernel
theorem dX9_init_8 : decode cX9_init 8 = .ok (.dup, 1) := by decide +kernel
theorem dX9_init_9 : decode cX9_init 9 = .ok (.invokespecial 11, 3) := by decide +kernel
theorem dX9_init_12 : decode cX9_init 12 = .ok (.putfield 12, 3) := by decide +kernel
theorem dX9_init_15 : decode cX9_init 15 = .ok (.aload_n 0, 1) := by decide +kernel
theorem dX9_init_16 : decode cX9_init 16 = .ok (.new 16, 3) := by decide +kernel
theorem dX9_init_19 : decode cX9_init 19 = .ok (.dup, 1) := by decide +kernel
theorem dX9_init_20 : decode cX9_init 20 = .ok (.invokespecial 18, 3) := by decide +kernel
theorem dX9_init_23 : decode cX9_init 23 = .ok (.putfield 19, 3) := by decide +kernel
theorem dX9_init_26 : decode cX9_init 26 = .ok (.aload_n 0, 1) := by decide +kernel
theorem dX9_init_27 : decode cX9_init 27 = .ok (.iconst 2, 1) := by decide +kernel
theorem dX9_init_28 : decode cX9_init 28 = .ok (.anewarray 9, 3) := by decide +kernel
theorem dX9_init_31 : decode cX9_init 31 = .ok (.putfield 23, 3) := by decide +kernel
theorem dX9_init_34 : decode cX9_init 34 = .ok (.iconst 0, 1) := by decide +kernel
theorem dX9_init_35 : decode cX9_init 35 = .ok (.istore_n 1, 1) := by decide +kernel
theorem dX9_init_36 : decode cX9_init 36 = .ok (.iload_n 1, 1) := by decide +kernel
theorem dX9_init_37 : decode cX9_init 37 = .ok (.iconst 2, 1) := by decide +kernel
theorem dX9_init_38 : decode cX9_init 38 = .ok (.if_icmp .ge 22, 3) := by decide +kernel
theorem dX9_init_41 : decode cX9_init 41 = .ok (.aload_n 0, 1) := by decide +kernel
theorem dX9_init_42 : decode cX9_init 42 = .ok (.getfield 23, 3) := by decide +kernel
theorem dX9_init_45 : decode cX9_init 45 = .ok (.iload_n 1, 1) := by decide +kernel
theorem dX9_init_46 : decode cX9_init 46 = .ok (.new 9, 3) := by decide +kernel
theorem dX9_init_49 : decode cX9_init 49 = .ok (.dup, 1) := by decide +kernel
theorem dX9_init_50 : decode cX9_init 50 = .ok (.invokespecial 11, 3) := by decide +kernel
theorem dX9_init_53 : decode cX9_init 53 = .ok (.aastore, 1) := by decide +kernel
theorem dX9_init_54 : decode cX9_init 54 = .ok (.iinc 1 1, 3) := by decide +kernel
theorem dX9_init_57 : decode cX9_init 57 = .ok (.goto (-21), 3) := by decide +kernel
theorem dX9_init_60 : decode cX9_init 60 = .ok (.aload_n 0, 1) := by decide +kernel
theorem dX9_init_61 : decode cX9_init 61 = .ok (.iconst 2, 1) := by decide +kernel
theorem dX9_init_62 : decode cX9_init 62 = .ok (.newarray .boolean, 2) := by decide +kernel
theorem dX9_init_64 : decode cX9_init 64 = .ok (.putfield 27, 3) := by decide +kernel
theorem dX9_init_67 : decode cX9_init 67 = .ok (.aload_n 0, 1) := by decide +kernel
theorem dX9_init_68 : decode cX9_init 68 = .ok (.new 31, 3) := by decide +kernel
theorem dX9_init_71 : decode cX9_init 71 = .ok (.dup, 1) := by decide +kernel
theorem dX9_init_72 : decode cX9_init 72 = .ok (.invokespecial 33, 3) := by decide +kernel
theorem dX9_init_75 : decode cX9_init 75 = .ok (.putfield 34, 3) := by decide +kernel
theorem dX9_init_78 : decode cX9_init 78 = .ok (.aload_n 0, 1) := by decide +kernel
theorem dX9_init_79 : decode cX9_init 79 = .ok (.new 38, 3) := by decide +kernel
theorem dX9_init_82 : decode cX9_init 82 = .ok (.dup, 1) := by decide +kernel
theorem dX9_init_83 : decode cX9_init 83 = .ok (.invokespecial 40, 3) := by decide +kernel
theorem dX9_init_86 : decode cX9_init 86 = .ok (.putfield 41, 3) := by decide +kernel
theorem dX9_init_89 : decode cX9_init 89 = .ok (.aload_n 0, 1) := by decide +kernel
theorem dX9_init_90 : decode cX9_init 90 = .ok (.new 45, 3) := by decide +kernel
theorem dX9_init_93 : decode cX9_init 93 = .ok (.dup, 1) := by decide +kernel
theorem dX9_init_94 : decode cX9_init 94 = .ok (.invokespecial 47, 3) := by decide +kernel
theorem dX9_init_97 : decode cX9_init 97 = .ok (.putfield 48, 3) := by decide +kernel
theorem dX9_init_100 : decode cX9_init 100 = .ok (.return_, 1) := by decide +kernel
set_option maxRecDepth 20000 in
theorem ggX9_singer_X9_isToneRange : GoodIn wsX9_singer wsX9_isToneRange := goodIn_r _ [8, 9, 10, 7, 11] (by decide +kernel) (by decide +kernel)
set_option maxRecDepth 20000 in
theorem gX9_singer_X9_isToneRange : GoodIn wsX9_singer (va_wsS RX9 52 yX9_isToneRange wsX9_isToneRange) := goodIn_app (goodIn_of _ (by decide +kernel)) ggX9_singer_X9_isToneRange
set_option maxRecDepth 20000 in
theorem ggX9_singer_X1_keep : GoodIn wsX9_singer wsX1_keep := goodIn_r _ [16, 17, 18, 19, 20, 21, 22, 23, 24, 25, 26, 27, 28, 29, 30, 31, 32, 33, 34, 35, 36, 37, 38, 39, 40, 41, 42, 43, 44, 45, 46, 47, 7, 48, 49, 50, 51, 52, 53, 54, 55, 56, 57, 58, 59, 60, 61, 62, 63, 64, 65, 66, 67, 68, 69, 70, 71, 72, 73, 74, 75, 76, 77, 78, 79, 80, 81, 82, 111, 112, 113, 98, 99, 100, 101, 102, 103, 104, 105, 106, 107, 108, 109, 110, 114, 115, 116, 117, 118, 119, 120, 121, 122, 123, 124, 125, 126, 127] (by decide +kernel) (by decide +kernel)
set_option maxRecDepth 20000 in
theorem gX9_singer_X1_keep : GoodIn wsX9_singer (wsV RX9 66 RX1 yX1_keep wsX1_keep) := goodIn_app (goodIn_of _ (by decide +kernel)) ggX9_singer_X1_keep
set_option maxRecDepth 20000 in
theorem ggX9_singer_X6_add : GoodIn wsX9_singer wsX6_add := goodIn_r _ [86, 40, 43, 44, 87, 88, 89, 38, 90, 41, 104, 105, 106, 107, 108, 109, 110] (by decide +kernel) (by decide +kernel)
set_option maxRecDepth 20000 in
theorem gX9_singer_X6_add : GoodIn wsX9_singer (wsV RX9 70 RX6 yX6_add wsX6_add) := goodIn_app (goodIn_of _ (by decide +kernel)) ggX9_singer_X6_add
theorem dX9_singer_0 : decode cX9_singer 0 = .ok (.iload_n 1, 1) := by decide +kernel
theorem dX9_singer_1 : decode cX9_singer 1 = .ok (.iload_n 2, 1) := by decide +kernel
theorem dX9_singer_2 : decode cX9_singer 2 = .ok (.invokestatic 52, 3) := by decide +kernel
theorem dX9_singer_5 : decode cX9_singer 5 = .ok (.ifCond .ne 6, 3) := by decide +kernel
theorem dX9_singer_8 : decode cX9_singer 8 = .ok (.bipush (-2), 2) := by decide +kernel
theorem dX9_singer_10 : decode cX9_singer 10 = .ok (.ireturn, 1) := by decide +kernel
theorem dX9_singer_11 : decode cX9_singer 11 = .ok (.aload_n 0, 1) := by decide +kernel
theorem dX9_singer_12 : decode cX9_singer 12 = .ok (.getfield 12, 3) := by decide +kernel
theorem dX9_singer_15 : decode cX9_singer 15 = .ok (.getfield 56, 3) := by decide +kernel
theorem dX9_singer_18 : decode cX9_singer 18 = .ok (.getfield 60, 3) := by decide +kernel
theorem dX9_singer_21 : decode cX9_singer 21 = .ok (.bipush 12, 2) := by decide +kernel
theorem dX9_singer_23 : decode cX9_singer 23 = .ok (.if_icmp .lt 6, 3) := by decide +kernel
theorem dX9_singer_26 : decode cX9_singer 26 = .ok (.bipush (-4), 2) := by decide +kernel
theorem dX9_singer_28 : decode cX9_singer 28 = .ok (.ireturn, 1) := by decide +kernel
theorem dX9_singer_29 : decode cX9_singer 29 = .ok (.aload_n 0, 1) := by decide +kernel
theorem dX9_singer_30 : decode cX9_singer 30 = .ok (.getfield 19, 3) := by decide +kernel
theorem dX9_singer_33 : decode cX9_singer 33 = .ok (.aload_n 0, 1) := by decide +kernel
theorem dX9_singer_34 : decode cX9_singer 34 = .ok (.getfield 12, 3) := by decide +kernel
theorem dX9_singer_37 : decode cX9_singer 37 = .ok (.invokevirtual 66, 3) := by decide +kernel
theorem dX9_singer_40 : decode cX9_singer 40 = .ok (.aload_n 0, 1) := by decide +kernel
theorem dX9_singer_41 : decode cX9_singer 41 = .ok (.getfield 12, 3) := by decide +kernel
theorem dX9_singer_44 : decode cX9_singer 44 = .ok (.getfield 56, 3) := by decide +kernel
theorem dX9_singer_47 : decode cX9_singer 47 = .ok (.iload_n 1, 1) := by decide +kernel
theorem dX9_singer_48 : decode cX9_singer 48 = .ok (.iload_n 2, 1) := by decide +kernel
theorem dX9_singer_49 : decode cX9_singer 49 = .ok (.invokevirtual 70, 3) := by decide +kernel
theorem dX9_singer_52 : decode cX9_singer 52 = .ok (.ireturn, 1) := by decide +kernel
set_option maxRecDepth 20000 in
theorem ggX9_song_X9_isToneRange : GoodIn wsX9_song wsX9_isToneRange := goodIn_r _ [8, 9, 10, 7, 11] (by decide +kernel) (by decide +kernel)
set_option maxRecDepth 20000 in
theorem gX9_song_X9_isToneRange : GoodIn wsX9_song (va_wsS RX9 52 yX9_isToneRange wsX9_isToneRange) := goodIn_app (goodIn_of _ (by decide +kernel)) ggX9_song_X9_isToneRange
set_option maxRecDepth 20000 in
theorem ggX9_song_X9_isBetween : GoodIn wsX9_song wsX9_isBetween := goodIn_r _ [11] (by decide +kernel) (by decide +kernel)
set_option maxRecDepth 20000 in
theorem gX9_song_X9_isBetween : GoodIn wsX9_song (va_wsS RX9 74 yX9_isBetween wsX9_isBetween) := goodIn_app (goodIn_of _ (by decide +kernel)) ggX9_song_X9_isBetween
set_option maxRecDepth 20000 in
theorem ggX9_song_X1_keep : GoodIn wsX9_song wsX1_keep := goodIn_r _ [16, 17, 18, 19, 20, 21, 22, 23, 24, 25, 26, 27, 28, 29, 30, 31, 32, 33, 34, 35, 36, 37, 38, 39, 40, 41, 42, 43, 44, 45, 46, 47, 7, 48, 49, 50, 51, 52, 53, 54, 55, 56, 57, 58, 59, 60, 61, 62, 63, 64, 65, 66, 67, 68, 69, 70, 71, 72, 73, 74, 75, 76, 77, 78, 79, 80, 81, 82, 105, 106, 107, 94, 95, 96, 97, 98, 99, 108, 109, 110, 111, 112, 113, 114, 100, 101, 102, 103, 104, 115, 116, 117, 118, 119, 120, 121, 122, 123] (by decide +kernel) (by decide +kernel)
set_option maxRecDepth 20000 in
theorem gX9_song_X1_keep : GoodIn wsX9_song (wsV RX9 66 RX1 yX1_keep wsX1_keep) := goodIn_app (goodIn_of _ (by decide +kernel)) ggX9_song_X1_keep
set_option maxRecDepth 20000 in
theorem ggX9_song_X7_add : GoodIn wsX9_song wsX7_add := goodIn_r _ [86, 59, 60, 61, 62, 100, 101, 102, 103, 104] (by decide +kernel) (by decide +kernel)
set_option maxRecDepth 20000 in
theorem gX9_song_X7_add : GoodIn wsX9_song (wsV RX9 85 RX7 yX7_add wsX7_add) := goodIn_app (goodIn_of _ (by decide +kernel)) ggX9_song_X7_add
theorem dX9_song_0 : decode cX9_song 0 = .ok (.iload_n 1, 1) := by decide +kernel
theorem dX9_song_1 : decode cX9_song 1 = .ok (.iload_n 2, 1) := by decide +kernel
theorem dX9_song_2 : decode cX9_song 2 = .ok (.invokestatic 52, 3) := by decide +kernel
theorem dX9_song_5 : decode cX9_song 5 = .ok (.ifCond .eq 13, 3) := by decide +kernel
theorem dX9_song_8 : decode cX9_song 8 = .ok (.iload_n 3, 1) := by decide +kernel
theorem dX9_song_9 : decode cX9_song 9 = .ok (.iconst 1, 1) := by decide +kernel
theorem dX9_song_10 : decode cX9_song 10 = .ok (.bipush 9, 2) := by decide +kernel
theorem dX9_song_12 : decode cX9_song 12 = .ok (.invokestatic 74, 3) := by decide +kernel
theorem dX9_song_15 : decode cX9_song 15 = .ok (.ifCond .ne 6, 3) := by decide +kernel
theorem dX9_song_18 : decode cX9_song 18 = .ok (.bipush (-2), 2) := by decide +kernel
theorem dX9_song_20 : decode cX9_song 20 = .ok (.ireturn, 1) := by decide +kernel
theorem dX9_song_21 : decode cX9_song 21 = .ok (.aload_n 0, 1) := by decide +kernel
theorem dX9_song_22 : decode cX9_song 22 = .ok (.getfield 12, 3) := by decide +kernel
theorem dX9_song_25 : decode cX9_song 25 = .ok (.getfield 78, 3) := by decide +kernel
theorem dX9_song_28 : decode cX9_song 28 = .ok (.getfield 82, 3) := by decide +kernel
theorem dX9_song_31 : decode cX9_song 31 = .ok (.bipush 16, 2) := by decide +kernel
theorem dX9_song_33 : decode cX9_song 33 = .ok (.if_icmp .lt 6, 3) := by decide +kernel
theorem dX9_song_36 : decode cX9_song 36 = .ok (.bipush (-4), 2) := by decide +kernel
theorem dX9_song_38 : decode cX9_song 38 = .ok (.ireturn, 1) := by decide +kernel
theorem dX9_song_39 : decode cX9_song 39 = .ok (.aload_n 0, 1) := by decide +kernel
theorem dX9_song_40 : decode cX9_song 40 = .ok (.getfield 19, 3) := by decide +kernel
theorem dX9_song_43 : decode cX9_song 43 = .ok (.aload_n 0, 1) := by decide +kernel
theorem dX9_song_44 : decode cX9_song 44 = .ok (.getfield 12, 3) := by decide +kernel
theorem dX9_song_47 : decode cX9_song 47 = .ok (.invokevirtual 66, 3) := by decide +kernel
theorem dX9_song_50 : decode cX9_song 50 = .ok (.aload_n 0, 1) := by decide +kernel
theorem dX9_song_51 : decode cX9_song 51 = .ok (.getfield 12, 3) := by decide +kernel
theorem dX9_song_54 : decode cX9_song 54 = .ok (.getfield 78, 3) := by decide +kernel
theorem dX9_song_57 : decode cX9_song 57 = .ok (.iload_n 1, 1) := by decide +kernel
theorem dX9_song_58 : decode cX9_song 58 = .ok (.iload_n 2, 1) := by decide +kernel
theorem dX9_song_59 : decode cX9_song 59 = .ok (.iload_n 3, 1) := by decide +kernel
theorem dX9_song_60 : decode cX9_song 60 = .ok (.invokevirtual 85, 3) := by decide +kernel
theorem dX9_song_63 : decode cX9_song 63 = .ok (.ireturn, 1) := by decide +kernel
set_option maxRecDepth 20000 in
theorem ggX9_leave_X6_has : GoodIn wsX9_leave wsX6_has := goodIn_r _ [9, 10, 11, 12, 13, 113, 114, 115, 116, 117, 118, 119] (by decide +kernel) (by decide +kernel)
set_option maxRecDepth 20000 in
theorem gX9_leave_X6_has : GoodIn wsX9_leave (wsV RX9 88 RX6 yX6_has wsX6_has) := goodIn_app (goodIn_of _ (by decide +kernel)) ggX9_leave_X6_has
set_option maxRecDepth 20000 in
theorem ggX9_leave_X6_isThere : GoodIn wsX9_leave wsX6_isThere := goodIn_r _ [17, 18, 19, 12, 20, 113, 114, 115, 116, 117, 118, 119] (by decide +kernel) (by decide +kernel)
set_option maxRecDepth 20000 in
theorem gX9_leave_X6_isThere : GoodIn wsX9_leave (wsV RX9 92 RX6 yX6_isThere wsX6_isThere) := goodIn_app (goodIn_of _ (by decide +kernel)) ggX9_leave_X6_isThere
set_option maxRecDepth 20000 in
theorem ggX9_leave_X1_keep : GoodIn wsX9_leave wsX1_keep := goodIn_r _ [25, 26, 27, 28, 29, 30, 31, 32, 33, 34, 35, 36, 37, 38, 39, 40, 41, 42, 43, 44, 45, 46, 8, 47, 10, 18, 48, 49, 50, 51, 52, 53, 12, 54, 55, 56, 57, 58, 59, 60, 61, 62, 63, 64, 65, 66, 67, 68, 69, 70, 71, 72, 73, 74, 75, 76, 77, 78, 79, 80, 81, 82, 83, 84, 85, 86, 87, 88, 120, 121, 122, 107, 108, 109, 110, 111, 112, 113, 114, 115, 116, 117, 118, 119, 123, 124, 125, 126, 127, 128, 129, 130, 131, 132, 133, 134, 135, 136] (by decide +kernel) (by decide +kernel)
set_option maxRecDepth 20000 in
theorem gX9_leave_X1_keep : GoodIn wsX9_leave (wsV RX9 66 RX1 yX1_keep wsX1_keep) := goodIn_app (goodIn_of _ (by decide +kernel)) ggX9_leave_X1_keep
set_option maxRecDepth 20000 in
theorem ggX9_leave_X6_setThere : GoodIn wsX9_leave wsX6_setThere := goodIn_r _ [92, 18, 113, 114, 115, 116, 117, 118, 119] (by decide +kernel) (by decide +kernel)
set_option maxRecDepth 20000 in
theorem gX9_leave_X6_setThere : GoodIn wsX9_leave (wsV RX9 95 RX6 yX6_setThere wsX6_setThere) := goodIn_app (goodIn_of _ (by decide +kernel)) ggX9_leave_X6_setThere
set_option maxRecDepth 20000 in
theorem ggX9_leave_J6_bitCount_0f7a4 : GoodIn wsX9_leave wsJ6_bitCount_0f7a4 := goodIn_r _ [96, 97, 98, 99] (by decide +kernel) (by decide +kernel)
set_option maxRecDepth 20000 in
theorem gX9_leave_J6_bitCount_0f7a4 : GoodIn wsX9_leave (va_wsS RX9 102 yJ6_bitCount_0f7a4 wsJ6_bitCount_0f7a4) := goodIn_app (goodIn_of _ (by decide +kernel)) ggX9_leave_J6_bitCount_0f7a4
theorem dX9_leave_0 : decode cX9_leave 0 = .ok (.aload_n 0, 1) := by decide +kernel
theorem dX9_leave_1 : decode cX9_leave 1 = .ok (.getfield 12, 3) := by decide +kernel
theorem dX9_leave_4 : decode cX9_leave 4 = .ok (.getfield 56, 3) := by decide +kernel
theorem dX9_leave_7 : decode cX9_leave 7 = .ok (.iload_n 1, 1) := by decide +kernel
theorem dX9_leave_8 : decode cX9_leave 8 = .ok (.invokevirtual 88, 3) := by decide +kernel
theorem dX9_leave_11 : decode cX9_leave 11 = .ok (.ifCond .ne 5, 3) := by decide +kernel
theorem dX9_leave_14 : decode cX9_leave 14 = .ok (.iconst (-1), 1) := by decide +kernel
theorem dX9_leave_15 : decode cX9_leave 15 = .ok (.ireturn, 1) := by decide +kernel
theorem dX9_leave_16 : decode cX9_leave 16 = .ok (.iload_n 2, 1) := by decide +kernel
theorem dX9_leave_17 : decode cX9_leave 17 = .ok (.aload_n 0, 1) := by decide +kernel
theorem dX9_leave_18 : decode cX9_leave 18 = .ok (.getfield 12, 3) := by decide +kernel
theorem dX9_leave_21 : decode cX9_leave 21 = .ok (.getfield 56, 3) := by decide +kernel
theorem dX9_leave_24 : decode cX9_leave 24 = .ok (.iload_n 1, 1) := by decide +kernel
theorem dX9_leave_25 : decode cX9_leave 25 = .ok (.invokevirtual 92, 3) := by decide +kernel
theorem dX9_leave_28 : decode cX9_leave 28 = .ok (.if_icmp .eq 6, 3) := by decide +kernel
theorem dX9_leave_31 : decode cX9_leave 31 = .ok (.bipush (-5), 2) := by decide +kernel
theorem dX9_leave_33 : decode cX9_leave 33 = .ok (.ireturn, 1) := by decide +kernel
theorem dX9_leave_34 : decode cX9_leave 34 = .ok (.aload_n 0, 1) := by decide +kernel
theorem dX9_leave_35 : decode cX9_leave 35 = .ok (.getfield 19, 3) := by decide +kernel
theorem dX9_leave_38 : decode cX9_leave 38 = .ok (.aload_n 0, 1) := by decide +kernel
theorem dX9_leave_39 : decode cX9_leave 39 = .ok (.getfield 12, 3) := by decide +kernel
theorem dX9_leave_42 : decode cX9_leave 42 = .ok (.invokevirtual 66, 3) := by decide +kernel
theorem dX9_leave_45 : decode cX9_leave 45 = .ok (.aload_n 0, 1) := by decide +kernel
theorem dX9_leave_46 : decode cX9_leave 46 = .ok (.getfield 12, 3) := by decide +kernel
theorem dX9_leave_49 : decode cX9_leave 49 = .ok (.getfield 56, 3) := by decide +kernel
theorem dX9_leave_52 : decode cX9_leave 52 = .ok (.iload_n 1, 1) := by decide +kernel
theorem dX9_leave_53 : decode cX9_leave 53 = .ok (.iload_n 2, 1) := by decide +kernel
theorem dX9_leave_54 : decode cX9_leave 54 = .ok (.ifCond .ne 7, 3) := by decide +kernel
theorem dX9_leave_57 : decode cX9_leave 57 = .ok (.iconst 1, 1) := by decide +kernel
theorem dX9_leave_58 : decode cX9_leave 58 = .ok (.goto 4, 3) := by decide +kernel
theorem dX9_leave_61 : decode cX9_leave 61 = .ok (.iconst 0, 1) := by decide +kernel
theorem dX9_leave_62 : decode cX9_leave 62 = .ok (.invokevirtual 95, 3) := by decide +kernel
theorem dX9_leave_65 : decode cX9_leave 65 = .ok (.aload_n 0, 1) := by decide +kernel
theorem dX9_leave_66 : decode cX9_leave 66 = .ok (.getfield 12, 3) := by decide +kernel
theorem dX9_leave_69 : decode cX9_leave 69 = .ok (.getfield 56, 3) := by decide +kernel
theorem dX9_leave_72 : decode cX9_leave 72 = .ok (.getfield 99, 3) := by decide +kernel
theorem dX9_leave_75 : decode cX9_leave 75 = .ok (.invokestatic 102, 3) := by decide +kernel
theorem dX9_leave_78 : decode cX9_leave 78 = .ok (.ireturn, 1) := by decide +kernel
set_option maxRecDepth 20000 in
theorem ggX9_wish_X0_errorOfWish : GoodIn wsX9_wish wsX0_errorOfWish := goodIn_r _ [9, 10, 11, 12, 8, 13, 14, 15, 16, 17, 18, 19, 20, 21, 22, 23, 24, 25, 26, 27, 28, 29, 30, 31, 32, 33, 34, 35, 36, 37, 38, 39, 40, 41, 42, 43, 44, 45, 46, 47, 48, 49, 50, 51, 52, 53, 124, 125, 126, 127, 128, 129, 134, 135, 136, 137, 138, 139, 140, 141, 142, 143, 144, 145] (by decide +kernel) (by decide +kernel)
set_option maxRecDepth 20000 in
theorem gX9_wish_X0_errorOfWish : GoodIn wsX9_wish (wsV RX9 115 RX0 yX0_errorOfWish wsX0_errorOfWish) := goodIn_app (goodIn_of _ (by decide +kernel)) ggX9_wish_X0_errorOfWish
set_option maxRecDepth 20000 in
theorem ggX9_wish_X1_keep : GoodIn wsX9_wish wsX1_keep := goodIn_r _ [58, 59, 60, 61, 62, 42, 39, 43, 63, 64, 65, 8, 66, 14, 15, 67, 68, 69, 70, 71, 72, 73, 19, 74, 21, 75, 76, 77, 78, 79, 80, 81, 23, 82, 83, 84, 85, 86, 87, 88, 89, 90, 28, 91, 30, 52, 53, 92, 93, 94, 95, 96, 97, 98, 99, 100, 101, 102, 103, 104, 105, 106, 107, 108, 109, 110, 111, 112, 146, 147, 148, 124, 125, 126, 127, 128, 129, 134, 135, 136, 137, 138, 139, 140, 141, 142, 143, 144, 145, 130, 131, 132, 133, 149, 150, 151, 152, 153] (by decide +kernel) (by decide +kernel)
set_option maxRecDepth 20000 in
theorem gX9_wish_X1_keep : GoodIn wsX9_wish (wsV RX9 66 RX1 yX1_keep wsX1_keep) := goodIn_app (goodIn_of _ (by decide +kernel)) ggX9_wish_X1_keep
set_option maxRecDepth 20000 in
theorem ggX9_wish_X8_add : GoodIn wsX9_wish wsX8_add := goodIn_r _ [116, 99, 100, 101, 102, 130, 131, 132, 133] (by decide +kernel) (by decide +kernel)
set_option maxRecDepth 20000 in
theorem gX9_wish_X8_add : GoodIn wsX9_wish (wsV RX9 119 RX8 yX8_add wsX8_add) := goodIn_app (goodIn_of _ (by decide +kernel)) ggX9_wish_X8_add
theorem dX9_wish_0 : decode cX9_wish 0 = .ok (.aload_n 0, 1) := by decide +kernel
theorem dX9_wish_1 : decode cX9_wish 1 = .ok (.getfield 12, 3) := by decide +kernel
theorem dX9_wish_4 : decode cX9_wish 4 = .ok (.iload_n 1, 1) := by decide +kernel
theorem dX9_wish_5 : decode cX9_wish 5 = .ok (.iload_n 2, 1) := by decide +kernel
theorem dX9_wish_6 : decode cX9_wish 6 = .ok (.iload_n 3, 1) := by decide +kernel
theorem dX9_wish_7 : decode cX9_wish 7 = .ok (.aload_n 0, 1) := by decide +kernel
theorem dX9_wish_8 : decode cX9_wish 8 = .ok (.getfield 12, 3) := by decide +kernel
theorem dX9_wish_11 : decode cX9_wish 11 = .ok (.getfield 108, 3) := by decide +kernel
theorem dX9_wish_14 : decode cX9_wish 14 = .ok (.getfield 112, 3) := by decide +kernel
theorem dX9_wish_17 : decode cX9_wish 17 = .ok (.invokevirtual 115, 3) := by decide +kernel
theorem dX9_wish_20 : decode cX9_wish 20 = .ok (.istore 4, 2) := by decide +kernel
theorem dX9_wish_22 : decode cX9_wish 22 = .ok (.iload 4, 2) := by decide +kernel
theorem dX9_wish_24 : decode cX9_wish 24 = .ok (.ifCond .eq 6, 3) := by decide +kernel
theorem dX9_wish_27 : decode cX9_wish 27 = .ok (.iload 4, 2) := by decide +kernel
theorem dX9_wish_29 : decode cX9_wish 29 = .ok (.ireturn, 1) := by decide +kernel
theorem dX9_wish_30 : decode cX9_wish 30 = .ok (.aload_n 0, 1) := by decide +kernel
theorem dX9_wish_31 : decode cX9_wish 31 = .ok (.getfield 19, 3) := by decide +kernel
theorem dX9_wish_34 : decode cX9_wish 34 = .ok (.aload_n 0, 1) := by decide +kernel
theorem dX9_wish_35 : decode cX9_wish 35 = .ok (.getfield 12, 3) := by decide +kernel
theorem dX9_wish_38 : decode cX9_wish 38 = .ok (.invokevirtual 66, 3) := by decide +kernel
theorem dX9_wish_41 : decode cX9_wish 41 = .ok (.aload_n 0, 1) := by decide +kernel
theorem dX9_wish_42 : decode cX9_wish 42 = .ok (.getfield 12, 3) := by decide +kernel
theorem dX9_wish_45 : decode cX9_wish 45 = .ok (.getfield 108, 3) := by decide +kernel
theorem dX9_wish_48 : decode cX9_wish 48 = .ok (.iload_n 1, 1) := by decide +kernel
theorem dX9_wish_49 : decode cX9_wish 49 = .ok (.iload_n 2, 1) := by decide +kernel
theorem dX9_wish_50 : decode cX9_wish 50 = .ok (.iload_n 3, 1) := by decide +kernel
theorem dX9_wish_51 : decode cX9_wish 51 = .ok (.invokevirtual 119, 3) := by decide +kernel
theorem dX9_wish_54 : decode cX9_wish 54 = .ok (.ireturn, 1) := by decide +kernel
set_option maxRecDepth 20000 in
theorem ggX9_takeBack_X8_has : GoodIn wsX9_takeBack wsX8_has := goodIn_r _ [9, 10, 11, 12, 13, 100, 101, 102, 103] (by decide +kernel) (by decide +kernel)
set_option maxRecDepth 20000 in
theorem gX9_takeBack_X8_has : GoodIn wsX9_takeBack (wsV RX9 120 RX8 yX8_has wsX8_has) := goodIn_app (goodIn_of _ (by decide +kernel)) ggX9_takeBack_X8_has
set_option maxRecDepth 20000 in
theorem ggX9_takeBack_X1_keep : GoodIn wsX9_takeBack wsX1_keep := goodIn_r _ [18, 19, 20, 21, 22, 23, 24, 25, 26, 27, 28, 29, 30, 31, 32, 33, 34, 35, 36, 37, 38, 39, 40, 41, 42, 43, 44, 45, 46, 47, 48, 49, 12, 50, 51, 52, 53, 54, 55, 56, 57, 58, 59, 60, 61, 62, 63, 64, 65, 66, 67, 68, 8, 69, 10, 70, 71, 72, 73, 74, 75, 76, 77, 78, 79, 80, 81, 82, 104, 105, 106, 94, 95, 96, 97, 98, 99, 107, 108, 109, 110, 111, 112, 113, 114, 115, 116, 117, 118, 100, 101, 102, 103, 119, 120, 121, 122, 123] (by decide +kernel) (by decide +kernel)
set_option maxRecDepth 20000 in
theorem gX9_takeBack_X1_keep : GoodIn wsX9_takeBack (wsV RX9 66 RX1 yX1_keep wsX1_keep) := goodIn_app (goodIn_of _ (by decide +kernel)) ggX9_takeBack_X1_keep
set_option maxRecDepth 20000 in
theorem ggX9_takeBack_X8_removeAt : GoodIn wsX9_takeBack wsX8_removeAt := goodIn_r _ [86, 10, 70, 71, 72, 100, 101, 102, 103] (by decide +kernel) (by decide +kernel)
set_option maxRecDepth 20000 in
theorem gX9_takeBack_X8_removeAt : GoodIn wsX9_takeBack (wsV RX9 121 RX8 yX8_removeAt wsX8_removeAt) := goodIn_app (goodIn_of _ (by decide +kernel)) ggX9_takeBack_X8_removeAt
theorem dX9_takeBack_0 : decode cX9_takeBack 0 = .ok (.aload_n 0, 1) := by decide +kernel
theorem dX9_takeBack_1 : decode cX9_takeBack 1 = .ok (.getfield 12, 3) := by decide +kernel
theorem dX9_takeBack_4 : decode cX9_takeBack 4 = .ok (.getfield 108, 3) := by decide +kernel
theorem dX9_takeBack_7 : decode cX9_takeBack 7 = .ok (.iload_n 1, 1) := by decide +kernel
theorem dX9_takeBack_8 : decode cX9_takeBack 8 = .ok (.invokevirtual 120, 3) := by decide +kernel
theorem dX9_takeBack_11 : decode cX9_takeBack 11 = .ok (.ifCond .ne 5, 3) := by decide +kernel
theorem dX9_takeBack_14 : decode cX9_takeBack 14 = .ok (.iconst (-1), 1) := by decide +kernel
theorem dX9_takeBack_15 : decode cX9_takeBack 15 = .ok (.ireturn, 1) := by decide +kernel
theorem dX9_takeBack_16 : decode cX9_takeBack 16 = .ok (.aload_n 0, 1) := by decide +kernel
theorem dX9_takeBack_17 : decode cX9_takeBack 17 = .ok (.getfield 19, 3) := by decide +kernel
theorem dX9_takeBack_20 : decode cX9_takeBack 20 = .ok (.aload_n 0, 1) := by decide +kernel
theorem dX9_takeBack_21 : decode cX9_takeBack 21 = .ok (.getfield 12, 3) := by decide +kernel
theorem dX9_takeBack_24 : decode cX9_takeBack 24 = .ok (.invokevirtual 66, 3) := by decide +kernel
theorem dX9_takeBack_27 : decode cX9_takeBack 27 = .ok (.aload_n 0, 1) := by decide +kernel
theorem dX9_takeBack_28 : decode cX9_takeBack 28 = .ok (.getfield 12, 3) := by decide +kernel
theorem dX9_takeBack_31 : decode cX9_takeBack 31 = .ok (.getfield 108, 3) := by decide +kernel
theorem dX9_takeBack_34 : decode cX9_takeBack 34 = .ok (.iload_n 1, 1) := by decide +kernel
theorem dX9_takeBack_35 : decode cX9_takeBack 35 = .ok (.invokevirtual 121, 3) := by decide +kernel
theorem dX9_takeBack_38 : decode cX9_takeBack 38 = .ok (.aload_n 0, 1) := by decide +kernel
theorem dX9_takeBack_39 : decode cX9_takeBack 39 = .ok (.getfield 12, 3) := by decide +kernel
theorem dX9_takeBack_42 : decode cX9_takeBack 42 = .ok (.getfield 108, 3) := by decide +kernel
theorem dX9_takeBack_45 : decode cX9_takeBack 45 = .ok (.getfield 112, 3) := by decide +kernel
theorem dX9_takeBack_48 : decode cX9_takeBack 48 = .ok (.ireturn, 1) := by decide +kernel
set_option maxRecDepth 20000 in
theorem ggX9_sing_X9_isBetween : GoodIn wsX9_sing wsX9_isBetween := goodIn_r _ [6] (by decide +kernel) (by decide +kernel)
set_option maxRecDepth 20000 in
theorem gX9_sing_X9_isBetween : GoodIn wsX9_sing (va_wsS RX9 74 yX9_isBetween wsX9_isBetween) := goodIn_app (goodIn_of _ (by decide +kernel)) ggX9_sing_X9_isBetween
set_option maxRecDepth 20000 in
theorem ggX9_sing_X1_keep : GoodIn wsX9_sing wsX1_keep := goodIn_r _ [11, 12, 13, 14, 15, 16, 17, 18, 19, 20, 21, 22, 23, 24, 25, 26, 27, 28, 29, 30, 31, 32, 33, 34, 35, 36, 37, 38, 39, 40, 41, 42, 5, 43, 44, 45, 46, 47, 48, 49, 50, 51, 52, 53, 54, 55, 56, 57, 58, 59, 60, 61, 62, 63, 64, 65, 66, 67, 68, 69, 70, 71, 72, 73, 74, 75, 76, 77, 152, 153, 154, 155, 156, 157, 158, 159, 160, 161, 162, 163, 164, 165, 166, 167, 168, 169, 170, 171, 172, 173, 174, 175, 176, 177, 178, 179, 180, 181] (by decide +kernel) (by decide +kernel)
set_option maxRecDepth 20000 in
theorem gX9_sing_X1_keep : GoodIn wsX9_sing (wsV RX9 66 RX1 yX1_keep wsX1_keep) := goodIn_app (goodIn_of _ (by decide +kernel)) ggX9_sing_X1_keep
set_option maxRecDepth 20000 in
theorem ggX9_sing_X0_nextWish : GoodIn wsX9_sing wsX0_nextWish := goodIn_r _ [81, 26, 24, 82, 83, 84, 85, 86, 87, 62, 88, 89, 90, 91, 92, 64, 93, 94, 95, 96, 65, 66, 97, 98, 99, 100, 101, 102, 103, 104, 105, 106, 107, 108, 109, 5, 110, 111, 112, 113, 114, 115, 116, 17, 117, 155, 156, 157, 158, 159, 160, 161, 162, 163, 164, 165, 166, 167, 173, 174, 175, 176] (by decide +kernel) (by decide +kernel)
set_option maxRecDepth 20000 in
theorem gX9_sing_X0_nextWish : GoodIn wsX9_sing (wsV RX9 125 RX0 yX0_nextWish wsX0_nextWish) := goodIn_app (goodIn_of _ (by decide +kernel)) ggX9_sing_X0_nextWish
set_option maxRecDepth 20000 in
theorem ggX9_sing_X0_singTurn : GoodIn wsX9_sing wsX0_singTurn := goodIn_r _ [121, 26, 122, 27, 123, 124, 28, 24, 25, 125, 29, 126, 127, 128, 22, 129, 130, 131, 132, 133, 71, 134, 73, 135, 16, 17, 18, 74, 75, 76, 77, 136, 94, 95, 62, 96, 65, 66, 137, 138, 139, 33, 140, 35, 40, 41, 37, 109, 5, 110, 141, 142, 143, 144, 64, 67, 155, 156, 157, 158, 159, 160, 173, 174, 175, 176, 168, 169, 170, 171, 172, 177, 178, 179, 180, 181, 161, 162, 163, 164, 165, 166, 167] (by decide +kernel) (by decide +kernel)
set_option maxRecDepth 20000 in
theorem gX9_sing_X0_singTurn : GoodIn wsX9_sing (wsV RX9 129 RX0 yX0_singTurn wsX0_singTurn) := goodIn_app (goodIn_of _ (by decide +kernel)) ggX9_sing_X0_singTurn
theorem dX9_sing_0 : decode cX9_sing 0 = .ok (.iload_n 1, 1) := by decide +kernel
theorem dX9_sing_1 : decode cX9_sing 1 = .ok (.iconst 1, 1) := by decide +kernel
theorem dX9_sing_2 : decode cX9_sing 2 = .ok (.bipush 20, 2) := by decide +kernel
theorem dX9_sing_4 : decode cX9_sing 4 = .ok (.invokestatic 74, 3) := by decide +kernel
theorem dX9_sing_7 : decode cX9_sing 7 = .ok (.ifCond .ne 6, 3) := by decide +kernel
theorem dX9_sing_10 : decode cX9_sing 10 = .ok (.bipush (-2), 2) := by decide +kernel
theorem dX9_sing_12 : decode cX9_sing 12 = .ok (.ireturn, 1) := by decide +kernel
theorem dX9_sing_13 : decode cX9_sing 13 = .ok (.aload_n 0, 1) := by decide +kernel
theorem dX9_sing_14 : decode cX9_sing 14 = .ok (.getfield 19, 3) := by decide +kernel
theorem dX9_sing_17 : decode cX9_sing 17 = .ok (.aload_n 0, 1) := by decide +kernel
theorem dX9_sing_18 : decode cX9_sing 18 = .ok (.getfield 12, 3) := by decide +kernel
theorem dX9_sing_21 : decode cX9_sing 21 = .ok (.invokevirtual 66, 3) := by decide +kernel
theorem dX9_sing_24 : decode cX9_sing 24 = .ok (.iconst 0, 1) := by decide +kernel
theorem dX9_sing_25 : decode cX9_sing 25 = .ok (.istore_n 2, 1) := by decide +kernel
theorem dX9_sing_26 : decode cX9_sing 26 = .ok (.iload_n 2, 1) := by decide +kernel
theorem dX9_sing_27 : decode cX9_sing 27 = .ok (.iload_n 1, 1) := by decide +kernel
theorem dX9_sing_28 : decode cX9_sing 28 = .ok (.if_icmp .ge 33, 3) := by decide +kernel
theorem dX9_sing_31 : decode cX9_sing 31 = .ok (.aload_n 0, 1) := by decide +kernel
theorem dX9_sing_32 : decode cX9_sing 32 = .ok (.getfield 12, 3) := by decide +kernel
theorem dX9_sing_35 : decode cX9_sing 35 = .ok (.invokevirtual 125, 3) := by decide +kernel
theorem dX9_sing_38 : decode cX9_sing 38 = .ok (.istore_n 3, 1) := by decide +kernel
theorem dX9_sing_39 : decode cX9_sing 39 = .ok (.iload_n 3, 1) := by decide +kernel
theorem dX9_sing_40 : decode cX9_sing 40 = .ok (.bipush (-6), 2) := by decide +kernel
theorem dX9_sing_42 : decode cX9_sing 42 = .ok (.if_icmp .ne 5, 3) := by decide +kernel
theorem dX9_sing_45 : decode cX9_sing 45 = .ok (.iload_n 2, 1) := by decide +kernel
theorem dX9_sing_46 : decode cX9_sing 46 = .ok (.ireturn, 1) := by decide +kernel
theorem dX9_sing_47 : decode cX9_sing 47 = .ok (.aload_n 0, 1) := by decide +kernel
theorem dX9_sing_48 : decode cX9_sing 48 = .ok (.getfield 12, 3) := by decide +kernel
theorem dX9_sing_51 : decode cX9_sing 51 = .ok (.iload_n 3, 1) := by decide +kernel
theorem dX9_sing_52 : decode cX9_sing 52 = .ok (.invokevirtual 129, 3) := by decide +kernel
theorem dX9_sing_55 : decode cX9_sing 55 = .ok (.iinc 2 1, 3) := by decide +kernel
theorem dX9_sing_58 : decode cX9_sing 58 = .ok (.goto (-32), 3) := by decide +kernel
theorem dX9_sing_61 : decode cX9_sing 61 = .ok (.iload_n 1, 1) := by decide +kernel
theorem dX9_sing_62 : decode cX9_sing 62 = .ok (.ireturn, 1) := by decide +kernel
set_option maxRecDepth 20000 in
theorem ggX9_of_X6_has : GoodIn wsX9_of wsX6_has := goodIn_r _ [13, 14, 15, 16, 17, 54, 55, 56, 57, 58, 59, 60] (by decide +kernel) (by decide +kernel)
set_option maxRecDepth 20000 in
theorem gX9_of_X6_has : GoodIn wsX9_of (wsV RX9 88 RX6 yX6_has wsX6_has) := goodIn_app (goodIn_of _ (by decide +kernel)) ggX9_of_X6_has
set_option maxRecDepth 20000 in
theorem ggX9_of_X6_isThere : GoodIn wsX9_of wsX6_isThere := goodIn_r _ [21, 22, 23, 16, 24, 54, 55, 56, 57, 58, 59, 60] (by decide +kernel) (by decide +kernel)
set_option maxRecDepth 20000 in
theorem gX9_of_X6_isThere : GoodIn wsX9_of (wsV RX9 92 RX6 yX6_isThere wsX6_isThere) := goodIn_app (goodIn_of _ (by decide +kernel)) ggX9_of_X6_isThere
set_option maxRecDepth 20000 in
theorem ggX9_of_X9_asNumber : GoodIn wsX9_of wsX9_asNumber := goodIn_r _ [27] (by decide +kernel) (by decide +kernel)
set_option maxRecDepth 20000 in
theorem gX9_of_X9_asNumber : GoodIn wsX9_of (va_wsS RX9 159 yX9_asNumber wsX9_asNumber) := goodIn_app (goodIn_of _ (by decide +kernel)) ggX9_of_X9_asNumber
set_option maxRecDepth 20000 in
theorem ggX9_of_X9_isIn : GoodIn wsX9_of wsX9_isIn := goodIn_r _ [24] (by decide +kernel) (by decide +kernel)
set_option maxRecDepth 20000 in
theorem gX9_of_X9_isIn : GoodIn wsX9_of (va_wsS RX9 169 yX9_isIn wsX9_isIn) := goodIn_app (goodIn_of _ (by decide +kernel)) ggX9_of_X9_isIn
set_option maxRecDepth 20000 in
theorem ggX9_of_X8_numberWith : GoodIn wsX9_of wsX8_numberWith := goodIn_r _ [33, 34, 35, 36, 37, 32, 38, 39, 40, 23, 16, 24, 61, 62, 63, 64] (by decide +kernel) (by decide +kernel)
set_option maxRecDepth 20000 in
theorem gX9_of_X8_numberWith : GoodIn wsX9_of (wsV RX9 172 RX8 yX8_numberWith wsX8_numberWith) := goodIn_app (goodIn_of _ (by decide +kernel)) ggX9_of_X8_numberWith
theorem dX9_of_0 : decode cX9_of 0 = .ok (.aload_n 0, 1) := by decide +kernel
theorem dX9_of_1 : decode cX9_of 1 = .ok (.getfield 12, 3) := by decide +kernel
theorem dX9_of_4 : decode cX9_of 4 = .ok (.getfield 56, 3) := by decide +kernel
theorem dX9_of_7 : decode cX9_of 7 = .ok (.astore_n 3, 1) := by decide +kernel
theorem dX9_of_8 : decode cX9_of 8 = .ok (.aload_n 3, 1) := by decide +kernel
theorem dX9_of_9 : decode cX9_of 9 = .ok (.iload_n 1, 1) := by decide +kernel
theorem dX9_of_10 : decode cX9_of 10 = .ok (.invokevirtual 88, 3) := by decide +kernel
theorem dX9_of_13 : decode cX9_of 13 = .ok (.ifCond .ne 5, 3) := by decide +kernel
theorem dX9_of_16 : decode cX9_of 16 = .ok (.iconst (-1), 1) := by decide +kernel
theorem dX9_of_17 : decode cX9_of 17 = .ok (.ireturn, 1) := by decide +kernel
theorem dX9_of_18 : decode cX9_of 18 = .ok (.iload_n 2, 1) := by decide +kernel
theorem dX9_of_19 : decode cX9_of 19 = .ok (.tableswitch 102 0 6 #[41, 48, 55, 64, 71, 83, 95], 41) := by decide +kernel
theorem dX9_of_60 : decode cX9_of 60 = .ok (.aload_n 3, 1) := by decide +kernel
theorem dX9_of_61 : decode cX9_of 61 = .ok (.getfield 153, 3) := by decide +kernel
theorem dX9_of_64 : decode cX9_of 64 = .ok (.iload_n 1, 1) := by decide +kernel
theorem dX9_of_65 : decode cX9_of 65 = .ok (.iaload, 1) := by decide +kernel
theorem dX9_of_66 : decode cX9_of 66 = .ok (.ireturn, 1) := by decide +kernel
theorem dX9_of_67 : decode cX9_of 67 = .ok (.aload_n 3, 1) := by decide +kernel
theorem dX9_of_68 : decode cX9_of 68 = .ok (.getfield 156, 3) := by decide +kernel
theorem dX9_of_71 : decode cX9_of 71 = .ok (.iload_n 1, 1) := by decide +kernel
theorem dX9_of_72 : decode cX9_of 72 = .ok (.iaload, 1) := by decide +kernel
theorem dX9_of_73 : decode cX9_of 73 = .ok (.ireturn, 1) := by decide +kernel
theorem dX9_of_74 : decode cX9_of 74 = .ok (.aload_n 3, 1) := by decide +kernel
theorem dX9_of_75 : decode cX9_of 75 = .ok (.iload_n 1, 1) := by decide +kernel
theorem dX9_of_76 : decode cX9_of 76 = .ok (.invokevirtual 92, 3) := by decide +kernel
theorem dX9_of_79 : decode cX9_of 79 = .ok (.invokestatic 159, 3) := by decide +kernel
theorem dX9_of_82 : decode cX9_of 82 = .ok (.ireturn, 1) := by decide +kernel
theorem dX9_of_83 : decode cX9_of 83 = .ok (.aload_n 3, 1) := by decide +kernel
theorem dX9_of_84 : decode cX9_of 84 = .ok (.getfield 163, 3) := by decide +kernel
theorem dX9_of_87 : decode cX9_of 87 = .ok (.iload_n 1, 1) := by decide +kernel
theorem dX9_of_88 : decode cX9_of 88 = .ok (.iaload, 1) := by decide +kernel
theorem dX9_of_89 : decode cX9_of 89 = .ok (.ireturn, 1) := by decide +kernel
theorem dX9_of_90 : decode cX9_of 90 = .ok (.aload_n 3, 1) := by decide +kernel
theorem dX9_of_91 : decode cX9_of 91 = .ok (.getfield 166, 3) := by decide +kernel
theorem dX9_of_94 : decode cX9_of 94 = .ok (.iload_n 1, 1) := by decide +kernel
theorem dX9_of_95 : decode cX9_of 95 = .ok (.invokestatic 169, 3) := by decide +kernel
theorem dX9_of_98 : decode cX9_of 98 = .ok (.invokestatic 159, 3) := by decide +kernel
theorem dX9_of_101 : decode cX9_of 101 = .ok (.ireturn, 1) := by decide +kernel
theorem dX9_of_102 : decode cX9_of 102 = .ok (.aload_n 0, 1) := by decide +kernel
theorem dX9_of_103 : decode cX9_of 103 = .ok (.getfield 12, 3) := by decide +kernel
theorem dX9_of_106 : decode cX9_of 106 = .ok (.getfield 108, 3) := by decide +kernel
theorem dX9_of_109 : decode cX9_of 109 = .ok (.iload_n 1, 1) := by decide +kernel
theorem dX9_of_110 : decode cX9_of 110 = .ok (.invokevirtual 172, 3) := by decide +kernel
theorem dX9_of_113 : decode cX9_of 113 = .ok (.ireturn, 1) := by decide +kernel
theorem dX9_of_114 : decode cX9_of 114 = .ok (.aload_n 3, 1) := by decide +kernel
theorem dX9_of_115 : decode cX9_of 115 = .ok (.getfield 175, 3) := by decide +kernel
theorem dX9_of_118 : decode cX9_of 118 = .ok (.iload_n 1, 1) := by decide +kernel
theorem dX9_of_119 : decode cX9_of 119 = .ok (.iaload, 1) := by decide +kernel
theorem dX9_of_120 : decode cX9_of 120 = .ok (.ireturn, 1) := by decide +kernel
theorem dX9_of_121 : decode cX9_of 121 = .ok (.bipush (-2), 2) := by decide +kernel
theorem dX9_of_123 : decode cX9_of 123 = .ok (.ireturn, 1) := by decide +kernel
set_option maxRecDepth 20000 in
theorem ggX9_inQueue_X8_has : GoodIn wsX9_inQueue wsX8_has := goodIn_r _ [14, 15, 16, 17, 18, 88, 89, 90, 91] (by decide +kernel) (by decide +kernel)
set_option maxRecDepth 20000 in
theorem gX9_inQueue_X8_has : GoodIn wsX9_inQueue (wsV RX9 120 RX8 yX8_has wsX8_has) := goodIn_app (goodIn_of _ (by decide +kernel)) ggX9_inQueue_X8_has
set_option maxRecDepth 20000 in
theorem ggX9_inQueue_X0_keyAndTen : GoodIn wsX9_inQueue wsX0_keyAndTen := goodIn_r _ [23, 24, 25, 26, 27, 28, 29, 30, 31, 32, 33, 34, 35, 36, 37, 38, 39, 40, 41, 42, 43, 44, 45, 82, 83, 84, 85, 86, 87, 92, 93, 94, 95, 96, 97, 98, 99, 100, 101, 102, 103] (by decide +kernel) (by decide +kernel)
set_option maxRecDepth 20000 in
theorem gX9_inQueue_X0_keyAndTen : GoodIn wsX9_inQueue (wsV RX9 181 RX0 yX0_keyAndTen wsX0_keyAndTen) := goodIn_app (goodIn_of _ (by decide +kernel)) ggX9_inQueue_X0_keyAndTen
set_option maxRecDepth 20000 in
theorem ggX9_inQueue_X8_readyOnes : GoodIn wsX9_inQueue wsX8_readyOnes := goodIn_r _ [49, 50, 51, 52, 13, 53, 15, 54, 55, 56, 57, 58, 59, 88, 89, 90, 91] (by decide +kernel) (by decide +kernel)
set_option maxRecDepth 20000 in
theorem gX9_inQueue_X8_readyOnes : GoodIn wsX9_inQueue (wsV RX9 184 RX8 yX8_readyOnes wsX8_readyOnes) := goodIn_app (goodIn_of _ (by decide +kernel)) ggX9_inQueue_X8_readyOnes
set_option maxRecDepth 20000 in
theorem ggX9_inQueue_X9_isIn : GoodIn wsX9_inQueue wsX9_isIn := goodIn_r _ [62] (by decide +kernel) (by decide +kernel)
set_option maxRecDepth 20000 in
theorem gX9_inQueue_X9_isIn : GoodIn wsX9_inQueue (va_wsS RX9 169 yX9_isIn wsX9_isIn) := goodIn_app (goodIn_of _ (by decide +kernel)) ggX9_inQueue_X9_isIn
set_option maxRecDepth 20000 in
theorem ggX9_inQueue_X9_asNumber : GoodIn wsX9_inQueue wsX9_asNumber := goodIn_r _ [65] (by decide +kernel) (by decide +kernel)
set_option maxRecDepth 20000 in
theorem gX9_inQueue_X9_asNumber : GoodIn wsX9_inQueue (va_wsS RX9 159 yX9_asNumber wsX9_asNumber) := goodIn_app (goodIn_of _ (by decide +kernel)) ggX9_inQueue_X9_asNumber
set_option maxRecDepth 20000 in
theorem ggX9_inQueue_X8_freshOnes : GoodIn wsX9_inQueue wsX8_freshOnes := goodIn_r _ [69, 50, 51, 52, 13, 53, 15, 54, 55, 56, 57, 58, 59, 88, 89, 90, 91] (by decide +kernel) (by decide +kernel)
set_option maxRecDepth 20000 in
theorem gX9_inQueue_X8_freshOnes : GoodIn wsX9_inQueue (wsV RX9 187 RX8 yX8_freshOnes wsX8_freshOnes) := goodIn_app (goodIn_of _ (by decide +kernel)) ggX9_inQueue_X8_freshOnes
set_option maxRecDepth 20000 in
theorem ggX9_inQueue_X8_turnsFor : GoodIn wsX9_inQueue wsX8_turnsFor := goodIn_r _ [73, 58, 59, 74, 28, 29, 30, 88, 89, 90, 91] (by decide +kernel) (by decide +kernel)
set_option maxRecDepth 20000 in
theorem gX9_inQueue_X8_turnsFor : GoodIn wsX9_inQueue (wsV RX9 190 RX8 yX8_turnsFor wsX8_turnsFor) := goodIn_app (goodIn_of _ (by decide +kernel)) ggX9_inQueue_X8_turnsFor
theorem dX9_inQueue_0 : decode cX9_inQueue 0 = .ok (.aload_n 0, 1) := by decide +kernel
theorem dX9_inQueue_1 : decode cX9_inQueue 1 = .ok (.getfield 12, 3) := by decide +kernel
theorem dX9_inQueue_4 : decode cX9_inQueue 4 = .ok (.getfield 108, 3) := by decide +kernel
theorem dX9_inQueue_7 : decode cX9_inQueue 7 = .ok (.astore_n 3, 1) := by decide +kernel
theorem dX9_inQueue_8 : decode cX9_inQueue 8 = .ok (.aload_n 3, 1) := by decide +kernel
theorem dX9_inQueue_9 : decode cX9_inQueue 9 = .ok (.iload_n 1, 1) := by decide +kernel
theorem dX9_inQueue_10 : decode cX9_inQueue 10 = .ok (.invokevirtual 120, 3) := by decide +kernel
theorem dX9_inQueue_13 : decode cX9_inQueue 13 = .ok (.ifCond .ne 5, 3) := by decide +kernel
theorem dX9_inQueue_16 : decode cX9_inQueue 16 = .ok (.iconst (-1), 1) := by decide +kernel
theorem dX9_inQueue_17 : decode cX9_inQueue 17 = .ok (.ireturn, 1) := by decide +kernel
theorem dX9_inQueue_18 : decode cX9_inQueue 18 = .ok (.iload_n 2, 1) := by decide +kernel
theorem dX9_inQueue_19 : decode cX9_inQueue 19 = .ok (.tableswitch 148 0 6 #[41, 48, 55, 62, 88, 110, 132], 41) := by decide +kernel
theorem dX9_inQueue_60 : decode cX9_inQueue 60 = .ok (.aload_n 3, 1) := by decide +kernel
theorem dX9_inQueue_61 : decode cX9_inQueue 61 = .ok (.getfield 178, 3) := by decide +kernel
theorem dX9_inQueue_64 : decode cX9_inQueue 64 = .ok (.iload_n 1, 1) := by decide +kernel
theorem dX9_inQueue_65 : decode cX9_inQueue 65 = .ok (.iaload, 1) := by decide +kernel
theorem dX9_inQueue_66 : decode cX9_inQueue 66 = .ok (.ireturn, 1) := by decide +kernel
theorem dX9_inQueue_67 : decode cX9_inQueue 67 = .ok (.aload_n 3, 1) := by decide +kernel
theorem dX9_inQueue_68 : decode cX9_inQueue 68 = .ok (.getfield 179, 3) := by decide +kernel
theorem dX9_inQueue_71 : decode cX9_inQueue 71 = .ok (.iload_n 1, 1) := by decide +kernel
theorem dX9_inQueue_72 : decode cX9_inQueue 72 = .ok (.iaload, 1) := by decide +kernel
theorem dX9_inQueue_73 : decode cX9_inQueue 73 = .ok (.ireturn, 1) := by decide +kernel
theorem dX9_inQueue_74 : decode cX9_inQueue 74 = .ok (.aload_n 3, 1) := by decide +kernel
theorem dX9_inQueue_75 : decode cX9_inQueue 75 = .ok (.getfield 180, 3) := by decide +kernel
theorem dX9_inQueue_78 : decode cX9_inQueue 78 = .ok (.iload_n 1, 1) := by decide +kernel
theorem dX9_inQueue_79 : decode cX9_inQueue 79 = .ok (.iaload, 1) := by decide +kernel
theorem dX9_inQueue_80 : decode cX9_inQueue 80 = .ok (.ireturn, 1) := by decide +kernel
theorem dX9_inQueue_81 : decode cX9_inQueue 81 = .ok (.aload_n 0, 1) := by decide +kernel
theorem dX9_inQueue_82 : decode cX9_inQueue 82 = .ok (.getfield 12, 3) := by decide +kernel
theorem dX9_inQueue_85 : decode cX9_inQueue 85 = .ok (.aload_n 3, 1) := by decide +kernel
theorem dX9_inQueue_86 : decode cX9_inQueue 86 = .ok (.getfield 178, 3) := by decide +kernel
theorem dX9_inQueue_89 : decode cX9_inQueue 89 = .ok (.iload_n 1, 1) := by decide +kernel
theorem dX9_inQueue_90 : decode cX9_inQueue 90 = .ok (.iaload, 1) := by decide +kernel
theorem dX9_inQueue_91 : decode cX9_inQueue 91 = .ok (.aload_n 3, 1) := by decide +kernel
theorem dX9_inQueue_92 : decode cX9_inQueue 92 = .ok (.getfield 179, 3) := by decide +kernel
theorem dX9_inQueue_95 : decode cX9_inQueue 95 = .ok (.iload_n 1, 1) := by decide +kernel
theorem dX9_inQueue_96 : decode cX9_inQueue 96 = .ok (.iaload, 1) := by decide +kernel
theorem dX9_inQueue_97 : decode cX9_inQueue 97 = .ok (.aload_n 3, 1) := by decide +kernel
theorem dX9_inQueue_98 : decode cX9_inQueue 98 = .ok (.getfield 180, 3) := by decide +kernel
theorem dX9_inQueue_101 : decode cX9_inQueue 101 = .ok (.iload_n 1, 1) := by decide +kernel
theorem dX9_inQueue_102 : decode cX9_inQueue 102 = .ok (.iaload, 1) := by decide +kernel
theorem dX9_inQueue_103 : decode cX9_inQueue 103 = .ok (.invokevirtual 181, 3) := by decide +kernel
theorem dX9_inQueue_106 : decode cX9_inQueue 106 = .ok (.ireturn, 1) := by decide +kernel
theorem dX9_inQueue_107 : decode cX9_inQueue 107 = .ok (.aload_n 3, 1) := by decide +kernel
theorem dX9_inQueue_108 : decode cX9_inQueue 108 = .ok (.aload_n 0, 1) := by decide +kernel
theorem dX9_inQueue_109 : decode cX9_inQueue 109 = .ok (.getfield 12, 3) := by decide +kernel
theorem dX9_inQueue_112 : decode cX9_inQueue 112 = .ok (.getfield 56, 3) := by decide +kernel
theorem dX9_inQueue_115 : decode cX9_inQueue 115 = .ok (.getfield 99, 3) := by decide +kernel
theorem dX9_inQueue_118 : decode cX9_inQueue 118 = .ok (.invokevirtual 184, 3) := by decide +kernel
theorem dX9_inQueue_121 : decode cX9_inQueue 121 = .ok (.iload_n 1, 1) := by decide +kernel
theorem dX9_inQueue_122 : decode cX9_inQueue 122 = .ok (.invokestatic 169, 3) := by decide +kernel
theorem dX9_inQueue_125 : decode cX9_inQueue 125 = .ok (.invokestatic 159, 3) := by decide +kernel
theorem dX9_inQueue_128 : decode cX9_inQueue 128 = .ok (.ireturn, 1) := by decide +kernel
theorem dX9_inQueue_129 : decode cX9_inQueue 129 = .ok (.aload_n 3, 1) := by decide +kernel
theorem dX9_inQueue_130 : decode cX9_inQueue 130 = .ok (.aload_n 0, 1) := by decide +kernel
theorem dX9_inQueue_131 : decode cX9_inQueue 131 = .ok (.getfield 12, 3) := by decide +kernel
theorem dX9_inQueue_134 : decode cX9_inQueue 134 = .ok (.getfield 56, 3) := by decide +kernel
theorem dX9_inQueue_137 : decode cX9_inQueue 137 = .ok (.getfield 166, 3) := by decide +kernel
theorem dX9_inQueue_140 : decode cX9_inQueue 140 = .ok (.invokevirtual 187, 3) := by decide +kernel
theorem dX9_inQueue_143 : decode cX9_inQueue 143 = .ok (.iload_n 1, 1) := by decide +kernel
theorem dX9_inQueue_144 : decode cX9_inQueue 144 = .ok (.invokestatic 169, 3) := by decide +kernel
theorem dX9_inQueue_147 : decode cX9_inQueue 147 = .ok (.invokestatic 159, 3) := by decide +kernel
theorem dX9_inQueue_150 : decode cX9_inQueue 150 = .ok (.ireturn, 1) := by decide +kernel
theorem dX9_inQueue_151 : decode cX9_inQueue 151 = .ok (.aload_n 3, 1) := by decide +kernel
theorem dX9_inQueue_152 : decode cX9_inQueue 152 = .ok (.iload_n 1, 1) := by decide +kernel
theorem dX9_inQueue_153 : decode cX9_inQueue 153 = .ok (.aload_n 0, 1) := by decide +kernel
theorem dX9_inQueue_154 : decode cX9_inQueue 154 = .ok (.getfield 12, 3) := by decide +kernel
theorem dX9_inQueue_157 : decode cX9_inQueue 157 = .ok (.getfield 56, 3) := by decide +kernel
theorem dX9_inQueue_160 : decode cX9_inQueue 160 = .ok (.getfield 163, 3) := by decide +kernel
theorem dX9_inQueue_163 : decode cX9_inQueue 163 = .ok (.invokevirtual 190, 3) := by decide +kernel
theorem dX9_inQueue_166 : decode cX9_inQueue 166 = .ok (.ireturn, 1) := by decide +kernel
theorem dX9_inQueue_167 : decode cX9_inQueue 167 = .ok (.bipush (-2), 2) := by decide +kernel
theorem dX9_inQueue_169 : decode cX9_inQueue 169 = .ok (.ireturn, 1) := by decide +kernel
set_option maxRecDepth 20000 in
theorem ggX9_key_X0_errorOfNames : GoodIn wsX9_key wsX0_errorOfNames := goodIn_r _ [6, 7, 8, 9, 10, 11, 12, 13, 14, 15, 16, 17, 18, 19, 20, 21, 22, 23, 54, 55, 56, 57, 58, 59, 60, 61, 62, 63, 64, 65, 66, 67, 68, 69, 70, 71] (by decide +kernel) (by decide +kernel)
set_option maxRecDepth 20000 in
theorem gX9_key_X0_errorOfNames : GoodIn wsX9_key (wsV RX9 194 RX0 yX0_errorOfNames wsX0_errorOfNames) := goodIn_app (goodIn_of _ (by decide +kernel)) ggX9_key_X0_errorOfNames
set_option maxRecDepth 20000 in
theorem ggX9_key_X0_keyAndTen : GoodIn wsX9_key wsX0_keyAndTen := goodIn_r _ [27, 7, 28, 29, 30, 31, 32, 33, 34, 35, 36, 8, 37, 38, 39, 21, 40, 41, 42, 43, 44, 45, 46, 54, 55, 56, 57, 58, 59, 60, 61, 62, 63, 64, 65, 66, 67, 68, 69, 70, 71] (by decide +kernel) (by decide +kernel)
set_option maxRecDepth 20000 in
theorem gX9_key_X0_keyAndTen : GoodIn wsX9_key (wsV RX9 181 RX0 yX0_keyAndTen wsX0_keyAndTen) := goodIn_app (goodIn_of _ (by decide +kernel)) ggX9_key_X0_keyAndTen
theorem dX9_key_0 : decode cX9_key 0 = .ok (.aload_n 0, 1) := by decide +kernel
theorem dX9_key_1 : decode cX9_key 1 = .ok (.getfield 12, 3) := by decide +kernel
theorem dX9_key_4 : decode cX9_key 4 = .ok (.iload_n 1, 1) := by decide +kernel
theorem dX9_key_5 : decode cX9_key 5 = .ok (.iload_n 2, 1) := by decide +kernel
theorem dX9_key_6 : decode cX9_key 6 = .ok (.iload_n 3, 1) := by decide +kernel
theorem dX9_key_7 : decode cX9_key 7 = .ok (.invokevirtual 194, 3) := by decide +kernel
theorem dX9_key_10 : decode cX9_key 10 = .ok (.istore 4, 2) := by decide +kernel
theorem dX9_key_12 : decode cX9_key 12 = .ok (.iload 4, 2) := by decide +kernel
theorem dX9_key_14 : decode cX9_key 14 = .ok (.ifCond .eq 6, 3) := by decide +kernel
theorem dX9_key_17 : decode cX9_key 17 = .ok (.iload 4, 2) := by decide +kernel
theorem dX9_key_19 : decode cX9_key 19 = .ok (.ireturn, 1) := by decide +kernel
theorem dX9_key_20 : decode cX9_key 20 = .ok (.aload_n 0, 1) := by decide +kernel
theorem dX9_key_21 : decode cX9_key 21 = .ok (.getfield 12, 3) := by decide +kernel
theorem dX9_key_24 : decode cX9_key 24 = .ok (.iload_n 1, 1) := by decide +kernel
theorem dX9_key_25 : decode cX9_key 25 = .ok (.iload_n 2, 1) := by decide +kernel
theorem dX9_key_26 : decode cX9_key 26 = .ok (.iload_n 3, 1) := by decide +kernel
theorem dX9_key_27 : decode cX9_key 27 = .ok (.invokevirtual 181, 3) := by decide +kernel
theorem dX9_key_30 : decode cX9_key 30 = .ok (.ireturn, 1) := by decide +kernel
set_option maxRecDepth 20000 in
theorem ggX9_ofSong_X7_has : GoodIn wsX9_ofSong wsX7_has := goodIn_r _ [11, 12, 13, 14, 15, 60, 61, 62, 63, 64] (by decide +kernel) (by decide +kernel)
set_option maxRecDepth 20000 in
theorem gX9_ofSong_X7_has : GoodIn wsX9_ofSong (wsV RX9 197 RX7 yX7_has wsX7_has) := goodIn_app (goodIn_of _ (by decide +kernel)) ggX9_ofSong_X7_has
set_option maxRecDepth 20000 in
theorem ggX9_ofSong_X0_singersWithKey : GoodIn wsX9_ofSong wsX0_singersWithKey := goodIn_r _ [20, 21, 22, 23, 24, 25, 19, 26, 27, 28, 29, 30, 31, 32, 33, 34, 35, 36, 37, 38, 39, 10, 40, 41, 42, 43, 44, 45, 46, 54, 55, 56, 57, 58, 59, 65, 66, 67, 68, 69, 70, 71, 60, 61, 62, 63, 64] (by decide +kernel) (by decide +kernel)
set_option maxRecDepth 20000 in
theorem gX9_ofSong_X0_singersWithKey : GoodIn wsX9_ofSong (wsV RX9 202 RX0 yX0_singersWithKey wsX0_singersWithKey) := goodIn_app (goodIn_of _ (by decide +kernel)) ggX9_ofSong_X0_singersWithKey
theorem dX9_ofSong_0 : decode cX9_ofSong 0 = .ok (.aload_n 0, 1) := by decide +kernel
theorem dX9_ofSong_1 : decode cX9_ofSong 1 = .ok (.getfield 12, 3) := by decide +kernel
theorem dX9_ofSong_4 : decode cX9_ofSong 4 = .ok (.getfield 78, 3) := by decide +kernel
theorem dX9_ofSong_7 : decode cX9_ofSong 7 = .ok (.astore_n 3, 1) := by decide +kernel
theorem dX9_ofSong_8 : decode cX9_ofSong 8 = .ok (.aload_n 3, 1) := by decide +kernel
theorem dX9_ofSong_9 : decode cX9_ofSong 9 = .ok (.iload_n 1, 1) := by decide +kernel
theorem dX9_ofSong_10 : decode cX9_ofSong 10 = .ok (.invokevirtual 197, 3) := by decide +kernel
theorem dX9_ofSong_13 : decode cX9_ofSong 13 = .ok (.ifCond .ne 5, 3) := by decide +kernel
theorem dX9_ofSong_16 : decode cX9_ofSong 16 = .ok (.iconst (-1), 1) := by decide +kernel
theorem dX9_ofSong_17 : decode cX9_ofSong 17 = .ok (.ireturn, 1) := by decide +kernel
theorem dX9_ofSong_18 : decode cX9_ofSong 18 = .ok (.iload_n 2, 1) := by decide +kernel
theorem dX9_ofSong_19 : decode cX9_ofSong 19 = .ok (.tableswitch 70 0 4 #[33, 40, 47, 54, 63], 33) := by decide +kernel
theorem dX9_ofSong_52 : decode cX9_ofSong 52 = .ok (.aload_n 3, 1) := by decide +kernel
theorem dX9_ofSong_53 : decode cX9_ofSong 53 = .ok (.getfield 198, 3) := by decide +kernel
theorem dX9_ofSong_56 : decode cX9_ofSong 56 = .ok (.iload_n 1, 1) := by decide +kernel
theorem dX9_ofSong_57 : decode cX9_ofSong 57 = .ok (.iaload, 1) := by decide +kernel
theorem dX9_ofSong_58 : decode cX9_ofSong 58 = .ok (.ireturn, 1) := by decide +kernel
theorem dX9_ofSong_59 : decode cX9_ofSong 59 = .ok (.aload_n 3, 1) := by decide +kernel
theorem dX9_ofSong_60 : decode cX9_ofSong 60 = .ok (.getfield 199, 3) := by decide +kernel
theorem dX9_ofSong_63 : decode cX9_ofSong 63 = .ok (.iload_n 1, 1) := by decide +kernel
theorem dX9_ofSong_64 : decode cX9_ofSong 64 = .ok (.iaload, 1) := by decide +kernel
theorem dX9_ofSong_65 : decode cX9_ofSong 65 = .ok (.ireturn, 1) := by decide +kernel
theorem dX9_ofSong_66 : decode cX9_ofSong 66 = .ok (.aload_n 3, 1) := by decide +kernel
theorem dX9_ofSong_67 : decode cX9_ofSong 67 = .ok (.getfield 200, 3) := by decide +kernel
theorem dX9_ofSong_70 : decode cX9_ofSong 70 = .ok (.iload_n 1, 1) := by decide +kernel
theorem dX9_ofSong_71 : decode cX9_ofSong 71 = .ok (.iaload, 1) := by decide +kernel
theorem dX9_ofSong_72 : decode cX9_ofSong 72 = .ok (.ireturn, 1) := by decide +kernel
theorem dX9_ofSong_73 : decode cX9_ofSong 73 = .ok (.aload_n 0, 1) := by decide +kernel
theorem dX9_ofSong_74 : decode cX9_ofSong 74 = .ok (.getfield 12, 3) := by decide +kernel
theorem dX9_ofSong_77 : decode cX9_ofSong 77 = .ok (.iload_n 1, 1) := by decide +kernel
theorem dX9_ofSong_78 : decode cX9_ofSong 78 = .ok (.invokevirtual 202, 3) := by decide +kernel
theorem dX9_ofSong_81 : decode cX9_ofSong 81 = .ok (.ireturn, 1) := by decide +kernel
theorem dX9_ofSong_82 : decode cX9_ofSong 82 = .ok (.aload_n 3, 1) := by decide +kernel
theorem dX9_ofSong_83 : decode cX9_ofSong 83 = .ok (.getfield 205, 3) := by decide +kernel
theorem dX9_ofSong_86 : decode cX9_ofSong 86 = .ok (.iload_n 1, 1) := by decide +kernel
theorem dX9_ofSong_87 : decode cX9_ofSong 87 = .ok (.iaload, 1) := by decide +kernel
theorem dX9_ofSong_88 : decode cX9_ofSong 88 = .ok (.ireturn, 1) := by decide +kernel
theorem dX9_ofSong_89 : decode cX9_ofSong 89 = .ok (.bipush (-2), 2) := by decide +kernel
theorem dX9_ofSong_91 : decode cX9_ofSong 91 = .ok (.ireturn, 1) := by decide +kernel
set_option maxRecDepth 20000 in
theorem ggX9_past_X9_isBetween : GoodIn wsX9_past wsX9_isBetween := goodIn_r _ [11] (by decide +kernel) (by decide +kernel)
set_option maxRecDepth 20000 in
theorem gX9_past_X9_isBetween : GoodIn wsX9_past (va_wsS RX9 74 yX9_isBetween wsX9_isBetween) := goodIn_app (goodIn_of _ (by decide +kernel)) ggX9_past_X9_isBetween
theorem dX9_past_0 : decode cX9_past 0 = .ok (.aload_n 0, 1) := by decide +kernel
theorem dX9_past_1 : decode cX9_past 1 = .ok (.getfield 12, 3) := by decide +kernel
theorem dX9_past_4 : decode cX9_past 4 = .ok (.getfield 208, 3) := by decide +kernel
theorem dX9_past_7 : decode cX9_past 7 = .ok (.astore_n 3, 1) := by decide +kernel
theorem dX9_past_8 : decode cX9_past 8 = .ok (.iload_n 1, 1) := by decide +kernel
theorem dX9_past_9 : decode cX9_past 9 = .ok (.iconst 0, 1) := by decide +kernel
theorem dX9_past_10 : decode cX9_past 10 = .ok (.aload_n 3, 1) := by decide +kernel
theorem dX9_past_11 : decode cX9_past 11 = .ok (.getfield 212, 3) := by decide +kernel
theorem dX9_past_14 : decode cX9_past 14 = .ok (.iconst 1, 1) := by decide +kernel
theorem dX9_past_15 : decode cX9_past 15 = .ok (.isub, 1) := by decide +kernel
theorem dX9_past_16 : decode cX9_past 16 = .ok (.invokestatic 74, 3) := by decide +kernel
theorem dX9_past_19 : decode cX9_past 19 = .ok (.ifCond .ne 5, 3) := by decide +kernel
theorem dX9_past_22 : decode cX9_past 22 = .ok (.iconst (-1), 1) := by decide +kernel
theorem dX9_past_23 : decode cX9_past 23 = .ok (.ireturn, 1) := by decide +kernel
theorem dX9_past_24 : decode cX9_past 24 = .ok (.iload_n 2, 1) := by decide +kernel
theorem dX9_past_25 : decode cX9_past 25 = .ok (.tableswitch 59 0 3 #[31, 38, 45, 52], 31) := by decide +kernel
theorem dX9_past_56 : decode cX9_past 56 = .ok (.aload_n 3, 1) := by decide +kernel
theorem dX9_past_57 : decode cX9_past 57 = .ok (.getfield 215, 3) := by decide +kernel
theorem dX9_past_60 : decode cX9_past 60 = .ok (.iload_n 1, 1) := by decide +kernel
theorem dX9_past_61 : decode cX9_past 61 = .ok (.iaload, 1) := by decide +kernel
theorem dX9_past_62 : decode cX9_past 62 = .ok (.ireturn, 1) := by decide +kernel
theorem dX9_past_63 : decode cX9_past 63 = .ok (.aload_n 3, 1) := by decide +kernel
theorem dX9_past_64 : decode cX9_past 64 = .ok (.getfield 216, 3) := by decide +kernel
theorem dX9_past_67 : decode cX9_past 67 = .ok (.iload_n 1, 1) := by decide +kernel
theorem dX9_past_68 : decode cX9_past 68 = .ok (.iaload, 1) := by decide +kernel
theorem dX9_past_69 : decode cX9_past 69 = .ok (.ireturn, 1) := by decide +kernel
theorem dX9_past_70 : decode cX9_past 70 = .ok (.aload_n 3, 1) := by decide +kernel
theorem dX9_past_71 : decode cX9_past 71 = .ok (.getfield 217, 3) := by decide +kernel
theorem dX9_past_74 : decode cX9_past 74 = .ok (.iload_n 1, 1) := by decide +kernel
theorem dX9_past_75 : decode cX9_past 75 = .ok (.iaload, 1) := by decide +kernel
theorem dX9_past_76 : decode cX9_past 76 = .ok (.ireturn, 1) := by decide +kernel
theorem dX9_past_77 : decode cX9_past 77 = .ok (.aload_n 3, 1) := by decide +kernel
theorem dX9_past_78 : decode cX9_past 78 = .ok (.getfield 218, 3) := by decide +kernel
theorem dX9_past_81 : decode cX9_past 81 = .ok (.iload_n 1, 1) := by decide +kernel
theorem dX9_past_82 : decode cX9_past 82 = .ok (.iaload, 1) := by decide +kernel
theorem dX9_past_83 : decode cX9_past 83 = .ok (.ireturn, 1) := by decide +kernel
theorem dX9_past_84 : decode cX9_past 84 = .ok (.bipush (-2), 2) := by decide +kernel
theorem dX9_past_86 : decode cX9_past 86 = .ok (.ireturn, 1) := by decide +kernel
set_option maxRecDepth 20000 in
theorem ggX9_count_X8_readyOnes : GoodIn wsX9_count wsX8_readyOnes := goodIn_r _ [20, 21, 22, 23, 19, 24, 25, 26, 27, 28, 29, 30, 31, 98, 99, 100, 101] (by decide +kernel) (by decide +kernel)
set_option maxRecDepth 20000 in
theorem gX9_count_X8_readyOnes : GoodIn wsX9_count (wsV RX9 184 RX8 yX8_readyOnes wsX8_readyOnes) := goodIn_app (goodIn_of _ (by decide +kernel)) ggX9_count_X8_readyOnes
set_option maxRecDepth 20000 in
theorem ggX9_count_J6_bitCount_0f7a4 : GoodIn wsX9_count wsJ6_bitCount_0f7a4 := goodIn_r _ [35, 36, 37, 38] (by decide +kernel) (by decide +kernel)
set_option maxRecDepth 20000 in
theorem gX9_count_J6_bitCount_0f7a4 : GoodIn wsX9_count (va_wsS RX9 102 yJ6_bitCount_0f7a4 wsJ6_bitCount_0f7a4) := goodIn_app (goodIn_of _ (by decide +kernel)) ggX9_count_J6_bitCount_0f7a4
set_option maxRecDepth 20000 in
theorem ggX9_count_X0_nextWish : GoodIn wsX9_count wsX0_nextWish := goodIn_r _ [43, 44, 45, 46, 47, 48, 49, 17, 18, 19, 20, 21, 22, 23, 24, 25, 26, 27, 28, 29, 30, 31, 50, 51, 52, 53, 54, 55, 56, 57, 58, 59, 60, 61, 62, 63, 64, 65, 66, 67, 68, 69, 70, 71, 72, 80, 81, 82, 83, 84, 85, 86, 87, 88, 89, 90, 91, 92, 98, 99, 100, 101] (by decide +kernel) (by decide +kernel)
set_option maxRecDepth 20000 in
theorem gX9_count_X0_nextWish : GoodIn wsX9_count (wsV RX9 125 RX0 yX0_nextWish wsX0_nextWish) := goodIn_app (goodIn_of _ (by decide +kernel)) ggX9_count_X0_nextWish
theorem dX9_count_0 : decode cX9_count 0 = .ok (.iload_n 1, 1) := by decide +kernel
theorem dX9_count_1 : decode cX9_count 1 = .ok (.tableswitch 178 0 10 #[59, 70, 81, 92, 103, 127, 135, 143, 151, 162, 170], 59) := by decide +kernel
theorem dX9_count_60 : decode cX9_count 60 = .ok (.aload_n 0, 1) := by decide +kernel
theorem dX9_count_61 : decode cX9_count 61 = .ok (.getfield 12, 3) := by decide +kernel
theorem dX9_count_64 : decode cX9_count 64 = .ok (.getfield 56, 3) := by decide +kernel
theorem dX9_count_67 : decode cX9_count 67 = .ok (.getfield 60, 3) := by decide +kernel
theorem dX9_count_70 : decode cX9_count 70 = .ok (.ireturn, 1) := by decide +kernel
theorem dX9_count_71 : decode cX9_count 71 = .ok (.aload_n 0, 1) := by decide +kernel
theorem dX9_count_72 : decode cX9_count 72 = .ok (.getfield 12, 3) := by decide +kernel
theorem dX9_count_75 : decode cX9_count 75 = .ok (.getfield 56, 3) := by decide +kernel
theorem dX9_count_78 : decode cX9_count 78 = .ok (.getfield 99, 3) := by decide +kernel
theorem dX9_count_81 : decode cX9_count 81 = .ok (.ireturn, 1) := by decide +kernel
theorem dX9_count_82 : decode cX9_count 82 = .ok (.aload_n 0, 1) := by decide +kernel
theorem dX9_count_83 : decode cX9_count 83 = .ok (.getfield 12, 3) := by decide +kernel
theorem dX9_count_86 : decode cX9_count 86 = .ok (.getfield 78, 3) := by decide +kernel
theorem dX9_count_89 : decode cX9_count 89 = .ok (.getfield 82, 3) := by decide +kernel
theorem dX9_count_92 : decode cX9_count 92 = .ok (.ireturn, 1) := by decide +kernel
theorem dX9_count_93 : decode cX9_count 93 = .ok (.aload_n 0, 1) := by decide +kernel
theorem dX9_count_94 : decode cX9_count 94 = .ok (.getfield 12, 3) := by decide +kernel
theorem dX9_count_97 : decode cX9_count 97 = .ok (.getfield 108, 3) := by decide +kernel
theorem dX9_count_100 : decode cX9_count 100 = .ok (.getfield 112, 3) := by decide +kernel
theorem dX9_count_103 : decode cX9_count 103 = .ok (.ireturn, 1) := by decide +kernel
theorem dX9_count_104 : decode cX9_count 104 = .ok (.aload_n 0, 1) := by decide +kernel
theorem dX9_count_105 : decode cX9_count 105 = .ok (.getfield 12, 3) := by decide +kernel
theorem dX9_count_108 : decode cX9_count 108 = .ok (.getfield 108, 3) := by decide +kernel
theorem dX9_count_111 : decode cX9_count 111 = .ok (.aload_n 0, 1) := by decide +kernel
theorem dX9_count_112 : decode cX9_count 112 = .ok (.getfield 12, 3) := by decide +kernel
theorem dX9_count_115 : decode cX9_count 115 = .ok (.getfield 56, 3) := by decide +kernel
theorem dX9_count_118 : decode cX9_count 118 = .ok (.getfield 99, 3) := by decide +kernel
theorem dX9_count_121 : decode cX9_count 121 = .ok (.invokevirtual 184, 3) := by decide +kernel
theorem dX9_count_124 : decode cX9_count 124 = .ok (.invokestatic 102, 3) := by decide +kernel
theorem dX9_count_127 : decode cX9_count 127 = .ok (.ireturn, 1) := by decide +kernel
theorem dX9_count_128 : decode cX9_count 128 = .ok (.aload_n 0, 1) := by decide +kernel
theorem dX9_count_129 : decode cX9_count 129 = .ok (.getfield 12, 3) := by decide +kernel
theorem dX9_count_132 : decode cX9_count 132 = .ok (.invokevirtual 125, 3) := by decide +kernel
theorem dX9_count_135 : decode cX9_count 135 = .ok (.ireturn, 1) := by decide +kernel
theorem dX9_count_136 : decode cX9_count 136 = .ok (.aload_n 0, 1) := by decide +kernel
theorem dX9_count_137 : decode cX9_count 137 = .ok (.getfield 12, 3) := by decide +kernel
theorem dX9_count_140 : decode cX9_count 140 = .ok (.getfield 221, 3) := by decide +kernel
theorem dX9_count_143 : decode cX9_count 143 = .ok (.ireturn, 1) := by decide +kernel
theorem dX9_count_144 : decode cX9_count 144 = .ok (.aload_n 0, 1) := by decide +kernel
theorem dX9_count_145 : decode cX9_count 145 = .ok (.getfield 12, 3) := by decide +kernel
theorem dX9_count_148 : decode cX9_count 148 = .ok (.getfield 224, 3) := by decide +kernel
theorem dX9_count_151 : decode cX9_count 151 = .ok (.ireturn, 1) := by decide +kernel
theorem dX9_count_152 : decode cX9_count 152 = .ok (.aload_n 0, 1) := by decide +kernel
theorem dX9_count_153 : decode cX9_count 153 = .ok (.getfield 12, 3) := by decide +kernel
theorem dX9_count_156 : decode cX9_count 156 = .ok (.getfield 56, 3) := by decide +kernel
theorem dX9_count_159 : decode cX9_count 159 = .ok (.getfield 166, 3) := by decide +kernel
theorem dX9_count_162 : decode cX9_count 162 = .ok (.ireturn, 1) := by decide +kernel
theorem dX9_count_163 : decode cX9_count 163 = .ok (.aload_n 0, 1) := by decide +kernel
theorem dX9_count_164 : decode cX9_count 164 = .ok (.getfield 34, 3) := by decide +kernel
theorem dX9_count_167 : decode cX9_count 167 = .ok (.getfield 150, 3) := by decide +kernel
theorem dX9_count_170 : decode cX9_count 170 = .ok (.ireturn, 1) := by decide +kernel
theorem dX9_count_171 : decode cX9_count 171 = .ok (.aload_n 0, 1) := by decide +kernel
theorem dX9_count_172 : decode cX9_count 172 = .ok (.getfield 19, 3) := by decide +kernel
theorem dX9_count_175 : decode cX9_count 175 = .ok (.getfield 227, 3) := by decide +kernel
theorem dX9_count_178 : decode cX9_count 178 = .ok (.ireturn, 1) := by decide +kernel
theorem dX9_count_179 : decode cX9_count 179 = .ok (.bipush (-2), 2) := by decide +kernel
theorem dX9_count_181 : decode cX9_count 181 = .ok (.ireturn, 1) := by decide +kernel
set_option maxRecDepth 20000 in
theorem ggX9_turnOf_X8_has : GoodIn wsX9_turnOf wsX8_has := goodIn_r _ [10, 11, 12, 13, 14, 112, 113, 114, 115] (by decide +kernel) (by decide +kernel)
set_option maxRecDepth 20000 in
theorem gX9_turnOf_X8_has : GoodIn wsX9_turnOf (wsV RX9 120 RX8 yX8_has wsX8_has) := goodIn_app (goodIn_of _ (by decide +kernel)) ggX9_turnOf_X8_has
set_option maxRecDepth 20000 in
theorem ggX9_turnOf_X9_isBetween : GoodIn wsX9_turnOf wsX9_isBetween := goodIn_r _ [14] (by decide +kernel) (by decide +kernel)
set_option maxRecDepth 20000 in
theorem gX9_turnOf_X9_isBetween : GoodIn wsX9_turnOf (va_wsS RX9 74 yX9_isBetween wsX9_isBetween) := goodIn_app (goodIn_of _ (by decide +kernel)) ggX9_turnOf_X9_isBetween
set_option maxRecDepth 20000 in
theorem ggX9_turnOf_X0_isReady : GoodIn wsX9_turnOf wsX0_isReady := goodIn_r _ [20, 21, 22, 23, 24, 25, 26, 9, 27, 28, 29, 30, 31, 11, 32, 33, 34, 35, 36, 37, 38, 13, 39, 103, 104, 105, 106, 107, 108, 116, 117, 118, 119, 120, 121, 122, 112, 113, 114, 115] (by decide +kernel) (by decide +kernel)
set_option maxRecDepth 20000 in
theorem gX9_turnOf_X0_isReady : GoodIn wsX9_turnOf (wsV RX9 228 RX0 yX0_isReady wsX0_isReady) := goodIn_app (goodIn_of _ (by decide +kernel)) ggX9_turnOf_X0_isReady
set_option maxRecDepth 20000 in
theorem ggX9_turnOf_X5_lookAhead : GoodIn wsX9_turnOf wsX5_lookAhead := goodIn_r _ [44, 45, 46, 47, 48, 49, 50, 51, 52, 53, 54, 13, 55, 56, 57, 58, 59, 60, 61, 62, 63, 64, 25, 26, 9, 27, 28, 29, 30, 31, 11, 32, 33, 34, 35, 36, 37, 65, 66, 67, 68, 69, 70, 71, 72, 73, 74, 75, 76, 38, 39, 77, 78, 79, 80, 81, 82, 83, 84, 85, 86, 19, 87, 88, 89, 21, 90, 91, 92, 93, 94, 43, 95, 103, 104, 105, 106, 107, 108, 116, 117, 118, 119, 120, 121, 122, 109, 110, 111, 112, 113, 114, 115, 123, 124, 125, 126, 127] (by decide +kernel) (by decide +kernel)
set_option maxRecDepth 20000 in
theorem gX9_turnOf_X5_lookAhead : GoodIn wsX9_turnOf (wsV RX9 231 RX5 yX5_lookAhead wsX5_lookAhead) := goodIn_app (goodIn_of _ (by decide +kernel)) ggX9_turnOf_X5_lookAhead
theorem dX9_turnOf_0 : decode cX9_turnOf 0 = .ok (.aload_n 0, 1) := by decide +kernel
theorem dX9_turnOf_1 : decode cX9_turnOf 1 = .ok (.getfield 12, 3) := by decide +kernel
theorem dX9_turnOf_4 : decode cX9_turnOf 4 = .ok (.getfield 108, 3) := by decide +kernel
theorem dX9_turnOf_7 : decode cX9_turnOf 7 = .ok (.iload_n 1, 1) := by decide +kernel
theorem dX9_turnOf_8 : decode cX9_turnOf 8 = .ok (.invokevirtual 120, 3) := by decide +kernel
theorem dX9_turnOf_11 : decode cX9_turnOf 11 = .ok (.ifCond .ne 5, 3) := by decide +kernel
theorem dX9_turnOf_14 : decode cX9_turnOf 14 = .ok (.iconst (-1), 1) := by decide +kernel
theorem dX9_turnOf_15 : decode cX9_turnOf 15 = .ok (.ireturn, 1) := by decide +kernel
theorem dX9_turnOf_16 : decode cX9_turnOf 16 = .ok (.iload_n 2, 1) := by decide +kernel
theorem dX9_turnOf_17 : decode cX9_turnOf 17 = .ok (.iconst 0, 1) := by decide +kernel
theorem dX9_turnOf_18 : decode cX9_turnOf 18 = .ok (.iconst 1, 1) := by decide +kernel
theorem dX9_turnOf_19 : decode cX9_turnOf 19 = .ok (.invokestatic 74, 3) := by decide +kernel
theorem dX9_turnOf_22 : decode cX9_turnOf 22 = .ok (.ifCond .ne 6, 3) := by decide +kernel
theorem dX9_turnOf_25 : decode cX9_turnOf 25 = .ok (.bipush (-2), 2) := by decide +kernel
theorem dX9_turnOf_27 : decode cX9_turnOf 27 = .ok (.ireturn, 1) := by decide +kernel
theorem dX9_turnOf_28 : decode cX9_turnOf 28 = .ok (.aload_n 0, 1) := by decide +kernel
theorem dX9_turnOf_29 : decode cX9_turnOf 29 = .ok (.getfield 12, 3) := by decide +kernel
theorem dX9_turnOf_32 : decode cX9_turnOf 32 = .ok (.iload_n 1, 1) := by decide +kernel
theorem dX9_turnOf_33 : decode cX9_turnOf 33 = .ok (.invokevirtual 228, 3) := by decide +kernel
theorem dX9_turnOf_36 : decode cX9_turnOf 36 = .ok (.ifCond .ne 6, 3) := by decide +kernel
theorem dX9_turnOf_39 : decode cX9_turnOf 39 = .ok (.bipush (-6), 2) := by decide +kernel
theorem dX9_turnOf_41 : decode cX9_turnOf 41 = .ok (.ireturn, 1) := by decide +kernel
theorem dX9_turnOf_42 : decode cX9_turnOf 42 = .ok (.aload_n 0, 1) := by decide +kernel
theorem dX9_turnOf_43 : decode cX9_turnOf 43 = .ok (.getfield 48, 3) := by decide +kernel
theorem dX9_turnOf_46 : decode cX9_turnOf 46 = .ok (.aload_n 0, 1) := by decide +kernel
theorem dX9_turnOf_47 : decode cX9_turnOf 47 = .ok (.getfield 12, 3) := by decide +kernel
theorem dX9_turnOf_50 : decode cX9_turnOf 50 = .ok (.iload_n 1, 1) := by decide +kernel
theorem dX9_turnOf_51 : decode cX9_turnOf 51 = .ok (.bipush (-6), 2) := by decide +kernel
theorem dX9_turnOf_53 : decode cX9_turnOf 53 = .ok (.invokevirtual 231, 3) := by decide +kernel
theorem dX9_turnOf_56 : decode cX9_turnOf 56 = .ok (.iload_n 2, 1) := by decide +kernel
theorem dX9_turnOf_57 : decode cX9_turnOf 57 = .ok (.ifCond .ne 13, 3) := by decide +kernel
theorem dX9_turnOf_60 : decode cX9_turnOf 60 = .ok (.aload_n 0, 1) := by decide +kernel
theorem dX9_turnOf_61 : decode cX9_turnOf 61 = .ok (.getfield 48, 3) := by decide +kernel
theorem dX9_turnOf_64 : decode cX9_turnOf 64 = .ok (.getfield 235, 3) := by decide +kernel
theorem dX9_turnOf_67 : decode cX9_turnOf 67 = .ok (.goto 10, 3) := by decide +kernel
theorem dX9_turnOf_70 : decode cX9_turnOf 70 = .ok (.aload_n 0, 1) := by decide +kernel
theorem dX9_turnOf_71 : decode cX9_turnOf 71 = .ok (.getfield 48, 3) := by decide +kernel
theorem dX9_turnOf_74 : decode cX9_turnOf 74 = .ok (.getfield 238, 3) := by decide +kernel
theorem dX9_turnOf_77 : decode cX9_turnOf 77 = .ok (.ireturn, 1) := by decide +kernel
set_option maxRecDepth 20000 in
theorem ggX9_endOfAll_X8_readyOnes : GoodIn wsX9_endOfAll wsX8_readyOnes := goodIn_r _ [11, 12, 13, 14, 10, 15, 16, 17, 18, 19, 20, 21, 22, 56, 57, 58, 59] (by decide +kernel) (by decide +kernel)
set_option maxRecDepth 20000 in
theorem gX9_endOfAll_X8_readyOnes : GoodIn wsX9_endOfAll (wsV RX9 184 RX8 yX8_readyOnes wsX8_readyOnes) := goodIn_app (goodIn_of _ (by decide +kernel)) ggX9_endOfAll_X8_readyOnes
set_option maxRecDepth 20000 in
theorem ggX9_endOfAll_X9_isIn : GoodIn wsX9_endOfAll wsX9_isIn := goodIn_r _ [26] (by decide +kernel) (by decide +kernel)
set_option maxRecDepth 20000 in
theorem gX9_endOfAll_X9_isIn : GoodIn wsX9_endOfAll (va_wsS RX9 169 yX9_isIn wsX9_isIn) := goodIn_app (goodIn_of _ (by decide +kernel)) ggX9_endOfAll_X9_isIn
set_option maxRecDepth 20000 in
theorem ggX9_endOfAll_X0_lengthOfWish : GoodIn wsX9_endOfAll wsX0_lengthOfWish := goodIn_r _ [31, 32, 33, 34, 35, 43, 44, 45, 46, 47, 48, 60, 61, 62, 63, 64, 56, 57, 58, 59] (by decide +kernel) (by decide +kernel)
set_option maxRecDepth 20000 in
theorem gX9_endOfAll_X0_lengthOfWish : GoodIn wsX9_endOfAll (wsV RX9 239 RX0 yX0_lengthOfWish wsX0_lengthOfWish) := goodIn_app (goodIn_of _ (by decide +kernel)) ggX9_endOfAll_X0_lengthOfWish
theorem dX9_endOfAll_0 : decode cX9_endOfAll 0 = .ok (.aload_n 0, 1) := by decide +kernel
theorem dX9_endOfAll_1 : decode cX9_endOfAll 1 = .ok (.getfield 12, 3) := by decide +kernel
theorem dX9_endOfAll_4 : decode cX9_endOfAll 4 = .ok (.getfield 108, 3) := by decide +kernel
theorem dX9_endOfAll_7 : decode cX9_endOfAll 7 = .ok (.aload_n 0, 1) := by decide +kernel
theorem dX9_endOfAll_8 : decode cX9_endOfAll 8 = .ok (.getfield 12, 3) := by decide +kernel
theorem dX9_endOfAll_11 : decode cX9_endOfAll 11 = .ok (.getfield 56, 3) := by decide +kernel
theorem dX9_endOfAll_14 : decode cX9_endOfAll 14 = .ok (.getfield 99, 3) := by decide +kernel
theorem dX9_endOfAll_17 : decode cX9_endOfAll 17 = .ok (.invokevirtual 184, 3) := by decide +kernel
theorem dX9_endOfAll_20 : decode cX9_endOfAll 20 = .ok (.istore_n 1, 1) := by decide +kernel
theorem dX9_endOfAll_21 : decode cX9_endOfAll 21 = .ok (.aload_n 0, 1) := by decide +kernel
theorem dX9_endOfAll_22 : decode cX9_endOfAll 22 = .ok (.getfield 12, 3) := by decide +kernel
theorem dX9_endOfAll_25 : decode cX9_endOfAll 25 = .ok (.getfield 221, 3) := by decide +kernel
theorem dX9_endOfAll_28 : decode cX9_endOfAll 28 = .ok (.istore_n 2, 1) := by decide +kernel
theorem dX9_endOfAll_29 : decode cX9_endOfAll 29 = .ok (.iconst 0, 1) := by decide +kernel
theorem dX9_endOfAll_30 : decode cX9_endOfAll 30 = .ok (.istore_n 3, 1) := by decide +kernel
theorem dX9_endOfAll_31 : decode cX9_endOfAll 31 = .ok (.iload_n 3, 1) := by decide +kernel
theorem dX9_endOfAll_32 : decode cX9_endOfAll 32 = .ok (.aload_n 0, 1) := by decide +kernel
theorem dX9_endOfAll_33 : decode cX9_endOfAll 33 = .ok (.getfield 12, 3) := by decide +kernel
theorem dX9_endOfAll_36 : decode cX9_endOfAll 36 = .ok (.getfield 108, 3) := by decide +kernel
theorem dX9_endOfAll_39 : decode cX9_endOfAll 39 = .ok (.getfield 112, 3) := by decide +kernel
theorem dX9_endOfAll_42 : decode cX9_endOfAll 42 = .ok (.if_icmp .ge 28, 3) := by decide +kernel
theorem dX9_endOfAll_45 : decode cX9_endOfAll 45 = .ok (.iload_n 1, 1) := by decide +kernel
theorem dX9_endOfAll_46 : decode cX9_endOfAll 46 = .ok (.iload_n 3, 1) := by decide +kernel
theorem dX9_endOfAll_47 : decode cX9_endOfAll 47 = .ok (.invokestatic 169, 3) := by decide +kernel
theorem dX9_endOfAll_50 : decode cX9_endOfAll 50 = .ok (.ifCond .eq 14, 3) := by decide +kernel
theorem dX9_endOfAll_53 : decode cX9_endOfAll 53 = .ok (.iload_n 2, 1) := by decide +kernel
theorem dX9_endOfAll_54 : decode cX9_endOfAll 54 = .ok (.aload_n 0, 1) := by decide +kernel
theorem dX9_endOfAll_55 : decode cX9_endOfAll 55 = .ok (.getfield 12, 3) := by decide +kernel
theorem dX9_endOfAll_58 : decode cX9_endOfAll 58 = .ok (.iload_n 3, 1) := by decide +kernel
theorem dX9_endOfAll_59 : decode cX9_endOfAll 59 = .ok (.invokevirtual 239, 3) := by decide +kernel
theorem dX9_endOfAll_62 : decode cX9_endOfAll 62 = .ok (.iadd, 1) := by decide +kernel
theorem dX9_endOfAll_63 : decode cX9_endOfAll 63 = .ok (.istore_n 2, 1) := by decide +kernel
theorem dX9_endOfAll_64 : decode cX9_endOfAll 64 = .ok (.iinc 3 1, 3) := by decide +kernel
theorem dX9_endOfAll_67 : decode cX9_endOfAll 67 = .ok (.goto (-36), 3) := by decide +kernel
theorem dX9_endOfAll_70 : decode cX9_endOfAll 70 = .ok (.iload_n 2, 1) := by decide +kernel
theorem dX9_endOfAll_71 : decode cX9_endOfAll 71 = .ok (.ireturn, 1) := by decide +kernel
set_option maxRecDepth 20000 in
theorem ggX9_ifLeft_X6_has : GoodIn wsX9_ifLeft wsX6_has := goodIn_r _ [10, 11, 12, 13, 14, 51, 52, 53, 54, 55, 56, 57] (by decide +kernel) (by decide +kernel)
set_option maxRecDepth 20000 in
theorem gX9_ifLeft_X6_has : GoodIn wsX9_ifLeft (wsV RX9 88 RX6 yX6_has wsX6_has) := goodIn_app (goodIn_of _ (by decide +kernel)) ggX9_ifLeft_X6_has
set_option maxRecDepth 20000 in
theorem ggX9_ifLeft_X8_readyOnes : GoodIn wsX9_ifLeft wsX8_readyOnes := goodIn_r _ [19, 20, 21, 22, 18, 23, 24, 25, 26, 27, 28, 29, 30, 58, 59, 60, 61] (by decide +kernel) (by decide +kernel)
set_option maxRecDepth 20000 in
theorem gX9_ifLeft_X8_readyOnes : GoodIn wsX9_ifLeft (wsV RX9 184 RX8 yX8_readyOnes wsX8_readyOnes) := goodIn_app (goodIn_of _ (by decide +kernel)) ggX9_ifLeft_X8_readyOnes
set_option maxRecDepth 20000 in
theorem ggX9_ifLeft_J6_bitCount_0f7a4 : GoodIn wsX9_ifLeft wsJ6_bitCount_0f7a4 := goodIn_r _ [34, 35, 36, 37] (by decide +kernel) (by decide +kernel)
set_option maxRecDepth 20000 in
theorem gX9_ifLeft_J6_bitCount_0f7a4 : GoodIn wsX9_ifLeft (va_wsS RX9 102 yJ6_bitCount_0f7a4 wsJ6_bitCount_0f7a4) := goodIn_app (goodIn_of _ (by decide +kernel)) ggX9_ifLeft_J6_bitCount_0f7a4
theorem dX9_ifLeft_0 : decode cX9_ifLeft 0 = .ok (.aload_n 0, 1) := by decide +kernel
theorem dX9_ifLeft_1 : decode cX9_ifLeft 1 = .ok (.getfield 12, 3) := by decide +kernel
theorem dX9_ifLeft_4 : decode cX9_ifLeft 4 = .ok (.getfield 56, 3) := by decide +kernel
theorem dX9_ifLeft_7 : decode cX9_ifLeft 7 = .ok (.iload_n 1, 1) := by decide +kernel
theorem dX9_ifLeft_8 : decode cX9_ifLeft 8 = .ok (.invokevirtual 88, 3) := by decide +kernel
theorem dX9_ifLeft_11 : decode cX9_ifLeft 11 = .ok (.ifCond .ne 5, 3) := by decide +kernel
theorem dX9_ifLeft_14 : decode cX9_ifLeft 14 = .ok (.iconst (-1), 1) := by decide +kernel
theorem dX9_ifLeft_15 : decode cX9_ifLeft 15 = .ok (.ireturn, 1) := by decide +kernel
theorem dX9_ifLeft_16 : decode cX9_ifLeft 16 = .ok (.aload_n 0, 1) := by decide +kernel
theorem dX9_ifLeft_17 : decode cX9_ifLeft 17 = .ok (.getfield 12, 3) := by decide +kernel
theorem dX9_ifLeft_20 : decode cX9_ifLeft 20 = .ok (.getfield 56, 3) := by decide +kernel
theorem dX9_ifLeft_23 : decode cX9_ifLeft 23 = .ok (.getfield 99, 3) := by decide +kernel
theorem dX9_ifLeft_26 : decode cX9_ifLeft 26 = .ok (.iconst 1, 1) := by decide +kernel
theorem dX9_ifLeft_27 : decode cX9_ifLeft 27 = .ok (.iload_n 1, 1) := by decide +kernel
theorem dX9_ifLeft_28 : decode cX9_ifLeft 28 = .ok (.ishl, 1) := by decide +kernel
theorem dX9_ifLeft_29 : decode cX9_ifLeft 29 = .ok (.iconst (-1), 1) := by decide +kernel
theorem dX9_ifLeft_30 : decode cX9_ifLeft 30 = .ok (.ixor, 1) := by decide +kernel
theorem dX9_ifLeft_31 : decode cX9_ifLeft 31 = .ok (.iand, 1) := by decide +kernel
theorem dX9_ifLeft_32 : decode cX9_ifLeft 32 = .ok (.istore_n 2, 1) := by decide +kernel
theorem dX9_ifLeft_33 : decode cX9_ifLeft 33 = .ok (.aload_n 0, 1) := by decide +kernel
theorem dX9_ifLeft_34 : decode cX9_ifLeft 34 = .ok (.getfield 12, 3) := by decide +kernel
theorem dX9_ifLeft_37 : decode cX9_ifLeft 37 = .ok (.getfield 108, 3) := by decide +kernel
theorem dX9_ifLeft_40 : decode cX9_ifLeft 40 = .ok (.getfield 112, 3) := by decide +kernel
theorem dX9_ifLeft_43 : decode cX9_ifLeft 43 = .ok (.aload_n 0, 1) := by decide +kernel
theorem dX9_ifLeft_44 : decode cX9_ifLeft 44 = .ok (.getfield 12, 3) := by decide +kernel
theorem dX9_ifLeft_47 : decode cX9_ifLeft 47 = .ok (.getfield 108, 3) := by decide +kernel
theorem dX9_ifLeft_50 : decode cX9_ifLeft 50 = .ok (.iload_n 2, 1) := by decide +kernel
theorem dX9_ifLeft_51 : decode cX9_ifLeft 51 = .ok (.invokevirtual 184, 3) := by decide +kernel
theorem dX9_ifLeft_54 : decode cX9_ifLeft 54 = .ok (.invokestatic 102, 3) := by decide +kernel
theorem dX9_ifLeft_57 : decode cX9_ifLeft 57 = .ok (.isub, 1) := by decide +kernel
theorem dX9_ifLeft_58 : decode cX9_ifLeft 58 = .ok (.ireturn, 1) := by decide +kernel
set_option maxRecDepth 20000 in
theorem ggX9_heldUpBy_X8_has : GoodIn wsX9_heldUpBy wsX8_has := goodIn_r _ [8, 9, 10, 11, 12, 113, 114, 115, 116] (by decide +kernel) (by decide +kernel)
set_option maxRecDepth 20000 in
theorem gX9_heldUpBy_X8_has : GoodIn wsX9_heldUpBy (wsV RX9 120 RX8 yX8_has wsX8_has) := goodIn_app (goodIn_of _ (by decide +kernel)) ggX9_heldUpBy_X8_has
set_option maxRecDepth 20000 in
theorem ggX9_heldUpBy_X9_isBetween : GoodIn wsX9_heldUpBy wsX9_isBetween := goodIn_r _ [12] (by decide +kernel) (by decide +kernel)
set_option maxRecDepth 20000 in
theorem gX9_heldUpBy_X9_isBetween : GoodIn wsX9_heldUpBy (va_wsS RX9 74 yX9_isBetween wsX9_isBetween) := goodIn_app (goodIn_of _ (by decide +kernel)) ggX9_heldUpBy_X9_isBetween
set_option maxRecDepth 20000 in
theorem ggX9_heldUpBy_X0_isReady : GoodIn wsX9_heldUpBy wsX0_isReady := goodIn_r _ [18, 19, 20, 21, 22, 23, 24, 7, 25, 26, 27, 28, 29, 9, 30, 31, 32, 33, 34, 35, 36, 11, 37, 107, 108, 109, 110, 111, 112, 117, 118, 119, 120, 121, 122, 123, 113, 114, 115, 116] (by decide +kernel) (by decide +kernel)
set_option maxRecDepth 20000 in
theorem gX9_heldUpBy_X0_isReady : GoodIn wsX9_heldUpBy (wsV RX9 228 RX0 yX0_isReady wsX0_isReady) := goodIn_app (goodIn_of _ (by decide +kernel)) ggX9_heldUpBy_X0_isReady
set_option maxRecDepth 20000 in
theorem ggX9_heldUpBy_X9_beginWithout : GoodIn wsX9_heldUpBy wsX9_beginWithout := goodIn_r _ [41, 42, 1, 43, 44, 45, 46, 47, 48, 49, 50, 51, 52, 53, 54, 55, 56, 57, 58, 11, 59, 60, 61, 62, 63, 64, 65, 66, 67, 68, 23, 24, 7, 25, 26, 27, 28, 29, 9, 30, 31, 32, 33, 34, 35, 69, 70, 71, 72, 73, 74, 75, 76, 77, 78, 79, 80, 36, 37, 81, 82, 83, 84, 85, 86, 87, 88, 89, 90, 17, 91, 92, 93, 19, 94, 95, 96, 97, 98, 99, 100, 101, 102, 103, 104, 105, 106, 124, 125, 126, 107, 108, 109, 110, 111, 112, 117, 118, 119, 120, 121, 122, 123, 113, 114, 115, 116, 127, 128, 129, 130, 131] (by decide +kernel) (by decide +kernel)
set_option maxRecDepth 20000 in
theorem gX9_heldUpBy_X9_beginWithout : GoodIn wsX9_heldUpBy (wsV RX9 242 RX9 yX9_beginWithout wsX9_beginWithout) := goodIn_app (goodIn_of _ (by decide +kernel)) ggX9_heldUpBy_X9_beginWithout
theorem dX9_heldUpBy_0 : decode cX9_heldUpBy 0 = .ok (.aload_n 0, 1) := by decide +kernel
theorem dX9_heldUpBy_1 : decode cX9_heldUpBy 1 = .ok (.getfield 12, 3) := by decide +kernel
theorem dX9_heldUpBy_4 : decode cX9_heldUpBy 4 = .ok (.getfield 108, 3) := by decide +kernel
theorem dX9_heldUpBy_7 : decode cX9_heldUpBy 7 = .ok (.iload_n 1, 1) := by decide +kernel
theorem dX9_heldUpBy_8 : decode cX9_heldUpBy 8 = .ok (.invokevirtual 120, 3) := by decide +kernel
theorem dX9_heldUpBy_11 : decode cX9_heldUpBy 11 = .ok (.ifCond .ne 5, 3) := by decide +kernel
theorem dX9_heldUpBy_14 : decode cX9_heldUpBy 14 = .ok (.iconst (-1), 1) := by decide +kernel
theorem dX9_heldUpBy_15 : decode cX9_heldUpBy 15 = .ok (.ireturn, 1) := by decide +kernel
theorem dX9_heldUpBy_16 : decode cX9_heldUpBy 16 = .ok (.iload_n 2, 1) := by decide +kernel
theorem dX9_heldUpBy_17 : decode cX9_heldUpBy 17 = .ok (.iconst 0, 1) := by decide +kernel
theorem dX9_heldUpBy_18 : decode cX9_heldUpBy 18 = .ok (.iconst 1, 1) := by decide +kernel
theorem dX9_heldUpBy_19 : decode cX9_heldUpBy 19 = .ok (.invokestatic 74, 3) := by decide +kernel
theorem dX9_heldUpBy_22 : decode cX9_heldUpBy 22 = .ok (.ifCond .ne 6, 3) := by decide +kernel
theorem dX9_heldUpBy_25 : decode cX9_heldUpBy 25 = .ok (.bipush (-2), 2) := by decide +kernel
theorem dX9_heldUpBy_27 : decode cX9_heldUpBy 27 = .ok (.ireturn, 1) := by decide +kernel
theorem dX9_heldUpBy_28 : decode cX9_heldUpBy 28 = .ok (.aload_n 0, 1) := by decide +kernel
theorem dX9_heldUpBy_29 : decode cX9_heldUpBy 29 = .ok (.getfield 12, 3) := by decide +kernel
theorem dX9_heldUpBy_32 : decode cX9_heldUpBy 32 = .ok (.iload_n 1, 1) := by decide +kernel
theorem dX9_heldUpBy_33 : decode cX9_heldUpBy 33 = .ok (.invokevirtual 228, 3) := by decide +kernel
theorem dX9_heldUpBy_36 : decode cX9_heldUpBy 36 = .ok (.ifCond .eq 17, 3) := by decide +kernel
theorem dX9_heldUpBy_39 : decode cX9_heldUpBy 39 = .ok (.aload_n 0, 1) := by decide +kernel
theorem dX9_heldUpBy_40 : decode cX9_heldUpBy 40 = .ok (.getfield 12, 3) := by decide +kernel
theorem dX9_heldUpBy_43 : decode cX9_heldUpBy 43 = .ok (.getfield 108, 3) := by decide +kernel
theorem dX9_heldUpBy_46 : decode cX9_heldUpBy 46 = .ok (.getfield 112, 3) := by decide +kernel
theorem dX9_heldUpBy_49 : decode cX9_heldUpBy 49 = .ok (.iconst 1, 1) := by decide +kernel
theorem dX9_heldUpBy_50 : decode cX9_heldUpBy 50 = .ok (.if_icmp .ne 6, 3) := by decide +kernel
theorem dX9_heldUpBy_53 : decode cX9_heldUpBy 53 = .ok (.bipush (-6), 2) := by decide +kernel
theorem dX9_heldUpBy_55 : decode cX9_heldUpBy 55 = .ok (.ireturn, 1) := by decide +kernel
theorem dX9_heldUpBy_56 : decode cX9_heldUpBy 56 = .ok (.aload_n 0, 1) := by decide +kernel
theorem dX9_heldUpBy_57 : decode cX9_heldUpBy 57 = .ok (.iload_n 1, 1) := by decide +kernel
theorem dX9_heldUpBy_58 : decode cX9_heldUpBy 58 = .ok (.bipush (-6), 2) := by decide +kernel
theorem dX9_heldUpBy_60 : decode cX9_heldUpBy 60 = .ok (.invokevirtual 242, 3) := by decide +kernel
theorem dX9_heldUpBy_63 : decode cX9_heldUpBy 63 = .ok (.istore_n 3, 1) := by decide +kernel
theorem dX9_heldUpBy_64 : decode cX9_heldUpBy 64 = .ok (.bipush (-6), 2) := by decide +kernel
theorem dX9_heldUpBy_66 : decode cX9_heldUpBy 66 = .ok (.istore 4, 2) := by decide +kernel
theorem dX9_heldUpBy_68 : decode cX9_heldUpBy 68 = .ok (.iconst 0, 1) := by decide +kernel
theorem dX9_heldUpBy_69 : decode cX9_heldUpBy 69 = .ok (.istore 5, 2) := by decide +kernel
theorem dX9_heldUpBy_71 : decode cX9_heldUpBy 71 = .ok (.iconst 0, 1) := by decide +kernel
theorem dX9_heldUpBy_72 : decode cX9_heldUpBy 72 = .ok (.istore 6, 2) := by decide +kernel
theorem dX9_heldUpBy_74 : decode cX9_heldUpBy 74 = .ok (.iload 6, 2) := by decide +kernel
theorem dX9_heldUpBy_76 : decode cX9_heldUpBy 76 = .ok (.aload_n 0, 1) := by decide +kernel
theorem dX9_heldUpBy_77 : decode cX9_heldUpBy 77 = .ok (.getfield 12, 3) := by decide +kernel
theorem dX9_heldUpBy_80 : decode cX9_heldUpBy 80 = .ok (.getfield 108, 3) := by decide +kernel
theorem dX9_heldUpBy_83 : decode cX9_heldUpBy 83 = .ok (.getfield 112, 3) := by decide +kernel
theorem dX9_heldUpBy_86 : decode cX9_heldUpBy 86 = .ok (.if_icmp .ge 51, 3) := by decide +kernel
theorem dX9_heldUpBy_89 : decode cX9_heldUpBy 89 = .ok (.iload 6, 2) := by decide +kernel
theorem dX9_heldUpBy_91 : decode cX9_heldUpBy 91 = .ok (.iload_n 1, 1) := by decide +kernel
theorem dX9_heldUpBy_92 : decode cX9_heldUpBy 92 = .ok (.if_icmp .ne 6, 3) := by decide +kernel
theorem dX9_heldUpBy_95 : decode cX9_heldUpBy 95 = .ok (.goto 36, 3) := by decide +kernel
theorem dX9_heldUpBy_98 : decode cX9_heldUpBy 98 = .ok (.iload_n 3, 1) := by decide +kernel
theorem dX9_heldUpBy_99 : decode cX9_heldUpBy 99 = .ok (.aload_n 0, 1) := by decide +kernel
theorem dX9_heldUpBy_100 : decode cX9_heldUpBy 100 = .ok (.iload_n 1, 1) := by decide +kernel
theorem dX9_heldUpBy_101 : decode cX9_heldUpBy 101 = .ok (.iload 6, 2) := by decide +kernel
theorem dX9_heldUpBy_103 : decode cX9_heldUpBy 103 = .ok (.invokevirtual 242, 3) := by decide +kernel
theorem dX9_heldUpBy_106 : decode cX9_heldUpBy 106 = .ok (.isub, 1) := by decide +kernel
theorem dX9_heldUpBy_107 : decode cX9_heldUpBy 107 = .ok (.istore 7, 2) := by decide +kernel
theorem dX9_heldUpBy_109 : decode cX9_heldUpBy 109 = .ok (.iload 4, 2) := by decide +kernel
theorem dX9_heldUpBy_111 : decode cX9_heldUpBy 111 = .ok (.bipush (-6), 2) := by decide +kernel
theorem dX9_heldUpBy_113 : decode cX9_heldUpBy 113 = .ok (.if_icmp .eq 10, 3) := by decide +kernel
theorem dX9_heldUpBy_116 : decode cX9_heldUpBy 116 = .ok (.iload 7, 2) := by decide +kernel
theorem dX9_heldUpBy_118 : decode cX9_heldUpBy 118 = .ok (.iload 5, 2) := by decide +kernel
theorem dX9_heldUpBy_120 : decode cX9_heldUpBy 120 = .ok (.if_icmp .le 11, 3) := by decide +kernel
theorem dX9_heldUpBy_123 : decode cX9_heldUpBy 123 = .ok (.iload 6, 2) := by decide +kernel
theorem dX9_heldUpBy_125 : decode cX9_heldUpBy 125 = .ok (.istore 4, 2) := by decide +kernel
theorem dX9_heldUpBy_127 : decode cX9_heldUpBy 127 = .ok (.iload 7, 2) := by decide +kernel
theorem dX9_heldUpBy_129 : decode cX9_heldUpBy 129 = .ok (.istore 5, 2) := by decide +kernel
theorem dX9_heldUpBy_131 : decode cX9_heldUpBy 131 = .ok (.iinc 6 1, 3) := by decide +kernel
theorem dX9_heldUpBy_134 : decode cX9_heldUpBy 134 = .ok (.goto (-60), 3) := by decide +kernel
theorem dX9_heldUpBy_137 : decode cX9_heldUpBy 137 = .ok (.iload_n 2, 1) := by decide +kernel
theorem dX9_heldUpBy_138 : decode cX9_heldUpBy 138 = .ok (.ifCond .ne 8, 3) := by decide +kernel
theorem dX9_heldUpBy_141 : decode cX9_heldUpBy 141 = .ok (.iload 4, 2) := by decide +kernel
theorem dX9_heldUpBy_143 : decode cX9_heldUpBy 143 = .ok (.goto 5, 3) := by decide +kernel
theorem dX9_heldUpBy_146 : decode cX9_heldUpBy 146 = .ok (.iload 5, 2) := by decide +kernel
theorem dX9_heldUpBy_148 : decode cX9_heldUpBy 148 = .ok (.ireturn, 1) := by decide +kernel
set_option maxRecDepth 20000 in
theorem ggX9_together_X6_has : GoodIn wsX9_together wsX6_has := goodIn_r _ [9, 10, 11, 12, 13, 59, 60, 61, 62, 63, 64, 65] (by decide +kernel) (by decide +kernel)
set_option maxRecDepth 20000 in
theorem gX9_together_X6_has : GoodIn wsX9_together (wsV RX9 88 RX6 yX6_has wsX6_has) := goodIn_app (goodIn_of _ (by decide +kernel)) ggX9_together_X6_has
set_option maxRecDepth 20000 in
theorem ggX9_together_X0_keyAndTen : GoodIn wsX9_together wsX0_keyAndTen := goodIn_r _ [18, 19, 20, 21, 22, 23, 24, 25, 26, 27, 28, 29, 30, 31, 32, 33, 34, 35, 36, 37, 38, 39, 40, 48, 49, 50, 51, 52, 53, 59, 60, 61, 62, 63, 64, 65, 54, 55, 56, 57, 58] (by decide +kernel) (by decide +kernel)
set_option maxRecDepth 20000 in
theorem gX9_together_X0_keyAndTen : GoodIn wsX9_together (wsV RX9 181 RX0 yX0_keyAndTen wsX0_keyAndTen) := goodIn_app (goodIn_of _ (by decide +kernel)) ggX9_together_X0_keyAndTen
theorem dX9_together_0 : decode cX9_together 0 = .ok (.aload_n 0, 1) := by decide +kernel
theorem dX9_together_1 : decode cX9_together 1 = .ok (.getfield 12, 3) := by decide +kernel
theorem dX9_together_4 : decode cX9_together 4 = .ok (.getfield 56, 3) := by decide +kernel
theorem dX9_together_7 : decode cX9_together 7 = .ok (.iload_n 1, 1) := by decide +kernel
theorem dX9_together_8 : decode cX9_together 8 = .ok (.invokevirtual 88, 3) := by decide +kernel
theorem dX9_together_11 : decode cX9_together 11 = .ok (.ifCond .eq 17, 3) := by decide +kernel
theorem dX9_together_14 : decode cX9_together 14 = .ok (.aload_n 0, 1) := by decide +kernel
theorem dX9_together_15 : decode cX9_together 15 = .ok (.getfield 12, 3) := by decide +kernel
theorem dX9_together_18 : decode cX9_together 18 = .ok (.getfield 56, 3) := by decide +kernel
theorem dX9_together_21 : decode cX9_together 21 = .ok (.iload_n 2, 1) := by decide +kernel
theorem dX9_together_22 : decode cX9_together 22 = .ok (.invokevirtual 88, 3) := by decide +kernel
theorem dX9_together_25 : decode cX9_together 25 = .ok (.ifCond .ne 5, 3) := by decide +kernel
theorem dX9_together_28 : decode cX9_together 28 = .ok (.iconst (-1), 1) := by decide +kernel
theorem dX9_together_29 : decode cX9_together 29 = .ok (.ireturn, 1) := by decide +kernel
theorem dX9_together_30 : decode cX9_together 30 = .ok (.iload_n 1, 1) := by decide +kernel
theorem dX9_together_31 : decode cX9_together 31 = .ok (.iload_n 2, 1) := by decide +kernel
theorem dX9_together_32 : decode cX9_together 32 = .ok (.if_icmp .ne 6, 3) := by decide +kernel
theorem dX9_together_35 : decode cX9_together 35 = .ok (.bipush (-2), 2) := by decide +kernel
theorem dX9_together_37 : decode cX9_together 37 = .ok (.ireturn, 1) := by decide +kernel
theorem dX9_together_38 : decode cX9_together 38 = .ok (.iconst 0, 1) := by decide +kernel
theorem dX9_together_39 : decode cX9_together 39 = .ok (.istore_n 3, 1) := by decide +kernel
theorem dX9_together_40 : decode cX9_together 40 = .ok (.iconst 0, 1) := by decide +kernel
theorem dX9_together_41 : decode cX9_together 41 = .ok (.istore 4, 2) := by decide +kernel
theorem dX9_together_43 : decode cX9_together 43 = .ok (.iload 4, 2) := by decide +kernel
theorem dX9_together_45 : decode cX9_together 45 = .ok (.aload_n 0, 1) := by decide +kernel
theorem dX9_together_46 : decode cX9_together 46 = .ok (.getfield 12, 3) := by decide +kernel
theorem dX9_together_49 : decode cX9_together 49 = .ok (.getfield 78, 3) := by decide +kernel
theorem dX9_together_52 : decode cX9_together 52 = .ok (.getfield 82, 3) := by decide +kernel
theorem dX9_together_55 : decode cX9_together 55 = .ok (.if_icmp .ge 28, 3) := by decide +kernel
theorem dX9_together_58 : decode cX9_together 58 = .ok (.aload_n 0, 1) := by decide +kernel
theorem dX9_together_59 : decode cX9_together 59 = .ok (.getfield 12, 3) := by decide +kernel
theorem dX9_together_62 : decode cX9_together 62 = .ok (.iload_n 1, 1) := by decide +kernel
theorem dX9_together_63 : decode cX9_together 63 = .ok (.iload_n 2, 1) := by decide +kernel
theorem dX9_together_64 : decode cX9_together 64 = .ok (.iload 4, 2) := by decide +kernel
theorem dX9_together_66 : decode cX9_together 66 = .ok (.invokevirtual 181, 3) := by decide +kernel
theorem dX9_together_69 : decode cX9_together 69 = .ok (.bipush (-6), 2) := by decide +kernel
theorem dX9_together_71 : decode cX9_together 71 = .ok (.if_icmp .eq 6, 3) := by decide +kernel
theorem dX9_together_74 : decode cX9_together 74 = .ok (.iinc 3 1, 3) := by decide +kernel
theorem dX9_together_77 : decode cX9_together 77 = .ok (.iinc 4 1, 3) := by decide +kernel
theorem dX9_together_80 : decode cX9_together 80 = .ok (.goto (-37), 3) := by decide +kernel
theorem dX9_together_83 : decode cX9_together 83 = .ok (.iload_n 3, 1) := by decide +kernel
theorem dX9_together_84 : decode cX9_together 84 = .ok (.ireturn, 1) := by decide +kernel
theorem dX9_isBetween_0 : decode cX9_isBetween 0 = .ok (.iload_n 0, 1) := by decide +kernel
theorem dX9_isBetween_1 : decode cX9_isBetween 1 = .ok (.iload_n 1, 1) := by decide +kernel
theorem dX9_isBetween_2 : decode cX9_isBetween 2 = .ok (.if_icmp .lt 12, 3) := by decide +kernel
theorem dX9_isBetween_5 : decode cX9_isBetween 5 = .ok (.iload_n 0, 1) := by decide +kernel
theorem dX9_isBetween_6 : decode cX9_isBetween 6 = .ok (.iload_n 2, 1) := by decide +kernel
theorem dX9_isBetween_7 : decode cX9_isBetween 7 = .ok (.if_icmp .gt 7, 3) := by decide +kernel
theorem dX9_isBetween_10 : decode cX9_isBetween 10 = .ok (.iconst 1, 1) := by decide +kernel
theorem dX9_isBetween_11 : decode cX9_isBetween 11 = .ok (.goto 4, 3) := by decide +kernel
theorem dX9_isBetween_14 : decode cX9_isBetween 14 = .ok (.iconst 0, 1) := by decide +kernel
theorem dX9_isBetween_15 : decode cX9_isBetween 15 = .ok (.ireturn, 1) := by decide +kernel
set_option maxRecDepth 20000 in
theorem ggX9_isToneRange_X9_isBetween : GoodIn wsX9_isToneRange wsX9_isBetween := goodIn_r _ [4] (by decide +kernel) (by decide +kernel)
set_option maxRecDepth 20000 in
theorem gX9_isToneRange_X9_isBetween : GoodIn wsX9_isToneRange (va_wsS RX9 74 yX9_isBetween wsX9_isBetween) := goodIn_app (goodIn_of _ (by decide +kernel)) ggX9_isToneRange_X9_isBetween
theorem dX9_isToneRange_0 : decode cX9_isToneRange 0 = .ok (.iload_n 0, 1) := by decide +kernel
theorem dX9_isToneRange_1 : decode cX9_isToneRange 1 = .ok (.iconst 0, 1) := by decide +kernel
theorem dX9_isToneRange_2 : decode cX9_isToneRange 2 = .ok (.bipush 60, 2) := by decide +kernel
theorem dX9_isToneRange_4 : decode cX9_isToneRange 4 = .ok (.invokestatic 74, 3) := by decide +kernel
theorem dX9_isToneRange_7 : decode cX9_isToneRange 7 = .ok (.ifCond .eq 17, 3) := by decide +kernel
theorem dX9_isToneRange_10 : decode cX9_isToneRange 10 = .ok (.iload_n 1, 1) := by decide +kernel
theorem dX9_isToneRange_11 : decode cX9_isToneRange 11 = .ok (.iload_n 0, 1) := by decide +kernel
theorem dX9_isToneRange_12 : decode cX9_isToneRange 12 = .ok (.bipush 60, 2) := by decide +kernel
theorem dX9_isToneRange_14 : decode cX9_isToneRange 14 = .ok (.invokestatic 74, 3) := by decide +kernel
theorem dX9_isToneRange_17 : decode cX9_isToneRange 17 = .ok (.ifCond .eq 7, 3) := by decide +kernel
theorem dX9_isToneRange_20 : decode cX9_isToneRange 20 = .ok (.iconst 1, 1) := by decide +kernel
theorem dX9_isToneRange_21 : decode cX9_isToneRange 21 = .ok (.goto 4, 3) := by decide +kernel
theorem dX9_isToneRange_24 : decode cX9_isToneRange 24 = .ok (.iconst 0, 1) := by decide +kernel
theorem dX9_isToneRange_25 : decode cX9_isToneRange 25 = .ok (.ireturn, 1) := by decide +kernel
theorem dX9_isIn_0 : decode cX9_isIn 0 = .ok (.iload_n 0, 1) := by decide +kernel
theorem dX9_isIn_1 : decode cX9_isIn 1 = .ok (.iload_n 1, 1) := by decide +kernel
theorem dX9_isIn_2 : decode cX9_isIn 2 = .ok (.ishr, 1) := by decide +kernel
theorem dX9_isIn_3 : decode cX9_isIn 3 = .ok (.iconst 1, 1) := by decide +kernel
theorem dX9_isIn_4 : decode cX9_isIn 4 = .ok (.iand, 1) := by decide +kernel
theorem dX9_isIn_5 : decode cX9_isIn 5 = .ok (.iconst 1, 1) := by decide +kernel
theorem dX9_isIn_6 : decode cX9_isIn 6 = .ok (.if_icmp .ne 7, 3) := by decide +kernel
theorem dX9_isIn_9 : decode cX9_isIn 9 = .ok (.iconst 1, 1) := by decide +kernel
theorem dX9_isIn_10 : decode cX9_isIn 10 = .ok (.goto 4, 3) := by decide +kernel
theorem dX9_isIn_13 : decode cX9_isIn 13 = .ok (.iconst 0, 1) := by decide +kernel
theorem dX9_isIn_14 : decode cX9_isIn 14 = .ok (.ireturn, 1) := by decide +kernel
theorem dX9_asNumber_0 : decode cX9_asNumber 0 = .ok (.iload_n 0, 1) := by decide +kernel
theorem dX9_asNumber_1 : decode cX9_asNumber 1 = .ok (.ifCond .eq 7, 3) := by decide +kernel
theorem dX9_asNumber_4 : decode cX9_asNumber 4 = .ok (.iconst 1, 1) := by decide +kernel
theorem dX9_asNumber_5 : decode cX9_asNumber 5 = .ok (.goto 4, 3) := by decide +kernel
theorem dX9_asNumber_8 : decode cX9_asNumber 8 = .ok (.iconst 0, 1) := by decide +kernel
theorem dX9_asNumber_9 : decode cX9_asNumber 9 = .ok (.ireturn, 1) := by decide +kernel
theorem dX9_copyRow_0 : decode cX9_copyRow 0 = .ok (.aload_n 0, 1) := by decide +kernel
theorem dX9_copyRow_1 : decode cX9_copyRow 1 = .ok (.iconst 0, 1) := by decide +kernel
theorem dX9_copyRow_2 : decode cX9_copyRow 2 = .ok (.aload_n 1, 1) := by decide +kernel
theorem dX9_copyRow_3 : decode cX9_copyRow 3 = .ok (.iconst 0, 1) := by decide +kernel
theorem dX9_copyRow_4 : decode cX9_copyRow 4 = .ok (.aload_n 0, 1) := by decide +kernel
theorem dX9_copyRow_5 : decode cX9_copyRow 5 = .ok (.arraylength, 1) := by decide +kernel
theorem dX9_copyRow_6 : decode cX9_copyRow 6 = .ok (.aload_n 1, 1) := by decide +kernel
theorem dX9_copyRow_7 : decode cX9_copyRow 7 = .ok (.arraylength, 1) := by decide +kernel
theorem dX9_copyRow_8 : decode cX9_copyRow 8 = .ok (.invokestatic 259, 3) := by decide +kernel
theorem dX9_copyRow_11 : decode cX9_copyRow 11 = .ok (.invokestatic 264, 3) := by decide +kernel
theorem dX9_copyRow_14 : decode cX9_copyRow 14 = .ok (.return_, 1) := by decide +kernel
set_option maxRecDepth 20000 in
theorem ggX9_beginWithout_X5_lookAhead : GoodIn wsX9_beginWithout wsX5_lookAhead := goodIn_r _ [8, 9, 10, 11, 12, 13, 14, 15, 16, 17, 18, 19, 20, 21, 22, 23, 24, 25, 26, 27, 28, 29, 30, 31, 32, 33, 34, 35, 36, 37, 38, 39, 40, 41, 42, 43, 44, 45, 46, 47, 48, 49, 50, 51, 52, 53, 54, 55, 56, 57, 58, 59, 60, 61, 62, 63, 64, 65, 66, 67, 68, 69, 70, 71, 72, 73, 74, 75, 76, 77, 78, 7, 79, 90, 91, 92, 93, 94, 95, 96, 97, 98, 99, 100, 101, 102, 87, 88, 89, 103, 104, 105, 106, 107, 108, 109, 110, 111] (by decide +kernel) (by decide +kernel)
set_option maxRecDepth 20000 in
theorem gX9_beginWithout_X5_lookAhead : GoodIn wsX9_beginWithout (wsV RX9 231 RX5 yX5_lookAhead wsX5_lookAhead) := goodIn_app (goodIn_of _ (by decide +kernel)) ggX9_beginWithout_X5_lookAhead
theorem dX9_beginWithout_0 : decode cX9_beginWithout 0 = .ok (.aload_n 0, 1) := by decide +kernel
theorem dX9_beginWithout_1 : decode cX9_beginWithout 1 = .ok (.getfield 48, 3) := by decide +kernel
theorem dX9_beginWithout_4 : decode cX9_beginWithout 4 = .ok (.aload_n 0, 1) := by decide +kernel
theorem dX9_beginWithout_5 : decode cX9_beginWithout 5 = .ok (.getfield 12, 3) := by decide +kernel
theorem dX9_beginWithout_8 : decode cX9_beginWithout 8 = .ok (.iload_n 1, 1) := by decide +kernel
theorem dX9_beginWithout_9 : decode cX9_beginWithout 9 = .ok (.iload_n 2, 1) := by decide +kernel
theorem dX9_beginWithout_10 : decode cX9_beginWithout 10 = .ok (.invokevirtual 231, 3) := by decide +kernel
theorem dX9_beginWithout_13 : decode cX9_beginWithout 13 = .ok (.aload_n 0, 1) := by decide +kernel
theorem dX9_beginWithout_14 : decode cX9_beginWithout 14 = .ok (.getfield 48, 3) := by decide +kernel
theorem dX9_beginWithout_17 : decode cX9_beginWithout 17 = .ok (.getfield 238, 3) := by decide +kernel
theorem dX9_beginWithout_20 : decode cX9_beginWithout 20 = .ok (.ireturn, 1) := by decide +kernel
end
section
theorem dJ6_bitCount_0f7a4_0 : decode cJ6_bitCount_0f7a4 0 = .ok (.iload_n 0, 1) := by decide +kernel
theorem dJ6_bitCount_0f7a4_1 : decode cJ6_bitCount_0f7a4 1 = .ok (.iload_n 0, 1) := by decide +kernel
theorem dJ6_bitCount_0f7a4_2 : decode cJ6_bitCount_0f7a4 2 = .ok (.iconst 1, 1) := by decide +kernel
theorem dJ6_bitCount_0f7a4_3 : decode cJ6_bitCount_0f7a4 3 = .ok (.iushr, 1) := by decide +kernel
theorem dJ6_bitCount_0f7a4_4 : decode cJ6_bitCount_0f7a4 4 = .ok (.ldc_w 265, 3) := by decide +kernel
theorem dJ6_bitCount_0f7a4_7 : decode cJ6_bitCount_0f7a4 7 = .ok (.iand, 1) := by decide +kernel
theorem dJ6_bitCount_0f7a4_8 : decode cJ6_bitCount_0f7a4 8 = .ok (.isub, 1) := by decide +kernel
theorem dJ6_bitCount_0f7a4_9 : decode cJ6_bitCount_0f7a4 9 = .ok (.istore_n 0, 1) := by decide +kernel
theorem dJ6_bitCount_0f7a4_10 : decode cJ6_bitCount_0f7a4 10 = .ok (.iload_n 0, 1) := by decide +kernel
theorem dJ6_bitCount_0f7a4_11 : decode cJ6_bitCount_0f7a4 11 = .ok (.ldc_w 266, 3) := by decide +kernel
theorem dJ6_bitCount_0f7a4_14 : decode cJ6_bitCount_0f7a4 14 = .ok (.iand, 1) := by decide +kernel
theorem dJ6_bitCount_0f7a4_15 : decode cJ6_bitCount_0f7a4 15 = .ok (.iload_n 0, 1) := by decide +kernel
theorem dJ6_bitCount_0f7a4_16 : decode cJ6_bitCount_0f7a4 16 = .ok (.iconst 2, 1) := by decide +kernel
theorem dJ6_bitCount_0f7a4_17 : decode cJ6_bitCount_0f7a4 17 = .ok (.iushr, 1) := by decide +kernel
theorem dJ6_bitCount_0f7a4_18 : decode cJ6_bitCount_0f7a4 18 = .ok (.ldc_w 266, 3) := by decide +kernel
theorem dJ6_bitCount_0f7a4_21 : decode cJ6_bitCount_0f7a4 21 = .ok (.iand, 1) := by decide +kernel
theorem dJ6_bitCount_0f7a4_22 : decode cJ6_bitCount_0f7a4 22 = .ok (.iadd, 1) := by decide +kernel
theorem dJ6_bitCount_0f7a4_23 : decode cJ6_bitCount_0f7a4 23 = .ok (.istore_n 0, 1) := by decide +kernel
theorem dJ6_bitCount_0f7a4_24 : decode cJ6_bitCount_0f7a4 24 = .ok (.iload_n 0, 1) := by decide +kernel
theorem dJ6_bitCount_0f7a4_25 : decode cJ6_bitCount_0f7a4 25 = .ok (.iload_n 0, 1) := by decide +kernel
theorem dJ6_bitCount_0f7a4_26 : decode cJ6_bitCount_0f7a4 26 = .ok (.iconst 4, 1) := by decide +kernel
theorem dJ6_bitCount_0f7a4_27 : decode cJ6_bitCount_0f7a4 27 = .ok (.iushr, 1) := by decide +kernel
theorem dJ6_bitCount_0f7a4_28 : decode cJ6_bitCount_0f7a4 28 = .ok (.iadd, 1) := by decide +kernel
theorem dJ6_bitCount_0f7a4_29 : decode cJ6_bitCount_0f7a4 29 = .ok (.ldc_w 267, 3) := by decide +kernel
theorem dJ6_bitCount_0f7a4_32 : decode cJ6_bitCount_0f7a4 32 = .ok (.iand, 1) := by decide +kernel
theorem dJ6_bitCount_0f7a4_33 : decode cJ6_bitCount_0f7a4 33 = .ok (.istore_n 0, 1) := by decide +kernel
theorem dJ6_bitCount_0f7a4_34 : decode cJ6_bitCount_0f7a4 34 = .ok (.iload_n 0, 1) := by decide +kernel
theorem dJ6_bitCount_0f7a4_35 : decode cJ6_bitCount_0f7a4 35 = .ok (.iload_n 0, 1) := by decide +kernel
theorem dJ6_bitCount_0f7a4_36 : decode cJ6_bitCount_0f7a4 36 = .ok (.bipush 8, 2) := by decide +kernel
theorem dJ6_bitCount_0f7a4_38 : decode cJ6_bitCount_0f7a4 38 = .ok (.iushr, 1) := by decide +kernel
theorem dJ6_bitCount_0f7a4_39 : decode cJ6_bitCount_0f7a4 39 = .ok (.iadd, 1) := by decide +kernel
theorem dJ6_bitCount_0f7a4_40 : decode cJ6_bitCount_0f7a4 40 = .ok (.istore_n 0, 1) := by decide +kernel
theorem dJ6_bitCount_0f7a4_41 : decode cJ6_bitCount_0f7a4 41 = .ok (.iload_n 0, 1) := by decide +kernel
theorem dJ6_bitCount_0f7a4_42 : decode cJ6_bitCount_0f7a4 42 = .ok (.iload_n 0, 1) := by decide +kernel
theorem dJ6_bitCount_0f7a4_43 : decode cJ6_bitCount_0f7a4 43 = .ok (.bipush 16, 2) := by decide +kernel
theorem dJ6_bitCount_0f7a4_45 : decode cJ6_bitCount_0f7a4 45 = .ok (.iushr, 1) := by decide +kernel
theorem dJ6_bitCount_0f7a4_46 : decode cJ6_bitCount_0f7a4 46 = .ok (.iadd, 1) := by decide +kernel
theorem dJ6_bitCount_0f7a4_47 : decode cJ6_bitCount_0f7a4 47 = .ok (.istore_n 0, 1) := by decide +kernel
theorem dJ6_bitCount_0f7a4_48 : decode cJ6_bitCount_0f7a4 48 = .ok (.iload_n 0, 1) := by decide +kernel
theorem dJ6_bitCount_0f7a4_49 : decode cJ6_bitCount_0f7a4 49 = .ok (.bipush 63, 2) := by decide +kernel
theorem dJ6_bitCount_0f7a4_51 : decode cJ6_bitCount_0f7a4 51 = .ok (.iand, 1) := by decide +kernel
theorem dJ6_bitCount_0f7a4_52 : decode cJ6_bitCount_0f7a4 52 = .ok (.ireturn, 1) := by decide +kernel
theorem dJ9_max_7cf53_0 : decode cJ9_max_7cf53 0 = .ok (.iload_n 0, 1) := by decide +kernel
theorem dJ9_max_7cf53_1 : decode cJ9_max_7cf53 1 = .ok (.iload_n 1, 1) := by decide +kernel
theorem dJ9_max_7cf53_2 : decode cJ9_max_7cf53 2 = .ok (.if_icmp .lt 7, 3) := by decide +kernel
theorem dJ9_max_7cf53_5 : decode cJ9_max_7cf53 5 = .ok (.iload_n 0, 1) := by decide +kernel
theorem dJ9_max_7cf53_6 : decode cJ9_max_7cf53 6 = .ok (.goto 4, 3) := by decide +kernel
theorem dJ9_max_7cf53_9 : decode cJ9_max_7cf53 9 = .ok (.iload_n 1, 1) := by decide +kernel
theorem dJ9_max_7cf53_10 : decode cJ9_max_7cf53 10 = .ok (.ireturn, 1) := by decide +kernel
theorem dJ9_min_7cf53_0 : decode cJ9_min_7cf53 0 = .ok (.iload_n 0, 1) := by decide +kernel
theorem dJ9_min_7cf53_1 : decode cJ9_min_7cf53 1 = .ok (.iload_n 1, 1) := by decide +kernel
theorem dJ9_min_7cf53_2 : decode cJ9_min_7cf53 2 = .ok (.if_icmp .gt 7, 3) := by decide +kernel
theorem dJ9_min_7cf53_5 : decode cJ9_min_7cf53 5 = .ok (.iload_n 0, 1) := by decide +kernel
theorem dJ9_min_7cf53_6 : decode cJ9_min_7cf53 6 = .ok (.goto 4, 3) := by decide +kernel
theorem dJ9_min_7cf53_9 : decode cJ9_min_7cf53 9 = .ok (.iload_n 1, 1) := by decide +kernel
theorem dJ9_min_7cf53_10 : decode cJ9_min_7cf53 10 = .ok (.ireturn, 1) := by decide +kernel
theorem dL_cell_0 : decode cL_cell 0 = .ok (.iload_n 1, 1) := by decide +kernel
theorem dL_cell_1 : decode cL_cell 1 = .ok (.aload_n 0, 1) := by decide +kernel
theorem dL_cell_2 : decode cL_cell 2 = .ok (.arraylength, 1) := by decide +kernel
theorem dL_cell_3 : decode cL_cell 3 = .ok (.if_icmp .ge 9, 3) := by decide +kernel
theorem dL_cell_6 : decode cL_cell 6 = .ok (.aload_n 0, 1) := by decide +kernel
theorem dL_cell_7 : decode cL_cell 7 = .ok (.iload_n 1, 1) := by decide +kernel
theorem dL_cell_8 : decode cL_cell 8 = .ok (.iaload, 1) := by decide +kernel
theorem dL_cell_9 : decode cL_cell 9 = .ok (.goto 12, 3) := by decide +kernel
theorem dL_cell_12 : decode cL_cell 12 = .ok (.ldc 7, 2) := by decide +kernel
theorem dL_cell_14 : decode cL_cell 14 = .ok (.iload_n 1, 1) := by decide +kernel
theorem dL_cell_15 : decode cL_cell 15 = .ok (.iconst 1, 1) := by decide +kernel
theorem dL_cell_16 : decode cL_cell 16 = .ok (.iadd, 1) := by decide +kernel
theorem dL_cell_17 : decode cL_cell 17 = .ok (.imul, 1) := by decide +kernel
theorem dL_cell_18 : decode cL_cell 18 = .ok (.ldc 8, 2) := by decide +kernel
theorem dL_cell_20 : decode cL_cell 20 = .ok (.iadd, 1) := by decide +kernel
theorem dL_cell_21 : decode cL_cell 21 = .ok (.ireturn, 1) := by decide +kernel
theorem dL_low_0 : decode cL_low 0 = .ok (.iload_n 0, 1) := by decide +kernel
theorem dL_low_1 : decode cL_low 1 = .ok (.ldc 9, 2) := by decide +kernel
theorem dL_low_3 : decode cL_low 3 = .ok (.iand, 1) := by decide +kernel
theorem dL_low_4 : decode cL_low 4 = .ok (.iload_n 1, 1) := by decide +kernel
theorem dL_low_5 : decode cL_low 5 = .ok (.irem, 1) := by decide +kernel
theorem dL_low_6 : decode cL_low 6 = .ok (.ireturn, 1) := by decide +kernel
theorem dL_key_0 : decode cL_key 0 = .ok (.aload_n 3, 1) := by decide +kernel
theorem dL_key_1 : decode cL_key 1 = .ok (.iconst 4, 1) := by decide +kernel
theorem dL_key_2 : decode cL_key 2 = .ok (.iload_n 0, 1) := by decide +kernel
theorem dL_key_3 : decode cL_key 3 = .ok (.imul, 1) := by decide +kernel
theorem dL_key_4 : decode cL_key 4 = .ok (.iconst 1, 1) := by decide +kernel
theorem dL_key_5 : decode cL_key 5 = .ok (.iadd, 1) := by decide +kernel
theorem dL_key_6 : decode cL_key 6 = .ok (.iaload, 1) := by decide +kernel
theorem dL_key_7 : decode cL_key 7 = .ok (.aload 4, 2) := by decide +kernel
theorem dL_key_9 : decode cL_key 9 = .ok (.iconst 4, 1) := by decide +kernel
theorem dL_key_10 : decode cL_key 10 = .ok (.iload_n 2, 1) := by decide +kernel
theorem dL_key_11 : decode cL_key 11 = .ok (.imul, 1) := by decide +kernel
theorem dL_key_12 : decode cL_key 12 = .ok (.iconst 1, 1) := by decide +kernel
theorem dL_key_13 : decode cL_key 13 = .ok (.iadd, 1) := by decide +kernel
theorem dL_key_14 : decode cL_key 14 = .ok (.iaload, 1) := by decide +kernel
theorem dL_key_15 : decode cL_key 15 = .ok (.isub, 1) := by decide +kernel
theorem dL_key_16 : decode cL_key 16 = .ok (.istore 5, 2) := by decide +kernel
theorem dL_key_18 : decode cL_key 18 = .ok (.aload_n 3, 1) := by decide +kernel
theorem dL_key_19 : decode cL_key 19 = .ok (.iconst 4, 1) := by decide +kernel
theorem dL_key_20 : decode cL_key 20 = .ok (.iload_n 0, 1) := by decide +kernel
theorem dL_key_21 : decode cL_key 21 = .ok (.imul, 1) := by decide +kernel
theorem dL_key_22 : decode cL_key 22 = .ok (.iaload, 1) := by decide +kernel
theorem dL_key_23 : decode cL_key 23 = .ok (.aload 4, 2) := by decide +kernel
theorem dL_key_25 : decode cL_key 25 = .ok (.iconst 4, 1) := by decide +kernel
theorem dL_key_26 : decode cL_key 26 = .ok (.iload_n 2, 1) := by decide +kernel
theorem dL_key_27 : decode cL_key 27 = .ok (.imul, 1) := by decide +kernel
theorem dL_key_28 : decode cL_key 28 = .ok (.iaload, 1) := by decide +kernel
theorem dL_key_29 : decode cL_key 29 = .ok (.isub, 1) := by decide +kernel
theorem dL_key_30 : decode cL_key 30 = .ok (.istore 6, 2) := by decide +kernel
theorem dL_key_32 : decode cL_key 32 = .ok (.iload_n 1, 1) := by decide +kernel
theorem dL_key_33 : decode cL_key 33 = .ok (.ifCond .lt 83, 3) := by decide +kernel
theorem dL_key_36 : decode cL_key 36 = .ok (.aload_n 3, 1) := by decide +kernel
theorem dL_key_37 : decode cL_key 37 = .ok (.iconst 4, 1) := by decide +kernel
theorem dL_key_38 : decode cL_key 38 = .ok (.iload_n 1, 1) := by decide +kernel
theorem dL_key_39 : decode cL_key 39 = .ok (.imul, 1) := by decide +kernel
theorem dL_key_40 : decode cL_key 40 = .ok (.iconst 1, 1) := by decide +kernel
theorem dL_key_41 : decode cL_key 41 = .ok (.iadd, 1) := by decide +kernel
theorem dL_key_42 : decode cL_key 42 = .ok (.iaload, 1) := by decide +kernel
theorem dL_key_43 : decode cL_key 43 = .ok (.aload 4, 2) := by decide +kernel
theorem dL_key_45 : decode cL_key 45 = .ok (.iconst 4, 1) := by decide +kernel
theorem dL_key_46 : decode cL_key 46 = .ok (.iload_n 2, 1) := by decide +kernel
theorem dL_key_47 : decode cL_key 47 = .ok (.imul, 1) := by decide +kernel
theorem dL_key_48 : decode cL_key 48 = .ok (.iconst 1, 1) := by decide +kernel
theorem dL_key_49 : decode cL_key 49 = .ok (.iadd, 1) := by decide +kernel
theorem dL_key_50 : decode cL_key 50 = .ok (.iaload, 1) := by decide +kernel
theorem dL_key_51 : decode cL_key 51 = .ok (.isub, 1) := by decide +kernel
theorem dL_key_52 : decode cL_key 52 = .ok (.iload 5, 2) := by decide +kernel
theorem dL_key_54 : decode cL_key 54 = .ok (.if_icmp .ge 22, 3) := by decide +kernel
theorem dL_key_57 : decode cL_key 57 = .ok (.aload_n 3, 1) := by decide +kernel
theorem dL_key_58 : decode cL_key 58 = .ok (.iconst 4, 1) := by decide +kernel
theorem dL_key_59 : decode cL_key 59 = .ok (.iload_n 1, 1) := by decide +kernel
theorem dL_key_60 : decode cL_key 60 = .ok (.imul, 1) := by decide +kernel
theorem dL_key_61 : decode cL_key 61 = .ok (.iconst 1, 1) := by decide +kernel
theorem dL_key_62 : decode cL_key 62 = .ok (.iadd, 1) := by decide +kernel
theorem dL_key_63 : decode cL_key 63 = .ok (.iaload, 1) := by decide +kernel
theorem dL_key_64 : decode cL_key 64 = .ok (.aload 4, 2) := by decide +kernel
theorem dL_key_66 : decode cL_key 66 = .ok (.iconst 4, 1) := by decide +kernel
theorem dL_key_67 : decode cL_key 67 = .ok (.iload_n 2, 1) := by decide +kernel
theorem dL_key_68 : decode cL_key 68 = .ok (.imul, 1) := by decide +kernel
theorem dL_key_69 : decode cL_key 69 = .ok (.iconst 1, 1) := by decide +kernel
theorem dL_key_70 : decode cL_key 70 = .ok (.iadd, 1) := by decide +kernel
theorem dL_key_71 : decode cL_key 71 = .ok (.iaload, 1) := by decide +kernel
theorem dL_key_72 : decode cL_key 72 = .ok (.isub, 1) := by decide +kernel
theorem dL_key_73 : decode cL_key 73 = .ok (.goto 5, 3) := by decide +kernel
theorem dL_key_76 : decode cL_key 76 = .ok (.iload 5, 2) := by decide +kernel
theorem dL_key_78 : decode cL_key 78 = .ok (.istore 5, 2) := by decide +kernel
theorem dL_key_80 : decode cL_key 80 = .ok (.aload_n 3, 1) := by decide +kernel
theorem dL_key_81 : decode cL_key 81 = .ok (.iconst 4, 1) := by decide +kernel
theorem dL_key_82 : decode cL_key 82 = .ok (.iload_n 1, 1) := by decide +kernel
theorem dL_key_83 : decode cL_key 83 = .ok (.imul, 1) := by decide +kernel
theorem dL_key_84 : decode cL_key 84 = .ok (.iaload, 1) := by decide +kernel
theorem dL_key_85 : decode cL_key 85 = .ok (.aload 4, 2) := by decide +kernel
theorem dL_key_87 : decode cL_key 87 = .ok (.iconst 4, 1) := by decide +kernel
theorem dL_key_88 : decode cL_key 88 = .ok (.iload_n 2, 1) := by decide +kernel
theorem dL_key_89 : decode cL_key 89 = .ok (.imul, 1) := by decide +kernel
theorem dL_key_90 : decode cL_key 90 = .ok (.iaload, 1) := by decide +kernel
theorem dL_key_91 : decode cL_key 91 = .ok (.isub, 1) := by decide +kernel
theorem dL_key_92 : decode cL_key 92 = .ok (.iload 6, 2) := by decide +kernel
theorem dL_key_94 : decode cL_key 94 = .ok (.if_icmp .le 18, 3) := by decide +kernel
theorem dL_key_97 : decode cL_key 97 = .ok (.aload_n 3, 1) := by decide +kernel
theorem dL_key_98 : decode cL_key 98 = .ok (.iconst 4, 1) := by decide +kernel
theorem dL_key_99 : decode cL_key 99 = .ok (.iload_n 1, 1) := by decide +kernel
theorem dL_key_100 : decode cL_key 100 = .ok (.imul, 1) := by decide +kernel
theorem dL_key_101 : decode cL_key 101 = .ok (.iaload, 1) := by decide +kernel
theorem dL_key_102 : decode cL_key 102 = .ok (.aload 4, 2) := by decide +kernel
theorem dL_key_104 : decode cL_key 104 = .ok (.iconst 4, 1) := by decide +kernel
theorem dL_key_105 : decode cL_key 105 = .ok (.iload_n 2, 1) := by decide +kernel
theorem dL_key_106 : decode cL_key 106 = .ok (.imul, 1) := by decide +kernel
theorem dL_key_107 : decode cL_key 107 = .ok (.iaload, 1) := by decide +kernel
theorem dL_key_108 : decode cL_key 108 = .ok (.isub, 1) := by decide +kernel
theorem dL_key_109 : decode cL_key 109 = .ok (.goto 5, 3) := by decide +kernel
theorem dL_key_112 : decode cL_key 112 = .ok (.iload 6, 2) := by decide +kernel
theorem dL_key_114 : decode cL_key 114 = .ok (.istore 6, 2) := by decide +kernel
theorem dL_key_116 : decode cL_key 116 = .ok (.iload 6, 2) := by decide +kernel
theorem dL_key_118 : decode cL_key 118 = .ok (.iload 5, 2) := by decide +kernel
theorem dL_key_120 : decode cL_key 120 = .ok (.if_icmp .gt 17, 3) := by decide +kernel
theorem dL_key_123 : decode cL_key 123 = .ok (.iload 6, 2) := by decide +kernel
theorem dL_key_125 : decode cL_key 125 = .ok (.bipush 6, 2) := by decide +kernel
theorem dL_key_127 : decode cL_key 127 = .ok (.if_icmp .gt 10, 3) := by decide +kernel
theorem dL_key_130 : decode cL_key 130 = .ok (.iload 5, 2) := by decide +kernel
theorem dL_key_132 : decode cL_key 132 = .ok (.bipush (-6), 2) := by decide +kernel
theorem dL_key_134 : decode cL_key 134 = .ok (.if_icmp .ge 6, 3) := by decide +kernel
theorem dL_key_137 : decode cL_key 137 = .ok (.bipush (-6), 2) := by decide +kernel
theorem dL_key_139 : decode cL_key 139 = .ok (.ireturn, 1) := by decide +kernel
theorem dL_key_140 : decode cL_key 140 = .ok (.bipush 10, 2) := by decide +kernel
theorem dL_key_142 : decode cL_key 142 = .ok (.iload 6, 2) := by decide +kernel
theorem dL_key_144 : decode cL_key 144 = .ok (.ifCond .gt 12, 3) := by decide +kernel
theorem dL_key_147 : decode cL_key 147 = .ok (.iload 5, 2) := by decide +kernel
theorem dL_key_149 : decode cL_key 149 = .ok (.ifCond .lt 7, 3) := by decide +kernel
theorem dL_key_152 : decode cL_key 152 = .ok (.iconst 0, 1) := by decide +kernel
theorem dL_key_153 : decode cL_key 153 = .ok (.goto 15, 3) := by decide +kernel
theorem dL_key_156 : decode cL_key 156 = .ok (.iload 6, 2) := by decide +kernel
theorem dL_key_158 : decode cL_key 158 = .ok (.ifCond .le 8, 3) := by decide +kernel
theorem dL_key_161 : decode cL_key 161 = .ok (.iload 6, 2) := by decide +kernel
theorem dL_key_163 : decode cL_key 163 = .ok (.goto 5, 3) := by decide +kernel
theorem dL_key_166 : decode cL_key 166 = .ok (.iload 5, 2) := by decide +kernel
theorem dL_key_168 : decode cL_key 168 = .ok (.iadd, 1) := by decide +kernel
theorem dL_key_169 : decode cL_key 169 = .ok (.ireturn, 1) := by decide +kernel
theorem dL_set_0 : decode cL_set 0 = .ok (.iload_n 0, 1) := by decide +kernel
theorem dL_set_1 : decode cL_set 1 = .ok (.bipush 100, 2) := by decide +kernel
theorem dL_set_3 : decode cL_set 3 = .ok (.idiv, 1) := by decide +kernel
theorem dL_set_4 : decode cL_set 4 = .ok (.bipush 100, 2) := by decide +kernel
theorem dL_set_6 : decode cL_set 6 = .ok (.irem, 1) := by decide +kernel
theorem dL_set_7 : decode cL_set 7 = .ok (.iconst 1, 1) := by decide +kernel
theorem dL_set_8 : decode cL_set 8 = .ok (.isub, 1) := by decide +kernel
theorem dL_set_9 : decode cL_set 9 = .ok (.istore_n 1, 1) := by decide +kernel
theorem dL_set_10 : decode cL_set 10 = .ok (.iconst 1, 1) := by decide +kernel
theorem dL_set_11 : decode cL_set 11 = .ok (.iload_n 0, 1) := by decide +kernel
theorem dL_set_12 : decode cL_set 12 = .ok (.bipush 100, 2) := by decide +kernel
theorem dL_set_14 : decode cL_set 14 = .ok (.irem, 1) := by decide +kernel
theorem dL_set_15 : decode cL_set 15 = .ok (.ishl, 1) := by decide +kernel
theorem dL_set_16 : decode cL_set 16 = .ok (.iload_n 1, 1) := by decide +kernel
theorem dL_set_17 : decode cL_set 17 = .ok (.ifCond .ge 7, 3) := by decide +kernel
theorem dL_set_20 : decode cL_set 20 = .ok (.iconst 0, 1) := by decide +kernel
theorem dL_set_21 : decode cL_set 21 = .ok (.goto 6, 3) := by decide +kernel
theorem dL_set_24 : decode cL_set 24 = .ok (.iconst 1, 1) := by decide +kernel
theorem dL_set_25 : decode cL_set 25 = .ok (.iload_n 1, 1) := by decide +kernel
theorem dL_set_26 : decode cL_set 26 = .ok (.ishl, 1) := by decide +kernel
theorem dL_set_27 : decode cL_set 27 = .ok (.ior, 1) := by decide +kernel
theorem dL_set_28 : decode cL_set 28 = .ok (.ireturn, 1) := by decide +kernel
theorem dL_turns_0 : decode cL_turns 0 = .ok (.aload_n 1, 1) := by decide +kernel
theorem dL_turns_1 : decode cL_turns 1 = .ok (.iconst 4, 1) := by decide +kernel
theorem dL_turns_2 : decode cL_turns 2 = .ok (.iload_n 0, 1) := by decide +kernel
theorem dL_turns_3 : decode cL_turns 3 = .ok (.bipush 100, 2) := by decide +kernel
theorem dL_turns_5 : decode cL_turns 5 = .ok (.irem, 1) := by decide +kernel
theorem dL_turns_6 : decode cL_turns 6 = .ok (.imul, 1) := by decide +kernel
theorem dL_turns_7 : decode cL_turns 7 = .ok (.iconst 2, 1) := by decide +kernel
theorem dL_turns_8 : decode cL_turns 8 = .ok (.iadd, 1) := by decide +kernel
theorem dL_turns_9 : decode cL_turns 9 = .ok (.iaload, 1) := by decide +kernel
theorem dL_turns_10 : decode cL_turns 10 = .ok (.istore_n 2, 1) := by decide +kernel
theorem dL_turns_11 : decode cL_turns 11 = .ok (.iload_n 0, 1) := by decide +kernel
theorem dL_turns_12 : decode cL_turns 12 = .ok (.bipush 100, 2) := by decide +kernel
theorem dL_turns_14 : decode cL_turns 14 = .ok (.idiv, 1) := by decide +kernel
theorem dL_turns_15 : decode cL_turns 15 = .ok (.bipush 100, 2) := by decide +kernel
theorem dL_turns_17 : decode cL_turns 17 = .ok (.irem, 1) := by decide +kernel
theorem dL_turns_18 : decode cL_turns 18 = .ok (.iconst 1, 1) := by decide +kernel
theorem dL_turns_19 : decode cL_turns 19 = .ok (.isub, 1) := by decide +kernel
theorem dL_turns_20 : decode cL_turns 20 = .ok (.istore_n 3, 1) := by decide +kernel
theorem dL_turns_21 : decode cL_turns 21 = .ok (.iload_n 3, 1) := by decide +kernel
theorem dL_turns_22 : decode cL_turns 22 = .ok (.ifCond .lt 24, 3) := by decide +kernel
theorem dL_turns_25 : decode cL_turns 25 = .ok (.aload_n 1, 1) := by decide +kernel
theorem dL_turns_26 : decode cL_turns 26 = .ok (.iconst 4, 1) := by decide +kernel
theorem dL_turns_27 : decode cL_turns 27 = .ok (.iload_n 3, 1) := by decide +kernel
theorem dL_turns_28 : decode cL_turns 28 = .ok (.imul, 1) := by decide +kernel
theorem dL_turns_29 : decode cL_turns 29 = .ok (.iconst 2, 1) := by decide +kernel
theorem dL_turns_30 : decode cL_turns 30 = .ok (.iadd, 1) := by decide +kernel
theorem dL_turns_31 : decode cL_turns 31 = .ok (.iaload, 1) := by decide +kernel
theorem dL_turns_32 : decode cL_turns 32 = .ok (.iload_n 2, 1) := by decide +kernel
theorem dL_turns_33 : decode cL_turns 33 = .ok (.if_icmp .le 13, 3) := by decide +kernel
theorem dL_turns_36 : decode cL_turns 36 = .ok (.aload_n 1, 1) := by decide +kernel
theorem dL_turns_37 : decode cL_turns 37 = .ok (.iconst 4, 1) := by decide +kernel
theorem dL_turns_38 : decode cL_turns 38 = .ok (.iload_n 3, 1) := by decide +kernel
theorem dL_turns_39 : decode cL_turns 39 = .ok (.imul, 1) := by decide +kernel
theorem dL_turns_40 : decode cL_turns 40 = .ok (.iconst 2, 1) := by decide +kernel
theorem dL_turns_41 : decode cL_turns 41 = .ok (.iadd, 1) := by decide +kernel
theorem dL_turns_42 : decode cL_turns 42 = .ok (.iaload, 1) := by decide +kernel
theorem dL_turns_43 : decode cL_turns 43 = .ok (.goto 4, 3) := by decide +kernel
theorem dL_turns_46 : decode cL_turns 46 = .ok (.iload_n 2, 1) := by decide +kernel
theorem dL_turns_47 : decode cL_turns 47 = .ok (.ireturn, 1) := by decide +kernel
set_option maxRecDepth 20000 in
theorem ggL_next_L_set : GoodIn wsL_next wsL_set := goodIn_r _ [5] (by decide +kernel) (by decide +kernel)
set_option maxRecDepth 20000 in
theorem gL_next_L_set : GoodIn wsL_next (va_wsS RL 10 yL_set wsL_set) := goodIn_app (goodIn_of _ (by decide +kernel)) ggL_next_L_set
set_option maxRecDepth 20000 in
theorem ggL_next_L_turns : GoodIn wsL_next wsL_turns := goodIn_r _ [8] (by decide +kernel) (by decide +kernel)
set_option maxRecDepth 20000 in
theorem gL_next_L_turns : GoodIn wsL_next (va_wsS RL 16 yL_turns wsL_turns) := goodIn_app (goodIn_of _ (by decide +kernel)) ggL_next_L_turns
theorem dL_next_0 : decode cL_next 0 = .ok (.bipush (-6), 2) := by decide +kernel
theorem dL_next_2 : decode cL_next 2 = .ok (.istore_n 3, 1) := by decide +kernel
theorem dL_next_3 : decode cL_next 3 = .ok (.aload_n 0, 1) := by decide +kernel
theorem dL_next_4 : decode cL_next 4 = .ok (.iconst 2, 1) := by decide +kernel
theorem dL_next_5 : decode cL_next 5 = .ok (.iaload, 1) := by decide +kernel
theorem dL_next_6 : decode cL_next 6 = .ok (.iconst 1, 1) := by decide +kernel
theorem dL_next_7 : decode cL_next 7 = .ok (.isub, 1) := by decide +kernel
theorem dL_next_8 : decode cL_next 8 = .ok (.istore 4, 2) := by decide +kernel
theorem dL_next_10 : decode cL_next 10 = .ok (.iload 4, 2) := by decide +kernel
theorem dL_next_12 : decode cL_next 12 = .ok (.ifCond .lt 113, 3) := by decide +kernel
theorem dL_next_15 : decode cL_next 15 = .ok (.aload_n 2, 1) := by decide +kernel
theorem dL_next_16 : decode cL_next 16 = .ok (.iload 4, 2) := by decide +kernel
theorem dL_next_18 : decode cL_next 18 = .ok (.iaload, 1) := by decide +kernel
theorem dL_next_19 : decode cL_next 19 = .ok (.invokestatic 10, 3) := by decide +kernel
theorem dL_next_22 : decode cL_next 22 = .ok (.aload_n 0, 1) := by decide +kernel
theorem dL_next_23 : decode cL_next 23 = .ok (.iconst 3, 1) := by decide +kernel
theorem dL_next_24 : decode cL_next 24 = .ok (.iaload, 1) := by decide +kernel
theorem dL_next_25 : decode cL_next 25 = .ok (.iconst (-1), 1) := by decide +kernel
theorem dL_next_26 : decode cL_next 26 = .ok (.ixor, 1) := by decide +kernel
theorem dL_next_27 : decode cL_next 27 = .ok (.iand, 1) := by decide +kernel
theorem dL_next_28 : decode cL_next 28 = .ok (.ifCond .eq 6, 3) := by decide +kernel
theorem dL_next_31 : decode cL_next 31 = .ok (.goto 88, 3) := by decide +kernel
theorem dL_next_34 : decode cL_next 34 = .ok (.aload_n 2, 1) := by decide +kernel
theorem dL_next_35 : decode cL_next 35 = .ok (.iload 4, 2) := by decide +kernel
theorem dL_next_37 : decode cL_next 37 = .ok (.iaload, 1) := by decide +kernel
theorem dL_next_38 : decode cL_next 38 = .ok (.aload_n 1, 1) := by decide +kernel
theorem dL_next_39 : decode cL_next 39 = .ok (.invokestatic 16, 3) := by decide +kernel
theorem dL_next_42 : decode cL_next 42 = .ok (.aload_n 2, 1) := by decide +kernel
theorem dL_next_43 : decode cL_next 43 = .ok (.iload 4, 2) := by decide +kernel
theorem dL_next_45 : decode cL_next 45 = .ok (.iaload, 1) := by decide +kernel
theorem dL_next_46 : decode cL_next 46 = .ok (.invokestatic 10, 3) := by decide +kernel
theorem dL_next_49 : decode cL_next 49 = .ok (.aload_n 0, 1) := by decide +kernel
theorem dL_next_50 : decode cL_next 50 = .ok (.iconst 4, 1) := by decide +kernel
theorem dL_next_51 : decode cL_next 51 = .ok (.iaload, 1) := by decide +kernel
theorem dL_next_52 : decode cL_next 52 = .ok (.iand, 1) := by decide +kernel
theorem dL_next_53 : decode cL_next 53 = .ok (.ifCond .ne 7, 3) := by decide +kernel
theorem dL_next_56 : decode cL_next 56 = .ok (.iconst 0, 1) := by decide +kernel
theorem dL_next_57 : decode cL_next 57 = .ok (.goto 6, 3) := by decide +kernel
theorem dL_next_60 : decode cL_next 60 = .ok (.sipush 10000, 3) := by decide +kernel
theorem dL_next_63 : decode cL_next 63 = .ok (.iadd, 1) := by decide +kernel
theorem dL_next_64 : decode cL_next 64 = .ok (.istore 5, 2) := by decide +kernel
theorem dL_next_66 : decode cL_next 66 = .ok (.iload_n 3, 1) := by decide +kernel
theorem dL_next_67 : decode cL_next 67 = .ok (.ifCond .ge 8, 3) := by decide +kernel
theorem dL_next_70 : decode cL_next 70 = .ok (.ldc 20, 2) := by decide +kernel
theorem dL_next_72 : decode cL_next 72 = .ok (.goto 31, 3) := by decide +kernel
theorem dL_next_75 : decode cL_next 75 = .ok (.aload_n 2, 1) := by decide +kernel
theorem dL_next_76 : decode cL_next 76 = .ok (.iload_n 3, 1) := by decide +kernel
theorem dL_next_77 : decode cL_next 77 = .ok (.iaload, 1) := by decide +kernel
theorem dL_next_78 : decode cL_next 78 = .ok (.aload_n 1, 1) := by decide +kernel
theorem dL_next_79 : decode cL_next 79 = .ok (.invokestatic 16, 3) := by decide +kernel
theorem dL_next_82 : decode cL_next 82 = .ok (.aload_n 2, 1) := by decide +kernel
theorem dL_next_83 : decode cL_next 83 = .ok (.iload_n 3, 1) := by decide +kernel
theorem dL_next_84 : decode cL_next 84 = .ok (.iaload, 1) := by decide +kernel
theorem dL_next_85 : decode cL_next 85 = .ok (.invokestatic 10, 3) := by decide +kernel
theorem dL_next_88 : decode cL_next 88 = .ok (.aload_n 0, 1) := by decide +kernel
theorem dL_next_89 : decode cL_next 89 = .ok (.iconst 4, 1) := by decide +kernel
theorem dL_next_90 : decode cL_next 90 = .ok (.iaload, 1) := by decide +kernel
theorem dL_next_91 : decode cL_next 91 = .ok (.iand, 1) := by decide +kernel
theorem dL_next_92 : decode cL_next 92 = .ok (.ifCond .ne 7, 3) := by decide +kernel
theorem dL_next_95 : decode cL_next 95 = .ok (.iconst 0, 1) := by decide +kernel
theorem dL_next_96 : decode cL_next 96 = .ok (.goto 6, 3) := by decide +kernel
theorem dL_next_99 : decode cL_next 99 = .ok (.sipush 10000, 3) := by decide +kernel
theorem dL_next_102 : decode cL_next 102 = .ok (.iadd, 1) := by decide +kernel
theorem dL_next_103 : decode cL_next 103 = .ok (.istore 6, 2) := by decide +kernel
theorem dL_next_105 : decode cL_next 105 = .ok (.iload 5, 2) := by decide +kernel
theorem dL_next_107 : decode cL_next 107 = .ok (.iload 6, 2) := by decide +kernel
theorem dL_next_109 : decode cL_next 109 = .ok (.if_icmp .gt 8, 3) := by decide +kernel
theorem dL_next_112 : decode cL_next 112 = .ok (.iload 4, 2) := by decide +kernel
theorem dL_next_114 : decode cL_next 114 = .ok (.goto 4, 3) := by decide +kernel
theorem dL_next_117 : decode cL_next 117 = .ok (.iload_n 3, 1) := by decide +kernel
theorem dL_next_118 : decode cL_next 118 = .ok (.istore_n 3, 1) := by decide +kernel
theorem dL_next_119 : decode cL_next 119 = .ok (.iinc 4 (-1), 3) := by decide +kernel
theorem dL_next_122 : decode cL_next 122 = .ok (.goto (-112), 3) := by decide +kernel
theorem dL_next_125 : decode cL_next 125 = .ok (.iload_n 3, 1) := by decide +kernel
theorem dL_next_126 : decode cL_next 126 = .ok (.ireturn, 1) := by decide +kernel
set_option maxRecDepth 20000 in
theorem ggL_sing_L_set : GoodIn wsL_sing wsL_set := goodIn_r _ [4] (by decide +kernel) (by decide +kernel)
set_option maxRecDepth 20000 in
theorem gL_sing_L_set : GoodIn wsL_sing (va_wsS RL 10 yL_set wsL_set) := goodIn_app (goodIn_of _ (by decide +kernel)) ggL_sing_L_set
theorem dL_sing_0 : decode cL_sing 0 = .ok (.aload 4, 2) := by decide +kernel
theorem dL_sing_2 : decode cL_sing 2 = .ok (.iload_n 0, 1) := by decide +kernel
theorem dL_sing_3 : decode cL_sing 3 = .ok (.iaload, 1) := by decide +kernel
theorem dL_sing_4 : decode cL_sing 4 = .ok (.istore 7, 2) := by decide +kernel
theorem dL_sing_6 : decode cL_sing 6 = .ok (.iload 7, 2) := by decide +kernel
theorem dL_sing_8 : decode cL_sing 8 = .ok (.sipush 10000, 3) := by decide +kernel
theorem dL_sing_11 : decode cL_sing 11 = .ok (.idiv, 1) := by decide +kernel
theorem dL_sing_12 : decode cL_sing 12 = .ok (.istore 8, 2) := by decide +kernel
theorem dL_sing_14 : decode cL_sing 14 = .ok (.iload 7, 2) := by decide +kernel
theorem dL_sing_16 : decode cL_sing 16 = .ok (.invokestatic 10, 3) := by decide +kernel
theorem dL_sing_19 : decode cL_sing 19 = .ok (.istore 9, 2) := by decide +kernel
theorem dL_sing_21 : decode cL_sing 21 = .ok (.bipush 11, 2) := by decide +kernel
theorem dL_sing_23 : decode cL_sing 23 = .ok (.istore 10, 2) := by decide +kernel
theorem dL_sing_25 : decode cL_sing 25 = .ok (.iload 10, 2) := by decide +kernel
theorem dL_sing_27 : decode cL_sing 27 = .ok (.ifCond .le 33, 3) := by decide +kernel
theorem dL_sing_30 : decode cL_sing 30 = .ok (.aload 5, 2) := by decide +kernel
theorem dL_sing_32 : decode cL_sing 32 = .ok (.iload 10, 2) := by decide +kernel
theorem dL_sing_34 : decode cL_sing 34 = .ok (.aload 5, 2) := by decide +kernel
theorem dL_sing_36 : decode cL_sing 36 = .ok (.iload 10, 2) := by decide +kernel
theorem dL_sing_38 : decode cL_sing 38 = .ok (.iconst 1, 1) := by decide +kernel
theorem dL_sing_39 : decode cL_sing 39 = .ok (.isub, 1) := by decide +kernel
theorem dL_sing_40 : decode cL_sing 40 = .ok (.iaload, 1) := by decide +kernel
theorem dL_sing_41 : decode cL_sing 41 = .ok (.iastore, 1) := by decide +kernel
theorem dL_sing_42 : decode cL_sing 42 = .ok (.aload 6, 2) := by decide +kernel
theorem dL_sing_44 : decode cL_sing 44 = .ok (.iload 10, 2) := by decide +kernel
theorem dL_sing_46 : decode cL_sing 46 = .ok (.aload 6, 2) := by decide +kernel
theorem dL_sing_48 : decode cL_sing 48 = .ok (.iload 10, 2) := by decide +kernel
theorem dL_sing_50 : decode cL_sing 50 = .ok (.iconst 1, 1) := by decide +kernel
theorem dL_sing_51 : decode cL_sing 51 = .ok (.isub, 1) := by decide +kernel
theorem dL_sing_52 : decode cL_sing 52 = .ok (.iaload, 1) := by decide +kernel
theorem dL_sing_53 : decode cL_sing 53 = .ok (.iastore, 1) := by decide +kernel
theorem dL_sing_54 : decode cL_sing 54 = .ok (.iinc 10 (-1), 3) := by decide +kernel
theorem dL_sing_57 : decode cL_sing 57 = .ok (.goto (-32), 3) := by decide +kernel
theorem dL_sing_60 : decode cL_sing 60 = .ok (.aload 5, 2) := by decide +kernel
theorem dL_sing_62 : decode cL_sing 62 = .ok (.iconst 0, 1) := by decide +kernel
theorem dL_sing_63 : decode cL_sing 63 = .ok (.iload 7, 2) := by decide +kernel
theorem dL_sing_65 : decode cL_sing 65 = .ok (.iastore, 1) := by decide +kernel
theorem dL_sing_66 : decode cL_sing 66 = .ok (.aload 6, 2) := by decide +kernel
theorem dL_sing_68 : decode cL_sing 68 = .ok (.iconst 0, 1) := by decide +kernel
theorem dL_sing_69 : decode cL_sing 69 = .ok (.aload_n 1, 1) := by decide +kernel
theorem dL_sing_70 : decode cL_sing 70 = .ok (.iconst 5, 1) := by decide +kernel
theorem dL_sing_71 : decode cL_sing 71 = .ok (.iaload, 1) := by decide +kernel
theorem dL_sing_72 : decode cL_sing 72 = .ok (.iastore, 1) := by decide +kernel
theorem dL_sing_73 : decode cL_sing 73 = .ok (.aload_n 1, 1) := by decide +kernel
theorem dL_sing_74 : decode cL_sing 74 = .ok (.bipush 7, 2) := by decide +kernel
theorem dL_sing_76 : decode cL_sing 76 = .ok (.aload_n 1, 1) := by decide +kernel
theorem dL_sing_77 : decode cL_sing 77 = .ok (.bipush 7, 2) := by decide +kernel
theorem dL_sing_79 : decode cL_sing 79 = .ok (.iaload, 1) := by decide +kernel
theorem dL_sing_80 : decode cL_sing 80 = .ok (.bipush 12, 2) := by decide +kernel
theorem dL_sing_82 : decode cL_sing 82 = .ok (.if_icmp .ge 12, 3) := by decide +kernel
theorem dL_sing_85 : decode cL_sing 85 = .ok (.aload_n 1, 1) := by decide +kernel
theorem dL_sing_86 : decode cL_sing 86 = .ok (.bipush 7, 2) := by decide +kernel
theorem dL_sing_88 : decode cL_sing 88 = .ok (.iaload, 1) := by decide +kernel
theorem dL_sing_89 : decode cL_sing 89 = .ok (.iconst 1, 1) := by decide +kernel
theorem dL_sing_90 : decode cL_sing 90 = .ok (.iadd, 1) := by decide +kernel
theorem dL_sing_91 : decode cL_sing 91 = .ok (.goto 5, 3) := by decide +kernel
theorem dL_sing_94 : decode cL_sing 94 = .ok (.bipush 12, 2) := by decide +kernel
theorem dL_sing_96 : decode cL_sing 96 = .ok (.iastore, 1) := by decide +kernel
theorem dL_sing_97 : decode cL_sing 97 = .ok (.iconst 0, 1) := by decide +kernel
theorem dL_sing_98 : decode cL_sing 98 = .ok (.istore 10, 2) := by decide +kernel
theorem dL_sing_100 : decode cL_sing 100 = .ok (.iload 10, 2) := by decide +kernel
theorem dL_sing_102 : decode cL_sing 102 = .ok (.aload_n 1, 1) := by decide +kernel
theorem dL_sing_103 : decode cL_sing 103 = .ok (.iconst 0, 1) := by decide +kernel
theorem dL_sing_104 : decode cL_sing 104 = .ok (.iaload, 1) := by decide +kernel
theorem dL_sing_105 : decode cL_sing 105 = .ok (.if_icmp .ge 54, 3) := by decide +kernel
theorem dL_sing_108 : decode cL_sing 108 = .ok (.aload_n 2, 1) := by decide +kernel
theorem dL_sing_109 : decode cL_sing 109 = .ok (.iconst 4, 1) := by decide +kernel
theorem dL_sing_110 : decode cL_sing 110 = .ok (.iload 10, 2) := by decide +kernel
theorem dL_sing_112 : decode cL_sing 112 = .ok (.imul, 1) := by decide +kernel
theorem dL_sing_113 : decode cL_sing 113 = .ok (.iconst 2, 1) := by decide +kernel
theorem dL_sing_114 : decode cL_sing 114 = .ok (.iadd, 1) := by decide +kernel
theorem dL_sing_115 : decode cL_sing 115 = .ok (.dup2, 1) := by decide +kernel
theorem dL_sing_116 : decode cL_sing 116 = .ok (.iaload, 1) := by decide +kernel
theorem dL_sing_117 : decode cL_sing 117 = .ok (.iload 9, 2) := by decide +kernel
theorem dL_sing_119 : decode cL_sing 119 = .ok (.iload 10, 2) := by decide +kernel
theorem dL_sing_121 : decode cL_sing 121 = .ok (.ishr, 1) := by decide +kernel
theorem dL_sing_122 : decode cL_sing 122 = .ok (.iconst 1, 1) := by decide +kernel
theorem dL_sing_123 : decode cL_sing 123 = .ok (.iand, 1) := by decide +kernel
theorem dL_sing_124 : decode cL_sing 124 = .ok (.iadd, 1) := by decide +kernel
theorem dL_sing_125 : decode cL_sing 125 = .ok (.iastore, 1) := by decide +kernel
theorem dL_sing_126 : decode cL_sing 126 = .ok (.aload_n 2, 1) := by decide +kernel
theorem dL_sing_127 : decode cL_sing 127 = .ok (.iconst 4, 1) := by decide +kernel
theorem dL_sing_128 : decode cL_sing 128 = .ok (.iload 10, 2) := by decide +kernel
theorem dL_sing_130 : decode cL_sing 130 = .ok (.imul, 1) := by decide +kernel
theorem dL_sing_131 : decode cL_sing 131 = .ok (.iconst 3, 1) := by decide +kernel
theorem dL_sing_132 : decode cL_sing 132 = .ok (.iadd, 1) := by decide +kernel
theorem dL_sing_133 : decode cL_sing 133 = .ok (.dup2, 1) := by decide +kernel
theorem dL_sing_134 : decode cL_sing 134 = .ok (.iaload, 1) := by decide +kernel
theorem dL_sing_135 : decode cL_sing 135 = .ok (.iload 9, 2) := by decide +kernel
theorem dL_sing_137 : decode cL_sing 137 = .ok (.iload 10, 2) := by decide +kernel
theorem dL_sing_139 : decode cL_sing 139 = .ok (.ishr, 1) := by decide +kernel
theorem dL_sing_140 : decode cL_sing 140 = .ok (.iconst 1, 1) := by decide +kernel
theorem dL_sing_141 : decode cL_sing 141 = .ok (.iand, 1) := by decide +kernel
theorem dL_sing_142 : decode cL_sing 142 = .ok (.aload_n 3, 1) := by decide +kernel
theorem dL_sing_143 : decode cL_sing 143 = .ok (.iconst 4, 1) := by decide +kernel
theorem dL_sing_144 : decode cL_sing 144 = .ok (.iload 8, 2) := by decide +kernel
theorem dL_sing_146 : decode cL_sing 146 = .ok (.imul, 1) := by decide +kernel
theorem dL_sing_147 : decode cL_sing 147 = .ok (.iconst 2, 1) := by decide +kernel
theorem dL_sing_148 : decode cL_sing 148 = .ok (.iadd, 1) := by decide +kernel
theorem dL_sing_149 : decode cL_sing 149 = .ok (.iaload, 1) := by decide +kernel
theorem dL_sing_150 : decode cL_sing 150 = .ok (.imul, 1) := by decide +kernel
theorem dL_sing_151 : decode cL_sing 151 = .ok (.iadd, 1) := by decide +kernel
theorem dL_sing_152 : decode cL_sing 152 = .ok (.iastore, 1) := by decide +kernel
theorem dL_sing_153 : decode cL_sing 153 = .ok (.iinc 10 1, 3) := by decide +kernel
theorem dL_sing_156 : decode cL_sing 156 = .ok (.goto (-56), 3) := by decide +kernel
theorem dL_sing_159 : decode cL_sing 159 = .ok (.aload_n 3, 1) := by decide +kernel
theorem dL_sing_160 : decode cL_sing 160 = .ok (.iconst 4, 1) := by decide +kernel
theorem dL_sing_161 : decode cL_sing 161 = .ok (.iload 8, 2) := by decide +kernel
theorem dL_sing_163 : decode cL_sing 163 = .ok (.imul, 1) := by decide +kernel
theorem dL_sing_164 : decode cL_sing 164 = .ok (.iconst 3, 1) := by decide +kernel
theorem dL_sing_165 : decode cL_sing 165 = .ok (.iadd, 1) := by decide +kernel
theorem dL_sing_166 : decode cL_sing 166 = .ok (.dup2, 1) := by decide +kernel
theorem dL_sing_167 : decode cL_sing 167 = .ok (.iaload, 1) := by decide +kernel
theorem dL_sing_168 : decode cL_sing 168 = .ok (.iconst 1, 1) := by decide +kernel
theorem dL_sing_169 : decode cL_sing 169 = .ok (.iadd, 1) := by decide +kernel
theorem dL_sing_170 : decode cL_sing 170 = .ok (.iastore, 1) := by decide +kernel
theorem dL_sing_171 : decode cL_sing 171 = .ok (.aload_n 1, 1) := by decide +kernel
theorem dL_sing_172 : decode cL_sing 172 = .ok (.iconst 4, 1) := by decide +kernel
theorem dL_sing_173 : decode cL_sing 173 = .ok (.iload 9, 2) := by decide +kernel
theorem dL_sing_175 : decode cL_sing 175 = .ok (.iastore, 1) := by decide +kernel
theorem dL_sing_176 : decode cL_sing 176 = .ok (.aload_n 1, 1) := by decide +kernel
theorem dL_sing_177 : decode cL_sing 177 = .ok (.iconst 5, 1) := by decide +kernel
theorem dL_sing_178 : decode cL_sing 178 = .ok (.dup2, 1) := by decide +kernel
theorem dL_sing_179 : decode cL_sing 179 = .ok (.iaload, 1) := by decide +kernel
theorem dL_sing_180 : decode cL_sing 180 = .ok (.aload_n 3, 1) := by decide +kernel
theorem dL_sing_181 : decode cL_sing 181 = .ok (.iconst 4, 1) := by decide +kernel
theorem dL_sing_182 : decode cL_sing 182 = .ok (.iload 8, 2) := by decide +kernel
theorem dL_sing_184 : decode cL_sing 184 = .ok (.imul, 1) := by decide +kernel
theorem dL_sing_185 : decode cL_sing 185 = .ok (.iconst 2, 1) := by decide +kernel
theorem dL_sing_186 : decode cL_sing 186 = .ok (.iadd, 1) := by decide +kernel
theorem dL_sing_187 : decode cL_sing 187 = .ok (.iaload, 1) := by decide +kernel
theorem dL_sing_188 : decode cL_sing 188 = .ok (.iadd, 1) := by decide +kernel
theorem dL_sing_189 : decode cL_sing 189 = .ok (.iastore, 1) := by decide +kernel
theorem dL_sing_190 : decode cL_sing 190 = .ok (.aload_n 1, 1) := by decide +kernel
theorem dL_sing_191 : decode cL_sing 191 = .ok (.bipush 6, 2) := by decide +kernel
theorem dL_sing_193 : decode cL_sing 193 = .ok (.dup2, 1) := by decide +kernel
theorem dL_sing_194 : decode cL_sing 194 = .ok (.iaload, 1) := by decide +kernel
theorem dL_sing_195 : decode cL_sing 195 = .ok (.iconst 1, 1) := by decide +kernel
theorem dL_sing_196 : decode cL_sing 196 = .ok (.iadd, 1) := by decide +kernel
theorem dL_sing_197 : decode cL_sing 197 = .ok (.iastore, 1) := by decide +kernel
theorem dL_sing_198 : decode cL_sing 198 = .ok (.iload_n 0, 1) := by decide +kernel
theorem dL_sing_199 : decode cL_sing 199 = .ok (.istore 10, 2) := by decide +kernel
theorem dL_sing_201 : decode cL_sing 201 = .ok (.iload 10, 2) := by decide +kernel
theorem dL_sing_203 : decode cL_sing 203 = .ok (.iconst 1, 1) := by decide +kernel
theorem dL_sing_204 : decode cL_sing 204 = .ok (.iadd, 1) := by decide +kernel
theorem dL_sing_205 : decode cL_sing 205 = .ok (.aload_n 1, 1) := by decide +kernel
theorem dL_sing_206 : decode cL_sing 206 = .ok (.iconst 2, 1) := by decide +kernel
theorem dL_sing_207 : decode cL_sing 207 = .ok (.iaload, 1) := by decide +kernel
theorem dL_sing_208 : decode cL_sing 208 = .ok (.if_icmp .ge 21, 3) := by decide +kernel
theorem dL_sing_211 : decode cL_sing 211 = .ok (.aload 4, 2) := by decide +kernel
theorem dL_sing_213 : decode cL_sing 213 = .ok (.iload 10, 2) := by decide +kernel
theorem dL_sing_215 : decode cL_sing 215 = .ok (.aload 4, 2) := by decide +kernel
theorem dL_sing_217 : decode cL_sing 217 = .ok (.iload 10, 2) := by decide +kernel
theorem dL_sing_219 : decode cL_sing 219 = .ok (.iconst 1, 1) := by decide +kernel
theorem dL_sing_220 : decode cL_sing 220 = .ok (.iadd, 1) := by decide +kernel
theorem dL_sing_221 : decode cL_sing 221 = .ok (.iaload, 1) := by decide +kernel
theorem dL_sing_222 : decode cL_sing 222 = .ok (.iastore, 1) := by decide +kernel
theorem dL_sing_223 : decode cL_sing 223 = .ok (.iinc 10 1, 3) := by decide +kernel
theorem dL_sing_226 : decode cL_sing 226 = .ok (.goto (-25), 3) := by decide +kernel
theorem dL_sing_229 : decode cL_sing 229 = .ok (.aload_n 1, 1) := by decide +kernel
theorem dL_sing_230 : decode cL_sing 230 = .ok (.iconst 2, 1) := by decide +kernel
theorem dL_sing_231 : decode cL_sing 231 = .ok (.dup2, 1) := by decide +kernel
theorem dL_sing_232 : decode cL_sing 232 = .ok (.iaload, 1) := by decide +kernel
theorem dL_sing_233 : decode cL_sing 233 = .ok (.iconst 1, 1) := by decide +kernel
theorem dL_sing_234 : decode cL_sing 234 = .ok (.isub, 1) := by decide +kernel
theorem dL_sing_235 : decode cL_sing 235 = .ok (.iastore, 1) := by decide +kernel
theorem dL_sing_236 : decode cL_sing 236 = .ok (.return_, 1) := by decide +kernel
theorem dL_copy_0 : decode cL_copy 0 = .ok (.iconst 0, 1) := by decide +kernel
theorem dL_copy_1 : decode cL_copy 1 = .ok (.istore_n 3, 1) := by decide +kernel
theorem dL_copy_2 : decode cL_copy 2 = .ok (.iload_n 3, 1) := by decide +kernel
theorem dL_copy_3 : decode cL_copy 3 = .ok (.iload_n 2, 1) := by decide +kernel
theorem dL_copy_4 : decode cL_copy 4 = .ok (.if_icmp .ge 15, 3) := by decide +kernel
theorem dL_copy_7 : decode cL_copy 7 = .ok (.aload_n 1, 1) := by decide +kernel
theorem dL_copy_8 : decode cL_copy 8 = .ok (.iload_n 3, 1) := by decide +kernel
theorem dL_copy_9 : decode cL_copy 9 = .ok (.aload_n 0, 1) := by decide +kernel
theorem dL_copy_10 : decode cL_copy 10 = .ok (.iload_n 3, 1) := by decide +kernel
theorem dL_copy_11 : decode cL_copy 11 = .ok (.iaload, 1) := by decide +kernel
theorem dL_copy_12 : decode cL_copy 12 = .ok (.iastore, 1) := by decide +kernel
theorem dL_copy_13 : decode cL_copy 13 = .ok (.iinc 3 1, 3) := by decide +kernel
theorem dL_copy_16 : decode cL_copy 16 = .ok (.goto (-14), 3) := by decide +kernel
theorem dL_copy_19 : decode cL_copy 19 = .ok (.return_, 1) := by decide +kernel
set_option maxRecDepth 20000 in
theorem ggL_comes_L_copy : GoodIn wsL_comes wsL_copy := goodIn_r _ [4] (by decide +kernel) (by decide +kernel)
set_option maxRecDepth 20000 in
theorem gL_comes_L_copy : GoodIn wsL_comes (va_wsS RL 21 yL_copy wsL_copy) := goodIn_app (goodIn_of _ (by decide +kernel)) ggL_comes_L_copy
set_option maxRecDepth 20000 in
theorem ggL_comes_L_next : GoodIn wsL_comes wsL_next := goodIn_r _ [7, 8, 9, 10, 3, 11, 12, 13, 14] (by decide +kernel) (by decide +kernel)
set_option maxRecDepth 20000 in
theorem gL_comes_L_next : GoodIn wsL_comes (va_wsS RL 25 yL_next wsL_next) := goodIn_app (goodIn_of _ (by decide +kernel)) ggL_comes_L_next
set_option maxRecDepth 20000 in
theorem ggL_comes_L_sing : GoodIn wsL_comes wsL_sing := goodIn_r _ [17, 9, 10, 3, 11] (by decide +kernel) (by decide +kernel)
set_option maxRecDepth 20000 in
theorem gL_comes_L_sing : GoodIn wsL_comes (va_wsS RL 29 yL_sing wsL_sing) := goodIn_app (goodIn_of _ (by decide +kernel)) ggL_comes_L_sing
theorem dL_comes_0 : decode cL_comes 0 = .ok (.aload_n 2, 1) := by decide +kernel
theorem dL_comes_1 : decode cL_comes 1 = .ok (.aload 6, 2) := by decide +kernel
theorem dL_comes_3 : decode cL_comes 3 = .ok (.bipush 8, 2) := by decide +kernel
theorem dL_comes_5 : decode cL_comes 5 = .ok (.invokestatic 21, 3) := by decide +kernel
theorem dL_comes_8 : decode cL_comes 8 = .ok (.aload_n 3, 1) := by decide +kernel
theorem dL_comes_9 : decode cL_comes 9 = .ok (.aload 7, 2) := by decide +kernel
theorem dL_comes_11 : decode cL_comes 11 = .ok (.bipush 48, 2) := by decide +kernel
theorem dL_comes_13 : decode cL_comes 13 = .ok (.invokestatic 21, 3) := by decide +kernel
theorem dL_comes_16 : decode cL_comes 16 = .ok (.aload 4, 2) := by decide +kernel
theorem dL_comes_18 : decode cL_comes 18 = .ok (.aload 8, 2) := by decide +kernel
theorem dL_comes_20 : decode cL_comes 20 = .ok (.bipush 64, 2) := by decide +kernel
theorem dL_comes_22 : decode cL_comes 22 = .ok (.invokestatic 21, 3) := by decide +kernel
theorem dL_comes_25 : decode cL_comes 25 = .ok (.aload 5, 2) := by decide +kernel
theorem dL_comes_27 : decode cL_comes 27 = .ok (.aload 9, 2) := by decide +kernel
theorem dL_comes_29 : decode cL_comes 29 = .ok (.bipush 20, 2) := by decide +kernel
theorem dL_comes_31 : decode cL_comes 31 = .ok (.invokestatic 21, 3) := by decide +kernel
theorem dL_comes_34 : decode cL_comes 34 = .ok (.iload_n 0, 1) := by decide +kernel
theorem dL_comes_35 : decode cL_comes 35 = .ok (.istore 12, 2) := by decide +kernel
theorem dL_comes_37 : decode cL_comes 37 = .ok (.iload_n 1, 1) := by decide +kernel
theorem dL_comes_38 : decode cL_comes 38 = .ok (.ifCond .lt 58, 3) := by decide +kernel
theorem dL_comes_41 : decode cL_comes 41 = .ok (.iload_n 1, 1) := by decide +kernel
theorem dL_comes_42 : decode cL_comes 42 = .ok (.istore 13, 2) := by decide +kernel
theorem dL_comes_44 : decode cL_comes 44 = .ok (.iload 13, 2) := by decide +kernel
theorem dL_comes_46 : decode cL_comes 46 = .ok (.iconst 1, 1) := by decide +kernel
theorem dL_comes_47 : decode cL_comes 47 = .ok (.iadd, 1) := by decide +kernel
theorem dL_comes_48 : decode cL_comes 48 = .ok (.aload 6, 2) := by decide +kernel
theorem dL_comes_50 : decode cL_comes 50 = .ok (.iconst 2, 1) := by decide +kernel
theorem dL_comes_51 : decode cL_comes 51 = .ok (.iaload, 1) := by decide +kernel
theorem dL_comes_52 : decode cL_comes 52 = .ok (.if_icmp .ge 21, 3) := by decide +kernel
theorem dL_comes_55 : decode cL_comes 55 = .ok (.aload 9, 2) := by decide +kernel
theorem dL_comes_57 : decode cL_comes 57 = .ok (.iload 13, 2) := by decide +kernel
theorem dL_comes_59 : decode cL_comes 59 = .ok (.aload 9, 2) := by decide +kernel
theorem dL_comes_61 : decode cL_comes 61 = .ok (.iload 13, 2) := by decide +kernel
theorem dL_comes_63 : decode cL_comes 63 = .ok (.iconst 1, 1) := by decide +kernel
theorem dL_comes_64 : decode cL_comes 64 = .ok (.iadd, 1) := by decide +kernel
theorem dL_comes_65 : decode cL_comes 65 = .ok (.iaload, 1) := by decide +kernel
theorem dL_comes_66 : decode cL_comes 66 = .ok (.iastore, 1) := by decide +kernel
theorem dL_comes_67 : decode cL_comes 67 = .ok (.iinc 13 1, 3) := by decide +kernel
theorem dL_comes_70 : decode cL_comes 70 = .ok (.goto (-26), 3) := by decide +kernel
theorem dL_comes_73 : decode cL_comes 73 = .ok (.aload 6, 2) := by decide +kernel
theorem dL_comes_75 : decode cL_comes 75 = .ok (.iconst 2, 1) := by decide +kernel
theorem dL_comes_76 : decode cL_comes 76 = .ok (.dup2, 1) := by decide +kernel
theorem dL_comes_77 : decode cL_comes 77 = .ok (.iaload, 1) := by decide +kernel
theorem dL_comes_78 : decode cL_comes 78 = .ok (.iconst 1, 1) := by decide +kernel
theorem dL_comes_79 : decode cL_comes 79 = .ok (.isub, 1) := by decide +kernel
theorem dL_comes_80 : decode cL_comes 80 = .ok (.iastore, 1) := by decide +kernel
theorem dL_comes_81 : decode cL_comes 81 = .ok (.iload 12, 2) := by decide +kernel
theorem dL_comes_83 : decode cL_comes 83 = .ok (.iload_n 1, 1) := by decide +kernel
theorem dL_comes_84 : decode cL_comes 84 = .ok (.iload_n 0, 1) := by decide +kernel
theorem dL_comes_85 : decode cL_comes 85 = .ok (.if_icmp .ge 7, 3) := by decide +kernel
theorem dL_comes_88 : decode cL_comes 88 = .ok (.iconst 1, 1) := by decide +kernel
theorem dL_comes_89 : decode cL_comes 89 = .ok (.goto 4, 3) := by decide +kernel
theorem dL_comes_92 : decode cL_comes 92 = .ok (.iconst 0, 1) := by decide +kernel
theorem dL_comes_93 : decode cL_comes 93 = .ok (.isub, 1) := by decide +kernel
theorem dL_comes_94 : decode cL_comes 94 = .ok (.istore 12, 2) := by decide +kernel
theorem dL_comes_96 : decode cL_comes 96 = .ok (.iconst 0, 1) := by decide +kernel
theorem dL_comes_97 : decode cL_comes 97 = .ok (.istore 13, 2) := by decide +kernel
theorem dL_comes_99 : decode cL_comes 99 = .ok (.aload 6, 2) := by decide +kernel
theorem dL_comes_101 : decode cL_comes 101 = .ok (.aload 7, 2) := by decide +kernel
theorem dL_comes_103 : decode cL_comes 103 = .ok (.aload 9, 2) := by decide +kernel
theorem dL_comes_105 : decode cL_comes 105 = .ok (.invokestatic 25, 3) := by decide +kernel
theorem dL_comes_108 : decode cL_comes 108 = .ok (.istore 14, 2) := by decide +kernel
theorem dL_comes_110 : decode cL_comes 110 = .ok (.iload 14, 2) := by decide +kernel
theorem dL_comes_112 : decode cL_comes 112 = .ok (.iload 12, 2) := by decide +kernel
theorem dL_comes_114 : decode cL_comes 114 = .ok (.if_icmp .eq 54, 3) := by decide +kernel
theorem dL_comes_117 : decode cL_comes 117 = .ok (.iload 14, 2) := by decide +kernel
theorem dL_comes_119 : decode cL_comes 119 = .ok (.aload 6, 2) := by decide +kernel
theorem dL_comes_121 : decode cL_comes 121 = .ok (.aload 7, 2) := by decide +kernel
theorem dL_comes_123 : decode cL_comes 123 = .ok (.aload 8, 2) := by decide +kernel
theorem dL_comes_125 : decode cL_comes 125 = .ok (.aload 9, 2) := by decide +kernel
theorem dL_comes_127 : decode cL_comes 127 = .ok (.aload 10, 2) := by decide +kernel
theorem dL_comes_129 : decode cL_comes 129 = .ok (.aload 11, 2) := by decide +kernel
theorem dL_comes_131 : decode cL_comes 131 = .ok (.invokestatic 29, 3) := by decide +kernel
theorem dL_comes_134 : decode cL_comes 134 = .ok (.iload 12, 2) := by decide +kernel
theorem dL_comes_136 : decode cL_comes 136 = .ok (.iload 14, 2) := by decide +kernel
theorem dL_comes_138 : decode cL_comes 138 = .ok (.iload 12, 2) := by decide +kernel
theorem dL_comes_140 : decode cL_comes 140 = .ok (.if_icmp .ge 7, 3) := by decide +kernel
theorem dL_comes_143 : decode cL_comes 143 = .ok (.iconst 1, 1) := by decide +kernel
theorem dL_comes_144 : decode cL_comes 144 = .ok (.goto 4, 3) := by decide +kernel
theorem dL_comes_147 : decode cL_comes 147 = .ok (.iconst 0, 1) := by decide +kernel
theorem dL_comes_148 : decode cL_comes 148 = .ok (.isub, 1) := by decide +kernel
theorem dL_comes_149 : decode cL_comes 149 = .ok (.istore 12, 2) := by decide +kernel
theorem dL_comes_151 : decode cL_comes 151 = .ok (.iinc 13 1, 3) := by decide +kernel
theorem dL_comes_154 : decode cL_comes 154 = .ok (.aload 6, 2) := by decide +kernel
theorem dL_comes_156 : decode cL_comes 156 = .ok (.aload 7, 2) := by decide +kernel
theorem dL_comes_158 : decode cL_comes 158 = .ok (.aload 9, 2) := by decide +kernel
theorem dL_comes_160 : decode cL_comes 160 = .ok (.invokestatic 25, 3) := by decide +kernel
theorem dL_comes_163 : decode cL_comes 163 = .ok (.istore 14, 2) := by decide +kernel
theorem dL_comes_165 : decode cL_comes 165 = .ok (.goto (-55), 3) := by decide +kernel
theorem dL_comes_168 : decode cL_comes 168 = .ok (.sipush 10000, 3) := by decide +kernel
theorem dL_comes_171 : decode cL_comes 171 = .ok (.iload 13, 2) := by decide +kernel
theorem dL_comes_173 : decode cL_comes 173 = .ok (.imul, 1) := by decide +kernel
theorem dL_comes_174 : decode cL_comes 174 = .ok (.aload 6, 2) := by decide +kernel
theorem dL_comes_176 : decode cL_comes 176 = .ok (.iconst 5, 1) := by decide +kernel
theorem dL_comes_177 : decode cL_comes 177 = .ok (.iaload, 1) := by decide +kernel
theorem dL_comes_178 : decode cL_comes 178 = .ok (.iadd, 1) := by decide +kernel
theorem dL_comes_179 : decode cL_comes 179 = .ok (.aload_n 2, 1) := by decide +kernel
theorem dL_comes_180 : decode cL_comes 180 = .ok (.iconst 5, 1) := by decide +kernel
theorem dL_comes_181 : decode cL_comes 181 = .ok (.iaload, 1) := by decide +kernel
theorem dL_comes_182 : decode cL_comes 182 = .ok (.isub, 1) := by decide +kernel
theorem dL_comes_183 : decode cL_comes 183 = .ok (.ireturn, 1) := by decide +kernel
theorem dL_bits_0 : decode cL_bits 0 = .ok (.iconst 0, 1) := by decide +kernel
theorem dL_bits_1 : decode cL_bits 1 = .ok (.istore_n 1, 1) := by decide +kernel
theorem dL_bits_2 : decode cL_bits 2 = .ok (.iload_n 0, 1) := by decide +kernel
theorem dL_bits_3 : decode cL_bits 3 = .ok (.istore_n 2, 1) := by decide +kernel
theorem dL_bits_4 : decode cL_bits 4 = .ok (.iload_n 2, 1) := by decide +kernel
theorem dL_bits_5 : decode cL_bits 5 = .ok (.ifCond .eq 15, 3) := by decide +kernel
theorem dL_bits_8 : decode cL_bits 8 = .ok (.iinc 1 1, 3) := by decide +kernel
theorem dL_bits_11 : decode cL_bits 11 = .ok (.iload_n 2, 1) := by decide +kernel
theorem dL_bits_12 : decode cL_bits 12 = .ok (.iload_n 2, 1) := by decide +kernel
theorem dL_bits_13 : decode cL_bits 13 = .ok (.iconst 1, 1) := by decide +kernel
theorem dL_bits_14 : decode cL_bits 14 = .ok (.isub, 1) := by decide +kernel
theorem dL_bits_15 : decode cL_bits 15 = .ok (.iand, 1) := by decide +kernel
theorem dL_bits_16 : decode cL_bits 16 = .ok (.istore_n 2, 1) := by decide +kernel
theorem dL_bits_17 : decode cL_bits 17 = .ok (.goto (-13), 3) := by decide +kernel
theorem dL_bits_20 : decode cL_bits 20 = .ok (.iload_n 1, 1) := by decide +kernel
theorem dL_bits_21 : decode cL_bits 21 = .ok (.ireturn, 1) := by decide +kernel
end
section
set_option maxRecDepth 20000 in
theorem ggL_same_L_set : GoodIn wsL_same wsL_set := goodIn_r _ [4] (by decide +kernel) (by decide +kernel)
set_option maxRecDepth 20000 in
theorem gL_same_L_set : GoodIn wsL_same (va_wsS RL 10 yL_set wsL_set) := goodIn_app (goodIn_of _ (by decide +kernel)) ggL_same_L_set
set_option maxRecDepth 20000 in
theorem ggL_same_X9_inQueue : GoodIn wsL_same wsX9_inQueue := goodIn_r _ [9, 10, 11, 12, 13, 14, 15, 16, 17, 18, 19, 20, 21, 22, 23, 24, 25, 8, 26, 27, 28, 29, 30, 31, 32, 33, 34, 35, 36, 37, 38, 39, 40, 41, 42, 43, 44, 45, 46, 47, 48, 49, 50, 51, 52, 53, 54, 55, 56, 57, 58, 59, 60, 61, 62, 63, 64, 65, 66, 67, 68, 69, 70, 71, 72, 73, 74, 75, 76, 77, 78, 79, 80, 81, 82, 264, 265, 266, 267, 268, 269, 270, 271, 272, 273, 274, 275, 276, 277, 278, 279, 280, 281, 282, 283, 284, 285, 286, 287, 288, 289, 290, 291, 292] (by decide +kernel) (by decide +kernel)
set_option maxRecDepth 20000 in
theorem gL_same_X9_inQueue : GoodIn wsL_same (wsV RL 33 RX9 yX9_inQueue wsX9_inQueue) := goodIn_app (goodIn_of _ (by decide +kernel)) ggL_same_X9_inQueue
set_option maxRecDepth 20000 in
theorem ggL_same_L_key : GoodIn wsL_same wsL_key := goodIn_r _ [85] (by decide +kernel) (by decide +kernel)
set_option maxRecDepth 20000 in
theorem gL_same_L_key : GoodIn wsL_same (va_wsS RL 39 yL_key wsL_key) := goodIn_app (goodIn_of _ (by decide +kernel)) ggL_same_L_key
set_option maxRecDepth 20000 in
theorem ggL_same_L_turns : GoodIn wsL_same wsL_turns := goodIn_r _ [88] (by decide +kernel) (by decide +kernel)
set_option maxRecDepth 20000 in
theorem gL_same_L_turns : GoodIn wsL_same (va_wsS RL 16 yL_turns wsL_turns) := goodIn_app (goodIn_of _ (by decide +kernel)) ggL_same_L_turns
set_option maxRecDepth 20000 in
theorem ggL_same_X9_turnOf : GoodIn wsL_same wsX9_turnOf := goodIn_r _ [92, 10, 11, 93, 94, 95, 19, 20, 21, 22, 23, 24, 25, 8, 26, 96, 97, 98, 99, 30, 100, 101, 32, 102, 103, 55, 56, 57, 58, 59, 60, 61, 62, 63, 64, 65, 66, 67, 69, 70, 104, 105, 106, 107, 108, 109, 110, 111, 112, 113, 114, 115, 116, 117, 118, 119, 120, 40, 37, 41, 121, 122, 123, 124, 125, 126, 127, 128, 129, 130, 75, 76, 77, 131, 132, 133, 134, 135, 79, 80, 81, 82, 36, 38, 136, 137, 138, 139, 42, 140, 141, 142, 143, 144, 145, 146, 264, 265, 266, 267, 268, 269, 270, 271, 272, 273, 274, 275, 276, 293, 294, 295, 277, 278, 279, 280, 281, 282, 283, 284, 285, 286, 287, 288, 289, 290, 291, 292] (by decide +kernel) (by decide +kernel)
set_option maxRecDepth 20000 in
theorem gL_same_X9_turnOf : GoodIn wsL_same (wsV RL 43 RX9 yX9_turnOf wsX9_turnOf) := goodIn_app (goodIn_of _ (by decide +kernel)) ggL_same_X9_turnOf
set_option maxRecDepth 20000 in
theorem ggL_same_X9_heldUpBy : GoodIn wsL_same wsX9_heldUpBy := goodIn_r _ [150, 10, 11, 151, 19, 20, 21, 22, 23, 24, 25, 8, 26, 96, 97, 98, 99, 30, 100, 101, 32, 102, 103, 55, 56, 57, 58, 59, 60, 61, 62, 63, 64, 65, 66, 67, 69, 70, 152, 153, 154, 155, 93, 95, 104, 105, 106, 107, 108, 109, 110, 111, 112, 113, 114, 115, 116, 117, 118, 119, 120, 40, 37, 41, 121, 122, 123, 124, 125, 126, 127, 128, 129, 130, 75, 76, 77, 131, 132, 133, 134, 135, 79, 80, 81, 82, 36, 38, 136, 137, 138, 139, 42, 140, 141, 142, 143, 144, 145, 146, 264, 265, 266, 267, 268, 269, 270, 271, 272, 273, 274, 275, 276, 277, 278, 279, 280, 281, 282, 283, 284, 285, 286, 287, 293, 294, 295, 288, 289, 290, 291, 292] (by decide +kernel) (by decide +kernel)
set_option maxRecDepth 20000 in
theorem gL_same_X9_heldUpBy : GoodIn wsL_same (wsV RL 46 RX9 yX9_heldUpBy wsX9_heldUpBy) := goodIn_app (goodIn_of _ (by decide +kernel)) ggL_same_X9_heldUpBy
set_option maxRecDepth 20000 in
theorem ggL_same_L_comes : GoodIn wsL_same wsL_comes := goodIn_r _ [158, 159, 160, 3, 161, 162, 163, 164, 165, 1, 2, 4, 86, 87, 88, 166, 167, 168] (by decide +kernel) (by decide +kernel)
set_option maxRecDepth 20000 in
theorem gL_same_L_comes : GoodIn wsL_same (va_wsS RL 49 yL_comes wsL_comes) := goodIn_app (goodIn_of _ (by decide +kernel)) ggL_same_L_comes
set_option maxRecDepth 20000 in
theorem ggL_same_L_low : GoodIn wsL_same wsL_low := goodIn_r _ [171, 172] (by decide +kernel) (by decide +kernel)
set_option maxRecDepth 20000 in
theorem gL_same_L_low : GoodIn wsL_same (va_wsS RL 53 yL_low wsL_low) := goodIn_app (goodIn_of _ (by decide +kernel)) ggL_same_L_low
set_option maxRecDepth 20000 in
theorem ggL_same_X9_of : GoodIn wsL_same wsX9_of := goodIn_r _ [176, 10, 15, 177, 178, 18, 17, 11, 179, 180, 181, 182, 183, 184, 185, 25, 8, 26, 186, 187, 188, 189, 190, 69, 70, 71, 72, 73, 68, 191, 192, 193, 22, 194, 24, 62, 63, 64, 65, 66, 67, 264, 265, 266, 267, 268, 269, 270, 271, 272, 273, 274, 275, 276, 281, 282, 283, 284, 285, 286, 287, 277, 278, 279, 280] (by decide +kernel) (by decide +kernel)
set_option maxRecDepth 20000 in
theorem gL_same_X9_of : GoodIn wsL_same (wsV RL 56 RX9 yX9_of wsX9_of) := goodIn_app (goodIn_of _ (by decide +kernel)) ggL_same_X9_of
set_option maxRecDepth 20000 in
theorem ggL_same_X9_ifLeft : GoodIn wsL_same wsX9_ifLeft := goodIn_r _ [198, 10, 15, 16, 11, 151, 180, 181, 182, 183, 184, 185, 25, 8, 26, 54, 55, 56, 22, 57, 58, 59, 60, 61, 24, 62, 63, 64, 65, 66, 67, 199, 200, 201, 202, 203, 204, 205, 264, 265, 266, 267, 268, 269, 270, 271, 272, 273, 274, 275, 276, 281, 282, 283, 284, 285, 286, 287, 277, 278, 279, 280] (by decide +kernel) (by decide +kernel)
set_option maxRecDepth 20000 in
theorem gL_same_X9_ifLeft : GoodIn wsL_same (wsV RL 59 RX9 yX9_ifLeft wsX9_ifLeft) := goodIn_app (goodIn_of _ (by decide +kernel)) ggL_same_X9_ifLeft
set_option maxRecDepth 20000 in
theorem ggL_same_X9_together : GoodIn wsL_same wsX9_together := goodIn_r _ [209, 10, 15, 210, 211, 180, 181, 182, 183, 184, 185, 25, 8, 26, 27, 28, 29, 30, 31, 32, 33, 34, 35, 36, 37, 38, 39, 40, 41, 42, 43, 44, 45, 46, 47, 48, 49, 50, 51, 52, 53, 264, 265, 266, 267, 268, 269, 270, 271, 272, 273, 274, 275, 276, 288, 289, 290, 291, 292, 281, 282, 283, 284, 285, 286, 287] (by decide +kernel) (by decide +kernel)
set_option maxRecDepth 20000 in
theorem gL_same_X9_together : GoodIn wsL_same (wsV RL 62 RX9 yX9_together wsX9_together) := goodIn_app (goodIn_of _ (by decide +kernel)) ggL_same_X9_together
set_option maxRecDepth 20000 in
theorem ggL_same_X9_ofSong : GoodIn wsL_same wsX9_ofSong := goodIn_r _ [215, 10, 210, 216, 217, 218, 219, 220, 221, 222, 46, 223, 224, 25, 8, 26, 225, 226, 227, 30, 228, 32, 229, 230, 28, 29, 31, 33, 34, 35, 36, 37, 38, 39, 40, 41, 42, 43, 44, 45, 47, 48, 49, 50, 51, 52, 53, 264, 265, 266, 267, 268, 269, 270, 271, 272, 273, 274, 275, 276, 288, 289, 290, 291, 292, 281, 282, 283, 284, 285, 286, 287] (by decide +kernel) (by decide +kernel)
set_option maxRecDepth 20000 in
theorem gL_same_X9_ofSong : GoodIn wsL_same (wsV RL 65 RX9 yX9_ofSong wsX9_ofSong) := goodIn_app (goodIn_of _ (by decide +kernel)) ggL_same_X9_ofSong
set_option maxRecDepth 20000 in
theorem ggL_same_X9_past : GoodIn wsL_same wsX9_past := goodIn_r _ [234, 10, 235, 236, 237, 238, 239, 240, 96, 25, 8, 26, 264, 265, 266, 267, 268, 269, 270, 271, 272, 273, 274, 275, 276, 296, 297, 298, 299, 300] (by decide +kernel) (by decide +kernel)
set_option maxRecDepth 20000 in
theorem gL_same_X9_past : GoodIn wsL_same (wsV RL 68 RX9 yX9_past wsX9_past) := goodIn_app (goodIn_of _ (by decide +kernel)) ggL_same_X9_past
set_option maxRecDepth 20000 in
theorem ggL_same_X9_count : GoodIn wsL_same wsX9_count := goodIn_r _ [244, 10, 15, 245, 16, 210, 211, 11, 151, 246, 247, 17, 248, 249, 250, 251, 54, 55, 56, 22, 57, 58, 59, 60, 61, 24, 62, 63, 64, 65, 66, 67, 199, 200, 201, 202, 203, 204, 205, 252, 253, 254, 30, 255, 101, 32, 102, 256, 257, 103, 258, 127, 128, 129, 130, 75, 76, 77, 131, 132, 133, 134, 69, 8, 70, 135, 79, 80, 81, 82, 36, 37, 38, 264, 265, 266, 267, 268, 269, 270, 271, 272, 273, 274, 275, 276, 281, 282, 283, 284, 285, 286, 287, 288, 289, 290, 291, 292, 277, 278, 279, 280, 301, 302, 303, 304, 305] (by decide +kernel) (by decide +kernel)
set_option maxRecDepth 20000 in
theorem gL_same_X9_count : GoodIn wsL_same (wsV RL 71 RX9 yX9_count wsX9_count) := goodIn_app (goodIn_of _ (by decide +kernel)) ggL_same_X9_count
set_option maxRecDepth 20000 in
theorem ggL_same_L_next : GoodIn wsL_same wsL_next := goodIn_r _ [164, 165, 1, 2, 3, 4, 86, 87, 88] (by decide +kernel) (by decide +kernel)
set_option maxRecDepth 20000 in
theorem gL_same_L_next : GoodIn wsL_same (va_wsS RL 25 yL_next wsL_next) := goodIn_app (goodIn_of _ (by decide +kernel)) ggL_same_L_next
set_option maxRecDepth 20000 in
theorem ggL_same_X9_endOfAll : GoodIn wsL_same wsX9_endOfAll := goodIn_r _ [262, 10, 11, 15, 16, 246, 151, 54, 55, 56, 22, 57, 58, 59, 60, 61, 24, 62, 63, 64, 65, 66, 67, 68, 69, 8, 70, 263, 137, 138, 30, 139, 42, 140, 101, 141, 264, 265, 266, 267, 268, 269, 270, 271, 272, 273, 274, 275, 276, 281, 282, 283, 284, 285, 286, 287, 277, 278, 279, 280, 288, 289, 290, 291, 292] (by decide +kernel) (by decide +kernel)
set_option maxRecDepth 20000 in
theorem gL_same_X9_endOfAll : GoodIn wsL_same (wsV RL 74 RX9 yX9_endOfAll wsX9_endOfAll) := goodIn_app (goodIn_of _ (by decide +kernel)) ggL_same_X9_endOfAll
theorem dL_same_0 : decode cL_same 0 = .ok (.iconst 0, 1) := by decide +kernel
theorem dL_same_1 : decode cL_same 1 = .ok (.istore 14, 2) := by decide +kernel
theorem dL_same_3 : decode cL_same 3 = .ok (.aload_n 2, 1) := by decide +kernel
theorem dL_same_4 : decode cL_same 4 = .ok (.iconst 5, 1) := by decide +kernel
theorem dL_same_5 : decode cL_same 5 = .ok (.iaload, 1) := by decide +kernel
theorem dL_same_6 : decode cL_same 6 = .ok (.istore 15, 2) := by decide +kernel
theorem dL_same_8 : decode cL_same 8 = .ok (.iconst 0, 1) := by decide +kernel
theorem dL_same_9 : decode cL_same 9 = .ok (.istore 16, 2) := by decide +kernel
theorem dL_same_11 : decode cL_same 11 = .ok (.iload 16, 2) := by decide +kernel
theorem dL_same_13 : decode cL_same 13 = .ok (.aload_n 2, 1) := by decide +kernel
theorem dL_same_14 : decode cL_same 14 = .ok (.iconst 2, 1) := by decide +kernel
theorem dL_same_15 : decode cL_same 15 = .ok (.iaload, 1) := by decide +kernel
theorem dL_same_16 : decode cL_same 16 = .ok (.if_icmp .ge 474, 3) := by decide +kernel
theorem dL_same_19 : decode cL_same 19 = .ok (.aload 5, 2) := by decide +kernel
theorem dL_same_21 : decode cL_same 21 = .ok (.iload 16, 2) := by decide +kernel
theorem dL_same_23 : decode cL_same 23 = .ok (.iaload, 1) := by decide +kernel
theorem dL_same_24 : decode cL_same 24 = .ok (.istore 17, 2) := by decide +kernel
theorem dL_same_26 : decode cL_same 26 = .ok (.iload 17, 2) := by decide +kernel
theorem dL_same_28 : decode cL_same 28 = .ok (.bipush 100, 2) := by decide +kernel
theorem dL_same_30 : decode cL_same 30 = .ok (.irem, 1) := by decide +kernel
theorem dL_same_31 : decode cL_same 31 = .ok (.istore 18, 2) := by decide +kernel
theorem dL_same_33 : decode cL_same 33 = .ok (.iload 17, 2) := by decide +kernel
theorem dL_same_35 : decode cL_same 35 = .ok (.bipush 100, 2) := by decide +kernel
theorem dL_same_37 : decode cL_same 37 = .ok (.idiv, 1) := by decide +kernel
theorem dL_same_38 : decode cL_same 38 = .ok (.bipush 100, 2) := by decide +kernel
theorem dL_same_40 : decode cL_same 40 = .ok (.irem, 1) := by decide +kernel
theorem dL_same_41 : decode cL_same 41 = .ok (.iconst 1, 1) := by decide +kernel
theorem dL_same_42 : decode cL_same 42 = .ok (.isub, 1) := by decide +kernel
theorem dL_same_43 : decode cL_same 43 = .ok (.istore 19, 2) := by decide +kernel
theorem dL_same_45 : decode cL_same 45 = .ok (.iload 17, 2) := by decide +kernel
theorem dL_same_47 : decode cL_same 47 = .ok (.invokestatic 10, 3) := by decide +kernel
theorem dL_same_50 : decode cL_same 50 = .ok (.aload_n 2, 1) := by decide +kernel
theorem dL_same_51 : decode cL_same 51 = .ok (.iconst 3, 1) := by decide +kernel
theorem dL_same_52 : decode cL_same 52 = .ok (.iaload, 1) := by decide +kernel
theorem dL_same_53 : decode cL_same 53 = .ok (.iconst (-1), 1) := by decide +kernel
theorem dL_same_54 : decode cL_same 54 = .ok (.ixor, 1) := by decide +kernel
theorem dL_same_55 : decode cL_same 55 = .ok (.iand, 1) := by decide +kernel
theorem dL_same_56 : decode cL_same 56 = .ok (.ifCond .ne 7, 3) := by decide +kernel
theorem dL_same_59 : decode cL_same 59 = .ok (.iconst 1, 1) := by decide +kernel
theorem dL_same_60 : decode cL_same 60 = .ok (.goto 4, 3) := by decide +kernel
theorem dL_same_63 : decode cL_same 63 = .ok (.iconst 0, 1) := by decide +kernel
theorem dL_same_64 : decode cL_same 64 = .ok (.istore 20, 2) := by decide +kernel
theorem dL_same_66 : decode cL_same 66 = .ok (.iload 14, 2) := by decide +kernel
theorem dL_same_68 : decode cL_same 68 = .ok (.iload 20, 2) := by decide +kernel
theorem dL_same_70 : decode cL_same 70 = .ok (.ifCond .eq 7, 3) := by decide +kernel
theorem dL_same_73 : decode cL_same 73 = .ok (.iconst 1, 1) := by decide +kernel
theorem dL_same_74 : decode cL_same 74 = .ok (.goto 4, 3) := by decide +kernel
theorem dL_same_77 : decode cL_same 77 = .ok (.iconst 0, 1) := by decide +kernel
theorem dL_same_78 : decode cL_same 78 = .ok (.iadd, 1) := by decide +kernel
theorem dL_same_79 : decode cL_same 79 = .ok (.istore 14, 2) := by decide +kernel
theorem dL_same_81 : decode cL_same 81 = .ok (.iload 15, 2) := by decide +kernel
theorem dL_same_83 : decode cL_same 83 = .ok (.iload 20, 2) := by decide +kernel
theorem dL_same_85 : decode cL_same 85 = .ok (.ifCond .eq 19, 3) := by decide +kernel
theorem dL_same_88 : decode cL_same 88 = .ok (.aload 4, 2) := by decide +kernel
theorem dL_same_90 : decode cL_same 90 = .ok (.iconst 4, 1) := by decide +kernel
theorem dL_same_91 : decode cL_same 91 = .ok (.iload 17, 2) := by decide +kernel
theorem dL_same_93 : decode cL_same 93 = .ok (.sipush 10000, 3) := by decide +kernel
theorem dL_same_96 : decode cL_same 96 = .ok (.idiv, 1) := by decide +kernel
theorem dL_same_97 : decode cL_same 97 = .ok (.imul, 1) := by decide +kernel
theorem dL_same_98 : decode cL_same 98 = .ok (.iconst 2, 1) := by decide +kernel
theorem dL_same_99 : decode cL_same 99 = .ok (.iadd, 1) := by decide +kernel
theorem dL_same_100 : decode cL_same 100 = .ok (.iaload, 1) := by decide +kernel
theorem dL_same_101 : decode cL_same 101 = .ok (.goto 4, 3) := by decide +kernel
theorem dL_same_104 : decode cL_same 104 = .ok (.iconst 0, 1) := by decide +kernel
theorem dL_same_105 : decode cL_same 105 = .ok (.iadd, 1) := by decide +kernel
theorem dL_same_106 : decode cL_same 106 = .ok (.istore 15, 2) := by decide +kernel
theorem dL_same_108 : decode cL_same 108 = .ok (.aload_n 0, 1) := by decide +kernel
theorem dL_same_109 : decode cL_same 109 = .ok (.iload 16, 2) := by decide +kernel
theorem dL_same_111 : decode cL_same 111 = .ok (.iconst 0, 1) := by decide +kernel
theorem dL_same_112 : decode cL_same 112 = .ok (.invokevirtual 33, 3) := by decide +kernel
theorem dL_same_115 : decode cL_same 115 = .ok (.iload 18, 2) := by decide +kernel
theorem dL_same_117 : decode cL_same 117 = .ok (.if_icmp .ne 131, 3) := by decide +kernel
theorem dL_same_120 : decode cL_same 120 = .ok (.aload_n 0, 1) := by decide +kernel
theorem dL_same_121 : decode cL_same 121 = .ok (.iload 16, 2) := by decide +kernel
theorem dL_same_123 : decode cL_same 123 = .ok (.iconst 1, 1) := by decide +kernel
theorem dL_same_124 : decode cL_same 124 = .ok (.invokevirtual 33, 3) := by decide +kernel
theorem dL_same_127 : decode cL_same 127 = .ok (.iload 19, 2) := by decide +kernel
theorem dL_same_129 : decode cL_same 129 = .ok (.ifCond .ge 8, 3) := by decide +kernel
theorem dL_same_132 : decode cL_same 132 = .ok (.bipush (-6), 2) := by decide +kernel
theorem dL_same_134 : decode cL_same 134 = .ok (.goto 5, 3) := by decide +kernel
theorem dL_same_137 : decode cL_same 137 = .ok (.iload 19, 2) := by decide +kernel
theorem dL_same_139 : decode cL_same 139 = .ok (.if_icmp .ne 109, 3) := by decide +kernel
theorem dL_same_142 : decode cL_same 142 = .ok (.aload_n 0, 1) := by decide +kernel
theorem dL_same_143 : decode cL_same 143 = .ok (.iload 16, 2) := by decide +kernel
theorem dL_same_145 : decode cL_same 145 = .ok (.iconst 2, 1) := by decide +kernel
theorem dL_same_146 : decode cL_same 146 = .ok (.invokevirtual 33, 3) := by decide +kernel
theorem dL_same_149 : decode cL_same 149 = .ok (.iload 17, 2) := by decide +kernel
theorem dL_same_151 : decode cL_same 151 = .ok (.sipush 10000, 3) := by decide +kernel
theorem dL_same_154 : decode cL_same 154 = .ok (.idiv, 1) := by decide +kernel
theorem dL_same_155 : decode cL_same 155 = .ok (.if_icmp .ne 93, 3) := by decide +kernel
theorem dL_same_158 : decode cL_same 158 = .ok (.aload_n 0, 1) := by decide +kernel
theorem dL_same_159 : decode cL_same 159 = .ok (.iload 16, 2) := by decide +kernel
theorem dL_same_161 : decode cL_same 161 = .ok (.iconst 3, 1) := by decide +kernel
theorem dL_same_162 : decode cL_same 162 = .ok (.invokevirtual 33, 3) := by decide +kernel
theorem dL_same_165 : decode cL_same 165 = .ok (.iload 18, 2) := by decide +kernel
theorem dL_same_167 : decode cL_same 167 = .ok (.iload 19, 2) := by decide +kernel
theorem dL_same_169 : decode cL_same 169 = .ok (.iload 17, 2) := by decide +kernel
theorem dL_same_171 : decode cL_same 171 = .ok (.sipush 10000, 3) := by decide +kernel
theorem dL_same_174 : decode cL_same 174 = .ok (.idiv, 1) := by decide +kernel
theorem dL_same_175 : decode cL_same 175 = .ok (.aload_n 3, 1) := by decide +kernel
theorem dL_same_176 : decode cL_same 176 = .ok (.aload 4, 2) := by decide +kernel
theorem dL_same_178 : decode cL_same 178 = .ok (.invokestatic 39, 3) := by decide +kernel
theorem dL_same_181 : decode cL_same 181 = .ok (.if_icmp .ne 67, 3) := by decide +kernel
theorem dL_same_184 : decode cL_same 184 = .ok (.aload_n 0, 1) := by decide +kernel
theorem dL_same_185 : decode cL_same 185 = .ok (.iload 16, 2) := by decide +kernel
theorem dL_same_187 : decode cL_same 187 = .ok (.iconst 4, 1) := by decide +kernel
theorem dL_same_188 : decode cL_same 188 = .ok (.invokevirtual 33, 3) := by decide +kernel
theorem dL_same_191 : decode cL_same 191 = .ok (.iload 20, 2) := by decide +kernel
theorem dL_same_193 : decode cL_same 193 = .ok (.ifCond .eq 7, 3) := by decide +kernel
theorem dL_same_196 : decode cL_same 196 = .ok (.iconst 1, 1) := by decide +kernel
theorem dL_same_197 : decode cL_same 197 = .ok (.goto 4, 3) := by decide +kernel
theorem dL_same_200 : decode cL_same 200 = .ok (.iconst 0, 1) := by decide +kernel
theorem dL_same_201 : decode cL_same 201 = .ok (.if_icmp .ne 47, 3) := by decide +kernel
theorem dL_same_204 : decode cL_same 204 = .ok (.aload_n 0, 1) := by decide +kernel
theorem dL_same_205 : decode cL_same 205 = .ok (.iload 16, 2) := by decide +kernel
theorem dL_same_207 : decode cL_same 207 = .ok (.iconst 5, 1) := by decide +kernel
theorem dL_same_208 : decode cL_same 208 = .ok (.invokevirtual 33, 3) := by decide +kernel
theorem dL_same_211 : decode cL_same 211 = .ok (.iload 17, 2) := by decide +kernel
theorem dL_same_213 : decode cL_same 213 = .ok (.invokestatic 10, 3) := by decide +kernel
theorem dL_same_216 : decode cL_same 216 = .ok (.aload_n 2, 1) := by decide +kernel
theorem dL_same_217 : decode cL_same 217 = .ok (.iconst 4, 1) := by decide +kernel
theorem dL_same_218 : decode cL_same 218 = .ok (.iaload, 1) := by decide +kernel
theorem dL_same_219 : decode cL_same 219 = .ok (.iand, 1) := by decide +kernel
theorem dL_same_220 : decode cL_same 220 = .ok (.ifCond .ne 7, 3) := by decide +kernel
theorem dL_same_223 : decode cL_same 223 = .ok (.iconst 1, 1) := by decide +kernel
theorem dL_same_224 : decode cL_same 224 = .ok (.goto 4, 3) := by decide +kernel
theorem dL_same_227 : decode cL_same 227 = .ok (.iconst 0, 1) := by decide +kernel
theorem dL_same_228 : decode cL_same 228 = .ok (.if_icmp .ne 20, 3) := by decide +kernel
theorem dL_same_231 : decode cL_same 231 = .ok (.aload_n 0, 1) := by decide +kernel
theorem dL_same_232 : decode cL_same 232 = .ok (.iload 16, 2) := by decide +kernel
theorem dL_same_234 : decode cL_same 234 = .ok (.bipush 6, 2) := by decide +kernel
theorem dL_same_236 : decode cL_same 236 = .ok (.invokevirtual 33, 3) := by decide +kernel
theorem dL_same_239 : decode cL_same 239 = .ok (.iload 17, 2) := by decide +kernel
theorem dL_same_241 : decode cL_same 241 = .ok (.aload_n 3, 1) := by decide +kernel
theorem dL_same_242 : decode cL_same 242 = .ok (.invokestatic 16, 3) := by decide +kernel
theorem dL_same_245 : decode cL_same 245 = .ok (.if_icmp .eq 5, 3) := by decide +kernel
theorem dL_same_248 : decode cL_same 248 = .ok (.iconst 0, 1) := by decide +kernel
theorem dL_same_249 : decode cL_same 249 = .ok (.ireturn, 1) := by decide +kernel
theorem dL_same_250 : decode cL_same 250 = .ok (.iload 20, 2) := by decide +kernel
theorem dL_same_252 : decode cL_same 252 = .ok (.ifCond .ne 29, 3) := by decide +kernel
theorem dL_same_255 : decode cL_same 255 = .ok (.aload_n 0, 1) := by decide +kernel
theorem dL_same_256 : decode cL_same 256 = .ok (.iload 16, 2) := by decide +kernel
theorem dL_same_258 : decode cL_same 258 = .ok (.iconst 0, 1) := by decide +kernel
theorem dL_same_259 : decode cL_same 259 = .ok (.invokevirtual 43, 3) := by decide +kernel
theorem dL_same_262 : decode cL_same 262 = .ok (.bipush (-6), 2) := by decide +kernel
theorem dL_same_264 : decode cL_same 264 = .ok (.if_icmp .ne 15, 3) := by decide +kernel
theorem dL_same_267 : decode cL_same 267 = .ok (.aload_n 0, 1) := by decide +kernel
theorem dL_same_268 : decode cL_same 268 = .ok (.iload 16, 2) := by decide +kernel
theorem dL_same_270 : decode cL_same 270 = .ok (.iconst 1, 1) := by decide +kernel
theorem dL_same_271 : decode cL_same 271 = .ok (.invokevirtual 46, 3) := by decide +kernel
theorem dL_same_274 : decode cL_same 274 = .ok (.bipush (-6), 2) := by decide +kernel
theorem dL_same_276 : decode cL_same 276 = .ok (.if_icmp .eq 208, 3) := by decide +kernel
theorem dL_same_279 : decode cL_same 279 = .ok (.iconst 0, 1) := by decide +kernel
theorem dL_same_280 : decode cL_same 280 = .ok (.ireturn, 1) := by decide +kernel
theorem dL_same_281 : decode cL_same 281 = .ok (.iload 16, 2) := by decide +kernel
theorem dL_same_283 : decode cL_same 283 = .ok (.iconst (-1), 1) := by decide +kernel
theorem dL_same_284 : decode cL_same 284 = .ok (.aload_n 2, 1) := by decide +kernel
theorem dL_same_285 : decode cL_same 285 = .ok (.aload_n 3, 1) := by decide +kernel
theorem dL_same_286 : decode cL_same 286 = .ok (.aload 4, 2) := by decide +kernel
theorem dL_same_288 : decode cL_same 288 = .ok (.aload 5, 2) := by decide +kernel
theorem dL_same_290 : decode cL_same 290 = .ok (.aload 8, 2) := by decide +kernel
theorem dL_same_292 : decode cL_same 292 = .ok (.aload 9, 2) := by decide +kernel
theorem dL_same_294 : decode cL_same 294 = .ok (.aload 10, 2) := by decide +kernel
theorem dL_same_296 : decode cL_same 296 = .ok (.aload 11, 2) := by decide +kernel
theorem dL_same_298 : decode cL_same 298 = .ok (.aload 12, 2) := by decide +kernel
theorem dL_same_300 : decode cL_same 300 = .ok (.aload 13, 2) := by decide +kernel
theorem dL_same_302 : decode cL_same 302 = .ok (.invokestatic 49, 3) := by decide +kernel
theorem dL_same_305 : decode cL_same 305 = .ok (.istore 21, 2) := by decide +kernel
theorem dL_same_307 : decode cL_same 307 = .ok (.aload_n 0, 1) := by decide +kernel
theorem dL_same_308 : decode cL_same 308 = .ok (.iload 16, 2) := by decide +kernel
theorem dL_same_310 : decode cL_same 310 = .ok (.iconst 0, 1) := by decide +kernel
theorem dL_same_311 : decode cL_same 311 = .ok (.invokevirtual 43, 3) := by decide +kernel
theorem dL_same_314 : decode cL_same 314 = .ok (.iload 21, 2) := by decide +kernel
theorem dL_same_316 : decode cL_same 316 = .ok (.sipush 10000, 3) := by decide +kernel
theorem dL_same_319 : decode cL_same 319 = .ok (.idiv, 1) := by decide +kernel
theorem dL_same_320 : decode cL_same 320 = .ok (.if_icmp .ne 23, 3) := by decide +kernel
theorem dL_same_323 : decode cL_same 323 = .ok (.aload_n 0, 1) := by decide +kernel
theorem dL_same_324 : decode cL_same 324 = .ok (.iload 16, 2) := by decide +kernel
theorem dL_same_326 : decode cL_same 326 = .ok (.iconst 1, 1) := by decide +kernel
theorem dL_same_327 : decode cL_same 327 = .ok (.invokevirtual 43, 3) := by decide +kernel
theorem dL_same_330 : decode cL_same 330 = .ok (.aload_n 2, 1) := by decide +kernel
theorem dL_same_331 : decode cL_same 331 = .ok (.iconst 5, 1) := by decide +kernel
theorem dL_same_332 : decode cL_same 332 = .ok (.iaload, 1) := by decide +kernel
theorem dL_same_333 : decode cL_same 333 = .ok (.iload 21, 2) := by decide +kernel
theorem dL_same_335 : decode cL_same 335 = .ok (.sipush 10000, 3) := by decide +kernel
theorem dL_same_338 : decode cL_same 338 = .ok (.irem, 1) := by decide +kernel
theorem dL_same_339 : decode cL_same 339 = .ok (.iadd, 1) := by decide +kernel
theorem dL_same_340 : decode cL_same 340 = .ok (.if_icmp .eq 5, 3) := by decide +kernel
theorem dL_same_343 : decode cL_same 343 = .ok (.iconst 0, 1) := by decide +kernel
theorem dL_same_344 : decode cL_same 344 = .ok (.ireturn, 1) := by decide +kernel
theorem dL_same_345 : decode cL_same 345 = .ok (.iload 16, 2) := by decide +kernel
theorem dL_same_347 : decode cL_same 347 = .ok (.iload_n 1, 1) := by decide +kernel
theorem dL_same_348 : decode cL_same 348 = .ok (.aload_n 2, 1) := by decide +kernel
theorem dL_same_349 : decode cL_same 349 = .ok (.iconst 2, 1) := by decide +kernel
theorem dL_same_350 : decode cL_same 350 = .ok (.iaload, 1) := by decide +kernel
theorem dL_same_351 : decode cL_same 351 = .ok (.invokestatic 53, 3) := by decide +kernel
theorem dL_same_354 : decode cL_same 354 = .ok (.if_icmp .ne 130, 3) := by decide +kernel
theorem dL_same_357 : decode cL_same 357 = .ok (.aload_n 2, 1) := by decide +kernel
theorem dL_same_358 : decode cL_same 358 = .ok (.iconst 2, 1) := by decide +kernel
theorem dL_same_359 : decode cL_same 359 = .ok (.iaload, 1) := by decide +kernel
theorem dL_same_360 : decode cL_same 360 = .ok (.iconst 1, 1) := by decide +kernel
theorem dL_same_361 : decode cL_same 361 = .ok (.if_icmp .ne 6, 3) := by decide +kernel
theorem dL_same_364 : decode cL_same 364 = .ok (.goto 120, 3) := by decide +kernel
theorem dL_same_367 : decode cL_same 367 = .ok (.iconst (-1), 1) := by decide +kernel
theorem dL_same_368 : decode cL_same 368 = .ok (.istore 22, 2) := by decide +kernel
theorem dL_same_370 : decode cL_same 370 = .ok (.iconst 0, 1) := by decide +kernel
theorem dL_same_371 : decode cL_same 371 = .ok (.istore 23, 2) := by decide +kernel
theorem dL_same_373 : decode cL_same 373 = .ok (.iconst 0, 1) := by decide +kernel
theorem dL_same_374 : decode cL_same 374 = .ok (.istore 24, 2) := by decide +kernel
theorem dL_same_376 : decode cL_same 376 = .ok (.iload 24, 2) := by decide +kernel
theorem dL_same_378 : decode cL_same 378 = .ok (.aload_n 2, 1) := by decide +kernel
theorem dL_same_379 : decode cL_same 379 = .ok (.iconst 2, 1) := by decide +kernel
theorem dL_same_380 : decode cL_same 380 = .ok (.iaload, 1) := by decide +kernel
theorem dL_same_381 : decode cL_same 381 = .ok (.if_icmp .ge 77, 3) := by decide +kernel
theorem dL_same_384 : decode cL_same 384 = .ok (.iload 24, 2) := by decide +kernel
theorem dL_same_386 : decode cL_same 386 = .ok (.iload 16, 2) := by decide +kernel
theorem dL_same_388 : decode cL_same 388 = .ok (.if_icmp .ne 6, 3) := by decide +kernel
theorem dL_same_391 : decode cL_same 391 = .ok (.goto 61, 3) := by decide +kernel
theorem dL_same_394 : decode cL_same 394 = .ok (.iload 21, 2) := by decide +kernel
theorem dL_same_396 : decode cL_same 396 = .ok (.sipush 10000, 3) := by decide +kernel
theorem dL_same_399 : decode cL_same 399 = .ok (.irem, 1) := by decide +kernel
theorem dL_same_400 : decode cL_same 400 = .ok (.iload 16, 2) := by decide +kernel
theorem dL_same_402 : decode cL_same 402 = .ok (.iload 24, 2) := by decide +kernel
theorem dL_same_404 : decode cL_same 404 = .ok (.aload_n 2, 1) := by decide +kernel
theorem dL_same_405 : decode cL_same 405 = .ok (.aload_n 3, 1) := by decide +kernel
theorem dL_same_406 : decode cL_same 406 = .ok (.aload 4, 2) := by decide +kernel
theorem dL_same_408 : decode cL_same 408 = .ok (.aload 5, 2) := by decide +kernel
theorem dL_same_410 : decode cL_same 410 = .ok (.aload 8, 2) := by decide +kernel
theorem dL_same_412 : decode cL_same 412 = .ok (.aload 9, 2) := by decide +kernel
theorem dL_same_414 : decode cL_same 414 = .ok (.aload 10, 2) := by decide +kernel
theorem dL_same_416 : decode cL_same 416 = .ok (.aload 11, 2) := by decide +kernel
theorem dL_same_418 : decode cL_same 418 = .ok (.aload 12, 2) := by decide +kernel
theorem dL_same_420 : decode cL_same 420 = .ok (.aload 13, 2) := by decide +kernel
theorem dL_same_422 : decode cL_same 422 = .ok (.invokestatic 49, 3) := by decide +kernel
theorem dL_same_425 : decode cL_same 425 = .ok (.sipush 10000, 3) := by decide +kernel
theorem dL_same_428 : decode cL_same 428 = .ok (.irem, 1) := by decide +kernel
theorem dL_same_429 : decode cL_same 429 = .ok (.isub, 1) := by decide +kernel
theorem dL_same_430 : decode cL_same 430 = .ok (.istore 25, 2) := by decide +kernel
theorem dL_same_432 : decode cL_same 432 = .ok (.iload 22, 2) := by decide +kernel
theorem dL_same_434 : decode cL_same 434 = .ok (.ifCond .lt 10, 3) := by decide +kernel
theorem dL_same_437 : decode cL_same 437 = .ok (.iload 25, 2) := by decide +kernel
theorem dL_same_439 : decode cL_same 439 = .ok (.iload 23, 2) := by decide +kernel
theorem dL_same_441 : decode cL_same 441 = .ok (.if_icmp .le 11, 3) := by decide +kernel
theorem dL_same_444 : decode cL_same 444 = .ok (.iload 24, 2) := by decide +kernel
theorem dL_same_446 : decode cL_same 446 = .ok (.istore 22, 2) := by decide +kernel
theorem dL_same_448 : decode cL_same 448 = .ok (.iload 25, 2) := by decide +kernel
theorem dL_same_450 : decode cL_same 450 = .ok (.istore 23, 2) := by decide +kernel
theorem dL_same_452 : decode cL_same 452 = .ok (.iinc 24 1, 3) := by decide +kernel
theorem dL_same_455 : decode cL_same 455 = .ok (.goto (-79), 3) := by decide +kernel
theorem dL_same_458 : decode cL_same 458 = .ok (.aload_n 0, 1) := by decide +kernel
theorem dL_same_459 : decode cL_same 459 = .ok (.iload 16, 2) := by decide +kernel
theorem dL_same_461 : decode cL_same 461 = .ok (.iconst 0, 1) := by decide +kernel
theorem dL_same_462 : decode cL_same 462 = .ok (.invokevirtual 46, 3) := by decide +kernel
theorem dL_same_465 : decode cL_same 465 = .ok (.iload 22, 2) := by decide +kernel
theorem dL_same_467 : decode cL_same 467 = .ok (.if_icmp .ne 15, 3) := by decide +kernel
theorem dL_same_470 : decode cL_same 470 = .ok (.aload_n 0, 1) := by decide +kernel
theorem dL_same_471 : decode cL_same 471 = .ok (.iload 16, 2) := by decide +kernel
theorem dL_same_473 : decode cL_same 473 = .ok (.iconst 1, 1) := by decide +kernel
theorem dL_same_474 : decode cL_same 474 = .ok (.invokevirtual 46, 3) := by decide +kernel
theorem dL_same_477 : decode cL_same 477 = .ok (.iload 23, 2) := by decide +kernel
theorem dL_same_479 : decode cL_same 479 = .ok (.if_icmp .eq 5, 3) := by decide +kernel
theorem dL_same_482 : decode cL_same 482 = .ok (.iconst 0, 1) := by decide +kernel
theorem dL_same_483 : decode cL_same 483 = .ok (.ireturn, 1) := by decide +kernel
theorem dL_same_484 : decode cL_same 484 = .ok (.iinc 16 1, 3) := by decide +kernel
theorem dL_same_487 : decode cL_same 487 = .ok (.goto (-476), 3) := by decide +kernel
theorem dL_same_490 : decode cL_same 490 = .ok (.iconst 0, 1) := by decide +kernel
theorem dL_same_491 : decode cL_same 491 = .ok (.istore 16, 2) := by decide +kernel
theorem dL_same_493 : decode cL_same 493 = .ok (.iload 16, 2) := by decide +kernel
theorem dL_same_495 : decode cL_same 495 = .ok (.aload_n 2, 1) := by decide +kernel
theorem dL_same_496 : decode cL_same 496 = .ok (.iconst 0, 1) := by decide +kernel
theorem dL_same_497 : decode cL_same 497 = .ok (.iaload, 1) := by decide +kernel
theorem dL_same_498 : decode cL_same 498 = .ok (.if_icmp .ge 305, 3) := by decide +kernel
theorem dL_same_501 : decode cL_same 501 = .ok (.iconst 0, 1) := by decide +kernel
theorem dL_same_502 : decode cL_same 502 = .ok (.istore 17, 2) := by decide +kernel
theorem dL_same_504 : decode cL_same 504 = .ok (.iconst 0, 1) := by decide +kernel
theorem dL_same_505 : decode cL_same 505 = .ok (.istore 18, 2) := by decide +kernel
theorem dL_same_507 : decode cL_same 507 = .ok (.iconst 0, 1) := by decide +kernel
theorem dL_same_508 : decode cL_same 508 = .ok (.istore 19, 2) := by decide +kernel
theorem dL_same_510 : decode cL_same 510 = .ok (.iload 19, 2) := by decide +kernel
theorem dL_same_512 : decode cL_same 512 = .ok (.aload_n 2, 1) := by decide +kernel
theorem dL_same_513 : decode cL_same 513 = .ok (.iconst 2, 1) := by decide +kernel
theorem dL_same_514 : decode cL_same 514 = .ok (.iaload, 1) := by decide +kernel
theorem dL_same_515 : decode cL_same 515 = .ok (.if_icmp .ge 61, 3) := by decide +kernel
theorem dL_same_518 : decode cL_same 518 = .ok (.iload 17, 2) := by decide +kernel
theorem dL_same_520 : decode cL_same 520 = .ok (.aload 5, 2) := by decide +kernel
theorem dL_same_522 : decode cL_same 522 = .ok (.iload 19, 2) := by decide +kernel
theorem dL_same_524 : decode cL_same 524 = .ok (.iaload, 1) := by decide +kernel
theorem dL_same_525 : decode cL_same 525 = .ok (.invokestatic 10, 3) := by decide +kernel
theorem dL_same_528 : decode cL_same 528 = .ok (.iload 16, 2) := by decide +kernel
theorem dL_same_530 : decode cL_same 530 = .ok (.ishr, 1) := by decide +kernel
theorem dL_same_531 : decode cL_same 531 = .ok (.iconst 1, 1) := by decide +kernel
theorem dL_same_532 : decode cL_same 532 = .ok (.iand, 1) := by decide +kernel
theorem dL_same_533 : decode cL_same 533 = .ok (.iadd, 1) := by decide +kernel
theorem dL_same_534 : decode cL_same 534 = .ok (.istore 17, 2) := by decide +kernel
theorem dL_same_536 : decode cL_same 536 = .ok (.iload 18, 2) := by decide +kernel
theorem dL_same_538 : decode cL_same 538 = .ok (.aload 5, 2) := by decide +kernel
theorem dL_same_540 : decode cL_same 540 = .ok (.iload 19, 2) := by decide +kernel
theorem dL_same_542 : decode cL_same 542 = .ok (.iaload, 1) := by decide +kernel
theorem dL_same_543 : decode cL_same 543 = .ok (.invokestatic 10, 3) := by decide +kernel
theorem dL_same_546 : decode cL_same 546 = .ok (.aload_n 2, 1) := by decide +kernel
theorem dL_same_547 : decode cL_same 547 = .ok (.iconst 3, 1) := by decide +kernel
theorem dL_same_548 : decode cL_same 548 = .ok (.iaload, 1) := by decide +kernel
theorem dL_same_549 : decode cL_same 549 = .ok (.iconst 1, 1) := by decide +kernel
theorem dL_same_550 : decode cL_same 550 = .ok (.iload 16, 2) := by decide +kernel
theorem dL_same_552 : decode cL_same 552 = .ok (.ishl, 1) := by decide +kernel
theorem dL_same_553 : decode cL_same 553 = .ok (.iconst (-1), 1) := by decide +kernel
theorem dL_same_554 : decode cL_same 554 = .ok (.ixor, 1) := by decide +kernel
theorem dL_same_555 : decode cL_same 555 = .ok (.iand, 1) := by decide +kernel
theorem dL_same_556 : decode cL_same 556 = .ok (.iconst (-1), 1) := by decide +kernel
theorem dL_same_557 : decode cL_same 557 = .ok (.ixor, 1) := by decide +kernel
theorem dL_same_558 : decode cL_same 558 = .ok (.iand, 1) := by decide +kernel
theorem dL_same_559 : decode cL_same 559 = .ok (.ifCond .eq 7, 3) := by decide +kernel
theorem dL_same_562 : decode cL_same 562 = .ok (.iconst 1, 1) := by decide +kernel
theorem dL_same_563 : decode cL_same 563 = .ok (.goto 4, 3) := by decide +kernel
theorem dL_same_566 : decode cL_same 566 = .ok (.iconst 0, 1) := by decide +kernel
theorem dL_same_567 : decode cL_same 567 = .ok (.iadd, 1) := by decide +kernel
theorem dL_same_568 : decode cL_same 568 = .ok (.istore 18, 2) := by decide +kernel
theorem dL_same_570 : decode cL_same 570 = .ok (.iinc 19 1, 3) := by decide +kernel
theorem dL_same_573 : decode cL_same 573 = .ok (.goto (-63), 3) := by decide +kernel
theorem dL_same_576 : decode cL_same 576 = .ok (.aload_n 0, 1) := by decide +kernel
theorem dL_same_577 : decode cL_same 577 = .ok (.iload 16, 2) := by decide +kernel
theorem dL_same_579 : decode cL_same 579 = .ok (.iconst 0, 1) := by decide +kernel
theorem dL_same_580 : decode cL_same 580 = .ok (.invokevirtual 56, 3) := by decide +kernel
theorem dL_same_583 : decode cL_same 583 = .ok (.aload_n 3, 1) := by decide +kernel
theorem dL_same_584 : decode cL_same 584 = .ok (.iconst 4, 1) := by decide +kernel
theorem dL_same_585 : decode cL_same 585 = .ok (.iload 16, 2) := by decide +kernel
theorem dL_same_587 : decode cL_same 587 = .ok (.imul, 1) := by decide +kernel
theorem dL_same_588 : decode cL_same 588 = .ok (.iaload, 1) := by decide +kernel
theorem dL_same_589 : decode cL_same 589 = .ok (.if_icmp .ne 117, 3) := by decide +kernel
theorem dL_same_592 : decode cL_same 592 = .ok (.aload_n 0, 1) := by decide +kernel
theorem dL_same_593 : decode cL_same 593 = .ok (.iload 16, 2) := by decide +kernel
theorem dL_same_595 : decode cL_same 595 = .ok (.iconst 1, 1) := by decide +kernel
theorem dL_same_596 : decode cL_same 596 = .ok (.invokevirtual 56, 3) := by decide +kernel
theorem dL_same_599 : decode cL_same 599 = .ok (.aload_n 3, 1) := by decide +kernel
theorem dL_same_600 : decode cL_same 600 = .ok (.iconst 4, 1) := by decide +kernel
theorem dL_same_601 : decode cL_same 601 = .ok (.iload 16, 2) := by decide +kernel
theorem dL_same_603 : decode cL_same 603 = .ok (.imul, 1) := by decide +kernel
theorem dL_same_604 : decode cL_same 604 = .ok (.iconst 1, 1) := by decide +kernel
theorem dL_same_605 : decode cL_same 605 = .ok (.iadd, 1) := by decide +kernel
theorem dL_same_606 : decode cL_same 606 = .ok (.iaload, 1) := by decide +kernel
theorem dL_same_607 : decode cL_same 607 = .ok (.if_icmp .ne 99, 3) := by decide +kernel
theorem dL_same_610 : decode cL_same 610 = .ok (.aload_n 0, 1) := by decide +kernel
theorem dL_same_611 : decode cL_same 611 = .ok (.iload 16, 2) := by decide +kernel
theorem dL_same_613 : decode cL_same 613 = .ok (.iconst 2, 1) := by decide +kernel
theorem dL_same_614 : decode cL_same 614 = .ok (.invokevirtual 56, 3) := by decide +kernel
theorem dL_same_617 : decode cL_same 617 = .ok (.aload_n 2, 1) := by decide +kernel
theorem dL_same_618 : decode cL_same 618 = .ok (.iconst 3, 1) := by decide +kernel
theorem dL_same_619 : decode cL_same 619 = .ok (.iaload, 1) := by decide +kernel
theorem dL_same_620 : decode cL_same 620 = .ok (.iload 16, 2) := by decide +kernel
theorem dL_same_622 : decode cL_same 622 = .ok (.ishr, 1) := by decide +kernel
theorem dL_same_623 : decode cL_same 623 = .ok (.iconst 1, 1) := by decide +kernel
theorem dL_same_624 : decode cL_same 624 = .ok (.iand, 1) := by decide +kernel
theorem dL_same_625 : decode cL_same 625 = .ok (.if_icmp .ne 81, 3) := by decide +kernel
theorem dL_same_628 : decode cL_same 628 = .ok (.aload_n 0, 1) := by decide +kernel
theorem dL_same_629 : decode cL_same 629 = .ok (.iload 16, 2) := by decide +kernel
theorem dL_same_631 : decode cL_same 631 = .ok (.iconst 3, 1) := by decide +kernel
theorem dL_same_632 : decode cL_same 632 = .ok (.invokevirtual 56, 3) := by decide +kernel
theorem dL_same_635 : decode cL_same 635 = .ok (.aload_n 3, 1) := by decide +kernel
theorem dL_same_636 : decode cL_same 636 = .ok (.iconst 4, 1) := by decide +kernel
theorem dL_same_637 : decode cL_same 637 = .ok (.iload 16, 2) := by decide +kernel
theorem dL_same_639 : decode cL_same 639 = .ok (.imul, 1) := by decide +kernel
theorem dL_same_640 : decode cL_same 640 = .ok (.iconst 2, 1) := by decide +kernel
theorem dL_same_641 : decode cL_same 641 = .ok (.iadd, 1) := by decide +kernel
theorem dL_same_642 : decode cL_same 642 = .ok (.iaload, 1) := by decide +kernel
theorem dL_same_643 : decode cL_same 643 = .ok (.if_icmp .ne 63, 3) := by decide +kernel
theorem dL_same_646 : decode cL_same 646 = .ok (.aload_n 0, 1) := by decide +kernel
theorem dL_same_647 : decode cL_same 647 = .ok (.iload 16, 2) := by decide +kernel
theorem dL_same_649 : decode cL_same 649 = .ok (.iconst 4, 1) := by decide +kernel
theorem dL_same_650 : decode cL_same 650 = .ok (.invokevirtual 56, 3) := by decide +kernel
theorem dL_same_653 : decode cL_same 653 = .ok (.aload_n 2, 1) := by decide +kernel
theorem dL_same_654 : decode cL_same 654 = .ok (.iconst 4, 1) := by decide +kernel
theorem dL_same_655 : decode cL_same 655 = .ok (.iaload, 1) := by decide +kernel
theorem dL_same_656 : decode cL_same 656 = .ok (.iload 16, 2) := by decide +kernel
theorem dL_same_658 : decode cL_same 658 = .ok (.ishr, 1) := by decide +kernel
theorem dL_same_659 : decode cL_same 659 = .ok (.iconst 1, 1) := by decide +kernel
theorem dL_same_660 : decode cL_same 660 = .ok (.iand, 1) := by decide +kernel
theorem dL_same_661 : decode cL_same 661 = .ok (.if_icmp .ne 45, 3) := by decide +kernel
theorem dL_same_664 : decode cL_same 664 = .ok (.aload_n 0, 1) := by decide +kernel
theorem dL_same_665 : decode cL_same 665 = .ok (.iload 16, 2) := by decide +kernel
theorem dL_same_667 : decode cL_same 667 = .ok (.iconst 5, 1) := by decide +kernel
theorem dL_same_668 : decode cL_same 668 = .ok (.invokevirtual 56, 3) := by decide +kernel
theorem dL_same_671 : decode cL_same 671 = .ok (.iload 17, 2) := by decide +kernel
theorem dL_same_673 : decode cL_same 673 = .ok (.if_icmp .ne 33, 3) := by decide +kernel
theorem dL_same_676 : decode cL_same 676 = .ok (.aload_n 0, 1) := by decide +kernel
theorem dL_same_677 : decode cL_same 677 = .ok (.iload 16, 2) := by decide +kernel
theorem dL_same_679 : decode cL_same 679 = .ok (.bipush 6, 2) := by decide +kernel
theorem dL_same_681 : decode cL_same 681 = .ok (.invokevirtual 56, 3) := by decide +kernel
theorem dL_same_684 : decode cL_same 684 = .ok (.aload_n 3, 1) := by decide +kernel
theorem dL_same_685 : decode cL_same 685 = .ok (.iconst 4, 1) := by decide +kernel
theorem dL_same_686 : decode cL_same 686 = .ok (.iload 16, 2) := by decide +kernel
theorem dL_same_688 : decode cL_same 688 = .ok (.imul, 1) := by decide +kernel
theorem dL_same_689 : decode cL_same 689 = .ok (.iconst 3, 1) := by decide +kernel
theorem dL_same_690 : decode cL_same 690 = .ok (.iadd, 1) := by decide +kernel
theorem dL_same_691 : decode cL_same 691 = .ok (.iaload, 1) := by decide +kernel
theorem dL_same_692 : decode cL_same 692 = .ok (.if_icmp .ne 14, 3) := by decide +kernel
theorem dL_same_695 : decode cL_same 695 = .ok (.aload_n 0, 1) := by decide +kernel
theorem dL_same_696 : decode cL_same 696 = .ok (.iload 16, 2) := by decide +kernel
theorem dL_same_698 : decode cL_same 698 = .ok (.invokevirtual 59, 3) := by decide +kernel
theorem dL_same_701 : decode cL_same 701 = .ok (.iload 18, 2) := by decide +kernel
theorem dL_same_703 : decode cL_same 703 = .ok (.if_icmp .eq 5, 3) := by decide +kernel
theorem dL_same_706 : decode cL_same 706 = .ok (.iconst 0, 1) := by decide +kernel
theorem dL_same_707 : decode cL_same 707 = .ok (.ireturn, 1) := by decide +kernel
theorem dL_same_708 : decode cL_same 708 = .ok (.iload 16, 2) := by decide +kernel
theorem dL_same_710 : decode cL_same 710 = .ok (.iconst 1, 1) := by decide +kernel
theorem dL_same_711 : decode cL_same 711 = .ok (.iadd, 1) := by decide +kernel
theorem dL_same_712 : decode cL_same 712 = .ok (.aload_n 2, 1) := by decide +kernel
theorem dL_same_713 : decode cL_same 713 = .ok (.iconst 0, 1) := by decide +kernel
theorem dL_same_714 : decode cL_same 714 = .ok (.iaload, 1) := by decide +kernel
theorem dL_same_715 : decode cL_same 715 = .ok (.irem, 1) := by decide +kernel
theorem dL_same_716 : decode cL_same 716 = .ok (.istore 19, 2) := by decide +kernel
theorem dL_same_718 : decode cL_same 718 = .ok (.iconst 0, 1) := by decide +kernel
theorem dL_same_719 : decode cL_same 719 = .ok (.istore 20, 2) := by decide +kernel
theorem dL_same_721 : decode cL_same 721 = .ok (.iconst 0, 1) := by decide +kernel
theorem dL_same_722 : decode cL_same 722 = .ok (.istore 21, 2) := by decide +kernel
theorem dL_same_724 : decode cL_same 724 = .ok (.iload 21, 2) := by decide +kernel
theorem dL_same_726 : decode cL_same 726 = .ok (.aload_n 2, 1) := by decide +kernel
theorem dL_same_727 : decode cL_same 727 = .ok (.iconst 1, 1) := by decide +kernel
theorem dL_same_728 : decode cL_same 728 = .ok (.iaload, 1) := by decide +kernel
theorem dL_same_729 : decode cL_same 729 = .ok (.if_icmp .ge 41, 3) := by decide +kernel
theorem dL_same_732 : decode cL_same 732 = .ok (.iload 20, 2) := by decide +kernel
theorem dL_same_734 : decode cL_same 734 = .ok (.iload 19, 2) := by decide +kernel
theorem dL_same_736 : decode cL_same 736 = .ok (.iload 16, 2) := by decide +kernel
theorem dL_same_738 : decode cL_same 738 = .ok (.if_icmp .eq 22, 3) := by decide +kernel
theorem dL_same_741 : decode cL_same 741 = .ok (.iload 16, 2) := by decide +kernel
theorem dL_same_743 : decode cL_same 743 = .ok (.iload 19, 2) := by decide +kernel
theorem dL_same_745 : decode cL_same 745 = .ok (.iload 21, 2) := by decide +kernel
theorem dL_same_747 : decode cL_same 747 = .ok (.aload_n 3, 1) := by decide +kernel
theorem dL_same_748 : decode cL_same 748 = .ok (.aload 4, 2) := by decide +kernel
theorem dL_same_750 : decode cL_same 750 = .ok (.invokestatic 39, 3) := by decide +kernel
theorem dL_same_753 : decode cL_same 753 = .ok (.ifCond .lt 7, 3) := by decide +kernel
theorem dL_same_756 : decode cL_same 756 = .ok (.iconst 1, 1) := by decide +kernel
theorem dL_same_757 : decode cL_same 757 = .ok (.goto 4, 3) := by decide +kernel
theorem dL_same_760 : decode cL_same 760 = .ok (.iconst 0, 1) := by decide +kernel
theorem dL_same_761 : decode cL_same 761 = .ok (.iadd, 1) := by decide +kernel
theorem dL_same_762 : decode cL_same 762 = .ok (.istore 20, 2) := by decide +kernel
theorem dL_same_764 : decode cL_same 764 = .ok (.iinc 21 1, 3) := by decide +kernel
theorem dL_same_767 : decode cL_same 767 = .ok (.goto (-43), 3) := by decide +kernel
theorem dL_same_770 : decode cL_same 770 = .ok (.aload_n 0, 1) := by decide +kernel
theorem dL_same_771 : decode cL_same 771 = .ok (.iload 16, 2) := by decide +kernel
theorem dL_same_773 : decode cL_same 773 = .ok (.iload 19, 2) := by decide +kernel
theorem dL_same_775 : decode cL_same 775 = .ok (.invokevirtual 62, 3) := by decide +kernel
theorem dL_same_778 : decode cL_same 778 = .ok (.iload 19, 2) := by decide +kernel
theorem dL_same_780 : decode cL_same 780 = .ok (.iload 16, 2) := by decide +kernel
theorem dL_same_782 : decode cL_same 782 = .ok (.if_icmp .ne 8, 3) := by decide +kernel
theorem dL_same_785 : decode cL_same 785 = .ok (.bipush (-2), 2) := by decide +kernel
theorem dL_same_787 : decode cL_same 787 = .ok (.goto 5, 3) := by decide +kernel
theorem dL_same_790 : decode cL_same 790 = .ok (.iload 20, 2) := by decide +kernel
theorem dL_same_792 : decode cL_same 792 = .ok (.if_icmp .eq 5, 3) := by decide +kernel
theorem dL_same_795 : decode cL_same 795 = .ok (.iconst 0, 1) := by decide +kernel
theorem dL_same_796 : decode cL_same 796 = .ok (.ireturn, 1) := by decide +kernel
theorem dL_same_797 : decode cL_same 797 = .ok (.iinc 16 1, 3) := by decide +kernel
theorem dL_same_800 : decode cL_same 800 = .ok (.goto (-307), 3) := by decide +kernel
theorem dL_same_803 : decode cL_same 803 = .ok (.iconst 0, 1) := by decide +kernel
theorem dL_same_804 : decode cL_same 804 = .ok (.istore 16, 2) := by decide +kernel
theorem dL_same_806 : decode cL_same 806 = .ok (.iload 16, 2) := by decide +kernel
theorem dL_same_808 : decode cL_same 808 = .ok (.aload_n 2, 1) := by decide +kernel
theorem dL_same_809 : decode cL_same 809 = .ok (.iconst 1, 1) := by decide +kernel
theorem dL_same_810 : decode cL_same 810 = .ok (.iaload, 1) := by decide +kernel
theorem dL_same_811 : decode cL_same 811 = .ok (.if_icmp .ge 108, 3) := by decide +kernel
theorem dL_same_814 : decode cL_same 814 = .ok (.iconst 0, 1) := by decide +kernel
theorem dL_same_815 : decode cL_same 815 = .ok (.istore 17, 2) := by decide +kernel
theorem dL_same_817 : decode cL_same 817 = .ok (.iconst 0, 1) := by decide +kernel
theorem dL_same_818 : decode cL_same 818 = .ok (.istore 18, 2) := by decide +kernel
theorem dL_same_820 : decode cL_same 820 = .ok (.iload 18, 2) := by decide +kernel
theorem dL_same_822 : decode cL_same 822 = .ok (.aload_n 2, 1) := by decide +kernel
theorem dL_same_823 : decode cL_same 823 = .ok (.iconst 0, 1) := by decide +kernel
theorem dL_same_824 : decode cL_same 824 = .ok (.iaload, 1) := by decide +kernel
theorem dL_same_825 : decode cL_same 825 = .ok (.if_icmp .ge 36, 3) := by decide +kernel
theorem dL_same_828 : decode cL_same 828 = .ok (.iload 17, 2) := by decide +kernel
theorem dL_same_830 : decode cL_same 830 = .ok (.iload 18, 2) := by decide +kernel
theorem dL_same_832 : decode cL_same 832 = .ok (.iconst (-1), 1) := by decide +kernel
theorem dL_same_833 : decode cL_same 833 = .ok (.iload 16, 2) := by decide +kernel
theorem dL_same_835 : decode cL_same 835 = .ok (.aload_n 3, 1) := by decide +kernel
theorem dL_same_836 : decode cL_same 836 = .ok (.aload 4, 2) := by decide +kernel
theorem dL_same_838 : decode cL_same 838 = .ok (.invokestatic 39, 3) := by decide +kernel
theorem dL_same_841 : decode cL_same 841 = .ok (.ifCond .lt 10, 3) := by decide +kernel
theorem dL_same_844 : decode cL_same 844 = .ok (.iconst 1, 1) := by decide +kernel
theorem dL_same_845 : decode cL_same 845 = .ok (.iload 18, 2) := by decide +kernel
theorem dL_same_847 : decode cL_same 847 = .ok (.ishl, 1) := by decide +kernel
theorem dL_same_848 : decode cL_same 848 = .ok (.goto 4, 3) := by decide +kernel
theorem dL_same_851 : decode cL_same 851 = .ok (.iconst 0, 1) := by decide +kernel
theorem dL_same_852 : decode cL_same 852 = .ok (.ior, 1) := by decide +kernel
theorem dL_same_853 : decode cL_same 853 = .ok (.istore 17, 2) := by decide +kernel
theorem dL_same_855 : decode cL_same 855 = .ok (.iinc 18 1, 3) := by decide +kernel
theorem dL_same_858 : decode cL_same 858 = .ok (.goto (-38), 3) := by decide +kernel
theorem dL_same_861 : decode cL_same 861 = .ok (.aload_n 0, 1) := by decide +kernel
theorem dL_same_862 : decode cL_same 862 = .ok (.iload 16, 2) := by decide +kernel
theorem dL_same_864 : decode cL_same 864 = .ok (.iconst 2, 1) := by decide +kernel
theorem dL_same_865 : decode cL_same 865 = .ok (.invokevirtual 65, 3) := by decide +kernel
theorem dL_same_868 : decode cL_same 868 = .ok (.aload 4, 2) := by decide +kernel
theorem dL_same_870 : decode cL_same 870 = .ok (.iconst 4, 1) := by decide +kernel
theorem dL_same_871 : decode cL_same 871 = .ok (.iload 16, 2) := by decide +kernel
theorem dL_same_873 : decode cL_same 873 = .ok (.imul, 1) := by decide +kernel
theorem dL_same_874 : decode cL_same 874 = .ok (.iconst 2, 1) := by decide +kernel
theorem dL_same_875 : decode cL_same 875 = .ok (.iadd, 1) := by decide +kernel
theorem dL_same_876 : decode cL_same 876 = .ok (.iaload, 1) := by decide +kernel
theorem dL_same_877 : decode cL_same 877 = .ok (.if_icmp .ne 34, 3) := by decide +kernel
theorem dL_same_880 : decode cL_same 880 = .ok (.aload_n 0, 1) := by decide +kernel
theorem dL_same_881 : decode cL_same 881 = .ok (.iload 16, 2) := by decide +kernel
theorem dL_same_883 : decode cL_same 883 = .ok (.iconst 3, 1) := by decide +kernel
theorem dL_same_884 : decode cL_same 884 = .ok (.invokevirtual 65, 3) := by decide +kernel
theorem dL_same_887 : decode cL_same 887 = .ok (.iload 17, 2) := by decide +kernel
theorem dL_same_889 : decode cL_same 889 = .ok (.if_icmp .ne 22, 3) := by decide +kernel
theorem dL_same_892 : decode cL_same 892 = .ok (.aload_n 0, 1) := by decide +kernel
theorem dL_same_893 : decode cL_same 893 = .ok (.iload 16, 2) := by decide +kernel
theorem dL_same_895 : decode cL_same 895 = .ok (.iconst 4, 1) := by decide +kernel
theorem dL_same_896 : decode cL_same 896 = .ok (.invokevirtual 65, 3) := by decide +kernel
theorem dL_same_899 : decode cL_same 899 = .ok (.aload 4, 2) := by decide +kernel
theorem dL_same_901 : decode cL_same 901 = .ok (.iconst 4, 1) := by decide +kernel
theorem dL_same_902 : decode cL_same 902 = .ok (.iload 16, 2) := by decide +kernel
theorem dL_same_904 : decode cL_same 904 = .ok (.imul, 1) := by decide +kernel
theorem dL_same_905 : decode cL_same 905 = .ok (.iconst 3, 1) := by decide +kernel
theorem dL_same_906 : decode cL_same 906 = .ok (.iadd, 1) := by decide +kernel
theorem dL_same_907 : decode cL_same 907 = .ok (.iaload, 1) := by decide +kernel
theorem dL_same_908 : decode cL_same 908 = .ok (.if_icmp .eq 5, 3) := by decide +kernel
theorem dL_same_911 : decode cL_same 911 = .ok (.iconst 0, 1) := by decide +kernel
theorem dL_same_912 : decode cL_same 912 = .ok (.ireturn, 1) := by decide +kernel
theorem dL_same_913 : decode cL_same 913 = .ok (.iinc 16 1, 3) := by decide +kernel
theorem dL_same_916 : decode cL_same 916 = .ok (.goto (-110), 3) := by decide +kernel
theorem dL_same_919 : decode cL_same 919 = .ok (.iconst 0, 1) := by decide +kernel
theorem dL_same_920 : decode cL_same 920 = .ok (.istore 16, 2) := by decide +kernel
theorem dL_same_922 : decode cL_same 922 = .ok (.iload 16, 2) := by decide +kernel
theorem dL_same_924 : decode cL_same 924 = .ok (.aload_n 2, 1) := by decide +kernel
theorem dL_same_925 : decode cL_same 925 = .ok (.bipush 7, 2) := by decide +kernel
theorem dL_same_927 : decode cL_same 927 = .ok (.iaload, 1) := by decide +kernel
theorem dL_same_928 : decode cL_same 928 = .ok (.if_icmp .ge 105, 3) := by decide +kernel
theorem dL_same_931 : decode cL_same 931 = .ok (.aload_n 0, 1) := by decide +kernel
theorem dL_same_932 : decode cL_same 932 = .ok (.iload 16, 2) := by decide +kernel
theorem dL_same_934 : decode cL_same 934 = .ok (.iconst 0, 1) := by decide +kernel
theorem dL_same_935 : decode cL_same 935 = .ok (.invokevirtual 68, 3) := by decide +kernel
theorem dL_same_938 : decode cL_same 938 = .ok (.aload 6, 2) := by decide +kernel
theorem dL_same_940 : decode cL_same 940 = .ok (.iload 16, 2) := by decide +kernel
theorem dL_same_942 : decode cL_same 942 = .ok (.iaload, 1) := by decide +kernel
theorem dL_same_943 : decode cL_same 943 = .ok (.bipush 100, 2) := by decide +kernel
theorem dL_same_945 : decode cL_same 945 = .ok (.irem, 1) := by decide +kernel
theorem dL_same_946 : decode cL_same 946 = .ok (.if_icmp .ne 79, 3) := by decide +kernel
theorem dL_same_949 : decode cL_same 949 = .ok (.aload_n 0, 1) := by decide +kernel
theorem dL_same_950 : decode cL_same 950 = .ok (.iload 16, 2) := by decide +kernel
theorem dL_same_952 : decode cL_same 952 = .ok (.iconst 1, 1) := by decide +kernel
theorem dL_same_953 : decode cL_same 953 = .ok (.invokevirtual 68, 3) := by decide +kernel
theorem dL_same_956 : decode cL_same 956 = .ok (.aload 6, 2) := by decide +kernel
theorem dL_same_958 : decode cL_same 958 = .ok (.iload 16, 2) := by decide +kernel
theorem dL_same_960 : decode cL_same 960 = .ok (.iaload, 1) := by decide +kernel
theorem dL_same_961 : decode cL_same 961 = .ok (.bipush 100, 2) := by decide +kernel
theorem dL_same_963 : decode cL_same 963 = .ok (.idiv, 1) := by decide +kernel
theorem dL_same_964 : decode cL_same 964 = .ok (.bipush 100, 2) := by decide +kernel
theorem dL_same_966 : decode cL_same 966 = .ok (.irem, 1) := by decide +kernel
theorem dL_same_967 : decode cL_same 967 = .ok (.ifCond .ne 8, 3) := by decide +kernel
theorem dL_same_970 : decode cL_same 970 = .ok (.bipush (-6), 2) := by decide +kernel
theorem dL_same_972 : decode cL_same 972 = .ok (.goto 16, 3) := by decide +kernel
theorem dL_same_975 : decode cL_same 975 = .ok (.aload 6, 2) := by decide +kernel
theorem dL_same_977 : decode cL_same 977 = .ok (.iload 16, 2) := by decide +kernel
theorem dL_same_979 : decode cL_same 979 = .ok (.iaload, 1) := by decide +kernel
theorem dL_same_980 : decode cL_same 980 = .ok (.bipush 100, 2) := by decide +kernel
theorem dL_same_982 : decode cL_same 982 = .ok (.idiv, 1) := by decide +kernel
theorem dL_same_983 : decode cL_same 983 = .ok (.bipush 100, 2) := by decide +kernel
theorem dL_same_985 : decode cL_same 985 = .ok (.irem, 1) := by decide +kernel
theorem dL_same_986 : decode cL_same 986 = .ok (.iconst 1, 1) := by decide +kernel
theorem dL_same_987 : decode cL_same 987 = .ok (.isub, 1) := by decide +kernel
theorem dL_same_988 : decode cL_same 988 = .ok (.if_icmp .ne 37, 3) := by decide +kernel
theorem dL_same_991 : decode cL_same 991 = .ok (.aload_n 0, 1) := by decide +kernel
theorem dL_same_992 : decode cL_same 992 = .ok (.iload 16, 2) := by decide +kernel
theorem dL_same_994 : decode cL_same 994 = .ok (.iconst 2, 1) := by decide +kernel
theorem dL_same_995 : decode cL_same 995 = .ok (.invokevirtual 68, 3) := by decide +kernel
theorem dL_same_998 : decode cL_same 998 = .ok (.aload 6, 2) := by decide +kernel
theorem dL_same_1000 : decode cL_same 1000 = .ok (.iload 16, 2) := by decide +kernel
theorem dL_same_1002 : decode cL_same 1002 = .ok (.iaload, 1) := by decide +kernel
theorem dL_same_1003 : decode cL_same 1003 = .ok (.sipush 10000, 3) := by decide +kernel
theorem dL_same_1006 : decode cL_same 1006 = .ok (.idiv, 1) := by decide +kernel
theorem dL_same_1007 : decode cL_same 1007 = .ok (.if_icmp .ne 18, 3) := by decide +kernel
theorem dL_same_1010 : decode cL_same 1010 = .ok (.aload_n 0, 1) := by decide +kernel
theorem dL_same_1011 : decode cL_same 1011 = .ok (.iload 16, 2) := by decide +kernel
theorem dL_same_1013 : decode cL_same 1013 = .ok (.iconst 3, 1) := by decide +kernel
theorem dL_same_1014 : decode cL_same 1014 = .ok (.invokevirtual 68, 3) := by decide +kernel
theorem dL_same_1017 : decode cL_same 1017 = .ok (.aload 7, 2) := by decide +kernel
theorem dL_same_1019 : decode cL_same 1019 = .ok (.iload 16, 2) := by decide +kernel
theorem dL_same_1021 : decode cL_same 1021 = .ok (.iaload, 1) := by decide +kernel
theorem dL_same_1022 : decode cL_same 1022 = .ok (.if_icmp .eq 5, 3) := by decide +kernel
theorem dL_same_1025 : decode cL_same 1025 = .ok (.iconst 0, 1) := by decide +kernel
theorem dL_same_1026 : decode cL_same 1026 = .ok (.ireturn, 1) := by decide +kernel
theorem dL_same_1027 : decode cL_same 1027 = .ok (.iinc 16 1, 3) := by decide +kernel
theorem dL_same_1030 : decode cL_same 1030 = .ok (.goto (-108), 3) := by decide +kernel
theorem dL_same_1033 : decode cL_same 1033 = .ok (.aload_n 0, 1) := by decide +kernel
theorem dL_same_1034 : decode cL_same 1034 = .ok (.aload_n 2, 1) := by decide +kernel
theorem dL_same_1035 : decode cL_same 1035 = .ok (.bipush 7, 2) := by decide +kernel
theorem dL_same_1037 : decode cL_same 1037 = .ok (.iaload, 1) := by decide +kernel
theorem dL_same_1038 : decode cL_same 1038 = .ok (.iconst 0, 1) := by decide +kernel
theorem dL_same_1039 : decode cL_same 1039 = .ok (.invokevirtual 68, 3) := by decide +kernel
theorem dL_same_1042 : decode cL_same 1042 = .ok (.iconst (-1), 1) := by decide +kernel
theorem dL_same_1043 : decode cL_same 1043 = .ok (.if_icmp .ne 122, 3) := by decide +kernel
theorem dL_same_1046 : decode cL_same 1046 = .ok (.aload_n 0, 1) := by decide +kernel
theorem dL_same_1047 : decode cL_same 1047 = .ok (.iconst 0, 1) := by decide +kernel
theorem dL_same_1048 : decode cL_same 1048 = .ok (.invokevirtual 71, 3) := by decide +kernel
theorem dL_same_1051 : decode cL_same 1051 = .ok (.aload_n 2, 1) := by decide +kernel
theorem dL_same_1052 : decode cL_same 1052 = .ok (.iconst 0, 1) := by decide +kernel
theorem dL_same_1053 : decode cL_same 1053 = .ok (.iaload, 1) := by decide +kernel
theorem dL_same_1054 : decode cL_same 1054 = .ok (.if_icmp .ne 111, 3) := by decide +kernel
theorem dL_same_1057 : decode cL_same 1057 = .ok (.aload_n 0, 1) := by decide +kernel
theorem dL_same_1058 : decode cL_same 1058 = .ok (.iconst 1, 1) := by decide +kernel
theorem dL_same_1059 : decode cL_same 1059 = .ok (.invokevirtual 71, 3) := by decide +kernel
theorem dL_same_1062 : decode cL_same 1062 = .ok (.aload_n 2, 1) := by decide +kernel
theorem dL_same_1063 : decode cL_same 1063 = .ok (.iconst 3, 1) := by decide +kernel
theorem dL_same_1064 : decode cL_same 1064 = .ok (.iaload, 1) := by decide +kernel
theorem dL_same_1065 : decode cL_same 1065 = .ok (.if_icmp .ne 100, 3) := by decide +kernel
theorem dL_same_1068 : decode cL_same 1068 = .ok (.aload_n 0, 1) := by decide +kernel
theorem dL_same_1069 : decode cL_same 1069 = .ok (.iconst 2, 1) := by decide +kernel
theorem dL_same_1070 : decode cL_same 1070 = .ok (.invokevirtual 71, 3) := by decide +kernel
theorem dL_same_1073 : decode cL_same 1073 = .ok (.aload_n 2, 1) := by decide +kernel
theorem dL_same_1074 : decode cL_same 1074 = .ok (.iconst 1, 1) := by decide +kernel
theorem dL_same_1075 : decode cL_same 1075 = .ok (.iaload, 1) := by decide +kernel
theorem dL_same_1076 : decode cL_same 1076 = .ok (.if_icmp .ne 89, 3) := by decide +kernel
theorem dL_same_1079 : decode cL_same 1079 = .ok (.aload_n 0, 1) := by decide +kernel
theorem dL_same_1080 : decode cL_same 1080 = .ok (.iconst 3, 1) := by decide +kernel
theorem dL_same_1081 : decode cL_same 1081 = .ok (.invokevirtual 71, 3) := by decide +kernel
theorem dL_same_1084 : decode cL_same 1084 = .ok (.aload_n 2, 1) := by decide +kernel
theorem dL_same_1085 : decode cL_same 1085 = .ok (.iconst 2, 1) := by decide +kernel
theorem dL_same_1086 : decode cL_same 1086 = .ok (.iaload, 1) := by decide +kernel
theorem dL_same_1087 : decode cL_same 1087 = .ok (.if_icmp .ne 78, 3) := by decide +kernel
theorem dL_same_1090 : decode cL_same 1090 = .ok (.aload_n 0, 1) := by decide +kernel
theorem dL_same_1091 : decode cL_same 1091 = .ok (.iconst 4, 1) := by decide +kernel
theorem dL_same_1092 : decode cL_same 1092 = .ok (.invokevirtual 71, 3) := by decide +kernel
theorem dL_same_1095 : decode cL_same 1095 = .ok (.iload 14, 2) := by decide +kernel
theorem dL_same_1097 : decode cL_same 1097 = .ok (.if_icmp .ne 68, 3) := by decide +kernel
theorem dL_same_1100 : decode cL_same 1100 = .ok (.aload_n 0, 1) := by decide +kernel
theorem dL_same_1101 : decode cL_same 1101 = .ok (.iconst 5, 1) := by decide +kernel
theorem dL_same_1102 : decode cL_same 1102 = .ok (.invokevirtual 71, 3) := by decide +kernel
theorem dL_same_1105 : decode cL_same 1105 = .ok (.aload_n 2, 1) := by decide +kernel
theorem dL_same_1106 : decode cL_same 1106 = .ok (.aload_n 3, 1) := by decide +kernel
theorem dL_same_1107 : decode cL_same 1107 = .ok (.aload 5, 2) := by decide +kernel
theorem dL_same_1109 : decode cL_same 1109 = .ok (.invokestatic 25, 3) := by decide +kernel
theorem dL_same_1112 : decode cL_same 1112 = .ok (.if_icmp .ne 53, 3) := by decide +kernel
theorem dL_same_1115 : decode cL_same 1115 = .ok (.aload_n 0, 1) := by decide +kernel
theorem dL_same_1116 : decode cL_same 1116 = .ok (.bipush 6, 2) := by decide +kernel
theorem dL_same_1118 : decode cL_same 1118 = .ok (.invokevirtual 71, 3) := by decide +kernel
theorem dL_same_1121 : decode cL_same 1121 = .ok (.aload_n 2, 1) := by decide +kernel
theorem dL_same_1122 : decode cL_same 1122 = .ok (.iconst 5, 1) := by decide +kernel
theorem dL_same_1123 : decode cL_same 1123 = .ok (.iaload, 1) := by decide +kernel
theorem dL_same_1124 : decode cL_same 1124 = .ok (.if_icmp .ne 41, 3) := by decide +kernel
theorem dL_same_1127 : decode cL_same 1127 = .ok (.aload_n 0, 1) := by decide +kernel
theorem dL_same_1128 : decode cL_same 1128 = .ok (.bipush 7, 2) := by decide +kernel
theorem dL_same_1130 : decode cL_same 1130 = .ok (.invokevirtual 71, 3) := by decide +kernel
theorem dL_same_1133 : decode cL_same 1133 = .ok (.aload_n 2, 1) := by decide +kernel
theorem dL_same_1134 : decode cL_same 1134 = .ok (.bipush 6, 2) := by decide +kernel
theorem dL_same_1136 : decode cL_same 1136 = .ok (.iaload, 1) := by decide +kernel
theorem dL_same_1137 : decode cL_same 1137 = .ok (.if_icmp .ne 28, 3) := by decide +kernel
theorem dL_same_1140 : decode cL_same 1140 = .ok (.aload_n 0, 1) := by decide +kernel
theorem dL_same_1141 : decode cL_same 1141 = .ok (.bipush 8, 2) := by decide +kernel
theorem dL_same_1143 : decode cL_same 1143 = .ok (.invokevirtual 71, 3) := by decide +kernel
theorem dL_same_1146 : decode cL_same 1146 = .ok (.aload_n 2, 1) := by decide +kernel
theorem dL_same_1147 : decode cL_same 1147 = .ok (.iconst 4, 1) := by decide +kernel
theorem dL_same_1148 : decode cL_same 1148 = .ok (.iaload, 1) := by decide +kernel
theorem dL_same_1149 : decode cL_same 1149 = .ok (.if_icmp .ne 16, 3) := by decide +kernel
theorem dL_same_1152 : decode cL_same 1152 = .ok (.aload_n 0, 1) := by decide +kernel
theorem dL_same_1153 : decode cL_same 1153 = .ok (.invokevirtual 74, 3) := by decide +kernel
theorem dL_same_1156 : decode cL_same 1156 = .ok (.iload 15, 2) := by decide +kernel
theorem dL_same_1158 : decode cL_same 1158 = .ok (.if_icmp .ne 7, 3) := by decide +kernel
theorem dL_same_1161 : decode cL_same 1161 = .ok (.iconst 1, 1) := by decide +kernel
theorem dL_same_1162 : decode cL_same 1162 = .ok (.goto 4, 3) := by decide +kernel
theorem dL_same_1165 : decode cL_same 1165 = .ok (.iconst 0, 1) := by decide +kernel
theorem dL_same_1166 : decode cL_same 1166 = .ok (.ireturn, 1) := by decide +kernel
end
section
/-! the law's words -/
theorem wsL_law_i1 : ∀ w ∈ wsL_law_r1, w ∈ lw_tbl := fun w h => (goodIn_p wsL_law_r1 [19, 22] (by decide +kernel) (by decide +kernel) w h).1
theorem wsL_law_i2 : ∀ w ∈ wsL_law_r2, w ∈ lw_tbl := fun w h => (goodIn_p wsL_law_r2 [27] (by decide +kernel) (by decide +kernel) w h).1
theorem wsL_law_i3 : ∀ w ∈ wsL_law_r3, w ∈ lw_tbl := fun w h => (goodIn_p wsL_law_r3 [33, 78, 107] (by decide +kernel) (by decide +kernel) w h).1
theorem wsL_law_i4 : ∀ w ∈ wsL_law_r4, w ∈ lw_tbl := fun w h => (goodIn_p wsL_law_r4 [133, 188, 208, 223] (by decide +kernel) (by decide +kernel) w h).1
theorem wsL_law_i5 : ∀ w ∈ wsL_law_r5, w ∈ lw_tbl := fun w h => (goodIn_p wsL_law_r5 [243, 481, 486, 282, 285] (by decide +kernel) (by decide +kernel) w h).1
theorem wsL_law_i6 : ∀ w ∈ wsL_law_r6, w ∈ lw_tbl := fun w h => (goodIn_p wsL_law_r6 [288, 292, 306, 296, 300] (by decide +kernel) (by decide +kernel) w h).1
theorem wsL_law_i7 : ∀ w ∈ wsL_law_r7, w ∈ lw_tbl := fun w h => (goodIn_p wsL_law_r7 [303, 313, 318, 323] (by decide +kernel) (by decide +kernel) w h).1
theorem wsL_law_i8 : ∀ w ∈ wsL_law_r8, w ∈ lw_tbl := fun w h => (goodIn_p wsL_law_r8 [329, 333, 337, 341, 490, 476] (by decide +kernel) (by decide +kernel) w h).1
theorem wsL_law_i9 : ∀ w ∈ wsL_law_r9, w ∈ lw_tbl := fun w h => (goodIn_p wsL_law_r9 [376, 349, 381, 386, 389] (by decide +kernel) (by decide +kernel) w h).1
theorem wsL_law_i10 : ∀ w ∈ wsL_law_r10, w ∈ lw_tbl := fun w h => (goodIn_p wsL_law_r10 [394, 398, 368, 372, 402] (by decide +kernel) (by decide +kernel) w h).1
theorem wsL_law_i11 : ∀ w ∈ wsL_law_r11, w ∈ lw_tbl := fun w h => (goodIn_p wsL_law_r11 [345, 354, 357, 361, 506] (by decide +kernel) (by decide +kernel) w h).1
theorem wsL_law_i12 : ∀ w ∈ wsL_law_r12, w ∈ lw_tbl := fun w h => (goodIn_p wsL_law_r12 [406, 410, 415, 493, 496, 499, 503] (by decide +kernel) (by decide +kernel) w h).1
theorem wsL_law_i13 : ∀ w ∈ wsL_law_r13, w ∈ lw_tbl := fun w h => (goodIn_p wsL_law_r13 [419, 423, 427, 431, 435] (by decide +kernel) (by decide +kernel) w h).1
theorem wsL_law_i14 : ∀ w ∈ wsL_law_r14, w ∈ lw_tbl := fun w h => (goodIn_p wsL_law_r14 [439, 443, 447, 452, 457] (by decide +kernel) (by decide +kernel) w h).1
theorem wsL_law_i15 : ∀ w ∈ wsL_law_r15, w ∈ lw_tbl := fun w h => (goodIn_p wsL_law_r15 [461, 465, 471, 509, 513] (by decide +kernel) (by decide +kernel) w h).1
theorem wsL_law_i16 : ∀ w ∈ wsL_law_r16, w ∈ lw_tbl := fun w h => (goodIn_p wsL_law_r16 [518, 524, 528, 533] (by decide +kernel) (by decide +kernel) w h).1
theorem wsL_law_i17 : ∀ w ∈ wsL_law_r17, w ∈ lw_tbl := fun w h => (goodIn_p wsL_law_r17 [542, 547, 551] (by decide +kernel) (by decide +kernel) w h).1
theorem wsL_law_i18 : ∀ w ∈ wsL_law_r18, w ∈ lw_tbl := fun w h => (goodIn_p wsL_law_r18 [554, 557, 561, 565, 569, 573] (by decide +kernel) (by decide +kernel) w h).1
theorem wsL_law_i19 : ∀ w ∈ wsL_law_r19, w ∈ lw_tbl := fun w h => (goodIn_p wsL_law_r19 [577, 582, 586] (by decide +kernel) (by decide +kernel) w h).1
theorem wsL_law_i20 : ∀ w ∈ wsL_law_r20, w ∈ lw_tbl := fun w h => (goodIn_p wsL_law_r20 [590, 594] (by decide +kernel) (by decide +kernel) w h).1
theorem wsL_law_iX90 : ∀ w ∈ wsX90, w ∈ lw_tbl := fun w h => (goodIn_p wsX90 [] (by decide +kernel) (by decide +kernel) w h).1
theorem wsL_law_iX00 : ∀ w ∈ wsX00, w ∈ lw_tbl := fun w h => (goodIn_p wsX00 [] (by decide +kernel) (by decide +kernel) w h).1
theorem wsL_law_iX10 : ∀ w ∈ wsX10, w ∈ lw_tbl := fun w h => (goodIn_p wsX10 [] (by decide +kernel) (by decide +kernel) w h).1
theorem wsL_law_iX20 : ∀ w ∈ wsX20, w ∈ lw_tbl := fun w h => (goodIn_p wsX20 [] (by decide +kernel) (by decide +kernel) w h).1
theorem wsL_law_iX30 : ∀ w ∈ wsX30, w ∈ lw_tbl := fun w h => (goodIn_p wsX30 [] (by decide +kernel) (by decide +kernel) w h).1
theorem wsL_law_iX50 : ∀ w ∈ wsX50, w ∈ lw_tbl := fun w h => (goodIn_p wsX50 [] (by decide +kernel) (by decide +kernel) w h).1
theorem wsL_law_iX60 : ∀ w ∈ wsX60, w ∈ lw_tbl := fun w h => (goodIn_p wsX60 [] (by decide +kernel) (by decide +kernel) w h).1
theorem wsL_law_iX70 : ∀ w ∈ wsX70, w ∈ lw_tbl := fun w h => (goodIn_p wsX70 [] (by decide +kernel) (by decide +kernel) w h).1
theorem wsL_law_iX80 : ∀ w ∈ wsX80, w ∈ lw_tbl := fun w h => (goodIn_p wsX80 [] (by decide +kernel) (by decide +kernel) w h).1
theorem wsL_law_iX40 : ∀ w ∈ wsX40, w ∈ lw_tbl := fun w h => (goodIn_p wsX40 [] (by decide +kernel) (by decide +kernel) w h).1
theorem wsL_law_in : ∀ w ∈ wsL_law, w ∈ lw_tbl := List.forall_mem_append.mpr ⟨List.forall_mem_append.mpr ⟨List.forall_mem_append.mpr ⟨List.forall_mem_append.mpr ⟨List.forall_mem_append.mpr ⟨List.forall_mem_append.mpr ⟨List.forall_mem_append.mpr ⟨List.forall_mem_append.mpr ⟨List.forall_mem_append.mpr ⟨List.forall_mem_append.mpr ⟨List.forall_mem_append.mpr ⟨List.forall_mem_append.mpr ⟨wsL_law_i1, List.forall_mem_append.mpr ⟨wsL_law_i2, List.forall_mem_append.mpr ⟨wsL_law_i3, List.forall_mem_append.mpr ⟨wsL_law_i4, List.forall_mem_append.mpr ⟨wsL_law_i5, List.forall_mem_append.mpr ⟨wsL_law_i6, List.forall_mem_append.mpr ⟨wsL_law_i7, List.forall_mem_append.mpr ⟨wsL_law_i8, List.forall_mem_append.mpr ⟨wsL_law_i9, List.forall_mem_append.mpr ⟨wsL_law_i10, List.forall_mem_append.mpr ⟨wsL_law_i11, List.forall_mem_append.mpr ⟨wsL_law_i12, List.forall_mem_append.mpr ⟨wsL_law_i13, List.forall_mem_append.mpr ⟨wsL_law_i14, List.forall_mem_append.mpr ⟨wsL_law_i15, List.forall_mem_append.mpr ⟨wsL_law_i16, List.forall_mem_append.mpr ⟨wsL_law_i17, List.forall_mem_append.mpr ⟨wsL_law_i18, List.forall_mem_append.mpr ⟨wsL_law_i19, wsL_law_i20⟩⟩⟩⟩⟩⟩⟩⟩⟩⟩⟩⟩⟩⟩⟩⟩⟩⟩⟩, wsL_law_iX90⟩, wsL_law_iX00⟩, wsL_law_iX10⟩, wsL_law_iX20⟩, wsL_law_iX30⟩, wsL_law_iX50⟩, wsL_law_iX60⟩, wsL_law_iX70⟩, wsL_law_iX80⟩, wsL_law_iX40⟩, fun _ h => absurd h List.not_mem_nil⟩
end
section
/-! the law's calls: their words -/
set_option maxRecDepth 20000 in
theorem ggL_law_X9_init : GoodIn wsL_law wsX9_init := goodIn_r _ [6, 7, 8, 9, 10, 11, 12, 13, 14, 15, 16, 17, 18, 19, 20, 21, 22, 23, 24, 25, 26, 27, 28, 29, 30, 31, 32, 33, 34, 35, 36, 37, 38, 39, 40, 41, 42, 43, 44, 45, 46, 47, 48, 49, 50, 51, 52, 53, 54, 3, 55, 56, 57, 58, 59, 60, 61, 62, 63, 64, 65, 66, 67, 68, 69, 70, 71, 72, 73, 74, 75, 76, 77, 78, 79, 80, 81, 82, 83, 84, 85, 86, 87, 88, 89, 90, 91, 92, 93, 94, 95, 96, 97, 98, 99, 476, 477, 478, 479, 480, 481, 469, 470, 471, 472, 473, 474, 475, 482, 483, 484, 485, 486, 487, 488, 489, 490, 491, 492, 493, 494, 495, 496, 497, 498, 499, 500, 501, 502, 503, 504, 505, 506, 507, 508, 509, 510, 511, 512, 513, 514, 515] (by decide +kernel) (by decide +kernel)
set_option maxRecDepth 20000 in
theorem gL_law_X9_init : GoodIn wsL_law (wsX9_init) := ggL_law_X9_init
set_option maxRecDepth 20000 in
theorem ggL_law_L_cell : GoodIn wsL_law wsL_cell := goodIn_r _ [103, 104, 105] (by decide +kernel) (by decide +kernel)
set_option maxRecDepth 20000 in
theorem gL_law_L_cell : GoodIn wsL_law (va_wsS RL 79 yL_cell wsL_cell) := goodIn_app (goodIn_of _ (by decide +kernel)) ggL_law_L_cell
set_option maxRecDepth 20000 in
theorem ggL_law_L_low : GoodIn wsL_law wsL_low := goodIn_r _ [108, 109] (by decide +kernel) (by decide +kernel)
set_option maxRecDepth 20000 in
theorem gL_law_L_low : GoodIn wsL_law (va_wsS RL 53 yL_low wsL_low) := goodIn_app (goodIn_of _ (by decide +kernel)) ggL_law_L_low
set_option maxRecDepth 20000 in
theorem ggL_law_X9_singer : GoodIn wsL_law wsX9_singer := goodIn_r _ [113, 13, 114, 115, 17, 116, 117, 2, 118, 119, 120, 121, 122, 123, 124, 16, 125, 84, 126, 127, 128, 129, 130, 131, 132, 133, 134, 12, 135, 39, 43, 47, 51, 136, 137, 138, 139, 140, 38, 141, 142, 143, 144, 55, 56, 57, 58, 145, 146, 147, 148, 149, 150, 151, 152, 153, 154, 42, 155, 156, 62, 63, 64, 65, 157, 158, 159, 46, 160, 161, 69, 70, 71, 162, 163, 164, 50, 165, 166, 75, 76, 77, 78, 167, 168, 169, 170, 171, 172, 173, 174, 469, 470, 471, 472, 473, 474, 475, 476, 477, 478, 479, 480, 481, 495, 496, 497, 498, 499, 500, 501, 482, 483, 484, 502, 503, 504, 505, 506, 507, 508, 509, 510, 511, 512, 513, 514, 515] (by decide +kernel) (by decide +kernel)
set_option maxRecDepth 20000 in
theorem gL_law_X9_singer : GoodIn wsL_law (wsV RL 83 RX9 yX9_singer wsX9_singer) := goodIn_app (goodIn_of _ (by decide +kernel)) ggL_law_X9_singer
set_option maxRecDepth 20000 in
theorem ggL_law_X9_song : GoodIn wsL_law wsX9_song := goodIn_r _ [178, 13, 179, 180, 17, 116, 117, 2, 118, 119, 120, 121, 122, 123, 124, 16, 125, 84, 126, 127, 128, 129, 130, 131, 132, 133, 134, 12, 135, 39, 43, 47, 51, 136, 137, 138, 139, 140, 38, 141, 142, 143, 144, 55, 56, 57, 58, 145, 146, 147, 148, 149, 150, 151, 152, 153, 154, 42, 155, 156, 62, 63, 64, 65, 157, 158, 159, 46, 160, 161, 69, 70, 71, 162, 163, 164, 50, 165, 166, 75, 76, 77, 78, 181, 182, 183, 184, 469, 470, 471, 472, 473, 474, 475, 476, 477, 478, 479, 480, 481, 502, 503, 504, 505, 506, 482, 483, 484, 495, 496, 497, 498, 499, 500, 501, 507, 508, 509, 510, 511, 512, 513, 514, 515] (by decide +kernel) (by decide +kernel)
set_option maxRecDepth 20000 in
theorem gL_law_X9_song : GoodIn wsL_law (wsV RL 86 RX9 yX9_song wsX9_song) := goodIn_app (goodIn_of _ (by decide +kernel)) ggL_law_X9_song
set_option maxRecDepth 20000 in
theorem ggL_law_L_key : GoodIn wsL_law wsL_key := goodIn_r _ [187] (by decide +kernel) (by decide +kernel)
set_option maxRecDepth 20000 in
theorem gL_law_L_key : GoodIn wsL_law (va_wsS RL 39 yL_key wsL_key) := goodIn_app (goodIn_of _ (by decide +kernel)) ggL_law_L_key
set_option maxRecDepth 20000 in
theorem ggL_law_X9_key : GoodIn wsL_law wsX9_key := goodIn_r _ [191, 13, 192, 193, 194, 12, 195, 39, 43, 196, 197, 198, 38, 199, 142, 120, 2, 121, 200, 201, 202, 42, 203, 156, 204, 205, 206, 207, 208, 209, 210, 211, 130, 212, 213, 129, 131, 214, 215, 216, 217, 218, 219, 220, 221, 62, 63, 469, 470, 471, 472, 473, 474, 475, 476, 477, 478, 479, 480, 481, 495, 496, 497, 498, 499, 500, 501, 502, 503, 504, 505, 506] (by decide +kernel) (by decide +kernel)
set_option maxRecDepth 20000 in
theorem gL_law_X9_key : GoodIn wsL_law (wsV RL 90 RX9 yX9_key wsX9_key) := goodIn_app (goodIn_of _ (by decide +kernel)) ggL_law_X9_key
set_option maxRecDepth 20000 in
theorem ggL_law_X9_wish : GoodIn wsL_law wsX9_wish := goodIn_r _ [225, 13, 226, 227, 17, 228, 229, 230, 12, 231, 232, 193, 194, 195, 39, 43, 196, 197, 198, 38, 199, 142, 120, 2, 121, 200, 201, 202, 42, 203, 156, 233, 205, 206, 207, 208, 209, 210, 211, 130, 212, 213, 129, 131, 214, 215, 216, 217, 218, 219, 220, 221, 62, 63, 122, 123, 124, 16, 125, 84, 126, 127, 128, 132, 133, 134, 135, 47, 51, 136, 137, 138, 139, 140, 141, 143, 144, 55, 56, 57, 58, 145, 146, 147, 148, 149, 150, 151, 152, 153, 154, 155, 64, 65, 157, 158, 159, 46, 160, 161, 69, 70, 71, 162, 163, 164, 50, 165, 166, 75, 76, 77, 78, 234, 235, 236, 237, 469, 470, 471, 472, 473, 474, 475, 476, 477, 478, 479, 480, 481, 507, 508, 509, 510, 495, 496, 497, 498, 499, 500, 501, 502, 503, 504, 505, 506, 482, 483, 484, 511, 512, 513, 514, 515] (by decide +kernel) (by decide +kernel)
set_option maxRecDepth 20000 in
theorem gL_law_X9_wish : GoodIn wsL_law (wsV RL 92 RX9 yX9_wish wsX9_wish) := goodIn_app (goodIn_of _ (by decide +kernel)) ggL_law_X9_wish
set_option maxRecDepth 20000 in
theorem ggL_law_X9_leave : GoodIn wsL_law wsX9_leave := goodIn_r _ [241, 13, 114, 17, 242, 243, 197, 198, 38, 199, 142, 120, 2, 121, 244, 245, 246, 247, 143, 248, 249, 122, 123, 124, 16, 125, 84, 126, 127, 128, 129, 130, 131, 132, 133, 134, 12, 135, 39, 43, 47, 51, 136, 137, 138, 139, 140, 141, 144, 55, 56, 57, 58, 145, 146, 147, 148, 149, 150, 151, 152, 153, 154, 42, 155, 156, 62, 63, 64, 65, 157, 158, 159, 46, 160, 161, 69, 70, 71, 162, 163, 164, 50, 165, 166, 75, 76, 77, 78, 250, 172, 173, 174, 251, 252, 253, 254, 255, 256, 257, 469, 470, 471, 472, 473, 474, 475, 476, 477, 478, 479, 480, 481, 495, 496, 497, 498, 499, 500, 501, 482, 483, 484, 502, 503, 504, 505, 506, 507, 508, 509, 510, 511, 512, 513, 514, 515] (by decide +kernel) (by decide +kernel)
set_option maxRecDepth 20000 in
theorem gL_law_X9_leave : GoodIn wsL_law (wsV RL 95 RX9 yX9_leave wsX9_leave) := goodIn_app (goodIn_of _ (by decide +kernel)) ggL_law_X9_leave
set_option maxRecDepth 20000 in
theorem ggL_law_L_bits : GoodIn wsL_law wsL_bits := goodIn_r _ [260] (by decide +kernel) (by decide +kernel)
set_option maxRecDepth 20000 in
theorem gL_law_L_bits : GoodIn wsL_law (va_wsS RL 99 yL_bits wsL_bits) := goodIn_app (goodIn_of _ (by decide +kernel)) ggL_law_L_bits
set_option maxRecDepth 20000 in
theorem ggL_law_X9_takeBack : GoodIn wsL_law wsX9_takeBack := goodIn_r _ [264, 13, 226, 17, 227, 265, 266, 267, 46, 268, 161, 120, 2, 121, 122, 123, 124, 16, 125, 84, 126, 127, 128, 129, 130, 131, 132, 133, 134, 12, 135, 39, 43, 47, 51, 136, 137, 138, 139, 140, 38, 141, 142, 143, 144, 55, 56, 57, 58, 145, 146, 147, 148, 149, 150, 151, 152, 153, 154, 42, 155, 156, 62, 63, 64, 65, 157, 158, 159, 160, 69, 70, 71, 162, 163, 164, 50, 165, 166, 75, 76, 77, 78, 269, 270, 271, 272, 469, 470, 471, 472, 473, 474, 475, 476, 477, 478, 479, 480, 481, 507, 508, 509, 510, 482, 483, 484, 495, 496, 497, 498, 499, 500, 501, 502, 503, 504, 505, 506, 511, 512, 513, 514, 515] (by decide +kernel) (by decide +kernel)
set_option maxRecDepth 20000 in
theorem gL_law_X9_takeBack : GoodIn wsL_law (wsV RL 102 RX9 yX9_takeBack wsX9_takeBack) := goodIn_app (goodIn_of _ (by decide +kernel)) ggL_law_X9_takeBack
set_option maxRecDepth 20000 in
theorem ggL_law_L_next : GoodIn wsL_law wsL_next := goodIn_r _ [275, 276, 277, 278, 102, 279, 280, 281, 282] (by decide +kernel) (by decide +kernel)
set_option maxRecDepth 20000 in
theorem gL_law_L_next : GoodIn wsL_law (va_wsS RL 25 yL_next wsL_next) := goodIn_app (goodIn_of _ (by decide +kernel)) ggL_law_L_next
set_option maxRecDepth 20000 in
theorem ggL_law_L_sing : GoodIn wsL_law wsL_sing := goodIn_r _ [285, 277, 278, 102, 279] (by decide +kernel) (by decide +kernel)
set_option maxRecDepth 20000 in
theorem gL_law_L_sing : GoodIn wsL_law (va_wsS RL 29 yL_sing wsL_sing) := goodIn_app (goodIn_of _ (by decide +kernel)) ggL_law_L_sing
set_option maxRecDepth 20000 in
theorem ggL_law_X9_sing : GoodIn wsL_law wsX9_sing := goodIn_r _ [289, 17, 13, 119, 120, 2, 121, 122, 123, 124, 16, 125, 84, 126, 127, 128, 129, 130, 131, 132, 133, 134, 12, 135, 39, 43, 47, 51, 136, 137, 138, 139, 140, 38, 141, 142, 143, 144, 55, 56, 57, 58, 145, 146, 147, 148, 149, 150, 151, 152, 153, 154, 42, 155, 156, 62, 63, 64, 65, 157, 158, 159, 46, 160, 161, 69, 70, 71, 162, 163, 164, 50, 165, 166, 75, 76, 77, 78, 290, 291, 292, 293, 294, 295, 296, 297, 298, 299, 300, 301, 302, 303, 304, 305, 306, 307, 308, 309, 310, 311, 312, 313, 314, 315, 316, 317, 318, 319, 320, 248, 249, 321, 322, 323, 324, 325, 211, 212, 326, 327, 328, 329, 330, 331, 332, 333, 334, 335, 336, 337, 338, 339, 340, 341, 342, 343, 344, 345, 346, 347, 348, 349, 270, 271, 272, 469, 470, 471, 472, 473, 474, 475, 482, 483, 484, 476, 477, 478, 479, 480, 481, 495, 496, 497, 498, 499, 500, 501, 502, 503, 504, 505, 506, 507, 508, 509, 510, 511, 512, 513, 514, 515] (by decide +kernel) (by decide +kernel)
set_option maxRecDepth 20000 in
theorem gL_law_X9_sing : GoodIn wsL_law (wsV RL 105 RX9 yX9_sing wsX9_sing) := goodIn_app (goodIn_of _ (by decide +kernel)) ggL_law_X9_sing
set_option maxRecDepth 20000 in
theorem ggL_law_L_same : GoodIn wsL_law wsL_same := goodIn_r _ [352, 277, 278, 102, 279, 353, 354, 355, 2, 356, 13, 226, 357, 358, 359, 114, 242, 360, 361, 265, 266, 267, 46, 268, 161, 120, 121, 204, 205, 206, 12, 207, 39, 208, 209, 210, 211, 130, 212, 213, 129, 131, 43, 214, 215, 216, 42, 217, 218, 219, 220, 221, 62, 63, 362, 298, 299, 300, 301, 302, 303, 304, 305, 306, 307, 308, 69, 70, 363, 248, 249, 364, 365, 366, 367, 314, 315, 316, 368, 322, 323, 324, 325, 185, 186, 187, 280, 281, 282, 369, 370, 371, 372, 32, 373, 374, 119, 375, 376, 377, 378, 47, 294, 297, 379, 380, 381, 31, 382, 383, 384, 385, 99, 386, 387, 388, 389, 390, 145, 146, 147, 148, 149, 150, 151, 391, 392, 310, 311, 312, 313, 317, 318, 319, 320, 321, 393, 335, 336, 337, 338, 330, 394, 395, 396, 397, 398, 399, 400, 401, 402, 227, 403, 404, 405, 406, 407, 408, 409, 410, 411, 412, 273, 274, 275, 276, 283, 284, 285, 106, 107, 108, 109, 413, 414, 415, 416, 417, 418, 419, 243, 197, 198, 38, 199, 142, 244, 245, 246, 247, 143, 420, 421, 422, 423, 424, 425, 426, 427, 251, 252, 253, 254, 255, 256, 257, 428, 429, 430, 431, 179, 180, 432, 433, 434, 435, 436, 437, 438, 439, 440, 201, 202, 203, 156, 441, 442, 443, 444, 445, 233, 446, 447, 448, 449, 450, 451, 452, 453, 454, 455, 456, 457, 458, 459, 115, 460, 461, 24, 462, 17, 463, 290, 291, 292, 293, 295, 296, 309, 464, 465, 466, 467, 468, 469, 470, 471, 472, 473, 474, 475, 476, 477, 478, 479, 480, 481, 507, 508, 509, 510, 495, 496, 497, 498, 499, 500, 501, 502, 503, 504, 505, 506, 492, 493, 494, 511, 512, 513, 514, 515, 485, 486, 482, 483, 484] (by decide +kernel) (by decide +kernel)
set_option maxRecDepth 20000 in
theorem gL_law_L_same : GoodIn wsL_law (va_wsS RL 107 yL_same wsL_same) := goodIn_app (goodIn_of _ (by decide +kernel)) ggL_law_L_same
end
section
/-! the law's decode rows -/
theorem dL_law_0 : decode cL_law 0 = .ok (.new 34, 3) := by decide +kernel
theorem dL_law_3 : decode cL_law 3 = .ok (.dup, 1) := by decide +kernel
theorem dL_law_4 : decode cL_law 4 = .ok (.invokespecial 78, 3) := by decide +kernel
theorem dL_law_7 : decode cL_law 7 = .ok (.astore_n 1, 1) := by decide +kernel
theorem dL_law_8 : decode cL_law 8 = .ok (.bipush 8, 2) := by decide +kernel
theorem dL_law_10 : decode cL_law 10 = .ok (.newarray .int, 2) := by decide +kernel
theorem dL_law_12 : decode cL_law 12 = .ok (.astore_n 2, 1) := by decide +kernel
theorem dL_law_13 : decode cL_law 13 = .ok (.bipush 48, 2) := by decide +kernel
theorem dL_law_15 : decode cL_law 15 = .ok (.newarray .int, 2) := by decide +kernel
theorem dL_law_17 : decode cL_law 17 = .ok (.astore_n 3, 1) := by decide +kernel
theorem dL_law_18 : decode cL_law 18 = .ok (.bipush 64, 2) := by decide +kernel
theorem dL_law_20 : decode cL_law 20 = .ok (.newarray .int, 2) := by decide +kernel
theorem dL_law_22 : decode cL_law 22 = .ok (.astore 4, 2) := by decide +kernel
theorem dL_law_24 : decode cL_law 24 = .ok (.bipush 20, 2) := by decide +kernel
theorem dL_law_26 : decode cL_law 26 = .ok (.newarray .int, 2) := by decide +kernel
theorem dL_law_28 : decode cL_law 28 = .ok (.astore 5, 2) := by decide +kernel
theorem dL_law_30 : decode cL_law 30 = .ok (.bipush 12, 2) := by decide +kernel
theorem dL_law_32 : decode cL_law 32 = .ok (.newarray .int, 2) := by decide +kernel
theorem dL_law_34 : decode cL_law 34 = .ok (.astore 6, 2) := by decide +kernel
theorem dL_law_36 : decode cL_law 36 = .ok (.bipush 12, 2) := by decide +kernel
theorem dL_law_38 : decode cL_law 38 = .ok (.newarray .int, 2) := by decide +kernel
theorem dL_law_40 : decode cL_law 40 = .ok (.astore 7, 2) := by decide +kernel
theorem dL_law_42 : decode cL_law 42 = .ok (.bipush 8, 2) := by decide +kernel
theorem dL_law_44 : decode cL_law 44 = .ok (.newarray .int, 2) := by decide +kernel
theorem dL_law_46 : decode cL_law 46 = .ok (.astore 8, 2) := by decide +kernel
theorem dL_law_48 : decode cL_law 48 = .ok (.bipush 48, 2) := by decide +kernel
theorem dL_law_50 : decode cL_law 50 = .ok (.newarray .int, 2) := by decide +kernel
theorem dL_law_52 : decode cL_law 52 = .ok (.astore 9, 2) := by decide +kernel
theorem dL_law_54 : decode cL_law 54 = .ok (.bipush 64, 2) := by decide +kernel
theorem dL_law_56 : decode cL_law 56 = .ok (.newarray .int, 2) := by decide +kernel
theorem dL_law_58 : decode cL_law 58 = .ok (.astore 10, 2) := by decide +kernel
theorem dL_law_60 : decode cL_law 60 = .ok (.bipush 20, 2) := by decide +kernel
theorem dL_law_62 : decode cL_law 62 = .ok (.newarray .int, 2) := by decide +kernel
theorem dL_law_64 : decode cL_law 64 = .ok (.astore 11, 2) := by decide +kernel
theorem dL_law_66 : decode cL_law 66 = .ok (.bipush 12, 2) := by decide +kernel
theorem dL_law_68 : decode cL_law 68 = .ok (.newarray .int, 2) := by decide +kernel
theorem dL_law_70 : decode cL_law 70 = .ok (.astore 12, 2) := by decide +kernel
theorem dL_law_72 : decode cL_law 72 = .ok (.bipush 12, 2) := by decide +kernel
theorem dL_law_74 : decode cL_law 74 = .ok (.newarray .int, 2) := by decide +kernel
theorem dL_law_76 : decode cL_law 76 = .ok (.astore 13, 2) := by decide +kernel
theorem dL_law_78 : decode cL_law 78 = .ok (.iconst 0, 1) := by decide +kernel
theorem dL_law_79 : decode cL_law 79 = .ok (.istore 14, 2) := by decide +kernel
theorem dL_law_81 : decode cL_law 81 = .ok (.iload 14, 2) := by decide +kernel
theorem dL_law_83 : decode cL_law 83 = .ok (.bipush 30, 2) := by decide +kernel
theorem dL_law_85 : decode cL_law 85 = .ok (.if_icmp .ge 812, 3) := by decide +kernel
theorem dL_law_88 : decode cL_law 88 = .ok (.aload_n 0, 1) := by decide +kernel
theorem dL_law_89 : decode cL_law 89 = .ok (.iload 14, 2) := by decide +kernel
theorem dL_law_91 : decode cL_law 91 = .ok (.invokestatic 79, 3) := by decide +kernel
theorem dL_law_94 : decode cL_law 94 = .ok (.istore 15, 2) := by decide +kernel
theorem dL_law_96 : decode cL_law 96 = .ok (.iload 14, 2) := by decide +kernel
theorem dL_law_98 : decode cL_law 98 = .ok (.iconst 5, 1) := by decide +kernel
theorem dL_law_99 : decode cL_law 99 = .ok (.if_icmp .ge 10, 3) := by decide +kernel
theorem dL_law_102 : decode cL_law 102 = .ok (.iload 14, 2) := by decide +kernel
theorem dL_law_104 : decode cL_law 104 = .ok (.iconst 2, 1) := by decide +kernel
theorem dL_law_105 : decode cL_law 105 = .ok (.irem, 1) := by decide +kernel
theorem dL_law_106 : decode cL_law 106 = .ok (.goto 10, 3) := by decide +kernel
theorem dL_law_109 : decode cL_law 109 = .ok (.iload 15, 2) := by decide +kernel
theorem dL_law_111 : decode cL_law 111 = .ok (.bipush 12, 2) := by decide +kernel
theorem dL_law_113 : decode cL_law 113 = .ok (.invokestatic 53, 3) := by decide +kernel
theorem dL_law_116 : decode cL_law 116 = .ok (.istore 16, 2) := by decide +kernel
theorem dL_law_118 : decode cL_law 118 = .ok (.iload 16, 2) := by decide +kernel
theorem dL_law_120 : decode cL_law 120 = .ok (.iconst 2, 1) := by decide +kernel
theorem dL_law_121 : decode cL_law 121 = .ok (.if_icmp .ge 220, 3) := by decide +kernel
theorem dL_law_124 : decode cL_law 124 = .ok (.iload 15, 2) := by decide +kernel
theorem dL_law_126 : decode cL_law 126 = .ok (.iconst 4, 1) := by decide +kernel
theorem dL_law_127 : decode cL_law 127 = .ok (.ishr, 1) := by decide +kernel
theorem dL_law_128 : decode cL_law 128 = .ok (.bipush 30, 2) := by decide +kernel
theorem dL_law_130 : decode cL_law 130 = .ok (.invokestatic 53, 3) := by decide +kernel
theorem dL_law_133 : decode cL_law 133 = .ok (.istore 17, 2) := by decide +kernel
theorem dL_law_135 : decode cL_law 135 = .ok (.iload 17, 2) := by decide +kernel
theorem dL_law_137 : decode cL_law 137 = .ok (.iload 15, 2) := by decide +kernel
theorem dL_law_139 : decode cL_law 139 = .ok (.bipush 9, 2) := by decide +kernel
theorem dL_law_141 : decode cL_law 141 = .ok (.ishr, 1) := by decide +kernel
theorem dL_law_142 : decode cL_law 142 = .ok (.bipush 31, 2) := by decide +kernel
theorem dL_law_144 : decode cL_law 144 = .ok (.invokestatic 53, 3) := by decide +kernel
theorem dL_law_147 : decode cL_law 147 = .ok (.iadd, 1) := by decide +kernel
theorem dL_law_148 : decode cL_law 148 = .ok (.istore 18, 2) := by decide +kernel
theorem dL_law_150 : decode cL_law 150 = .ok (.iload 16, 2) := by decide +kernel
theorem dL_law_152 : decode cL_law 152 = .ok (.ifCond .ne 79, 3) := by decide +kernel
theorem dL_law_155 : decode cL_law 155 = .ok (.aload_n 1, 1) := by decide +kernel
theorem dL_law_156 : decode cL_law 156 = .ok (.iload 17, 2) := by decide +kernel
theorem dL_law_158 : decode cL_law 158 = .ok (.iload 18, 2) := by decide +kernel
theorem dL_law_160 : decode cL_law 160 = .ok (.invokevirtual 83, 3) := by decide +kernel
theorem dL_law_163 : decode cL_law 163 = .ok (.aload_n 2, 1) := by decide +kernel
theorem dL_law_164 : decode cL_law 164 = .ok (.iconst 0, 1) := by decide +kernel
theorem dL_law_165 : decode cL_law 165 = .ok (.iaload, 1) := by decide +kernel
theorem dL_law_166 : decode cL_law 166 = .ok (.bipush 12, 2) := by decide +kernel
theorem dL_law_168 : decode cL_law 168 = .ok (.if_icmp .ne 8, 3) := by decide +kernel
theorem dL_law_171 : decode cL_law 171 = .ok (.bipush (-4), 2) := by decide +kernel
theorem dL_law_173 : decode cL_law 173 = .ok (.goto 6, 3) := by decide +kernel
theorem dL_law_176 : decode cL_law 176 = .ok (.aload_n 2, 1) := by decide +kernel
theorem dL_law_177 : decode cL_law 177 = .ok (.iconst 0, 1) := by decide +kernel
theorem dL_law_178 : decode cL_law 178 = .ok (.iaload, 1) := by decide +kernel
theorem dL_law_179 : decode cL_law 179 = .ok (.if_icmp .eq 5, 3) := by decide +kernel
theorem dL_law_182 : decode cL_law 182 = .ok (.iconst 0, 1) := by decide +kernel
theorem dL_law_183 : decode cL_law 183 = .ok (.ireturn, 1) := by decide +kernel
theorem dL_law_184 : decode cL_law 184 = .ok (.aload_n 2, 1) := by decide +kernel
theorem dL_law_185 : decode cL_law 185 = .ok (.iconst 0, 1) := by decide +kernel
theorem dL_law_186 : decode cL_law 186 = .ok (.iaload, 1) := by decide +kernel
theorem dL_law_187 : decode cL_law 187 = .ok (.bipush 12, 2) := by decide +kernel
theorem dL_law_189 : decode cL_law 189 = .ok (.if_icmp .ge 149, 3) := by decide +kernel
theorem dL_law_192 : decode cL_law 192 = .ok (.aload_n 3, 1) := by decide +kernel
theorem dL_law_193 : decode cL_law 193 = .ok (.iconst 4, 1) := by decide +kernel
theorem dL_law_194 : decode cL_law 194 = .ok (.aload_n 2, 1) := by decide +kernel
theorem dL_law_195 : decode cL_law 195 = .ok (.iconst 0, 1) := by decide +kernel
theorem dL_law_196 : decode cL_law 196 = .ok (.iaload, 1) := by decide +kernel
theorem dL_law_197 : decode cL_law 197 = .ok (.imul, 1) := by decide +kernel
theorem dL_law_198 : decode cL_law 198 = .ok (.iload 17, 2) := by decide +kernel
theorem dL_law_200 : decode cL_law 200 = .ok (.iastore, 1) := by decide +kernel
theorem dL_law_201 : decode cL_law 201 = .ok (.aload_n 3, 1) := by decide +kernel
theorem dL_law_202 : decode cL_law 202 = .ok (.iconst 4, 1) := by decide +kernel
theorem dL_law_203 : decode cL_law 203 = .ok (.aload_n 2, 1) := by decide +kernel
theorem dL_law_204 : decode cL_law 204 = .ok (.iconst 0, 1) := by decide +kernel
theorem dL_law_205 : decode cL_law 205 = .ok (.iaload, 1) := by decide +kernel
theorem dL_law_206 : decode cL_law 206 = .ok (.imul, 1) := by decide +kernel
theorem dL_law_207 : decode cL_law 207 = .ok (.iconst 1, 1) := by decide +kernel
theorem dL_law_208 : decode cL_law 208 = .ok (.iadd, 1) := by decide +kernel
theorem dL_law_209 : decode cL_law 209 = .ok (.iload 18, 2) := by decide +kernel
theorem dL_law_211 : decode cL_law 211 = .ok (.iastore, 1) := by decide +kernel
theorem dL_law_212 : decode cL_law 212 = .ok (.aload_n 2, 1) := by decide +kernel
theorem dL_law_213 : decode cL_law 213 = .ok (.iconst 3, 1) := by decide +kernel
theorem dL_law_214 : decode cL_law 214 = .ok (.dup2, 1) := by decide +kernel
theorem dL_law_215 : decode cL_law 215 = .ok (.iaload, 1) := by decide +kernel
theorem dL_law_216 : decode cL_law 216 = .ok (.iconst 1, 1) := by decide +kernel
theorem dL_law_217 : decode cL_law 217 = .ok (.aload_n 2, 1) := by decide +kernel
theorem dL_law_218 : decode cL_law 218 = .ok (.iconst 0, 1) := by decide +kernel
theorem dL_law_219 : decode cL_law 219 = .ok (.dup2, 1) := by decide +kernel
theorem dL_law_220 : decode cL_law 220 = .ok (.iaload, 1) := by decide +kernel
theorem dL_law_221 : decode cL_law 221 = .ok (.dup_x2, 1) := by decide +kernel
theorem dL_law_222 : decode cL_law 222 = .ok (.iconst 1, 1) := by decide +kernel
theorem dL_law_223 : decode cL_law 223 = .ok (.iadd, 1) := by decide +kernel
theorem dL_law_224 : decode cL_law 224 = .ok (.iastore, 1) := by decide +kernel
theorem dL_law_225 : decode cL_law 225 = .ok (.ishl, 1) := by decide +kernel
theorem dL_law_226 : decode cL_law 226 = .ok (.ior, 1) := by decide +kernel
theorem dL_law_227 : decode cL_law 227 = .ok (.iastore, 1) := by decide +kernel
theorem dL_law_228 : decode cL_law 228 = .ok (.goto 110, 3) := by decide +kernel
theorem dL_law_231 : decode cL_law 231 = .ok (.iload 17, 2) := by decide +kernel
theorem dL_law_233 : decode cL_law 233 = .ok (.iload 15, 2) := by decide +kernel
theorem dL_law_235 : decode cL_law 235 = .ok (.bipush 9, 2) := by decide +kernel
theorem dL_law_237 : decode cL_law 237 = .ok (.ishr, 1) := by decide +kernel
theorem dL_law_238 : decode cL_law 238 = .ok (.bipush 20, 2) := by decide +kernel
theorem dL_law_240 : decode cL_law 240 = .ok (.invokestatic 53, 3) := by decide +kernel
theorem dL_law_243 : decode cL_law 243 = .ok (.iadd, 1) := by decide +kernel
theorem dL_law_244 : decode cL_law 244 = .ok (.istore 18, 2) := by decide +kernel
theorem dL_law_246 : decode cL_law 246 = .ok (.iconst 1, 1) := by decide +kernel
theorem dL_law_247 : decode cL_law 247 = .ok (.iload 15, 2) := by decide +kernel
theorem dL_law_249 : decode cL_law 249 = .ok (.bipush 13, 2) := by decide +kernel
theorem dL_law_251 : decode cL_law 251 = .ok (.ishr, 1) := by decide +kernel
theorem dL_law_252 : decode cL_law 252 = .ok (.bipush 9, 2) := by decide +kernel
theorem dL_law_254 : decode cL_law 254 = .ok (.invokestatic 53, 3) := by decide +kernel
theorem dL_law_257 : decode cL_law 257 = .ok (.iadd, 1) := by decide +kernel
theorem dL_law_258 : decode cL_law 258 = .ok (.istore 19, 2) := by decide +kernel
theorem dL_law_260 : decode cL_law 260 = .ok (.aload_n 1, 1) := by decide +kernel
theorem dL_law_261 : decode cL_law 261 = .ok (.iload 17, 2) := by decide +kernel
theorem dL_law_263 : decode cL_law 263 = .ok (.iload 18, 2) := by decide +kernel
theorem dL_law_265 : decode cL_law 265 = .ok (.iload 19, 2) := by decide +kernel
theorem dL_law_267 : decode cL_law 267 = .ok (.invokevirtual 86, 3) := by decide +kernel
theorem dL_law_270 : decode cL_law 270 = .ok (.aload_n 2, 1) := by decide +kernel
theorem dL_law_271 : decode cL_law 271 = .ok (.iconst 1, 1) := by decide +kernel
theorem dL_law_272 : decode cL_law 272 = .ok (.iaload, 1) := by decide +kernel
theorem dL_law_273 : decode cL_law 273 = .ok (.bipush 16, 2) := by decide +kernel
theorem dL_law_275 : decode cL_law 275 = .ok (.if_icmp .ne 8, 3) := by decide +kernel
theorem dL_law_278 : decode cL_law 278 = .ok (.bipush (-4), 2) := by decide +kernel
theorem dL_law_280 : decode cL_law 280 = .ok (.goto 6, 3) := by decide +kernel
theorem dL_law_283 : decode cL_law 283 = .ok (.aload_n 2, 1) := by decide +kernel
theorem dL_law_284 : decode cL_law 284 = .ok (.iconst 1, 1) := by decide +kernel
theorem dL_law_285 : decode cL_law 285 = .ok (.iaload, 1) := by decide +kernel
theorem dL_law_286 : decode cL_law 286 = .ok (.if_icmp .eq 5, 3) := by decide +kernel
theorem dL_law_289 : decode cL_law 289 = .ok (.iconst 0, 1) := by decide +kernel
theorem dL_law_290 : decode cL_law 290 = .ok (.ireturn, 1) := by decide +kernel
theorem dL_law_291 : decode cL_law 291 = .ok (.aload_n 2, 1) := by decide +kernel
theorem dL_law_292 : decode cL_law 292 = .ok (.iconst 1, 1) := by decide +kernel
theorem dL_law_293 : decode cL_law 293 = .ok (.iaload, 1) := by decide +kernel
theorem dL_law_294 : decode cL_law 294 = .ok (.bipush 16, 2) := by decide +kernel
theorem dL_law_296 : decode cL_law 296 = .ok (.if_icmp .ge 42, 3) := by decide +kernel
theorem dL_law_299 : decode cL_law 299 = .ok (.aload 4, 2) := by decide +kernel
theorem dL_law_301 : decode cL_law 301 = .ok (.iconst 4, 1) := by decide +kernel
theorem dL_law_302 : decode cL_law 302 = .ok (.aload_n 2, 1) := by decide +kernel
theorem dL_law_303 : decode cL_law 303 = .ok (.iconst 1, 1) := by decide +kernel
theorem dL_law_304 : decode cL_law 304 = .ok (.iaload, 1) := by decide +kernel
theorem dL_law_305 : decode cL_law 305 = .ok (.imul, 1) := by decide +kernel
theorem dL_law_306 : decode cL_law 306 = .ok (.iload 17, 2) := by decide +kernel
theorem dL_law_308 : decode cL_law 308 = .ok (.iastore, 1) := by decide +kernel
theorem dL_law_309 : decode cL_law 309 = .ok (.aload 4, 2) := by decide +kernel
theorem dL_law_311 : decode cL_law 311 = .ok (.iconst 4, 1) := by decide +kernel
theorem dL_law_312 : decode cL_law 312 = .ok (.aload_n 2, 1) := by decide +kernel
theorem dL_law_313 : decode cL_law 313 = .ok (.iconst 1, 1) := by decide +kernel
theorem dL_law_314 : decode cL_law 314 = .ok (.iaload, 1) := by decide +kernel
theorem dL_law_315 : decode cL_law 315 = .ok (.imul, 1) := by decide +kernel
theorem dL_law_316 : decode cL_law 316 = .ok (.iconst 1, 1) := by decide +kernel
theorem dL_law_317 : decode cL_law 317 = .ok (.iadd, 1) := by decide +kernel
theorem dL_law_318 : decode cL_law 318 = .ok (.iload 18, 2) := by decide +kernel
theorem dL_law_320 : decode cL_law 320 = .ok (.iastore, 1) := by decide +kernel
theorem dL_law_321 : decode cL_law 321 = .ok (.aload 4, 2) := by decide +kernel
theorem dL_law_323 : decode cL_law 323 = .ok (.iconst 4, 1) := by decide +kernel
theorem dL_law_324 : decode cL_law 324 = .ok (.aload_n 2, 1) := by decide +kernel
theorem dL_law_325 : decode cL_law 325 = .ok (.iconst 1, 1) := by decide +kernel
theorem dL_law_326 : decode cL_law 326 = .ok (.dup2, 1) := by decide +kernel
theorem dL_law_327 : decode cL_law 327 = .ok (.iaload, 1) := by decide +kernel
theorem dL_law_328 : decode cL_law 328 = .ok (.dup_x2, 1) := by decide +kernel
theorem dL_law_329 : decode cL_law 329 = .ok (.iconst 1, 1) := by decide +kernel
theorem dL_law_330 : decode cL_law 330 = .ok (.iadd, 1) := by decide +kernel
theorem dL_law_331 : decode cL_law 331 = .ok (.iastore, 1) := by decide +kernel
theorem dL_law_332 : decode cL_law 332 = .ok (.imul, 1) := by decide +kernel
theorem dL_law_333 : decode cL_law 333 = .ok (.iconst 2, 1) := by decide +kernel
theorem dL_law_334 : decode cL_law 334 = .ok (.iadd, 1) := by decide +kernel
theorem dL_law_335 : decode cL_law 335 = .ok (.iload 19, 2) := by decide +kernel
theorem dL_law_337 : decode cL_law 337 = .ok (.iastore, 1) := by decide +kernel
theorem dL_law_338 : decode cL_law 338 = .ok (.goto 518, 3) := by decide +kernel
theorem dL_law_341 : decode cL_law 341 = .ok (.iload 16, 2) := by decide +kernel
theorem dL_law_343 : decode cL_law 343 = .ok (.bipush 8, 2) := by decide +kernel
theorem dL_law_345 : decode cL_law 345 = .ok (.if_icmp .ge 244, 3) := by decide +kernel
theorem dL_law_348 : decode cL_law 348 = .ok (.iconst 0, 1) := by decide +kernel
theorem dL_law_349 : decode cL_law 349 = .ok (.istore 17, 2) := by decide +kernel
theorem dL_law_351 : decode cL_law 351 = .ok (.iload 17, 2) := by decide +kernel
theorem dL_law_353 : decode cL_law 353 = .ok (.iconst 3, 1) := by decide +kernel
theorem dL_law_354 : decode cL_law 354 = .ok (.if_icmp .ge 232, 3) := by decide +kernel
theorem dL_law_357 : decode cL_law 357 = .ok (.iload 15, 2) := by decide +kernel
theorem dL_law_359 : decode cL_law 359 = .ok (.iconst 4, 1) := by decide +kernel
theorem dL_law_360 : decode cL_law 360 = .ok (.iload 17, 2) := by decide +kernel
theorem dL_law_362 : decode cL_law 362 = .ok (.iadd, 1) := by decide +kernel
theorem dL_law_363 : decode cL_law 363 = .ok (.ishr, 1) := by decide +kernel
theorem dL_law_364 : decode cL_law 364 = .ok (.aload_n 2, 1) := by decide +kernel
theorem dL_law_365 : decode cL_law 365 = .ok (.iconst 0, 1) := by decide +kernel
theorem dL_law_366 : decode cL_law 366 = .ok (.iaload, 1) := by decide +kernel
theorem dL_law_367 : decode cL_law 367 = .ok (.invokestatic 53, 3) := by decide +kernel
theorem dL_law_370 : decode cL_law 370 = .ok (.istore 18, 2) := by decide +kernel
theorem dL_law_372 : decode cL_law 372 = .ok (.iload 15, 2) := by decide +kernel
theorem dL_law_374 : decode cL_law 374 = .ok (.bipush 8, 2) := by decide +kernel
theorem dL_law_376 : decode cL_law 376 = .ok (.iload 17, 2) := by decide +kernel
theorem dL_law_378 : decode cL_law 378 = .ok (.iadd, 1) := by decide +kernel
theorem dL_law_379 : decode cL_law 379 = .ok (.ishr, 1) := by decide +kernel
theorem dL_law_380 : decode cL_law 380 = .ok (.iconst 2, 1) := by decide +kernel
theorem dL_law_381 : decode cL_law 381 = .ok (.invokestatic 53, 3) := by decide +kernel
theorem dL_law_384 : decode cL_law 384 = .ok (.ifCond .ne 20, 3) := by decide +kernel
theorem dL_law_387 : decode cL_law 387 = .ok (.iload 15, 2) := by decide +kernel
theorem dL_law_389 : decode cL_law 389 = .ok (.bipush 9, 2) := by decide +kernel
theorem dL_law_391 : decode cL_law 391 = .ok (.iload 17, 2) := by decide +kernel
theorem dL_law_393 : decode cL_law 393 = .ok (.iadd, 1) := by decide +kernel
theorem dL_law_394 : decode cL_law 394 = .ok (.ishr, 1) := by decide +kernel
theorem dL_law_395 : decode cL_law 395 = .ok (.aload_n 2, 1) := by decide +kernel
theorem dL_law_396 : decode cL_law 396 = .ok (.iconst 0, 1) := by decide +kernel
theorem dL_law_397 : decode cL_law 397 = .ok (.iaload, 1) := by decide +kernel
theorem dL_law_398 : decode cL_law 398 = .ok (.invokestatic 53, 3) := by decide +kernel
theorem dL_law_401 : decode cL_law 401 = .ok (.goto 4, 3) := by decide +kernel
theorem dL_law_404 : decode cL_law 404 = .ok (.iconst (-1), 1) := by decide +kernel
theorem dL_law_405 : decode cL_law 405 = .ok (.istore 19, 2) := by decide +kernel
theorem dL_law_407 : decode cL_law 407 = .ok (.iload 15, 2) := by decide +kernel
theorem dL_law_409 : decode cL_law 409 = .ok (.bipush 12, 2) := by decide +kernel
theorem dL_law_411 : decode cL_law 411 = .ok (.iload 17, 2) := by decide +kernel
theorem dL_law_413 : decode cL_law 413 = .ok (.iadd, 1) := by decide +kernel
theorem dL_law_414 : decode cL_law 414 = .ok (.ishr, 1) := by decide +kernel
theorem dL_law_415 : decode cL_law 415 = .ok (.aload_n 2, 1) := by decide +kernel
theorem dL_law_416 : decode cL_law 416 = .ok (.iconst 1, 1) := by decide +kernel
theorem dL_law_417 : decode cL_law 417 = .ok (.iaload, 1) := by decide +kernel
theorem dL_law_418 : decode cL_law 418 = .ok (.invokestatic 53, 3) := by decide +kernel
theorem dL_law_421 : decode cL_law 421 = .ok (.istore 20, 2) := by decide +kernel
theorem dL_law_423 : decode cL_law 423 = .ok (.iload 18, 2) := by decide +kernel
theorem dL_law_425 : decode cL_law 425 = .ok (.iload 19, 2) := by decide +kernel
theorem dL_law_427 : decode cL_law 427 = .ok (.if_icmp .ne 8, 3) := by decide +kernel
theorem dL_law_430 : decode cL_law 430 = .ok (.bipush (-2), 2) := by decide +kernel
theorem dL_law_432 : decode cL_law 432 = .ok (.goto 39, 3) := by decide +kernel
theorem dL_law_435 : decode cL_law 435 = .ok (.aload_n 2, 1) := by decide +kernel
theorem dL_law_436 : decode cL_law 436 = .ok (.iconst 2, 1) := by decide +kernel
theorem dL_law_437 : decode cL_law 437 = .ok (.iaload, 1) := by decide +kernel
theorem dL_law_438 : decode cL_law 438 = .ok (.bipush 20, 2) := by decide +kernel
theorem dL_law_440 : decode cL_law 440 = .ok (.if_icmp .ne 8, 3) := by decide +kernel
theorem dL_law_443 : decode cL_law 443 = .ok (.bipush (-4), 2) := by decide +kernel
theorem dL_law_445 : decode cL_law 445 = .ok (.goto 26, 3) := by decide +kernel
theorem dL_law_448 : decode cL_law 448 = .ok (.iload 18, 2) := by decide +kernel
theorem dL_law_450 : decode cL_law 450 = .ok (.iload 19, 2) := by decide +kernel
theorem dL_law_452 : decode cL_law 452 = .ok (.iload 20, 2) := by decide +kernel
theorem dL_law_454 : decode cL_law 454 = .ok (.aload_n 3, 1) := by decide +kernel
theorem dL_law_455 : decode cL_law 455 = .ok (.aload 4, 2) := by decide +kernel
theorem dL_law_457 : decode cL_law 457 = .ok (.invokestatic 39, 3) := by decide +kernel
theorem dL_law_460 : decode cL_law 460 = .ok (.ifCond .ge 8, 3) := by decide +kernel
theorem dL_law_463 : decode cL_law 463 = .ok (.bipush (-5), 2) := by decide +kernel
theorem dL_law_465 : decode cL_law 465 = .ok (.goto 6, 3) := by decide +kernel
theorem dL_law_468 : decode cL_law 468 = .ok (.aload_n 2, 1) := by decide +kernel
theorem dL_law_469 : decode cL_law 469 = .ok (.iconst 2, 1) := by decide +kernel
theorem dL_law_470 : decode cL_law 470 = .ok (.iaload, 1) := by decide +kernel
theorem dL_law_471 : decode cL_law 471 = .ok (.istore 21, 2) := by decide +kernel
theorem dL_law_473 : decode cL_law 473 = .ok (.aload_n 1, 1) := by decide +kernel
theorem dL_law_474 : decode cL_law 474 = .ok (.iload 18, 2) := by decide +kernel
theorem dL_law_476 : decode cL_law 476 = .ok (.iload 19, 2) := by decide +kernel
theorem dL_law_478 : decode cL_law 478 = .ok (.ifCond .ge 8, 3) := by decide +kernel
theorem dL_law_481 : decode cL_law 481 = .ok (.bipush (-6), 2) := by decide +kernel
theorem dL_law_483 : decode cL_law 483 = .ok (.goto 5, 3) := by decide +kernel
theorem dL_law_486 : decode cL_law 486 = .ok (.iload 19, 2) := by decide +kernel
theorem dL_law_488 : decode cL_law 488 = .ok (.iload 20, 2) := by decide +kernel
theorem dL_law_490 : decode cL_law 490 = .ok (.invokevirtual 90, 3) := by decide +kernel
theorem dL_law_493 : decode cL_law 493 = .ok (.iload 18, 2) := by decide +kernel
theorem dL_law_495 : decode cL_law 495 = .ok (.iload 19, 2) := by decide +kernel
theorem dL_law_497 : decode cL_law 497 = .ok (.if_icmp .ne 8, 3) := by decide +kernel
theorem dL_law_500 : decode cL_law 500 = .ok (.bipush (-2), 2) := by decide +kernel
theorem dL_law_502 : decode cL_law 502 = .ok (.goto 15, 3) := by decide +kernel
theorem dL_law_505 : decode cL_law 505 = .ok (.iload 18, 2) := by decide +kernel
theorem dL_law_507 : decode cL_law 507 = .ok (.iload 19, 2) := by decide +kernel
theorem dL_law_509 : decode cL_law 509 = .ok (.iload 20, 2) := by decide +kernel
theorem dL_law_511 : decode cL_law 511 = .ok (.aload_n 3, 1) := by decide +kernel
theorem dL_law_512 : decode cL_law 512 = .ok (.aload 4, 2) := by decide +kernel
theorem dL_law_514 : decode cL_law 514 = .ok (.invokestatic 39, 3) := by decide +kernel
theorem dL_law_517 : decode cL_law 517 = .ok (.if_icmp .ne 28, 3) := by decide +kernel
theorem dL_law_520 : decode cL_law 520 = .ok (.aload_n 1, 1) := by decide +kernel
theorem dL_law_521 : decode cL_law 521 = .ok (.iload 18, 2) := by decide +kernel
theorem dL_law_523 : decode cL_law 523 = .ok (.iload 19, 2) := by decide +kernel
theorem dL_law_525 : decode cL_law 525 = .ok (.ifCond .ge 8, 3) := by decide +kernel
theorem dL_law_528 : decode cL_law 528 = .ok (.bipush (-6), 2) := by decide +kernel
theorem dL_law_530 : decode cL_law 530 = .ok (.goto 5, 3) := by decide +kernel
theorem dL_law_533 : decode cL_law 533 = .ok (.iload 19, 2) := by decide +kernel
theorem dL_law_535 : decode cL_law 535 = .ok (.iload 20, 2) := by decide +kernel
theorem dL_law_537 : decode cL_law 537 = .ok (.invokevirtual 92, 3) := by decide +kernel
theorem dL_law_540 : decode cL_law 540 = .ok (.iload 21, 2) := by decide +kernel
theorem dL_law_542 : decode cL_law 542 = .ok (.if_icmp .eq 5, 3) := by decide +kernel
theorem dL_law_545 : decode cL_law 545 = .ok (.iconst 0, 1) := by decide +kernel
theorem dL_law_546 : decode cL_law 546 = .ok (.ireturn, 1) := by decide +kernel
theorem dL_law_547 : decode cL_law 547 = .ok (.iload 21, 2) := by decide +kernel
theorem dL_law_549 : decode cL_law 549 = .ok (.ifCond .lt 31, 3) := by decide +kernel
theorem dL_law_552 : decode cL_law 552 = .ok (.aload 5, 2) := by decide +kernel
theorem dL_law_554 : decode cL_law 554 = .ok (.aload_n 2, 1) := by decide +kernel
theorem dL_law_555 : decode cL_law 555 = .ok (.iconst 2, 1) := by decide +kernel
theorem dL_law_556 : decode cL_law 556 = .ok (.dup2, 1) := by decide +kernel
theorem dL_law_557 : decode cL_law 557 = .ok (.iaload, 1) := by decide +kernel
theorem dL_law_558 : decode cL_law 558 = .ok (.dup_x2, 1) := by decide +kernel
theorem dL_law_559 : decode cL_law 559 = .ok (.iconst 1, 1) := by decide +kernel
theorem dL_law_560 : decode cL_law 560 = .ok (.iadd, 1) := by decide +kernel
theorem dL_law_561 : decode cL_law 561 = .ok (.iastore, 1) := by decide +kernel
theorem dL_law_562 : decode cL_law 562 = .ok (.sipush 10000, 3) := by decide +kernel
theorem dL_law_565 : decode cL_law 565 = .ok (.iload 20, 2) := by decide +kernel
theorem dL_law_567 : decode cL_law 567 = .ok (.imul, 1) := by decide +kernel
theorem dL_law_568 : decode cL_law 568 = .ok (.bipush 100, 2) := by decide +kernel
theorem dL_law_570 : decode cL_law 570 = .ok (.iload 19, 2) := by decide +kernel
theorem dL_law_572 : decode cL_law 572 = .ok (.iconst 1, 1) := by decide +kernel
theorem dL_law_573 : decode cL_law 573 = .ok (.iadd, 1) := by decide +kernel
theorem dL_law_574 : decode cL_law 574 = .ok (.imul, 1) := by decide +kernel
theorem dL_law_575 : decode cL_law 575 = .ok (.iadd, 1) := by decide +kernel
theorem dL_law_576 : decode cL_law 576 = .ok (.iload 18, 2) := by decide +kernel
theorem dL_law_578 : decode cL_law 578 = .ok (.iadd, 1) := by decide +kernel
theorem dL_law_579 : decode cL_law 579 = .ok (.iastore, 1) := by decide +kernel
theorem dL_law_580 : decode cL_law 580 = .ok (.iinc 17 1, 3) := by decide +kernel
theorem dL_law_583 : decode cL_law 583 = .ok (.goto (-232), 3) := by decide +kernel
theorem dL_law_586 : decode cL_law 586 = .ok (.goto 270, 3) := by decide +kernel
theorem dL_law_589 : decode cL_law 589 = .ok (.iload 16, 2) := by decide +kernel
theorem dL_law_591 : decode cL_law 591 = .ok (.bipush 8, 2) := by decide +kernel
theorem dL_law_593 : decode cL_law 593 = .ok (.if_icmp .ne 104, 3) := by decide +kernel
theorem dL_law_596 : decode cL_law 596 = .ok (.iload 15, 2) := by decide +kernel
theorem dL_law_598 : decode cL_law 598 = .ok (.iconst 4, 1) := by decide +kernel
theorem dL_law_599 : decode cL_law 599 = .ok (.ishr, 1) := by decide +kernel
theorem dL_law_600 : decode cL_law 600 = .ok (.aload_n 2, 1) := by decide +kernel
theorem dL_law_601 : decode cL_law 601 = .ok (.iconst 0, 1) := by decide +kernel
theorem dL_law_602 : decode cL_law 602 = .ok (.iaload, 1) := by decide +kernel
theorem dL_law_603 : decode cL_law 603 = .ok (.invokestatic 53, 3) := by decide +kernel
theorem dL_law_606 : decode cL_law 606 = .ok (.istore 17, 2) := by decide +kernel
theorem dL_law_608 : decode cL_law 608 = .ok (.iload 15, 2) := by decide +kernel
theorem dL_law_610 : decode cL_law 610 = .ok (.bipush 8, 2) := by decide +kernel
theorem dL_law_612 : decode cL_law 612 = .ok (.ishr, 1) := by decide +kernel
theorem dL_law_613 : decode cL_law 613 = .ok (.iconst 2, 1) := by decide +kernel
theorem dL_law_614 : decode cL_law 614 = .ok (.invokestatic 53, 3) := by decide +kernel
theorem dL_law_617 : decode cL_law 617 = .ok (.ifCond .ne 7, 3) := by decide +kernel
theorem dL_law_620 : decode cL_law 620 = .ok (.iconst 1, 1) := by decide +kernel
theorem dL_law_621 : decode cL_law 621 = .ok (.goto 4, 3) := by decide +kernel
theorem dL_law_624 : decode cL_law 624 = .ok (.iconst 0, 1) := by decide +kernel
theorem dL_law_625 : decode cL_law 625 = .ok (.istore 18, 2) := by decide +kernel
theorem dL_law_627 : decode cL_law 627 = .ok (.aload_n 2, 1) := by decide +kernel
theorem dL_law_628 : decode cL_law 628 = .ok (.iconst 3, 1) := by decide +kernel
theorem dL_law_629 : decode cL_law 629 = .ok (.iaload, 1) := by decide +kernel
theorem dL_law_630 : decode cL_law 630 = .ok (.iload 17, 2) := by decide +kernel
theorem dL_law_632 : decode cL_law 632 = .ok (.ishr, 1) := by decide +kernel
theorem dL_law_633 : decode cL_law 633 = .ok (.iconst 1, 1) := by decide +kernel
theorem dL_law_634 : decode cL_law 634 = .ok (.iand, 1) := by decide +kernel
theorem dL_law_635 : decode cL_law 635 = .ok (.iconst 1, 1) := by decide +kernel
theorem dL_law_636 : decode cL_law 636 = .ok (.if_icmp .ne 7, 3) := by decide +kernel
theorem dL_law_639 : decode cL_law 639 = .ok (.iconst 1, 1) := by decide +kernel
theorem dL_law_640 : decode cL_law 640 = .ok (.goto 4, 3) := by decide +kernel
theorem dL_law_643 : decode cL_law 643 = .ok (.iconst 0, 1) := by decide +kernel
theorem dL_law_644 : decode cL_law 644 = .ok (.istore 19, 2) := by decide +kernel
theorem dL_law_646 : decode cL_law 646 = .ok (.iload 19, 2) := by decide +kernel
theorem dL_law_648 : decode cL_law 648 = .ok (.iload 18, 2) := by decide +kernel
theorem dL_law_650 : decode cL_law 650 = .ok (.if_icmp .ne 13, 3) := by decide +kernel
theorem dL_law_653 : decode cL_law 653 = .ok (.aload_n 2, 1) := by decide +kernel
theorem dL_law_654 : decode cL_law 654 = .ok (.iconst 3, 1) := by decide +kernel
theorem dL_law_655 : decode cL_law 655 = .ok (.dup2, 1) := by decide +kernel
theorem dL_law_656 : decode cL_law 656 = .ok (.iaload, 1) := by decide +kernel
theorem dL_law_657 : decode cL_law 657 = .ok (.iconst 1, 1) := by decide +kernel
theorem dL_law_658 : decode cL_law 658 = .ok (.iload 17, 2) := by decide +kernel
theorem dL_law_660 : decode cL_law 660 = .ok (.ishl, 1) := by decide +kernel
theorem dL_law_661 : decode cL_law 661 = .ok (.ixor, 1) := by decide +kernel
theorem dL_law_662 : decode cL_law 662 = .ok (.iastore, 1) := by decide +kernel
theorem dL_law_663 : decode cL_law 663 = .ok (.aload_n 1, 1) := by decide +kernel
theorem dL_law_664 : decode cL_law 664 = .ok (.iload 17, 2) := by decide +kernel
theorem dL_law_666 : decode cL_law 666 = .ok (.iload 18, 2) := by decide +kernel
theorem dL_law_668 : decode cL_law 668 = .ok (.invokevirtual 95, 3) := by decide +kernel
theorem dL_law_671 : decode cL_law 671 = .ok (.iload 19, 2) := by decide +kernel
theorem dL_law_673 : decode cL_law 673 = .ok (.iload 18, 2) := by decide +kernel
theorem dL_law_675 : decode cL_law 675 = .ok (.if_icmp .ne 12, 3) := by decide +kernel
theorem dL_law_678 : decode cL_law 678 = .ok (.aload_n 2, 1) := by decide +kernel
theorem dL_law_679 : decode cL_law 679 = .ok (.iconst 3, 1) := by decide +kernel
theorem dL_law_680 : decode cL_law 680 = .ok (.iaload, 1) := by decide +kernel
theorem dL_law_681 : decode cL_law 681 = .ok (.invokestatic 99, 3) := by decide +kernel
theorem dL_law_684 : decode cL_law 684 = .ok (.goto 5, 3) := by decide +kernel
theorem dL_law_687 : decode cL_law 687 = .ok (.bipush (-5), 2) := by decide +kernel
theorem dL_law_689 : decode cL_law 689 = .ok (.if_icmp .eq 5, 3) := by decide +kernel
theorem dL_law_692 : decode cL_law 692 = .ok (.iconst 0, 1) := by decide +kernel
theorem dL_law_693 : decode cL_law 693 = .ok (.ireturn, 1) := by decide +kernel
theorem dL_law_694 : decode cL_law 694 = .ok (.goto 162, 3) := by decide +kernel
theorem dL_law_697 : decode cL_law 697 = .ok (.iload 16, 2) := by decide +kernel
theorem dL_law_699 : decode cL_law 699 = .ok (.bipush 9, 2) := by decide +kernel
theorem dL_law_701 : decode cL_law 701 = .ok (.if_icmp .ne 75, 3) := by decide +kernel
theorem dL_law_704 : decode cL_law 704 = .ok (.aload_n 2, 1) := by decide +kernel
theorem dL_law_705 : decode cL_law 705 = .ok (.iconst 2, 1) := by decide +kernel
theorem dL_law_706 : decode cL_law 706 = .ok (.iaload, 1) := by decide +kernel
theorem dL_law_707 : decode cL_law 707 = .ok (.ifCond .le 69, 3) := by decide +kernel
theorem dL_law_710 : decode cL_law 710 = .ok (.iload 15, 2) := by decide +kernel
theorem dL_law_712 : decode cL_law 712 = .ok (.iconst 4, 1) := by decide +kernel
theorem dL_law_713 : decode cL_law 713 = .ok (.ishr, 1) := by decide +kernel
theorem dL_law_714 : decode cL_law 714 = .ok (.aload_n 2, 1) := by decide +kernel
theorem dL_law_715 : decode cL_law 715 = .ok (.iconst 2, 1) := by decide +kernel
theorem dL_law_716 : decode cL_law 716 = .ok (.iaload, 1) := by decide +kernel
theorem dL_law_717 : decode cL_law 717 = .ok (.invokestatic 53, 3) := by decide +kernel
theorem dL_law_720 : decode cL_law 720 = .ok (.istore 17, 2) := by decide +kernel
theorem dL_law_722 : decode cL_law 722 = .ok (.iload 17, 2) := by decide +kernel
theorem dL_law_724 : decode cL_law 724 = .ok (.istore 18, 2) := by decide +kernel
theorem dL_law_726 : decode cL_law 726 = .ok (.iload 18, 2) := by decide +kernel
theorem dL_law_728 : decode cL_law 728 = .ok (.iconst 1, 1) := by decide +kernel
theorem dL_law_729 : decode cL_law 729 = .ok (.iadd, 1) := by decide +kernel
theorem dL_law_730 : decode cL_law 730 = .ok (.aload_n 2, 1) := by decide +kernel
theorem dL_law_731 : decode cL_law 731 = .ok (.iconst 2, 1) := by decide +kernel
theorem dL_law_732 : decode cL_law 732 = .ok (.iaload, 1) := by decide +kernel
theorem dL_law_733 : decode cL_law 733 = .ok (.if_icmp .ge 21, 3) := by decide +kernel
theorem dL_law_736 : decode cL_law 736 = .ok (.aload 5, 2) := by decide +kernel
theorem dL_law_738 : decode cL_law 738 = .ok (.iload 18, 2) := by decide +kernel
theorem dL_law_740 : decode cL_law 740 = .ok (.aload 5, 2) := by decide +kernel
theorem dL_law_742 : decode cL_law 742 = .ok (.iload 18, 2) := by decide +kernel
theorem dL_law_744 : decode cL_law 744 = .ok (.iconst 1, 1) := by decide +kernel
theorem dL_law_745 : decode cL_law 745 = .ok (.iadd, 1) := by decide +kernel
theorem dL_law_746 : decode cL_law 746 = .ok (.iaload, 1) := by decide +kernel
theorem dL_law_747 : decode cL_law 747 = .ok (.iastore, 1) := by decide +kernel
theorem dL_law_748 : decode cL_law 748 = .ok (.iinc 18 1, 3) := by decide +kernel
theorem dL_law_751 : decode cL_law 751 = .ok (.goto (-25), 3) := by decide +kernel
theorem dL_law_754 : decode cL_law 754 = .ok (.aload_n 1, 1) := by decide +kernel
theorem dL_law_755 : decode cL_law 755 = .ok (.iload 17, 2) := by decide +kernel
theorem dL_law_757 : decode cL_law 757 = .ok (.invokevirtual 102, 3) := by decide +kernel
theorem dL_law_760 : decode cL_law 760 = .ok (.aload_n 2, 1) := by decide +kernel
theorem dL_law_761 : decode cL_law 761 = .ok (.iconst 2, 1) := by decide +kernel
theorem dL_law_762 : decode cL_law 762 = .ok (.dup2, 1) := by decide +kernel
theorem dL_law_763 : decode cL_law 763 = .ok (.iaload, 1) := by decide +kernel
theorem dL_law_764 : decode cL_law 764 = .ok (.iconst 1, 1) := by decide +kernel
theorem dL_law_765 : decode cL_law 765 = .ok (.isub, 1) := by decide +kernel
theorem dL_law_766 : decode cL_law 766 = .ok (.dup_x2, 1) := by decide +kernel
theorem dL_law_767 : decode cL_law 767 = .ok (.iastore, 1) := by decide +kernel
theorem dL_law_768 : decode cL_law 768 = .ok (.if_icmp .eq 5, 3) := by decide +kernel
theorem dL_law_771 : decode cL_law 771 = .ok (.iconst 0, 1) := by decide +kernel
theorem dL_law_772 : decode cL_law 772 = .ok (.ireturn, 1) := by decide +kernel
theorem dL_law_773 : decode cL_law 773 = .ok (.goto 83, 3) := by decide +kernel
theorem dL_law_776 : decode cL_law 776 = .ok (.iconst 1, 1) := by decide +kernel
theorem dL_law_777 : decode cL_law 777 = .ok (.iload 15, 2) := by decide +kernel
theorem dL_law_779 : decode cL_law 779 = .ok (.iconst 4, 1) := by decide +kernel
theorem dL_law_780 : decode cL_law 780 = .ok (.ishr, 1) := by decide +kernel
theorem dL_law_781 : decode cL_law 781 = .ok (.bipush 6, 2) := by decide +kernel
theorem dL_law_783 : decode cL_law 783 = .ok (.invokestatic 53, 3) := by decide +kernel
theorem dL_law_786 : decode cL_law 786 = .ok (.iadd, 1) := by decide +kernel
theorem dL_law_787 : decode cL_law 787 = .ok (.istore 17, 2) := by decide +kernel
theorem dL_law_789 : decode cL_law 789 = .ok (.iconst 0, 1) := by decide +kernel
theorem dL_law_790 : decode cL_law 790 = .ok (.istore 18, 2) := by decide +kernel
theorem dL_law_792 : decode cL_law 792 = .ok (.aload_n 2, 1) := by decide +kernel
theorem dL_law_793 : decode cL_law 793 = .ok (.aload_n 3, 1) := by decide +kernel
theorem dL_law_794 : decode cL_law 794 = .ok (.aload 5, 2) := by decide +kernel
theorem dL_law_796 : decode cL_law 796 = .ok (.invokestatic 25, 3) := by decide +kernel
theorem dL_law_799 : decode cL_law 799 = .ok (.istore 19, 2) := by decide +kernel
theorem dL_law_801 : decode cL_law 801 = .ok (.iload 18, 2) := by decide +kernel
theorem dL_law_803 : decode cL_law 803 = .ok (.iload 17, 2) := by decide +kernel
theorem dL_law_805 : decode cL_law 805 = .ok (.if_icmp .ge 38, 3) := by decide +kernel
theorem dL_law_808 : decode cL_law 808 = .ok (.iload 19, 2) := by decide +kernel
theorem dL_law_810 : decode cL_law 810 = .ok (.ifCond .lt 33, 3) := by decide +kernel
theorem dL_law_813 : decode cL_law 813 = .ok (.iload 19, 2) := by decide +kernel
theorem dL_law_815 : decode cL_law 815 = .ok (.aload_n 2, 1) := by decide +kernel
theorem dL_law_816 : decode cL_law 816 = .ok (.aload_n 3, 1) := by decide +kernel
theorem dL_law_817 : decode cL_law 817 = .ok (.aload 4, 2) := by decide +kernel
theorem dL_law_819 : decode cL_law 819 = .ok (.aload 5, 2) := by decide +kernel
theorem dL_law_821 : decode cL_law 821 = .ok (.aload 6, 2) := by decide +kernel
theorem dL_law_823 : decode cL_law 823 = .ok (.aload 7, 2) := by decide +kernel
theorem dL_law_825 : decode cL_law 825 = .ok (.invokestatic 29, 3) := by decide +kernel
theorem dL_law_828 : decode cL_law 828 = .ok (.iinc 18 1, 3) := by decide +kernel
theorem dL_law_831 : decode cL_law 831 = .ok (.aload_n 2, 1) := by decide +kernel
theorem dL_law_832 : decode cL_law 832 = .ok (.aload_n 3, 1) := by decide +kernel
theorem dL_law_833 : decode cL_law 833 = .ok (.aload 5, 2) := by decide +kernel
theorem dL_law_835 : decode cL_law 835 = .ok (.invokestatic 25, 3) := by decide +kernel
theorem dL_law_838 : decode cL_law 838 = .ok (.istore 19, 2) := by decide +kernel
theorem dL_law_840 : decode cL_law 840 = .ok (.goto (-39), 3) := by decide +kernel
theorem dL_law_843 : decode cL_law 843 = .ok (.aload_n 1, 1) := by decide +kernel
theorem dL_law_844 : decode cL_law 844 = .ok (.iload 17, 2) := by decide +kernel
theorem dL_law_846 : decode cL_law 846 = .ok (.invokevirtual 105, 3) := by decide +kernel
theorem dL_law_849 : decode cL_law 849 = .ok (.iload 18, 2) := by decide +kernel
theorem dL_law_851 : decode cL_law 851 = .ok (.if_icmp .eq 5, 3) := by decide +kernel
theorem dL_law_854 : decode cL_law 854 = .ok (.iconst 0, 1) := by decide +kernel
theorem dL_law_855 : decode cL_law 855 = .ok (.ireturn, 1) := by decide +kernel
theorem dL_law_856 : decode cL_law 856 = .ok (.aload_n 1, 1) := by decide +kernel
theorem dL_law_857 : decode cL_law 857 = .ok (.iload 15, 2) := by decide +kernel
theorem dL_law_859 : decode cL_law 859 = .ok (.iconst 3, 1) := by decide +kernel
theorem dL_law_860 : decode cL_law 860 = .ok (.ishr, 1) := by decide +kernel
theorem dL_law_861 : decode cL_law 861 = .ok (.aload_n 2, 1) := by decide +kernel
theorem dL_law_862 : decode cL_law 862 = .ok (.aload_n 3, 1) := by decide +kernel
theorem dL_law_863 : decode cL_law 863 = .ok (.aload 4, 2) := by decide +kernel
theorem dL_law_865 : decode cL_law 865 = .ok (.aload 5, 2) := by decide +kernel
theorem dL_law_867 : decode cL_law 867 = .ok (.aload 6, 2) := by decide +kernel
theorem dL_law_869 : decode cL_law 869 = .ok (.aload 7, 2) := by decide +kernel
theorem dL_law_871 : decode cL_law 871 = .ok (.aload 8, 2) := by decide +kernel
theorem dL_law_873 : decode cL_law 873 = .ok (.aload 9, 2) := by decide +kernel
theorem dL_law_875 : decode cL_law 875 = .ok (.aload 10, 2) := by decide +kernel
theorem dL_law_877 : decode cL_law 877 = .ok (.aload 11, 2) := by decide +kernel
theorem dL_law_879 : decode cL_law 879 = .ok (.aload 12, 2) := by decide +kernel
theorem dL_law_881 : decode cL_law 881 = .ok (.aload 13, 2) := by decide +kernel
theorem dL_law_883 : decode cL_law 883 = .ok (.invokestatic 107, 3) := by decide +kernel
theorem dL_law_886 : decode cL_law 886 = .ok (.ifCond .ne 5, 3) := by decide +kernel
theorem dL_law_889 : decode cL_law 889 = .ok (.iconst 0, 1) := by decide +kernel
theorem dL_law_890 : decode cL_law 890 = .ok (.ireturn, 1) := by decide +kernel
theorem dL_law_891 : decode cL_law 891 = .ok (.iinc 14 1, 3) := by decide +kernel
theorem dL_law_894 : decode cL_law 894 = .ok (.goto (-813), 3) := by decide +kernel
theorem dL_law_897 : decode cL_law 897 = .ok (.iconst 1, 1) := by decide +kernel
theorem dL_law_898 : decode cL_law 898 = .ok (.ireturn, 1) := by decide +kernel
end
