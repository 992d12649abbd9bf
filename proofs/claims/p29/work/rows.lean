section
/-- a private method of a class that the tables say can be made, by its rows of tables_1 -/
def lw_okq (q : MethodName × Nat) : Prop := (q.1.cls ≠ "java/lang/invoke/MethodHandle" ∧ q.1.cls ≠ "java/lang/invoke/VarHandle") ∧ Cond.instantiable q.1.cls q.2 ∈ tables_1 ∧ Cond.privateMethod q.1 ∈ tables_1 ∧ Cond.instanceMethod q.1 ∈ tables_1
theorem lw_p0 : lw_okq (⟨"FiveShogi$Rules", "pawnColumns", "(I)I"⟩, 6) := ⟨⟨by decide +kernel, by decide +kernel⟩, List.mem_of_getElem? (i := 61) (by decide +kernel), List.mem_of_getElem? (i := 183) (by decide +kernel), List.mem_of_getElem? (i := 184) (by decide +kernel)⟩
theorem lw_p1 : lw_okq (⟨"FiveShogi$Rules", "safeDrops", "()I"⟩, 6) := ⟨⟨by decide +kernel, by decide +kernel⟩, List.mem_of_getElem? (i := 61) (by decide +kernel), List.mem_of_getElem? (i := 191) (by decide +kernel), List.mem_of_getElem? (i := 192) (by decide +kernel)⟩
theorem lw_p2 : lw_okq (⟨"FiveShogi$Rules", "withoutMates", "(I)I"⟩, 6) := ⟨⟨by decide +kernel, by decide +kernel⟩, List.mem_of_getElem? (i := 61) (by decide +kernel), List.mem_of_getElem? (i := 211) (by decide +kernel), List.mem_of_getElem? (i := 212) (by decide +kernel)⟩
theorem lw_p3 : lw_okq (⟨"FiveShogi$Position", "changeHandForTaken", "(III)V"⟩, 2) := ⟨⟨by decide +kernel, by decide +kernel⟩, List.mem_of_getElem? (i := 17) (by decide +kernel), List.mem_of_getElem? (i := 234) (by decide +kernel), List.mem_of_getElem? (i := 235) (by decide +kernel)⟩
theorem lw_p4 : lw_okq (⟨"FiveShogi$Rules", "canReply", "()Z"⟩, 6) := ⟨⟨by decide +kernel, by decide +kernel⟩, List.mem_of_getElem? (i := 61) (by decide +kernel), List.mem_of_getElem? (i := 242) (by decide +kernel), List.mem_of_getElem? (i := 243) (by decide +kernel)⟩
theorem lw_p5 : lw_okq (⟨"FiveShogi$Rules", "safeTargets", "(I)I"⟩, 6) := ⟨⟨by decide +kernel, by decide +kernel⟩, List.mem_of_getElem? (i := 61) (by decide +kernel), List.mem_of_getElem? (i := 247) (by decide +kernel), List.mem_of_getElem? (i := 248) (by decide +kernel)⟩
theorem lw_p6 : lw_okq (⟨"FiveShogi$Rules", "canEnter", "(II)Z"⟩, 6) := ⟨⟨by decide +kernel, by decide +kernel⟩, List.mem_of_getElem? (i := 61) (by decide +kernel), List.mem_of_getElem? (i := 255) (by decide +kernel), List.mem_of_getElem? (i := 256) (by decide +kernel)⟩
theorem lw_p7 : lw_okq (⟨"FiveShogi$Rules", "openToDrops", "(II)I"⟩, 6) := ⟨⟨by decide +kernel, by decide +kernel⟩, List.mem_of_getElem? (i := 61) (by decide +kernel), List.mem_of_getElem? (i := 260) (by decide +kernel), List.mem_of_getElem? (i := 261) (by decide +kernel)⟩
theorem lw_p8 : lw_okq (⟨"FiveShogi$Rules", "promotingSquares", "(I)I"⟩, 6) := ⟨⟨by decide +kernel, by decide +kernel⟩, List.mem_of_getElem? (i := 61) (by decide +kernel), List.mem_of_getElem? (i := 272) (by decide +kernel), List.mem_of_getElem? (i := 273) (by decide +kernel)⟩
theorem lw_p9 : lw_okq (⟨"FiveShogi$Rules", "forcingSquares", "(I)I"⟩, 6) := ⟨⟨by decide +kernel, by decide +kernel⟩, List.mem_of_getElem? (i := 61) (by decide +kernel), List.mem_of_getElem? (i := 277) (by decide +kernel), List.mem_of_getElem? (i := 278) (by decide +kernel)⟩
theorem lw_p10 : lw_okq (⟨"FiveShogi", "recordChange", "()V"⟩, 7) := ⟨⟨by decide +kernel, by decide +kernel⟩, List.mem_of_getElem? (i := 9) (by decide +kernel), List.mem_of_getElem? (i := 281) (by decide +kernel), List.mem_of_getElem? (i := 282) (by decide +kernel)⟩
theorem lw_p11 : lw_okq (⟨"FiveShogi$Rules", "addPlays", "(II)V"⟩, 6) := ⟨⟨by decide +kernel, by decide +kernel⟩, List.mem_of_getElem? (i := 61) (by decide +kernel), List.mem_of_getElem? (i := 422) (by decide +kernel), List.mem_of_getElem? (i := 423) (by decide +kernel)⟩
def lw_privs_1 : List (MethodName × Nat) := [(⟨"FiveShogi$Rules", "pawnColumns", "(I)I"⟩, 6), (⟨"FiveShogi$Rules", "safeDrops", "()I"⟩, 6), (⟨"FiveShogi$Rules", "withoutMates", "(I)I"⟩, 6), (⟨"FiveShogi$Position", "changeHandForTaken", "(III)V"⟩, 2), (⟨"FiveShogi$Rules", "canReply", "()Z"⟩, 6), (⟨"FiveShogi$Rules", "safeTargets", "(I)I"⟩, 6), (⟨"FiveShogi$Rules", "canEnter", "(II)Z"⟩, 6), (⟨"FiveShogi$Rules", "openToDrops", "(II)I"⟩, 6), (⟨"FiveShogi$Rules", "promotingSquares", "(I)I"⟩, 6), (⟨"FiveShogi$Rules", "forcingSquares", "(I)I"⟩, 6), (⟨"FiveShogi", "recordChange", "()V"⟩, 7), (⟨"FiveShogi$Rules", "addPlays", "(II)V"⟩, 6)]
theorem lw_r1 : ∀ q ∈ lw_privs_1, lw_okq q := List.forall_mem_cons.mpr ⟨lw_p0, List.forall_mem_cons.mpr ⟨lw_p1, List.forall_mem_cons.mpr ⟨lw_p2, List.forall_mem_cons.mpr ⟨lw_p3, List.forall_mem_cons.mpr ⟨lw_p4, List.forall_mem_cons.mpr ⟨lw_p5, List.forall_mem_cons.mpr ⟨lw_p6, List.forall_mem_cons.mpr ⟨lw_p7, List.forall_mem_cons.mpr ⟨lw_p8, List.forall_mem_cons.mpr ⟨lw_p9, List.forall_mem_cons.mpr ⟨lw_p10, List.forall_mem_cons.mpr ⟨lw_p11, fun _ h => absurd h List.not_mem_nil⟩⟩⟩⟩⟩⟩⟩⟩⟩⟩⟩⟩
def lw_privs : List (MethodName × Nat) := lw_privs_1
def lw_tbl : List Cond := k2_sels lw_privs ++ tables_1
theorem lw_privs_ok : ∀ q ∈ lw_privs, lw_okq q := lw_r1
end
section
/-! ===== BEGIN words of one list among another's, by their places ===== -/
theorem goodIn_r {big : List Cond} (ws : List Cond) (ps : List Nat) (hp : ws = ps.filterMap (fun i => big[i]?)) (h : ws.all goodWord = true) : GoodIn big ws := by
  intro w hw
  have h1 := List.all_eq_true.mp h w hw
  rw [hp] at hw
  obtain ⟨i, -, hi⟩ := List.mem_filterMap.mp hw
  have hm : w ∈ big := by first | exact List.mem_of_getElem? hi | exact List.getElem?_mem hi
  exact ⟨hm, good_of_word h1⟩
theorem goodIn_app {big a b : List Cond} (ha : GoodIn big a) (hb : GoodIn big b) : GoodIn big (a ++ b) := fun w h => (List.mem_append.mp h).elim (ha w) (hb w)
theorem goodIn_ca {big a b : List Cond} {c : Cond} (ha : GoodIn big (c :: a)) (hb : GoodIn big b) : GoodIn big (c :: (a ++ b)) := fun w h => (List.mem_cons.mp h).elim (fun e => ha w (List.mem_cons.mpr (Or.inl e))) (fun h => (List.mem_append.mp h).elim (fun h => ha w (List.mem_cons.mpr (Or.inr h))) (hb w))
theorem goodIn_sub {big ws : List Cond} (hm : ∀ w ∈ ws, w ∈ big) (h : ws.all goodWord = true) : GoodIn big ws := fun w hw => ⟨hm w hw, good_of_word (List.all_eq_true.mp h w hw)⟩
/-! ===== END ===== -/

/-! ===== BEGIN printed: names, fields, word lists, decode rows ===== -/
def RX0 : String := "FiveShogi$History"
def TX0 : u_T := fun k => match k with
  | 0 => ("FiveShogi$History", "states", "[I", true)
  | _ => ("FiveShogi$History", "size", "I", false)
def tyX0 : Nat → FieldType := fun k => match k with
  | 0 => .array .int
  | _ => .int
abbrev wsX00 : List Cond := u_ws RX0 TX0 2
theorem nmX0 : ∀ a, a < 2 → ∀ b, b < 2 → a ≠ b → (TX0 a).2.1 ≠ (TX0 b).2.1 := by decide +kernel
theorem tyX0_ok : ∀ k, k < 2 → parseFieldDescriptor (TX0 k).2.2.1 = some (tyX0 k) := by decide +kernel
abbrev cX0_init : ByteArray := prog_2_method_1_code
def yX0_init : MethodName := ⟨RX0, "<init>", "()V"⟩
abbrev cX0_size : ByteArray := prog_2_method_2_code
def yX0_size : MethodName := ⟨RX0, "size", "()I"⟩
abbrev cX0_push : ByteArray := prog_2_method_3_code
def yX0_push : MethodName := ⟨RX0, "push", "([I)V"⟩
abbrev cX0_popInto : ByteArray := prog_2_method_4_code
def yX0_popInto : MethodName := ⟨RX0, "popInto", "(LFiveShogi$Position;)V"⟩
def RX1 : String := "FiveShogi$PlayText"
def TX1 : u_T := fun k => match k with
  | 0 => ("FiveShogi$PlayText", "signs", "[C", true)
  | 1 => ("FiveShogi$PlayText", "size", "I", false)
  | 2 => ("FiveShogi$PlayText", "plays", "[I", true)
  | 3 => ("FiveShogi$PlayText", "playsRead", "I", false)
  | _ => ("FiveShogi$PlayText", "cursor", "I", false)
def tyX1 : Nat → FieldType := fun k => match k with
  | 0 => .array .char
  | 1 => .int
  | 2 => .array .int
  | 3 => .int
  | _ => .int
abbrev wsX10 : List Cond := u_ws RX1 TX1 5
theorem nmX1 : ∀ a, a < 5 → ∀ b, b < 5 → a ≠ b → (TX1 a).2.1 ≠ (TX1 b).2.1 := by decide +kernel
theorem tyX1_ok : ∀ k, k < 5 → parseFieldDescriptor (TX1 k).2.2.1 = some (tyX1 k) := by decide +kernel
abbrev cX1_init : ByteArray := prog_3_method_1_code
def yX1_init : MethodName := ⟨RX1, "<init>", "()V"⟩
abbrev cX1_size : ByteArray := prog_3_method_2_code
def yX1_size : MethodName := ⟨RX1, "size", "()I"⟩
def RX2 : String := "FiveShogi$Position"
def TX2 : u_T := fun k => match k with
  | 0 => ("FiveShogi$Position", "state", "[I", true)
  | _ => ("FiveShogi$Position", "beside", "[I", true)
def tyX2 : Nat → FieldType := fun k => match k with
  | 0 => .array .int
  | _ => .array .int
abbrev wsX20 : List Cond := u_ws RX2 TX2 2
theorem nmX2 : ∀ a, a < 2 → ∀ b, b < 2 → a ≠ b → (TX2 a).2.1 ≠ (TX2 b).2.1 := by decide +kernel
theorem tyX2_ok : ∀ k, k < 2 → parseFieldDescriptor (TX2 k).2.2.1 = some (tyX2 k) := by decide +kernel
abbrev cX2_init : ByteArray := prog_4_method_1_code
def yX2_init : MethodName := ⟨RX2, "<init>", "()V"⟩
abbrev cX2_copyTo : ByteArray := prog_4_method_2_code
def yX2_copyTo : MethodName := ⟨RX2, "copyTo", "([II)V"⟩
abbrev cX2_copyFrom : ByteArray := prog_4_method_3_code
def yX2_copyFrom : MethodName := ⟨RX2, "copyFrom", "([II)V"⟩
abbrev cX2_sideToPlay : ByteArray := prog_4_method_4_code
def yX2_sideToPlay : MethodName := ⟨RX2, "sideToPlay", "()I"⟩
abbrev cX2_setSideToPlay : ByteArray := prog_4_method_5_code
def yX2_setSideToPlay : MethodName := ⟨RX2, "setSideToPlay", "(I)V"⟩
abbrev cX2_playsMade : ByteArray := prog_4_method_6_code
def yX2_playsMade : MethodName := ⟨RX2, "playsMade", "()I"⟩
abbrev cX2_menTaken : ByteArray := prog_4_method_7_code
def yX2_menTaken : MethodName := ⟨RX2, "menTaken", "()I"⟩
abbrev cX2_menPromoted : ByteArray := prog_4_method_8_code
def yX2_menPromoted : MethodName := ⟨RX2, "menPromoted", "()I"⟩
abbrev cX2_menDropped : ByteArray := prog_4_method_9_code
def yX2_menDropped : MethodName := ⟨RX2, "menDropped", "()I"⟩
abbrev cX2_manOn : ByteArray := prog_4_method_10_code
def yX2_manOn : MethodName := ⟨RX2, "manOn", "(I)I"⟩
abbrev cX2_kingOf : ByteArray := prog_4_method_11_code
def yX2_kingOf : MethodName := ⟨RX2, "kingOf", "(I)I"⟩
abbrev cX2_place : ByteArray := prog_4_method_12_code
def yX2_place : MethodName := ⟨RX2, "place", "(II)V"⟩
abbrev cX2_removeAllMen : ByteArray := prog_4_method_13_code
def yX2_removeAllMen : MethodName := ⟨RX2, "removeAllMen", "()V"⟩
abbrev cX2_inHand : ByteArray := prog_4_method_14_code
def yX2_inHand : MethodName := ⟨RX2, "inHand", "(II)I"⟩
abbrev cX2_setInHand : ByteArray := prog_4_method_15_code
def yX2_setInHand : MethodName := ⟨RX2, "setInHand", "(III)V"⟩
abbrev cX2_menOnBoard : ByteArray := prog_4_method_16_code
def yX2_menOnBoard : MethodName := ⟨RX2, "menOnBoard", "()I"⟩
abbrev cX2_menInHand : ByteArray := prog_4_method_17_code
def yX2_menInHand : MethodName := ⟨RX2, "menInHand", "(I)I"⟩
abbrev cX2_worthFor : ByteArray := prog_4_method_18_code
def yX2_worthFor : MethodName := ⟨RX2, "worthFor", "(I)I"⟩
abbrev cX2_attackedFrom : ByteArray := prog_4_method_19_code
def yX2_attackedFrom : MethodName := ⟨RX2, "attackedFrom", "(I)I"⟩
abbrev cX2_countAttackers : ByteArray := prog_4_method_20_code
def yX2_countAttackers : MethodName := ⟨RX2, "countAttackers", "(II)I"⟩
abbrev cX2_play : ByteArray := prog_4_method_21_code
def yX2_play : MethodName := ⟨RX2, "play", "(I)I"⟩
abbrev cX2_apply : ByteArray := prog_4_method_22_code
def yX2_apply : MethodName := ⟨RX2, "apply", "(I)I"⟩
abbrev cX2_takeBack : ByteArray := prog_4_method_23_code
def yX2_takeBack : MethodName := ⟨RX2, "takeBack", "(II)V"⟩
abbrev cX2_changeHandForTaken : ByteArray := prog_4_method_24_code
def yX2_changeHandForTaken : MethodName := ⟨RX2, "changeHandForTaken", "(III)V"⟩
def RX3 : String := "FiveShogi$Rules"
def TX3 : u_T := fun k => match k with
  | 0 => ("FiveShogi$Rules", "position", "LFiveShogi$Position;", true)
  | 1 => ("FiveShogi$Rules", "plainMoves", "[I", true)
  | 2 => ("FiveShogi$Rules", "promotedMoves", "[I", true)
  | 3 => ("FiveShogi$Rules", "kindDrops", "[I", true)
  | 4 => ("FiveShogi$Rules", "list", "[I", true)
  | _ => ("FiveShogi$Rules", "listSize", "I", false)
def tyX3 : Nat → FieldType := fun k => match k with
  | 0 => .object "FiveShogi$Position"
  | 1 => .array .int
  | 2 => .array .int
  | 3 => .array .int
  | 4 => .array .int
  | _ => .int
abbrev wsX30 : List Cond := u_ws RX3 TX3 6
theorem nmX3 : ∀ a, a < 6 → ∀ b, b < 6 → a ≠ b → (TX3 a).2.1 ≠ (TX3 b).2.1 := by decide +kernel
theorem tyX3_ok : ∀ k, k < 6 → parseFieldDescriptor (TX3 k).2.2.1 = some (tyX3 k) := by decide +kernel
abbrev cX3_init : ByteArray := prog_5_method_1_code
def yX3_init : MethodName := ⟨RX3, "<init>", "(LFiveShogi$Position;)V"⟩
abbrev cX3_isInCheck : ByteArray := prog_5_method_2_code
def yX3_isInCheck : MethodName := ⟨RX3, "isInCheck", "()Z"⟩
abbrev cX3_isMated : ByteArray := prog_5_method_3_code
def yX3_isMated : MethodName := ⟨RX3, "isMated", "()Z"⟩
abbrev cX3_allows : ByteArray := prog_5_method_4_code
def yX3_allows : MethodName := ⟨RX3, "allows", "(I)Z"⟩
abbrev cX3_whyNoMove : ByteArray := prog_5_method_5_code
def yX3_whyNoMove : MethodName := ⟨RX3, "whyNoMove", "(IIZ)I"⟩
abbrev cX3_whyNoDrop : ByteArray := prog_5_method_6_code
def yX3_whyNoDrop : MethodName := ⟨RX3, "whyNoDrop", "(II)I"⟩
abbrev cX3_listPlays : ByteArray := prog_5_method_7_code
def yX3_listPlays : MethodName := ⟨RX3, "listPlays", "()I"⟩
abbrev cX3_listed : ByteArray := prog_5_method_8_code
def yX3_listed : MethodName := ⟨RX3, "listed", "(I)I"⟩
abbrev cX3_addPlays : ByteArray := prog_5_method_9_code
def yX3_addPlays : MethodName := ⟨RX3, "addPlays", "(II)V"⟩
abbrev cX3_findPlays : ByteArray := prog_5_method_10_code
def yX3_findPlays : MethodName := ⟨RX3, "findPlays", "()I"⟩
abbrev cX3_dropSquares : ByteArray := prog_5_method_11_code
def yX3_dropSquares : MethodName := ⟨RX3, "dropSquares", "(I)I"⟩
abbrev cX3_canEnter : ByteArray := prog_5_method_12_code
def yX3_canEnter : MethodName := ⟨RX3, "canEnter", "(II)Z"⟩
abbrev cX3_promotingSquares : ByteArray := prog_5_method_13_code
def yX3_promotingSquares : MethodName := ⟨RX3, "promotingSquares", "(I)I"⟩
abbrev cX3_forcingSquares : ByteArray := prog_5_method_14_code
def yX3_forcingSquares : MethodName := ⟨RX3, "forcingSquares", "(I)I"⟩
abbrev cX3_safeTargets : ByteArray := prog_5_method_15_code
def yX3_safeTargets : MethodName := ⟨RX3, "safeTargets", "(I)I"⟩
abbrev cX3_safeDrops : ByteArray := prog_5_method_16_code
def yX3_safeDrops : MethodName := ⟨RX3, "safeDrops", "()I"⟩
abbrev cX3_openToDrops : ByteArray := prog_5_method_17_code
def yX3_openToDrops : MethodName := ⟨RX3, "openToDrops", "(II)I"⟩
abbrev cX3_pawnColumns : ByteArray := prog_5_method_18_code
def yX3_pawnColumns : MethodName := ⟨RX3, "pawnColumns", "(I)I"⟩
abbrev cX3_withoutMates : ByteArray := prog_5_method_19_code
def yX3_withoutMates : MethodName := ⟨RX3, "withoutMates", "(I)I"⟩
abbrev cX3_canReply : ByteArray := prog_5_method_20_code
def yX3_canReply : MethodName := ⟨RX3, "canReply", "()Z"⟩
def RX4 : String := "FiveShogi"
def TX4 : u_T := fun k => match k with
  | 0 => ("FiveShogi", "position", "LFiveShogi$Position;", true)
  | 1 => ("FiveShogi", "rules", "LFiveShogi$Rules;", true)
  | 2 => ("FiveShogi", "history", "LFiveShogi$History;", true)
  | 3 => ("FiveShogi", "text", "LFiveShogi$PlayText;", true)
  | 4 => ("FiveShogi", "before", "[I", true)
  | 5 => ("FiveShogi", "snapshot", "[I", true)
  | _ => ("FiveShogi", "hasSnapshot", "Z", false)
def tyX4 : Nat → FieldType := fun k => match k with
  | 0 => .object "FiveShogi$Position"
  | 1 => .object "FiveShogi$Rules"
  | 2 => .object "FiveShogi$History"
  | 3 => .object "FiveShogi$PlayText"
  | 4 => .array .int
  | 5 => .array .int
  | _ => .boolean
abbrev wsX40 : List Cond := u_ws RX4 TX4 7
theorem nmX4 : ∀ a, a < 7 → ∀ b, b < 7 → a ≠ b → (TX4 a).2.1 ≠ (TX4 b).2.1 := by decide +kernel
theorem tyX4_ok : ∀ k, k < 7 → parseFieldDescriptor (TX4 k).2.2.1 = some (tyX4 k) := by decide +kernel
abbrev cX4_init : ByteArray := prog_1_method_1_code
def yX4_init : MethodName := ⟨RX4, "<init>", "()V"⟩
abbrev cX4_make : ByteArray := prog_1_method_4_code
def yX4_make : MethodName := ⟨RX4, "make", "(I)I"⟩
abbrev cX4_put : ByteArray := prog_1_method_5_code
def yX4_put : MethodName := ⟨RX4, "put", "(II)I"⟩
abbrev cX4_takeOff : ByteArray := prog_1_method_6_code
def yX4_takeOff : MethodName := ⟨RX4, "takeOff", "(I)I"⟩
abbrev cX4_setHand : ByteArray := prog_1_method_7_code
def yX4_setHand : MethodName := ⟨RX4, "setHand", "(III)I"⟩
abbrev cX4_setSide : ByteArray := prog_1_method_9_code
def yX4_setSide : MethodName := ⟨RX4, "setSide", "(I)I"⟩
abbrev cX4_undo : ByteArray := prog_1_method_13_code
def yX4_undo : MethodName := ⟨RX4, "undo", "()I"⟩
abbrev cX4_restore : ByteArray := prog_1_method_15_code
def yX4_restore : MethodName := ⟨RX4, "restore", "()I"⟩
abbrev cX4_man : ByteArray := prog_1_method_16_code
def yX4_man : MethodName := ⟨RX4, "man", "(I)I"⟩
abbrev cX4_hand : ByteArray := prog_1_method_17_code
def yX4_hand : MethodName := ⟨RX4, "hand", "(II)I"⟩
abbrev cX4_attackers : ByteArray := prog_1_method_18_code
def yX4_attackers : MethodName := ⟨RX4, "attackers", "(II)I"⟩
abbrev cX4_attacked : ByteArray := prog_1_method_19_code
def yX4_attacked : MethodName := ⟨RX4, "attacked", "(I)I"⟩
abbrev cX4_total : ByteArray := prog_1_method_20_code
def yX4_total : MethodName := ⟨RX4, "total", "(I)I"⟩
abbrev cX4_worth : ByteArray := prog_1_method_21_code
def yX4_worth : MethodName := ⟨RX4, "worth", "(I)I"⟩
abbrev cX4_dropReason : ByteArray := prog_1_method_23_code
def yX4_dropReason : MethodName := ⟨RX4, "dropReason", "(II)I"⟩
abbrev cX4_playAt : ByteArray := prog_1_method_24_code
def yX4_playAt : MethodName := ⟨RX4, "playAt", "(I)I"⟩
abbrev cX4_drops : ByteArray := prog_1_method_25_code
def yX4_drops : MethodName := ⟨RX4, "drops", "(I)I"⟩
abbrev cX4_mate : ByteArray := prog_1_method_26_code
def yX4_mate : MethodName := ⟨RX4, "mate", "()I"⟩
abbrev cX4_tightest : ByteArray := prog_1_method_27_code
def yX4_tightest : MethodName := ⟨RX4, "tightest", "()I"⟩
abbrev cX4_recordChange : ByteArray := prog_1_method_28_code
def yX4_recordChange : MethodName := ⟨RX4, "recordChange", "()V"⟩
abbrev cX4_asNumber : ByteArray := prog_1_method_29_code
def yX4_asNumber : MethodName := ⟨RX4, "asNumber", "(Z)I"⟩
abbrev cX4_isSquare : ByteArray := prog_1_method_30_code
def yX4_isSquare : MethodName := ⟨RX4, "isSquare", "(I)Z"⟩
abbrev cX4_isSide : ByteArray := prog_1_method_31_code
def yX4_isSide : MethodName := ⟨RX4, "isSide", "(I)Z"⟩
abbrev cX4_isMan : ByteArray := prog_1_method_32_code
def yX4_isMan : MethodName := ⟨RX4, "isMan", "(I)Z"⟩
abbrev cX4_isHandKind : ByteArray := prog_1_method_33_code
def yX4_isHandKind : MethodName := ⟨RX4, "isHandKind", "(I)Z"⟩
abbrev cX4_sideOf : ByteArray := prog_1_method_34_code
def yX4_sideOf : MethodName := ⟨RX4, "sideOf", "(I)I"⟩
abbrev cX4_kindOf : ByteArray := prog_1_method_35_code
def yX4_kindOf : MethodName := ⟨RX4, "kindOf", "(I)I"⟩
abbrev cX4_manOf : ByteArray := prog_1_method_36_code
def yX4_manOf : MethodName := ⟨RX4, "manOf", "(II)I"⟩
abbrev cX4_bit : ByteArray := prog_1_method_37_code
def yX4_bit : MethodName := ⟨RX4, "bit", "(I)I"⟩
abbrev cX4_has : ByteArray := prog_1_method_38_code
def yX4_has : MethodName := ⟨RX4, "has", "(II)Z"⟩
abbrev cX4_lastRow : ByteArray := prog_1_method_39_code
def yX4_lastRow : MethodName := ⟨RX4, "lastRow", "(I)I"⟩
abbrev cX4_moveNumber : ByteArray := prog_1_method_40_code
def yX4_moveNumber : MethodName := ⟨RX4, "moveNumber", "(IIZ)I"⟩
abbrev cX4_dropNumber : ByteArray := prog_1_method_41_code
def yX4_dropNumber : MethodName := ⟨RX4, "dropNumber", "(II)I"⟩
abbrev cX4_squareBeside : ByteArray := prog_1_method_42_code
def yX4_squareBeside : MethodName := ⟨RX4, "squareBeside", "(II)I"⟩
def RX5 : String := "FiveShogiModel"
def TX5 : u_T := fun k => match k with
  | _ => ("", "", "", false)
def tyX5 : Nat → FieldType := fun k => match k with
  | _ => .int
abbrev wsX50 : List Cond := u_ws RX5 TX5 0
theorem nmX5 : ∀ a, a < 0 → ∀ b, b < 0 → a ≠ b → (TX5 a).2.1 ≠ (TX5 b).2.1 := by decide +kernel
theorem tyX5_ok : ∀ k, k < 0 → parseFieldDescriptor (TX5 k).2.2.1 = some (tyX5 k) := by decide +kernel
def RJ6 : String := "java/lang/Integer"
def TJ6 : u_T := fun k => match k with
  | _ => ("", "", "", false)
def tyJ6 : Nat → FieldType := fun k => match k with
  | _ => .int
abbrev wsJ60 : List Cond := u_ws RJ6 TJ6 0
theorem nmJ6 : ∀ a, a < 0 → ∀ b, b < 0 → a ≠ b → (TJ6 a).2.1 ≠ (TJ6 b).2.1 := by decide +kernel
theorem tyJ6_ok : ∀ k, k < 0 → parseFieldDescriptor (TJ6 k).2.2.1 = some (tyJ6 k) := by decide +kernel
abbrev cJ6_bitCount_0f7a4 : ByteArray := prog_8_method_49_code
def yJ6_bitCount_0f7a4 : MethodName := ⟨RJ6, "bitCount", "(I)I"⟩
def RJ10 : String := "java/lang/System"
def TJ10 : u_T := fun k => match k with
  | _ => ("", "", "", false)
def tyJ10 : Nat → FieldType := fun k => match k with
  | _ => .int
abbrev wsJ100 : List Cond := u_ws RJ10 TJ10 0
theorem nmJ10 : ∀ a, a < 0 → ∀ b, b < 0 → a ≠ b → (TJ10 a).2.1 ≠ (TJ10 b).2.1 := by decide +kernel
theorem tyJ10_ok : ∀ k, k < 0 → parseFieldDescriptor (TJ10 k).2.2.1 = some (tyJ10 k) := by decide +kernel
def RL : String := "FiveShogiLaw"
abbrev cL_cell : ByteArray := method_2_code
def yL_cell : MethodName := ⟨RL, "cell", "([II)I"⟩
abbrev cL_low : ByteArray := method_3_code
def yL_low : MethodName := ⟨RL, "low", "(II)I"⟩
abbrev cL_worth : ByteArray := method_4_code
def yL_worth : MethodName := ⟨RL, "worth", "(I)I"⟩
abbrev cL_men : ByteArray := method_5_code
def yL_men : MethodName := ⟨RL, "men", "(LFiveShogi;)I"⟩
abbrev cL_king : ByteArray := method_6_code
def yL_king : MethodName := ⟨RL, "king", "(LFiveShogi;I)I"⟩
abbrev cL_isChecked : ByteArray := method_7_code
def yL_isChecked : MethodName := ⟨RL, "isChecked", "(LFiveShogi;I)Z"⟩
abbrev cL_areMen : ByteArray := method_8_code
def yL_areMen : MethodName := ⟨RL, "areMen", "(LFiveShogi;)Z"⟩
abbrev cL_areAttacks : ByteArray := method_9_code
def yL_areAttacks : MethodName := ⟨RL, "areAttacks", "(LFiveShogi;)Z"⟩
abbrev cL_areDrops : ByteArray := method_10_code
def yL_areDrops : MethodName := ⟨RL, "areDrops", "(LFiveShogi;)Z"⟩
abbrev cL_arePlays : ByteArray := method_11_code
def yL_arePlays : MethodName := ⟨RL, "arePlays", "(LFiveShogi;)Z"⟩
abbrev cL_does : ByteArray := method_12_code
def yL_does : MethodName := ⟨RL, "does", "(LFiveShogi;I)Z"⟩
abbrev cL_law : ByteArray := code
def yL_law : MethodName := ⟨RL, "law", "([I)Z"⟩
def wsX0_init : List Cond := .code yX0_init cX0_init 1 none :: ([.methodLink RX0 1 objectInit, .instanceMethod objectInit, .code objectInit ⟨#[0xb1]⟩ 1 none, .arrayClass .int, .fieldLink RX0 11 "FiveShogi$History" "states" "[I", .fieldLink RX0 15 "FiveShogi$History" "size" "I"] ++ wsX00)
def wsX0_size : List Cond := .code yX0_size cX0_size 1 (some .int) :: ([.fieldLink RX0 15 "FiveShogi$History" "size" "I"] ++ wsX00)
def wsX0_push : List Cond := .code yX0_push cX0_push 2 none :: ([.fieldLink RX0 15 "FiveShogi$History" "size" "I", .fieldLink RX0 11 "FiveShogi$History" "states" "[I", .methodLink RX0 19 arraycopyName, .native arraycopyName, .static arraycopyName, .initialized "java/lang/System"] ++ wsX00)
def wsX2_copyFrom : List Cond := .code yX2_copyFrom cX2_copyFrom 3 none :: ([.fieldLink RX2 11 "FiveShogi$Position" "state" "[I", .methodLink RX2 32 arraycopyName, .native arraycopyName, .static arraycopyName, .initialized "java/lang/System"] ++ wsX20)
def wsX0_popInto : List Cond := .code yX0_popInto cX0_popInto 2 none :: ([.fieldLink RX0 15 "FiveShogi$History" "size" "I", .fieldLink RX0 11 "FiveShogi$History" "states" "[I", .methodLink RX0 25 yX2_copyFrom, .instanceMethod yX2_copyFrom, .selects RX2 yX2_copyFrom yX2_copyFrom, .initialized RX2, .code yX2_copyFrom cX2_copyFrom 3 none, .fieldLink RX2 11 "FiveShogi$Position" "state" "[I", .methodLink RX2 32 arraycopyName, .native arraycopyName, .static arraycopyName, .initialized "java/lang/System"] ++ wsX00 ++ wsX20)
def wsX1_init : List Cond := .code yX1_init cX1_init 1 none :: ([.methodLink RX1 3 objectInit, .instanceMethod objectInit, .code objectInit ⟨#[0xb1]⟩ 1 none, .arrayClass .char, .fieldLink RX1 11 "FiveShogi$PlayText" "signs" "[C", .fieldLink RX1 15 "FiveShogi$PlayText" "size" "I", .arrayClass .int, .fieldLink RX1 19 "FiveShogi$PlayText" "plays" "[I", .fieldLink RX1 23 "FiveShogi$PlayText" "playsRead" "I", .fieldLink RX1 26 "FiveShogi$PlayText" "cursor" "I"] ++ wsX10)
def wsX1_size : List Cond := .code yX1_size cX1_size 1 (some .int) :: ([.fieldLink RX1 15 "FiveShogi$PlayText" "size" "I"] ++ wsX10)
def wsX4_isSquare : List Cond := .code yX4_isSquare cX4_isSquare 1 (some .boolean) :: ([])
def wsX4_squareBeside : List Cond := .code yX4_squareBeside cX4_squareBeside 5 (some .int) :: ([.fieldLink RX4 215 "FiveShogi" "ROWS_ON" "[I", .fieldLink RX4 218 "FiveShogi" "COLUMNS_ON" "[I", .methodLink RX4 50 yX4_isSquare, .static yX4_isSquare, .initialized RX4, .code yX4_isSquare cX4_isSquare 1 (some .boolean)])
def wsX2_removeAllMen : List Cond := .code yX2_removeAllMen cX2_removeAllMen 2 none :: ([.fieldLink RX2 11 "FiveShogi$Position" "state" "[I"] ++ wsX20)
def wsX4_isMan : List Cond := .code yX4_isMan cX4_isMan 1 (some .boolean) :: ([])
def wsX4_kindOf : List Cond := .code yX4_kindOf cX4_kindOf 1 (some .int) :: ([])
def wsX4_sideOf : List Cond := .code yX4_sideOf cX4_sideOf 1 (some .int) :: ([])
def wsX2_place : List Cond := .code yX2_place cX2_place 4 none :: ([.fieldLink RX2 11 "FiveShogi$Position" "state" "[I", .static yX4_isSquare, .initialized RX4, .code yX4_isSquare cX4_isSquare 1 (some .boolean), .static yX4_isMan, .code yX4_isMan cX4_isMan 1 (some .boolean), .static yX4_kindOf, .code yX4_kindOf cX4_kindOf 1 (some .int), .static yX4_sideOf, .code yX4_sideOf cX4_sideOf 1 (some .int)] ++ wsX20)
def wsX2_init_r1 : List Cond := [Cond.methodLink RX2 5 objectInit, Cond.instanceMethod objectInit, Cond.code objectInit ⟨#[0xb1]⟩ 1 none, Cond.arrayClass .int, Cond.fieldLink RX2 11 "FiveShogi$Position" "state" "[I", Cond.fieldLink RX2 15 "FiveShogi$Position" "beside" "[I", Cond.static yX4_squareBeside, Cond.initialized RX4, Cond.code yX4_squareBeside cX4_squareBeside 5 (some .int), Cond.fieldLink RX4 215 "FiveShogi" "ROWS_ON" "[I", Cond.fieldLink RX4 218 "FiveShogi" "COLUMNS_ON" "[I", Cond.methodLink RX4 50 yX4_isSquare, Cond.static yX4_isSquare, Cond.code yX4_isSquare cX4_isSquare 1 (some .boolean), Cond.methodLink RX2 22 yX2_removeAllMen, Cond.instanceMethod yX2_removeAllMen, Cond.selects RX2 yX2_removeAllMen yX2_removeAllMen, Cond.initialized RX2, Cond.code yX2_removeAllMen cX2_removeAllMen 2 none, Cond.methodLink RX2 28 yX2_place, Cond.instanceMethod yX2_place, Cond.selects RX2 yX2_place yX2_place, Cond.code yX2_place cX2_place 4 none, Cond.static yX4_isMan]
def wsX2_init_r2 : List Cond := [Cond.code yX4_isMan cX4_isMan 1 (some .boolean), Cond.static yX4_kindOf, Cond.code yX4_kindOf cX4_kindOf 1 (some .int), Cond.static yX4_sideOf, Cond.code yX4_sideOf cX4_sideOf 1 (some .int)]
def wsX2_init : List Cond := .code yX2_init cX2_init 2 none :: ((wsX2_init_r1 ++ wsX2_init_r2) ++ wsX20)
def wsX2_copyTo : List Cond := .code yX2_copyTo cX2_copyTo 3 none :: ([.fieldLink RX2 11 "FiveShogi$Position" "state" "[I", .methodLink RX2 32 arraycopyName, .native arraycopyName, .static arraycopyName, .initialized "java/lang/System"] ++ wsX20)
def wsX2_sideToPlay : List Cond := .code yX2_sideToPlay cX2_sideToPlay 1 (some .int) :: ([.fieldLink RX2 11 "FiveShogi$Position" "state" "[I"] ++ wsX20)
def wsX2_setSideToPlay : List Cond := .code yX2_setSideToPlay cX2_setSideToPlay 2 none :: ([.fieldLink RX2 11 "FiveShogi$Position" "state" "[I"] ++ wsX20)
def wsX2_playsMade : List Cond := .code yX2_playsMade cX2_playsMade 1 (some .int) :: ([.fieldLink RX2 11 "FiveShogi$Position" "state" "[I"] ++ wsX20)
def wsX2_menTaken : List Cond := .code yX2_menTaken cX2_menTaken 1 (some .int) :: ([.fieldLink RX2 11 "FiveShogi$Position" "state" "[I"] ++ wsX20)
def wsX2_menPromoted : List Cond := .code yX2_menPromoted cX2_menPromoted 1 (some .int) :: ([.fieldLink RX2 11 "FiveShogi$Position" "state" "[I"] ++ wsX20)
def wsX2_menDropped : List Cond := .code yX2_menDropped cX2_menDropped 1 (some .int) :: ([.fieldLink RX2 11 "FiveShogi$Position" "state" "[I"] ++ wsX20)
def wsX2_manOn : List Cond := .code yX2_manOn cX2_manOn 2 (some .int) :: ([.fieldLink RX2 11 "FiveShogi$Position" "state" "[I"] ++ wsX20)
def wsX4_isSide : List Cond := .code yX4_isSide cX4_isSide 1 (some .boolean) :: ([])
def wsX2_kingOf : List Cond := .code yX2_kingOf cX2_kingOf 2 (some .int) :: ([.fieldLink RX2 11 "FiveShogi$Position" "state" "[I", .static yX4_isSide, .initialized RX4, .code yX4_isSide cX4_isSide 1 (some .boolean)] ++ wsX20)
def wsX4_isHandKind : List Cond := .code yX4_isHandKind cX4_isHandKind 1 (some .boolean) :: ([])
def wsX2_inHand : List Cond := .code yX2_inHand cX2_inHand 3 (some .int) :: ([.fieldLink RX2 11 "FiveShogi$Position" "state" "[I", .static yX4_isSide, .initialized RX4, .code yX4_isSide cX4_isSide 1 (some .boolean), .static yX4_isHandKind, .code yX4_isHandKind cX4_isHandKind 1 (some .boolean)] ++ wsX20)
def wsX2_setInHand : List Cond := .code yX2_setInHand cX2_setInHand 4 none :: ([.fieldLink RX2 11 "FiveShogi$Position" "state" "[I", .static yX4_isSide, .initialized RX4, .code yX4_isSide cX4_isSide 1 (some .boolean), .static yX4_isHandKind, .code yX4_isHandKind cX4_isHandKind 1 (some .boolean)] ++ wsX20)
def wsX2_menOnBoard : List Cond := .code yX2_menOnBoard cX2_menOnBoard 3 (some .int) :: ([.fieldLink RX2 11 "FiveShogi$Position" "state" "[I"] ++ wsX20)
def wsX2_menInHand : List Cond := .code yX2_menInHand cX2_menInHand 4 (some .int) :: ([.methodLink RX2 58 yX2_inHand, .instanceMethod yX2_inHand, .selects RX2 yX2_inHand yX2_inHand, .initialized RX2, .code yX2_inHand cX2_inHand 3 (some .int), .fieldLink RX2 11 "FiveShogi$Position" "state" "[I", .static yX4_isSide, .initialized RX4, .code yX4_isSide cX4_isSide 1 (some .boolean), .static yX4_isHandKind, .code yX4_isHandKind cX4_isHandKind 1 (some .boolean)] ++ wsX20)
def wsX2_worthFor : List Cond := .code yX2_worthFor cX2_worthFor 6 (some .int) :: ([.fieldLink RX2 11 "FiveShogi$Position" "state" "[I", .static yX4_kindOf, .initialized RX4, .code yX4_kindOf cX4_kindOf 1 (some .int), .static yX4_sideOf, .code yX4_sideOf cX4_sideOf 1 (some .int), .methodLink RX2 58 yX2_inHand, .instanceMethod yX2_inHand, .selects RX2 yX2_inHand yX2_inHand, .initialized RX2, .code yX2_inHand cX2_inHand 3 (some .int), .static yX4_isSide, .code yX4_isSide cX4_isSide 1 (some .boolean), .static yX4_isHandKind, .code yX4_isHandKind cX4_isHandKind 1 (some .boolean)] ++ wsX20)
def wsX2_attackedFrom : List Cond := .code yX2_attackedFrom cX2_attackedFrom 9 (some .int) :: ([.fieldLink RX2 15 "FiveShogi$Position" "beside" "[I", .fieldLink RX2 11 "FiveShogi$Position" "state" "[I", .methodLink RX2 64 yX2_manOn, .instanceMethod yX2_manOn, .selects RX2 yX2_manOn yX2_manOn, .initialized RX2, .code yX2_manOn cX2_manOn 2 (some .int)] ++ wsX20)
def wsX2_countAttackers : List Cond := .code yX2_countAttackers cX2_countAttackers 11 (some .int) :: ([.fieldLink RX2 15 "FiveShogi$Position" "beside" "[I", .fieldLink RX2 11 "FiveShogi$Position" "state" "[I"] ++ wsX20)
def wsX4_manOf : List Cond := .code yX4_manOf cX4_manOf 2 (some .int) :: ([])
def wsX2_changeHandForTaken : List Cond := .code yX2_changeHandForTaken cX2_changeHandForTaken 6 none :: ([.static yX4_kindOf, .initialized RX4, .code yX4_kindOf cX4_kindOf 1 (some .int), .methodLink RX2 58 yX2_inHand, .instanceMethod yX2_inHand, .selects RX2 yX2_inHand yX2_inHand, .initialized RX2, .code yX2_inHand cX2_inHand 3 (some .int), .fieldLink RX2 11 "FiveShogi$Position" "state" "[I", .static yX4_isSide, .code yX4_isSide cX4_isSide 1 (some .boolean), .static yX4_isHandKind, .code yX4_isHandKind cX4_isHandKind 1 (some .boolean), .methodLink RX2 84 yX2_setInHand, .instanceMethod yX2_setInHand, .selects RX2 yX2_setInHand yX2_setInHand, .code yX2_setInHand cX2_setInHand 4 none] ++ wsX20)
def wsX2_apply_r1 : List Cond := [Cond.methodLink RX2 76 yX2_sideToPlay, Cond.instanceMethod yX2_sideToPlay, Cond.selects RX2 yX2_sideToPlay yX2_sideToPlay, Cond.initialized RX2, Cond.code yX2_sideToPlay cX2_sideToPlay 1 (some .int), Cond.fieldLink RX2 11 "FiveShogi$Position" "state" "[I", Cond.methodLink RX2 80 yX2_setSideToPlay, Cond.instanceMethod yX2_setSideToPlay, Cond.selects RX2 yX2_setSideToPlay yX2_setSideToPlay, Cond.code yX2_setSideToPlay cX2_setSideToPlay 2 none, Cond.methodLink RX2 58 yX2_inHand, Cond.instanceMethod yX2_inHand, Cond.selects RX2 yX2_inHand yX2_inHand, Cond.code yX2_inHand cX2_inHand 3 (some .int), Cond.static yX4_isSide, Cond.initialized RX4, Cond.code yX4_isSide cX4_isSide 1 (some .boolean), Cond.static yX4_isHandKind, Cond.code yX4_isHandKind cX4_isHandKind 1 (some .boolean), Cond.methodLink RX2 84 yX2_setInHand, Cond.instanceMethod yX2_setInHand, Cond.selects RX2 yX2_setInHand yX2_setInHand, Cond.code yX2_setInHand cX2_setInHand 4 none, Cond.static yX4_manOf]
def wsX2_apply_r2 : List Cond := [Cond.code yX4_manOf cX4_manOf 2 (some .int), Cond.methodLink RX2 28 yX2_place, Cond.instanceMethod yX2_place, Cond.selects RX2 yX2_place yX2_place, Cond.code yX2_place cX2_place 4 none, Cond.static yX4_isSquare, Cond.code yX4_isSquare cX4_isSquare 1 (some .boolean), Cond.static yX4_isMan, Cond.code yX4_isMan cX4_isMan 1 (some .boolean), Cond.static yX4_kindOf, Cond.code yX4_kindOf cX4_kindOf 1 (some .int), Cond.static yX4_sideOf, Cond.code yX4_sideOf cX4_sideOf 1 (some .int), Cond.methodLink RX2 64 yX2_manOn, Cond.instanceMethod yX2_manOn, Cond.selects RX2 yX2_manOn yX2_manOn, Cond.code yX2_manOn cX2_manOn 2 (some .int), Cond.methodLink RX2 91 yX2_changeHandForTaken, Cond.instanceMethod yX2_changeHandForTaken, Cond.selects RX2 yX2_changeHandForTaken yX2_changeHandForTaken, Cond.code yX2_changeHandForTaken cX2_changeHandForTaken 6 none]
def wsX2_apply : List Cond := .code yX2_apply cX2_apply 7 (some .int) :: ((wsX2_apply_r1 ++ wsX2_apply_r2) ++ wsX20)
def wsX2_play_r1 : List Cond := [Cond.fieldLink RX2 11 "FiveShogi$Position" "state" "[I", Cond.methodLink RX2 73 yX2_apply, Cond.instanceMethod yX2_apply, Cond.selects RX2 yX2_apply yX2_apply, Cond.initialized RX2, Cond.code yX2_apply cX2_apply 7 (some .int), Cond.methodLink RX2 76 yX2_sideToPlay, Cond.instanceMethod yX2_sideToPlay, Cond.selects RX2 yX2_sideToPlay yX2_sideToPlay, Cond.code yX2_sideToPlay cX2_sideToPlay 1 (some .int), Cond.methodLink RX2 80 yX2_setSideToPlay, Cond.instanceMethod yX2_setSideToPlay, Cond.selects RX2 yX2_setSideToPlay yX2_setSideToPlay, Cond.code yX2_setSideToPlay cX2_setSideToPlay 2 none, Cond.methodLink RX2 58 yX2_inHand, Cond.instanceMethod yX2_inHand, Cond.selects RX2 yX2_inHand yX2_inHand, Cond.code yX2_inHand cX2_inHand 3 (some .int), Cond.static yX4_isSide, Cond.initialized RX4, Cond.code yX4_isSide cX4_isSide 1 (some .boolean), Cond.static yX4_isHandKind, Cond.code yX4_isHandKind cX4_isHandKind 1 (some .boolean), Cond.methodLink RX2 84 yX2_setInHand]
def wsX2_play_r2 : List Cond := [Cond.instanceMethod yX2_setInHand, Cond.selects RX2 yX2_setInHand yX2_setInHand, Cond.code yX2_setInHand cX2_setInHand 4 none, Cond.static yX4_manOf, Cond.code yX4_manOf cX4_manOf 2 (some .int), Cond.methodLink RX2 28 yX2_place, Cond.instanceMethod yX2_place, Cond.selects RX2 yX2_place yX2_place, Cond.code yX2_place cX2_place 4 none, Cond.static yX4_isSquare, Cond.code yX4_isSquare cX4_isSquare 1 (some .boolean), Cond.static yX4_isMan, Cond.code yX4_isMan cX4_isMan 1 (some .boolean), Cond.static yX4_kindOf, Cond.code yX4_kindOf cX4_kindOf 1 (some .int), Cond.static yX4_sideOf, Cond.code yX4_sideOf cX4_sideOf 1 (some .int), Cond.methodLink RX2 64 yX2_manOn, Cond.instanceMethod yX2_manOn, Cond.selects RX2 yX2_manOn yX2_manOn, Cond.code yX2_manOn cX2_manOn 2 (some .int), Cond.methodLink RX2 91 yX2_changeHandForTaken, Cond.instanceMethod yX2_changeHandForTaken, Cond.selects RX2 yX2_changeHandForTaken yX2_changeHandForTaken]
def wsX2_play_r3 : List Cond := [Cond.code yX2_changeHandForTaken cX2_changeHandForTaken 6 none]
def wsX2_play : List Cond := .code yX2_play cX2_play 3 (some .int) :: ((wsX2_play_r1 ++ (wsX2_play_r2 ++ wsX2_play_r3)) ++ wsX20)
def wsX2_takeBack_r1 : List Cond := [Cond.methodLink RX2 76 yX2_sideToPlay, Cond.instanceMethod yX2_sideToPlay, Cond.selects RX2 yX2_sideToPlay yX2_sideToPlay, Cond.initialized RX2, Cond.code yX2_sideToPlay cX2_sideToPlay 1 (some .int), Cond.fieldLink RX2 11 "FiveShogi$Position" "state" "[I", Cond.methodLink RX2 80 yX2_setSideToPlay, Cond.instanceMethod yX2_setSideToPlay, Cond.selects RX2 yX2_setSideToPlay yX2_setSideToPlay, Cond.code yX2_setSideToPlay cX2_setSideToPlay 2 none, Cond.methodLink RX2 28 yX2_place, Cond.instanceMethod yX2_place, Cond.selects RX2 yX2_place yX2_place, Cond.code yX2_place cX2_place 4 none, Cond.static yX4_isSquare, Cond.initialized RX4, Cond.code yX4_isSquare cX4_isSquare 1 (some .boolean), Cond.static yX4_isMan, Cond.code yX4_isMan cX4_isMan 1 (some .boolean), Cond.static yX4_kindOf, Cond.code yX4_kindOf cX4_kindOf 1 (some .int), Cond.static yX4_sideOf, Cond.code yX4_sideOf cX4_sideOf 1 (some .int), Cond.methodLink RX2 58 yX2_inHand]
def wsX2_takeBack_r2 : List Cond := [Cond.instanceMethod yX2_inHand, Cond.selects RX2 yX2_inHand yX2_inHand, Cond.code yX2_inHand cX2_inHand 3 (some .int), Cond.static yX4_isSide, Cond.code yX4_isSide cX4_isSide 1 (some .boolean), Cond.static yX4_isHandKind, Cond.code yX4_isHandKind cX4_isHandKind 1 (some .boolean), Cond.methodLink RX2 84 yX2_setInHand, Cond.instanceMethod yX2_setInHand, Cond.selects RX2 yX2_setInHand yX2_setInHand, Cond.code yX2_setInHand cX2_setInHand 4 none, Cond.methodLink RX2 64 yX2_manOn, Cond.instanceMethod yX2_manOn, Cond.selects RX2 yX2_manOn yX2_manOn, Cond.code yX2_manOn cX2_manOn 2 (some .int), Cond.methodLink RX2 91 yX2_changeHandForTaken, Cond.instanceMethod yX2_changeHandForTaken, Cond.selects RX2 yX2_changeHandForTaken yX2_changeHandForTaken, Cond.code yX2_changeHandForTaken cX2_changeHandForTaken 6 none]
def wsX2_takeBack : List Cond := .code yX2_takeBack cX2_takeBack 6 none :: ((wsX2_takeBack_r1 ++ wsX2_takeBack_r2) ++ wsX20)
def wsX3_init : List Cond := .code yX3_init cX3_init 2 none :: ([.methodLink RX3 3 objectInit, .instanceMethod objectInit, .code objectInit ⟨#[0xb1]⟩ 1 none, .arrayClass .int, .fieldLink RX3 9 "FiveShogi$Rules" "plainMoves" "[I", .fieldLink RX3 15 "FiveShogi$Rules" "promotedMoves" "[I", .fieldLink RX3 18 "FiveShogi$Rules" "kindDrops" "[I", .fieldLink RX3 21 "FiveShogi$Rules" "list" "[I", .fieldLink RX3 24 "FiveShogi$Rules" "listSize" "I", .fieldLink RX3 28 "FiveShogi$Rules" "position" "LFiveShogi$Position;"] ++ wsX30)
def wsX3_isInCheck : List Cond := .code yX3_isInCheck cX3_isInCheck 2 (some .boolean) :: ([.fieldLink RX3 28 "FiveShogi$Rules" "position" "LFiveShogi$Position;", .methodLink RX3 32 yX2_sideToPlay, .instanceMethod yX2_sideToPlay, .selects RX2 yX2_sideToPlay yX2_sideToPlay, .initialized RX2, .code yX2_sideToPlay cX2_sideToPlay 1 (some .int), .fieldLink RX2 11 "FiveShogi$Position" "state" "[I", .methodLink RX3 38 yX2_kingOf, .instanceMethod yX2_kingOf, .selects RX2 yX2_kingOf yX2_kingOf, .code yX2_kingOf cX2_kingOf 2 (some .int), .static yX4_isSide, .initialized RX4, .code yX4_isSide cX4_isSide 1 (some .boolean), .methodLink RX3 42 yX2_countAttackers, .instanceMethod yX2_countAttackers, .selects RX2 yX2_countAttackers yX2_countAttackers, .code yX2_countAttackers cX2_countAttackers 11 (some .int), .fieldLink RX2 15 "FiveShogi$Position" "beside" "[I"] ++ wsX30 ++ wsX20)
def wsX4_has : List Cond := .code yX4_has cX4_has 2 (some .boolean) :: ([])
def wsX3_canEnter : List Cond := .code yX3_canEnter cX3_canEnter 4 (some .boolean) :: ([.fieldLink RX3 28 "FiveShogi$Rules" "position" "LFiveShogi$Position;", .methodLink RX3 67 yX2_manOn, .instanceMethod yX2_manOn, .selects RX2 yX2_manOn yX2_manOn, .initialized RX2, .code yX2_manOn cX2_manOn 2 (some .int), .fieldLink RX2 11 "FiveShogi$Position" "state" "[I", .static yX4_sideOf, .initialized RX4, .code yX4_sideOf cX4_sideOf 1 (some .int), .static yX4_kindOf, .code yX4_kindOf cX4_kindOf 1 (some .int)] ++ wsX30 ++ wsX20)
def wsX4_bit : List Cond := .code yX4_bit cX4_bit 1 (some .int) :: ([])
def wsX3_safeTargets_r1 : List Cond := [Cond.fieldLink RX3 28 "FiveShogi$Rules" "position" "LFiveShogi$Position;", Cond.methodLink RX3 67 yX2_manOn, Cond.instanceMethod yX2_manOn, Cond.selects RX2 yX2_manOn yX2_manOn, Cond.initialized RX2, Cond.code yX2_manOn cX2_manOn 2 (some .int), Cond.fieldLink RX2 11 "FiveShogi$Position" "state" "[I", Cond.static yX4_sideOf, Cond.initialized RX4, Cond.code yX4_sideOf cX4_sideOf 1 (some .int), Cond.methodLink RX3 73 yX2_attackedFrom, Cond.instanceMethod yX2_attackedFrom, Cond.selects RX2 yX2_attackedFrom yX2_attackedFrom, Cond.code yX2_attackedFrom cX2_attackedFrom 9 (some .int), Cond.fieldLink RX2 15 "FiveShogi$Position" "beside" "[I", Cond.methodLink RX2 64 yX2_manOn, Cond.static yX4_has, Cond.code yX4_has cX4_has 2 (some .boolean), Cond.methodLink RX3 80 yX3_canEnter, Cond.instanceMethod yX3_canEnter, Cond.selects RX3 yX3_canEnter yX3_canEnter, Cond.initialized RX3, Cond.code yX3_canEnter cX3_canEnter 4 (some .boolean), Cond.static yX4_kindOf]
def wsX3_safeTargets_r2 : List Cond := [Cond.code yX4_kindOf cX4_kindOf 1 (some .int), Cond.methodLink RX3 132 yX2_place, Cond.instanceMethod yX2_place, Cond.selects RX2 yX2_place yX2_place, Cond.code yX2_place cX2_place 4 none, Cond.static yX4_isSquare, Cond.code yX4_isSquare cX4_isSquare 1 (some .boolean), Cond.static yX4_isMan, Cond.code yX4_isMan cX4_isMan 1 (some .boolean), Cond.methodLink RX3 38 yX2_kingOf, Cond.instanceMethod yX2_kingOf, Cond.selects RX2 yX2_kingOf yX2_kingOf, Cond.code yX2_kingOf cX2_kingOf 2 (some .int), Cond.static yX4_isSide, Cond.code yX4_isSide cX4_isSide 1 (some .boolean), Cond.methodLink RX3 42 yX2_countAttackers, Cond.instanceMethod yX2_countAttackers, Cond.selects RX2 yX2_countAttackers yX2_countAttackers, Cond.code yX2_countAttackers cX2_countAttackers 11 (some .int), Cond.static yX4_bit, Cond.code yX4_bit cX4_bit 1 (some .int)]
def wsX3_safeTargets : List Cond := .code yX3_safeTargets cX3_safeTargets 8 (some .int) :: ((wsX3_safeTargets_r1 ++ wsX3_safeTargets_r2) ++ wsX30 ++ wsX20)
def wsX4_lastRow : List Cond := .code yX4_lastRow cX4_lastRow 1 (some .int) :: ([.constant RX4 214 (32505856)])
def wsX3_forcingSquares : List Cond := .code yX3_forcingSquares cX3_forcingSquares 3 (some .int) :: ([.fieldLink RX3 28 "FiveShogi$Rules" "position" "LFiveShogi$Position;", .methodLink RX3 67 yX2_manOn, .instanceMethod yX2_manOn, .selects RX2 yX2_manOn yX2_manOn, .initialized RX2, .code yX2_manOn cX2_manOn 2 (some .int), .fieldLink RX2 11 "FiveShogi$Position" "state" "[I", .static yX4_kindOf, .initialized RX4, .code yX4_kindOf cX4_kindOf 1 (some .int), .static yX4_sideOf, .code yX4_sideOf cX4_sideOf 1 (some .int), .static yX4_lastRow, .code yX4_lastRow cX4_lastRow 1 (some .int), .constant RX4 214 (32505856)] ++ wsX30 ++ wsX20)
def wsX3_promotingSquares : List Cond := .code yX3_promotingSquares cX3_promotingSquares 4 (some .int) :: ([.fieldLink RX3 28 "FiveShogi$Rules" "position" "LFiveShogi$Position;", .constant RX3 131 (33554431), .methodLink RX3 67 yX2_manOn, .instanceMethod yX2_manOn, .selects RX2 yX2_manOn yX2_manOn, .initialized RX2, .code yX2_manOn cX2_manOn 2 (some .int), .fieldLink RX2 11 "FiveShogi$Position" "state" "[I", .static yX4_kindOf, .initialized RX4, .code yX4_kindOf cX4_kindOf 1 (some .int), .static yX4_sideOf, .code yX4_sideOf cX4_sideOf 1 (some .int), .static yX4_lastRow, .code yX4_lastRow cX4_lastRow 1 (some .int), .constant RX4 214 (32505856), .static yX4_has, .code yX4_has cX4_has 2 (some .boolean)] ++ wsX30 ++ wsX20)
def wsJ6_bitCount_0f7a4 : List Cond := .code yJ6_bitCount_0f7a4 cJ6_bitCount_0f7a4 1 (some .int) :: ([.constant RJ6 265 (1431655765), .constant RJ6 266 (858993459), .constant RJ6 267 (252645135)])
def wsX3_safeDrops_r1 : List Cond := [Cond.fieldLink RX3 28 "FiveShogi$Rules" "position" "LFiveShogi$Position;", Cond.methodLink RX3 32 yX2_sideToPlay, Cond.instanceMethod yX2_sideToPlay, Cond.selects RX2 yX2_sideToPlay yX2_sideToPlay, Cond.initialized RX2, Cond.code yX2_sideToPlay cX2_sideToPlay 1 (some .int), Cond.fieldLink RX2 11 "FiveShogi$Position" "state" "[I", Cond.methodLink RX3 38 yX2_kingOf, Cond.instanceMethod yX2_kingOf, Cond.selects RX2 yX2_kingOf yX2_kingOf, Cond.code yX2_kingOf cX2_kingOf 2 (some .int), Cond.static yX4_isSide, Cond.initialized RX4, Cond.code yX4_isSide cX4_isSide 1 (some .boolean), Cond.methodLink RX3 42 yX2_countAttackers, Cond.instanceMethod yX2_countAttackers, Cond.selects RX2 yX2_countAttackers yX2_countAttackers, Cond.code yX2_countAttackers cX2_countAttackers 11 (some .int), Cond.fieldLink RX2 15 "FiveShogi$Position" "beside" "[I", Cond.methodLink RX3 67 yX2_manOn, Cond.instanceMethod yX2_manOn, Cond.selects RX2 yX2_manOn yX2_manOn, Cond.code yX2_manOn cX2_manOn 2 (some .int), Cond.static yX4_manOf]
def wsX3_safeDrops_r2 : List Cond := [Cond.code yX4_manOf cX4_manOf 2 (some .int), Cond.methodLink RX3 132 yX2_place, Cond.instanceMethod yX2_place, Cond.selects RX2 yX2_place yX2_place, Cond.code yX2_place cX2_place 4 none, Cond.static yX4_isSquare, Cond.code yX4_isSquare cX4_isSquare 1 (some .boolean), Cond.static yX4_isMan, Cond.code yX4_isMan cX4_isMan 1 (some .boolean), Cond.static yX4_kindOf, Cond.code yX4_kindOf cX4_kindOf 1 (some .int), Cond.static yX4_sideOf, Cond.code yX4_sideOf cX4_sideOf 1 (some .int), Cond.static yX4_bit, Cond.code yX4_bit cX4_bit 1 (some .int)]
def wsX3_safeDrops : List Cond := .code yX3_safeDrops cX3_safeDrops 6 (some .int) :: ((wsX3_safeDrops_r1 ++ wsX3_safeDrops_r2) ++ wsX30 ++ wsX20)
def wsX3_pawnColumns : List Cond := .code yX3_pawnColumns cX3_pawnColumns 4 (some .int) :: ([.fieldLink RX3 28 "FiveShogi$Rules" "position" "LFiveShogi$Position;", .constant RX3 138 (1082401), .methodLink RX3 67 yX2_manOn, .instanceMethod yX2_manOn, .selects RX2 yX2_manOn yX2_manOn, .initialized RX2, .code yX2_manOn cX2_manOn 2 (some .int), .fieldLink RX2 11 "FiveShogi$Position" "state" "[I", .static yX4_manOf, .initialized RX4, .code yX4_manOf cX4_manOf 2 (some .int)] ++ wsX30 ++ wsX20)
def wsX3_openToDrops_r1 : List Cond := [Cond.fieldLink RX3 28 "FiveShogi$Rules" "position" "LFiveShogi$Position;", Cond.methodLink RX3 32 yX2_sideToPlay, Cond.instanceMethod yX2_sideToPlay, Cond.selects RX2 yX2_sideToPlay yX2_sideToPlay, Cond.initialized RX2, Cond.code yX2_sideToPlay cX2_sideToPlay 1 (some .int), Cond.fieldLink RX2 11 "FiveShogi$Position" "state" "[I", Cond.methodLink RX3 92 yX2_inHand, Cond.instanceMethod yX2_inHand, Cond.selects RX2 yX2_inHand yX2_inHand, Cond.code yX2_inHand cX2_inHand 3 (some .int), Cond.static yX4_isSide, Cond.initialized RX4, Cond.code yX4_isSide cX4_isSide 1 (some .boolean), Cond.static yX4_isHandKind, Cond.code yX4_isHandKind cX4_isHandKind 1 (some .boolean), Cond.static yX4_lastRow, Cond.code yX4_lastRow cX4_lastRow 1 (some .int), Cond.constant RX4 214 (32505856), Cond.methodLink RX3 98 yX3_pawnColumns, Cond.instanceMethod yX3_pawnColumns, Cond.selects RX3 yX3_pawnColumns yX3_pawnColumns, Cond.initialized RX3, Cond.code yX3_pawnColumns cX3_pawnColumns 4 (some .int)]
def wsX3_openToDrops_r2 : List Cond := [Cond.constant RX3 138 (1082401), Cond.methodLink RX3 67 yX2_manOn, Cond.instanceMethod yX2_manOn, Cond.selects RX2 yX2_manOn yX2_manOn, Cond.code yX2_manOn cX2_manOn 2 (some .int), Cond.static yX4_manOf, Cond.code yX4_manOf cX4_manOf 2 (some .int)]
def wsX3_openToDrops : List Cond := .code yX3_openToDrops cX3_openToDrops 4 (some .int) :: ((wsX3_openToDrops_r1 ++ wsX3_openToDrops_r2) ++ wsX30 ++ wsX20)
def wsX4_dropNumber : List Cond := .code yX4_dropNumber cX4_dropNumber 2 (some .int) :: ([])
def wsX3_canReply_r1 : List Cond := [Cond.fieldLink RX3 28 "FiveShogi$Rules" "position" "LFiveShogi$Position;", Cond.methodLink RX3 32 yX2_sideToPlay, Cond.instanceMethod yX2_sideToPlay, Cond.selects RX2 yX2_sideToPlay yX2_sideToPlay, Cond.initialized RX2, Cond.code yX2_sideToPlay cX2_sideToPlay 1 (some .int), Cond.fieldLink RX2 11 "FiveShogi$Position" "state" "[I", Cond.methodLink RX3 67 yX2_manOn, Cond.instanceMethod yX2_manOn, Cond.selects RX2 yX2_manOn yX2_manOn, Cond.code yX2_manOn cX2_manOn 2 (some .int), Cond.static yX4_sideOf, Cond.initialized RX4, Cond.code yX4_sideOf cX4_sideOf 1 (some .int), Cond.methodLink RX3 89 yX3_safeTargets, Cond.instanceMethod yX3_safeTargets, Cond.selects RX3 yX3_safeTargets yX3_safeTargets, Cond.initialized RX3, Cond.code yX3_safeTargets cX3_safeTargets 8 (some .int), Cond.methodLink RX3 73 yX2_attackedFrom, Cond.instanceMethod yX2_attackedFrom, Cond.selects RX2 yX2_attackedFrom yX2_attackedFrom, Cond.code yX2_attackedFrom cX2_attackedFrom 9 (some .int), Cond.fieldLink RX2 15 "FiveShogi$Position" "beside" "[I"]
def wsX3_canReply_r2 : List Cond := [Cond.methodLink RX2 64 yX2_manOn, Cond.static yX4_has, Cond.code yX4_has cX4_has 2 (some .boolean), Cond.methodLink RX3 80 yX3_canEnter, Cond.instanceMethod yX3_canEnter, Cond.selects RX3 yX3_canEnter yX3_canEnter, Cond.code yX3_canEnter cX3_canEnter 4 (some .boolean), Cond.static yX4_kindOf, Cond.code yX4_kindOf cX4_kindOf 1 (some .int), Cond.methodLink RX3 132 yX2_place, Cond.instanceMethod yX2_place, Cond.selects RX2 yX2_place yX2_place, Cond.code yX2_place cX2_place 4 none, Cond.static yX4_isSquare, Cond.code yX4_isSquare cX4_isSquare 1 (some .boolean), Cond.static yX4_isMan, Cond.code yX4_isMan cX4_isMan 1 (some .boolean), Cond.methodLink RX3 38 yX2_kingOf, Cond.instanceMethod yX2_kingOf, Cond.selects RX2 yX2_kingOf yX2_kingOf, Cond.code yX2_kingOf cX2_kingOf 2 (some .int), Cond.static yX4_isSide, Cond.code yX4_isSide cX4_isSide 1 (some .boolean), Cond.methodLink RX3 42 yX2_countAttackers]
def wsX3_canReply_r3 : List Cond := [Cond.instanceMethod yX2_countAttackers, Cond.selects RX2 yX2_countAttackers yX2_countAttackers, Cond.code yX2_countAttackers cX2_countAttackers 11 (some .int), Cond.static yX4_bit, Cond.code yX4_bit cX4_bit 1 (some .int), Cond.methodLink RX3 101 yX3_safeDrops, Cond.instanceMethod yX3_safeDrops, Cond.selects RX3 yX3_safeDrops yX3_safeDrops, Cond.code yX3_safeDrops cX3_safeDrops 6 (some .int), Cond.static yX4_manOf, Cond.code yX4_manOf cX4_manOf 2 (some .int), Cond.methodLink RX3 125 yX3_openToDrops, Cond.instanceMethod yX3_openToDrops, Cond.selects RX3 yX3_openToDrops yX3_openToDrops, Cond.code yX3_openToDrops cX3_openToDrops 4 (some .int), Cond.methodLink RX3 92 yX2_inHand, Cond.instanceMethod yX2_inHand, Cond.selects RX2 yX2_inHand yX2_inHand, Cond.code yX2_inHand cX2_inHand 3 (some .int), Cond.static yX4_isHandKind, Cond.code yX4_isHandKind cX4_isHandKind 1 (some .boolean), Cond.static yX4_lastRow, Cond.code yX4_lastRow cX4_lastRow 1 (some .int), Cond.constant RX4 214 (32505856)]
def wsX3_canReply_r4 : List Cond := [Cond.methodLink RX3 98 yX3_pawnColumns, Cond.instanceMethod yX3_pawnColumns, Cond.selects RX3 yX3_pawnColumns yX3_pawnColumns, Cond.code yX3_pawnColumns cX3_pawnColumns 4 (some .int), Cond.constant RX3 138 (1082401)]
def wsX3_canReply : List Cond := .code yX3_canReply cX3_canReply 4 (some .boolean) :: ((wsX3_canReply_r1 ++ (wsX3_canReply_r2 ++ (wsX3_canReply_r3 ++ wsX3_canReply_r4))) ++ wsX30 ++ wsX20)
def wsX3_withoutMates_r1 : List Cond := [Cond.fieldLink RX3 28 "FiveShogi$Rules" "position" "LFiveShogi$Position;", Cond.static yX4_has, Cond.initialized RX4, Cond.code yX4_has cX4_has 2 (some .boolean), Cond.static yX4_dropNumber, Cond.code yX4_dropNumber cX4_dropNumber 2 (some .int), Cond.methodLink RX3 139 yX2_apply, Cond.instanceMethod yX2_apply, Cond.selects RX2 yX2_apply yX2_apply, Cond.initialized RX2, Cond.code yX2_apply cX2_apply 7 (some .int), Cond.methodLink RX2 76 yX2_sideToPlay, Cond.instanceMethod yX2_sideToPlay, Cond.selects RX2 yX2_sideToPlay yX2_sideToPlay, Cond.code yX2_sideToPlay cX2_sideToPlay 1 (some .int), Cond.fieldLink RX2 11 "FiveShogi$Position" "state" "[I", Cond.methodLink RX2 80 yX2_setSideToPlay, Cond.instanceMethod yX2_setSideToPlay, Cond.selects RX2 yX2_setSideToPlay yX2_setSideToPlay, Cond.code yX2_setSideToPlay cX2_setSideToPlay 2 none, Cond.methodLink RX2 58 yX2_inHand, Cond.instanceMethod yX2_inHand, Cond.selects RX2 yX2_inHand yX2_inHand, Cond.code yX2_inHand cX2_inHand 3 (some .int)]
def wsX3_withoutMates_r2 : List Cond := [Cond.static yX4_isSide, Cond.code yX4_isSide cX4_isSide 1 (some .boolean), Cond.static yX4_isHandKind, Cond.code yX4_isHandKind cX4_isHandKind 1 (some .boolean), Cond.methodLink RX2 84 yX2_setInHand, Cond.instanceMethod yX2_setInHand, Cond.selects RX2 yX2_setInHand yX2_setInHand, Cond.code yX2_setInHand cX2_setInHand 4 none, Cond.static yX4_manOf, Cond.code yX4_manOf cX4_manOf 2 (some .int), Cond.methodLink RX2 28 yX2_place, Cond.instanceMethod yX2_place, Cond.selects RX2 yX2_place yX2_place, Cond.code yX2_place cX2_place 4 none, Cond.static yX4_isSquare, Cond.code yX4_isSquare cX4_isSquare 1 (some .boolean), Cond.static yX4_isMan, Cond.code yX4_isMan cX4_isMan 1 (some .boolean), Cond.static yX4_kindOf, Cond.code yX4_kindOf cX4_kindOf 1 (some .int), Cond.static yX4_sideOf, Cond.code yX4_sideOf cX4_sideOf 1 (some .int), Cond.methodLink RX2 64 yX2_manOn, Cond.instanceMethod yX2_manOn]
def wsX3_withoutMates_r3 : List Cond := [Cond.selects RX2 yX2_manOn yX2_manOn, Cond.code yX2_manOn cX2_manOn 2 (some .int), Cond.methodLink RX2 91 yX2_changeHandForTaken, Cond.instanceMethod yX2_changeHandForTaken, Cond.selects RX2 yX2_changeHandForTaken yX2_changeHandForTaken, Cond.code yX2_changeHandForTaken cX2_changeHandForTaken 6 none, Cond.methodLink RX3 46 yX3_isInCheck, Cond.instanceMethod yX3_isInCheck, Cond.selects RX3 yX3_isInCheck yX3_isInCheck, Cond.initialized RX3, Cond.code yX3_isInCheck cX3_isInCheck 2 (some .boolean), Cond.methodLink RX3 32 yX2_sideToPlay, Cond.methodLink RX3 38 yX2_kingOf, Cond.instanceMethod yX2_kingOf, Cond.selects RX2 yX2_kingOf yX2_kingOf, Cond.code yX2_kingOf cX2_kingOf 2 (some .int), Cond.methodLink RX3 42 yX2_countAttackers, Cond.instanceMethod yX2_countAttackers, Cond.selects RX2 yX2_countAttackers yX2_countAttackers, Cond.code yX2_countAttackers cX2_countAttackers 11 (some .int), Cond.fieldLink RX2 15 "FiveShogi$Position" "beside" "[I", Cond.methodLink RX3 142 yX3_canReply, Cond.instanceMethod yX3_canReply, Cond.selects RX3 yX3_canReply yX3_canReply]
def wsX3_withoutMates_r4 : List Cond := [Cond.code yX3_canReply cX3_canReply 4 (some .boolean), Cond.methodLink RX3 67 yX2_manOn, Cond.methodLink RX3 89 yX3_safeTargets, Cond.instanceMethod yX3_safeTargets, Cond.selects RX3 yX3_safeTargets yX3_safeTargets, Cond.code yX3_safeTargets cX3_safeTargets 8 (some .int), Cond.methodLink RX3 73 yX2_attackedFrom, Cond.instanceMethod yX2_attackedFrom, Cond.selects RX2 yX2_attackedFrom yX2_attackedFrom, Cond.code yX2_attackedFrom cX2_attackedFrom 9 (some .int), Cond.methodLink RX3 80 yX3_canEnter, Cond.instanceMethod yX3_canEnter, Cond.selects RX3 yX3_canEnter yX3_canEnter, Cond.code yX3_canEnter cX3_canEnter 4 (some .boolean), Cond.methodLink RX3 132 yX2_place, Cond.static yX4_bit, Cond.code yX4_bit cX4_bit 1 (some .int), Cond.methodLink RX3 101 yX3_safeDrops, Cond.instanceMethod yX3_safeDrops, Cond.selects RX3 yX3_safeDrops yX3_safeDrops, Cond.code yX3_safeDrops cX3_safeDrops 6 (some .int), Cond.methodLink RX3 125 yX3_openToDrops, Cond.instanceMethod yX3_openToDrops, Cond.selects RX3 yX3_openToDrops yX3_openToDrops]
def wsX3_withoutMates_r5 : List Cond := [Cond.code yX3_openToDrops cX3_openToDrops 4 (some .int), Cond.methodLink RX3 92 yX2_inHand, Cond.static yX4_lastRow, Cond.code yX4_lastRow cX4_lastRow 1 (some .int), Cond.constant RX4 214 (32505856), Cond.methodLink RX3 98 yX3_pawnColumns, Cond.instanceMethod yX3_pawnColumns, Cond.selects RX3 yX3_pawnColumns yX3_pawnColumns, Cond.code yX3_pawnColumns cX3_pawnColumns 4 (some .int), Cond.constant RX3 138 (1082401), Cond.methodLink RX3 145 yX2_takeBack, Cond.instanceMethod yX2_takeBack, Cond.selects RX2 yX2_takeBack yX2_takeBack, Cond.code yX2_takeBack cX2_takeBack 6 none]
def wsX3_withoutMates : List Cond := .code yX3_withoutMates cX3_withoutMates 6 (some .int) :: ((wsX3_withoutMates_r1 ++ (wsX3_withoutMates_r2 ++ (wsX3_withoutMates_r3 ++ (wsX3_withoutMates_r4 ++ wsX3_withoutMates_r5)))) ++ wsX30 ++ wsX20)
def wsX3_findPlays_r1 : List Cond := [Cond.fieldLink RX3 28 "FiveShogi$Rules" "position" "LFiveShogi$Position;", Cond.fieldLink RX3 9 "FiveShogi$Rules" "plainMoves" "[I", Cond.fieldLink RX3 15 "FiveShogi$Rules" "promotedMoves" "[I", Cond.fieldLink RX3 18 "FiveShogi$Rules" "kindDrops" "[I", Cond.methodLink RX3 32 yX2_sideToPlay, Cond.instanceMethod yX2_sideToPlay, Cond.selects RX2 yX2_sideToPlay yX2_sideToPlay, Cond.initialized RX2, Cond.code yX2_sideToPlay cX2_sideToPlay 1 (some .int), Cond.fieldLink RX2 11 "FiveShogi$Position" "state" "[I", Cond.methodLink RX3 67 yX2_manOn, Cond.instanceMethod yX2_manOn, Cond.selects RX2 yX2_manOn yX2_manOn, Cond.code yX2_manOn cX2_manOn 2 (some .int), Cond.static yX4_sideOf, Cond.initialized RX4, Cond.code yX4_sideOf cX4_sideOf 1 (some .int), Cond.methodLink RX3 89 yX3_safeTargets, Cond.instanceMethod yX3_safeTargets, Cond.selects RX3 yX3_safeTargets yX3_safeTargets, Cond.initialized RX3, Cond.code yX3_safeTargets cX3_safeTargets 8 (some .int), Cond.methodLink RX3 73 yX2_attackedFrom, Cond.instanceMethod yX2_attackedFrom]
def wsX3_findPlays_r2 : List Cond := [Cond.selects RX2 yX2_attackedFrom yX2_attackedFrom, Cond.code yX2_attackedFrom cX2_attackedFrom 9 (some .int), Cond.fieldLink RX2 15 "FiveShogi$Position" "beside" "[I", Cond.methodLink RX2 64 yX2_manOn, Cond.static yX4_has, Cond.code yX4_has cX4_has 2 (some .boolean), Cond.methodLink RX3 80 yX3_canEnter, Cond.instanceMethod yX3_canEnter, Cond.selects RX3 yX3_canEnter yX3_canEnter, Cond.code yX3_canEnter cX3_canEnter 4 (some .boolean), Cond.static yX4_kindOf, Cond.code yX4_kindOf cX4_kindOf 1 (some .int), Cond.methodLink RX3 132 yX2_place, Cond.instanceMethod yX2_place, Cond.selects RX2 yX2_place yX2_place, Cond.code yX2_place cX2_place 4 none, Cond.static yX4_isSquare, Cond.code yX4_isSquare cX4_isSquare 1 (some .boolean), Cond.static yX4_isMan, Cond.code yX4_isMan cX4_isMan 1 (some .boolean), Cond.methodLink RX3 38 yX2_kingOf, Cond.instanceMethod yX2_kingOf, Cond.selects RX2 yX2_kingOf yX2_kingOf, Cond.code yX2_kingOf cX2_kingOf 2 (some .int)]
def wsX3_findPlays_r3 : List Cond := [Cond.static yX4_isSide, Cond.code yX4_isSide cX4_isSide 1 (some .boolean), Cond.methodLink RX3 42 yX2_countAttackers, Cond.instanceMethod yX2_countAttackers, Cond.selects RX2 yX2_countAttackers yX2_countAttackers, Cond.code yX2_countAttackers cX2_countAttackers 11 (some .int), Cond.static yX4_bit, Cond.code yX4_bit cX4_bit 1 (some .int), Cond.methodLink RX3 86 yX3_forcingSquares, Cond.instanceMethod yX3_forcingSquares, Cond.selects RX3 yX3_forcingSquares yX3_forcingSquares, Cond.code yX3_forcingSquares cX3_forcingSquares 3 (some .int), Cond.static yX4_lastRow, Cond.code yX4_lastRow cX4_lastRow 1 (some .int), Cond.constant RX4 214 (32505856), Cond.methodLink RX3 83 yX3_promotingSquares, Cond.instanceMethod yX3_promotingSquares, Cond.selects RX3 yX3_promotingSquares yX3_promotingSquares, Cond.code yX3_promotingSquares cX3_promotingSquares 4 (some .int), Cond.constant RX3 131 (33554431), Cond.methodLink RX3 120 yJ6_bitCount_0f7a4, Cond.static yJ6_bitCount_0f7a4, Cond.initialized RJ6, Cond.code yJ6_bitCount_0f7a4 cJ6_bitCount_0f7a4 1 (some .int)]
def wsX3_findPlays_r4 : List Cond := [Cond.constant RJ6 265 (1431655765), Cond.constant RJ6 266 (858993459), Cond.constant RJ6 267 (252645135), Cond.methodLink RX3 101 yX3_safeDrops, Cond.instanceMethod yX3_safeDrops, Cond.selects RX3 yX3_safeDrops yX3_safeDrops, Cond.code yX3_safeDrops cX3_safeDrops 6 (some .int), Cond.static yX4_manOf, Cond.code yX4_manOf cX4_manOf 2 (some .int), Cond.methodLink RX3 125 yX3_openToDrops, Cond.instanceMethod yX3_openToDrops, Cond.selects RX3 yX3_openToDrops yX3_openToDrops, Cond.code yX3_openToDrops cX3_openToDrops 4 (some .int), Cond.methodLink RX3 92 yX2_inHand, Cond.instanceMethod yX2_inHand, Cond.selects RX2 yX2_inHand yX2_inHand, Cond.code yX2_inHand cX2_inHand 3 (some .int), Cond.static yX4_isHandKind, Cond.code yX4_isHandKind cX4_isHandKind 1 (some .boolean), Cond.methodLink RX3 98 yX3_pawnColumns, Cond.instanceMethod yX3_pawnColumns, Cond.selects RX3 yX3_pawnColumns yX3_pawnColumns, Cond.code yX3_pawnColumns cX3_pawnColumns 4 (some .int), Cond.constant RX3 138 (1082401)]
def wsX3_findPlays_r5 : List Cond := [Cond.methodLink RX3 107 yX3_withoutMates, Cond.instanceMethod yX3_withoutMates, Cond.selects RX3 yX3_withoutMates yX3_withoutMates, Cond.code yX3_withoutMates cX3_withoutMates 6 (some .int), Cond.static yX4_dropNumber, Cond.code yX4_dropNumber cX4_dropNumber 2 (some .int), Cond.methodLink RX3 139 yX2_apply, Cond.instanceMethod yX2_apply, Cond.selects RX2 yX2_apply yX2_apply, Cond.code yX2_apply cX2_apply 7 (some .int), Cond.methodLink RX2 76 yX2_sideToPlay, Cond.methodLink RX2 80 yX2_setSideToPlay, Cond.instanceMethod yX2_setSideToPlay, Cond.selects RX2 yX2_setSideToPlay yX2_setSideToPlay, Cond.code yX2_setSideToPlay cX2_setSideToPlay 2 none, Cond.methodLink RX2 58 yX2_inHand, Cond.methodLink RX2 84 yX2_setInHand, Cond.instanceMethod yX2_setInHand, Cond.selects RX2 yX2_setInHand yX2_setInHand, Cond.code yX2_setInHand cX2_setInHand 4 none, Cond.methodLink RX2 28 yX2_place, Cond.methodLink RX2 91 yX2_changeHandForTaken, Cond.instanceMethod yX2_changeHandForTaken, Cond.selects RX2 yX2_changeHandForTaken yX2_changeHandForTaken]
def wsX3_findPlays_r6 : List Cond := [Cond.code yX2_changeHandForTaken cX2_changeHandForTaken 6 none, Cond.methodLink RX3 46 yX3_isInCheck, Cond.instanceMethod yX3_isInCheck, Cond.selects RX3 yX3_isInCheck yX3_isInCheck, Cond.code yX3_isInCheck cX3_isInCheck 2 (some .boolean), Cond.methodLink RX3 142 yX3_canReply, Cond.instanceMethod yX3_canReply, Cond.selects RX3 yX3_canReply yX3_canReply, Cond.code yX3_canReply cX3_canReply 4 (some .boolean), Cond.methodLink RX3 145 yX2_takeBack, Cond.instanceMethod yX2_takeBack, Cond.selects RX2 yX2_takeBack yX2_takeBack, Cond.code yX2_takeBack cX2_takeBack 6 none]
def wsX3_findPlays : List Cond := .code yX3_findPlays cX3_findPlays 6 (some .int) :: ((wsX3_findPlays_r1 ++ (wsX3_findPlays_r2 ++ (wsX3_findPlays_r3 ++ (wsX3_findPlays_r4 ++ (wsX3_findPlays_r5 ++ wsX3_findPlays_r6))))) ++ wsX30 ++ wsX20)
def wsX3_isMated_r1 : List Cond := [Cond.methodLink RX3 46 yX3_isInCheck, Cond.instanceMethod yX3_isInCheck, Cond.selects RX3 yX3_isInCheck yX3_isInCheck, Cond.initialized RX3, Cond.code yX3_isInCheck cX3_isInCheck 2 (some .boolean), Cond.fieldLink RX3 28 "FiveShogi$Rules" "position" "LFiveShogi$Position;", Cond.methodLink RX3 32 yX2_sideToPlay, Cond.instanceMethod yX2_sideToPlay, Cond.selects RX2 yX2_sideToPlay yX2_sideToPlay, Cond.initialized RX2, Cond.code yX2_sideToPlay cX2_sideToPlay 1 (some .int), Cond.fieldLink RX2 11 "FiveShogi$Position" "state" "[I", Cond.methodLink RX3 38 yX2_kingOf, Cond.instanceMethod yX2_kingOf, Cond.selects RX2 yX2_kingOf yX2_kingOf, Cond.code yX2_kingOf cX2_kingOf 2 (some .int), Cond.static yX4_isSide, Cond.initialized RX4, Cond.code yX4_isSide cX4_isSide 1 (some .boolean), Cond.methodLink RX3 42 yX2_countAttackers, Cond.instanceMethod yX2_countAttackers, Cond.selects RX2 yX2_countAttackers yX2_countAttackers, Cond.code yX2_countAttackers cX2_countAttackers 11 (some .int), Cond.fieldLink RX2 15 "FiveShogi$Position" "beside" "[I"]
def wsX3_isMated_r2 : List Cond := [Cond.methodLink RX3 50 yX3_findPlays, Cond.instanceMethod yX3_findPlays, Cond.selects RX3 yX3_findPlays yX3_findPlays, Cond.code yX3_findPlays cX3_findPlays 6 (some .int), Cond.fieldLink RX3 9 "FiveShogi$Rules" "plainMoves" "[I", Cond.fieldLink RX3 15 "FiveShogi$Rules" "promotedMoves" "[I", Cond.fieldLink RX3 18 "FiveShogi$Rules" "kindDrops" "[I", Cond.methodLink RX3 67 yX2_manOn, Cond.instanceMethod yX2_manOn, Cond.selects RX2 yX2_manOn yX2_manOn, Cond.code yX2_manOn cX2_manOn 2 (some .int), Cond.static yX4_sideOf, Cond.code yX4_sideOf cX4_sideOf 1 (some .int), Cond.methodLink RX3 89 yX3_safeTargets, Cond.instanceMethod yX3_safeTargets, Cond.selects RX3 yX3_safeTargets yX3_safeTargets, Cond.code yX3_safeTargets cX3_safeTargets 8 (some .int), Cond.methodLink RX3 73 yX2_attackedFrom, Cond.instanceMethod yX2_attackedFrom, Cond.selects RX2 yX2_attackedFrom yX2_attackedFrom, Cond.code yX2_attackedFrom cX2_attackedFrom 9 (some .int), Cond.methodLink RX2 64 yX2_manOn, Cond.static yX4_has, Cond.code yX4_has cX4_has 2 (some .boolean)]
def wsX3_isMated_r3 : List Cond := [Cond.methodLink RX3 80 yX3_canEnter, Cond.instanceMethod yX3_canEnter, Cond.selects RX3 yX3_canEnter yX3_canEnter, Cond.code yX3_canEnter cX3_canEnter 4 (some .boolean), Cond.static yX4_kindOf, Cond.code yX4_kindOf cX4_kindOf 1 (some .int), Cond.methodLink RX3 132 yX2_place, Cond.instanceMethod yX2_place, Cond.selects RX2 yX2_place yX2_place, Cond.code yX2_place cX2_place 4 none, Cond.static yX4_isSquare, Cond.code yX4_isSquare cX4_isSquare 1 (some .boolean), Cond.static yX4_isMan, Cond.code yX4_isMan cX4_isMan 1 (some .boolean), Cond.static yX4_bit, Cond.code yX4_bit cX4_bit 1 (some .int), Cond.methodLink RX3 86 yX3_forcingSquares, Cond.instanceMethod yX3_forcingSquares, Cond.selects RX3 yX3_forcingSquares yX3_forcingSquares, Cond.code yX3_forcingSquares cX3_forcingSquares 3 (some .int), Cond.static yX4_lastRow, Cond.code yX4_lastRow cX4_lastRow 1 (some .int), Cond.constant RX4 214 (32505856), Cond.methodLink RX3 83 yX3_promotingSquares]
def wsX3_isMated_r4 : List Cond := [Cond.instanceMethod yX3_promotingSquares, Cond.selects RX3 yX3_promotingSquares yX3_promotingSquares, Cond.code yX3_promotingSquares cX3_promotingSquares 4 (some .int), Cond.constant RX3 131 (33554431), Cond.methodLink RX3 120 yJ6_bitCount_0f7a4, Cond.static yJ6_bitCount_0f7a4, Cond.initialized RJ6, Cond.code yJ6_bitCount_0f7a4 cJ6_bitCount_0f7a4 1 (some .int), Cond.constant RJ6 265 (1431655765), Cond.constant RJ6 266 (858993459), Cond.constant RJ6 267 (252645135), Cond.methodLink RX3 101 yX3_safeDrops, Cond.instanceMethod yX3_safeDrops, Cond.selects RX3 yX3_safeDrops yX3_safeDrops, Cond.code yX3_safeDrops cX3_safeDrops 6 (some .int), Cond.static yX4_manOf, Cond.code yX4_manOf cX4_manOf 2 (some .int), Cond.methodLink RX3 125 yX3_openToDrops, Cond.instanceMethod yX3_openToDrops, Cond.selects RX3 yX3_openToDrops yX3_openToDrops, Cond.code yX3_openToDrops cX3_openToDrops 4 (some .int), Cond.methodLink RX3 92 yX2_inHand, Cond.instanceMethod yX2_inHand, Cond.selects RX2 yX2_inHand yX2_inHand]
def wsX3_isMated_r5 : List Cond := [Cond.code yX2_inHand cX2_inHand 3 (some .int), Cond.static yX4_isHandKind, Cond.code yX4_isHandKind cX4_isHandKind 1 (some .boolean), Cond.methodLink RX3 98 yX3_pawnColumns, Cond.instanceMethod yX3_pawnColumns, Cond.selects RX3 yX3_pawnColumns yX3_pawnColumns, Cond.code yX3_pawnColumns cX3_pawnColumns 4 (some .int), Cond.constant RX3 138 (1082401), Cond.methodLink RX3 107 yX3_withoutMates, Cond.instanceMethod yX3_withoutMates, Cond.selects RX3 yX3_withoutMates yX3_withoutMates, Cond.code yX3_withoutMates cX3_withoutMates 6 (some .int), Cond.static yX4_dropNumber, Cond.code yX4_dropNumber cX4_dropNumber 2 (some .int), Cond.methodLink RX3 139 yX2_apply, Cond.instanceMethod yX2_apply, Cond.selects RX2 yX2_apply yX2_apply, Cond.code yX2_apply cX2_apply 7 (some .int), Cond.methodLink RX2 76 yX2_sideToPlay, Cond.methodLink RX2 80 yX2_setSideToPlay, Cond.instanceMethod yX2_setSideToPlay, Cond.selects RX2 yX2_setSideToPlay yX2_setSideToPlay, Cond.code yX2_setSideToPlay cX2_setSideToPlay 2 none, Cond.methodLink RX2 58 yX2_inHand]
def wsX3_isMated_r6 : List Cond := [Cond.methodLink RX2 84 yX2_setInHand, Cond.instanceMethod yX2_setInHand, Cond.selects RX2 yX2_setInHand yX2_setInHand, Cond.code yX2_setInHand cX2_setInHand 4 none, Cond.methodLink RX2 28 yX2_place, Cond.methodLink RX2 91 yX2_changeHandForTaken, Cond.instanceMethod yX2_changeHandForTaken, Cond.selects RX2 yX2_changeHandForTaken yX2_changeHandForTaken, Cond.code yX2_changeHandForTaken cX2_changeHandForTaken 6 none, Cond.methodLink RX3 142 yX3_canReply, Cond.instanceMethod yX3_canReply, Cond.selects RX3 yX3_canReply yX3_canReply, Cond.code yX3_canReply cX3_canReply 4 (some .boolean), Cond.methodLink RX3 145 yX2_takeBack, Cond.instanceMethod yX2_takeBack, Cond.selects RX2 yX2_takeBack yX2_takeBack, Cond.code yX2_takeBack cX2_takeBack 6 none]
def wsX3_isMated : List Cond := .code yX3_isMated cX3_isMated 1 (some .boolean) :: ((wsX3_isMated_r1 ++ (wsX3_isMated_r2 ++ (wsX3_isMated_r3 ++ (wsX3_isMated_r4 ++ (wsX3_isMated_r5 ++ wsX3_isMated_r6))))) ++ wsX30 ++ wsX20)
def wsX3_whyNoDrop_r1 : List Cond := [Cond.fieldLink RX3 28 "FiveShogi$Rules" "position" "LFiveShogi$Position;", Cond.methodLink RX3 32 yX2_sideToPlay, Cond.instanceMethod yX2_sideToPlay, Cond.selects RX2 yX2_sideToPlay yX2_sideToPlay, Cond.initialized RX2, Cond.code yX2_sideToPlay cX2_sideToPlay 1 (some .int), Cond.fieldLink RX2 11 "FiveShogi$Position" "state" "[I", Cond.methodLink RX3 92 yX2_inHand, Cond.instanceMethod yX2_inHand, Cond.selects RX2 yX2_inHand yX2_inHand, Cond.code yX2_inHand cX2_inHand 3 (some .int), Cond.static yX4_isSide, Cond.initialized RX4, Cond.code yX4_isSide cX4_isSide 1 (some .boolean), Cond.static yX4_isHandKind, Cond.code yX4_isHandKind cX4_isHandKind 1 (some .boolean), Cond.methodLink RX3 67 yX2_manOn, Cond.instanceMethod yX2_manOn, Cond.selects RX2 yX2_manOn yX2_manOn, Cond.code yX2_manOn cX2_manOn 2 (some .int), Cond.static yX4_lastRow, Cond.code yX4_lastRow cX4_lastRow 1 (some .int), Cond.constant RX4 214 (32505856), Cond.static yX4_has]
def wsX3_whyNoDrop_r2 : List Cond := [Cond.code yX4_has cX4_has 2 (some .boolean), Cond.methodLink RX3 98 yX3_pawnColumns, Cond.instanceMethod yX3_pawnColumns, Cond.selects RX3 yX3_pawnColumns yX3_pawnColumns, Cond.initialized RX3, Cond.code yX3_pawnColumns cX3_pawnColumns 4 (some .int), Cond.constant RX3 138 (1082401), Cond.static yX4_manOf, Cond.code yX4_manOf cX4_manOf 2 (some .int), Cond.methodLink RX3 101 yX3_safeDrops, Cond.instanceMethod yX3_safeDrops, Cond.selects RX3 yX3_safeDrops yX3_safeDrops, Cond.code yX3_safeDrops cX3_safeDrops 6 (some .int), Cond.methodLink RX3 38 yX2_kingOf, Cond.instanceMethod yX2_kingOf, Cond.selects RX2 yX2_kingOf yX2_kingOf, Cond.code yX2_kingOf cX2_kingOf 2 (some .int), Cond.methodLink RX3 42 yX2_countAttackers, Cond.instanceMethod yX2_countAttackers, Cond.selects RX2 yX2_countAttackers yX2_countAttackers, Cond.code yX2_countAttackers cX2_countAttackers 11 (some .int), Cond.fieldLink RX2 15 "FiveShogi$Position" "beside" "[I", Cond.methodLink RX3 132 yX2_place, Cond.instanceMethod yX2_place]
def wsX3_whyNoDrop_r3 : List Cond := [Cond.selects RX2 yX2_place yX2_place, Cond.code yX2_place cX2_place 4 none, Cond.static yX4_isSquare, Cond.code yX4_isSquare cX4_isSquare 1 (some .boolean), Cond.static yX4_isMan, Cond.code yX4_isMan cX4_isMan 1 (some .boolean), Cond.static yX4_kindOf, Cond.code yX4_kindOf cX4_kindOf 1 (some .int), Cond.static yX4_sideOf, Cond.code yX4_sideOf cX4_sideOf 1 (some .int), Cond.static yX4_bit, Cond.code yX4_bit cX4_bit 1 (some .int), Cond.methodLink RX3 107 yX3_withoutMates, Cond.instanceMethod yX3_withoutMates, Cond.selects RX3 yX3_withoutMates yX3_withoutMates, Cond.code yX3_withoutMates cX3_withoutMates 6 (some .int), Cond.static yX4_dropNumber, Cond.code yX4_dropNumber cX4_dropNumber 2 (some .int), Cond.methodLink RX3 139 yX2_apply, Cond.instanceMethod yX2_apply, Cond.selects RX2 yX2_apply yX2_apply, Cond.code yX2_apply cX2_apply 7 (some .int), Cond.methodLink RX2 76 yX2_sideToPlay, Cond.methodLink RX2 80 yX2_setSideToPlay]
def wsX3_whyNoDrop_r4 : List Cond := [Cond.instanceMethod yX2_setSideToPlay, Cond.selects RX2 yX2_setSideToPlay yX2_setSideToPlay, Cond.code yX2_setSideToPlay cX2_setSideToPlay 2 none, Cond.methodLink RX2 58 yX2_inHand, Cond.methodLink RX2 84 yX2_setInHand, Cond.instanceMethod yX2_setInHand, Cond.selects RX2 yX2_setInHand yX2_setInHand, Cond.code yX2_setInHand cX2_setInHand 4 none, Cond.methodLink RX2 28 yX2_place, Cond.methodLink RX2 64 yX2_manOn, Cond.methodLink RX2 91 yX2_changeHandForTaken, Cond.instanceMethod yX2_changeHandForTaken, Cond.selects RX2 yX2_changeHandForTaken yX2_changeHandForTaken, Cond.code yX2_changeHandForTaken cX2_changeHandForTaken 6 none, Cond.methodLink RX3 46 yX3_isInCheck, Cond.instanceMethod yX3_isInCheck, Cond.selects RX3 yX3_isInCheck yX3_isInCheck, Cond.code yX3_isInCheck cX3_isInCheck 2 (some .boolean), Cond.methodLink RX3 142 yX3_canReply, Cond.instanceMethod yX3_canReply, Cond.selects RX3 yX3_canReply yX3_canReply, Cond.code yX3_canReply cX3_canReply 4 (some .boolean), Cond.methodLink RX3 89 yX3_safeTargets, Cond.instanceMethod yX3_safeTargets]
def wsX3_whyNoDrop_r5 : List Cond := [Cond.selects RX3 yX3_safeTargets yX3_safeTargets, Cond.code yX3_safeTargets cX3_safeTargets 8 (some .int), Cond.methodLink RX3 73 yX2_attackedFrom, Cond.instanceMethod yX2_attackedFrom, Cond.selects RX2 yX2_attackedFrom yX2_attackedFrom, Cond.code yX2_attackedFrom cX2_attackedFrom 9 (some .int), Cond.methodLink RX3 80 yX3_canEnter, Cond.instanceMethod yX3_canEnter, Cond.selects RX3 yX3_canEnter yX3_canEnter, Cond.code yX3_canEnter cX3_canEnter 4 (some .boolean), Cond.methodLink RX3 125 yX3_openToDrops, Cond.instanceMethod yX3_openToDrops, Cond.selects RX3 yX3_openToDrops yX3_openToDrops, Cond.code yX3_openToDrops cX3_openToDrops 4 (some .int), Cond.methodLink RX3 145 yX2_takeBack, Cond.instanceMethod yX2_takeBack, Cond.selects RX2 yX2_takeBack yX2_takeBack, Cond.code yX2_takeBack cX2_takeBack 6 none]
def wsX3_whyNoDrop : List Cond := .code yX3_whyNoDrop cX3_whyNoDrop 4 (some .int) :: ((wsX3_whyNoDrop_r1 ++ (wsX3_whyNoDrop_r2 ++ (wsX3_whyNoDrop_r3 ++ (wsX3_whyNoDrop_r4 ++ wsX3_whyNoDrop_r5)))) ++ wsX30 ++ wsX20)
def wsX3_whyNoMove_r1 : List Cond := [Cond.fieldLink RX3 28 "FiveShogi$Rules" "position" "LFiveShogi$Position;", Cond.methodLink RX3 32 yX2_sideToPlay, Cond.instanceMethod yX2_sideToPlay, Cond.selects RX2 yX2_sideToPlay yX2_sideToPlay, Cond.initialized RX2, Cond.code yX2_sideToPlay cX2_sideToPlay 1 (some .int), Cond.fieldLink RX2 11 "FiveShogi$Position" "state" "[I", Cond.methodLink RX3 67 yX2_manOn, Cond.instanceMethod yX2_manOn, Cond.selects RX2 yX2_manOn yX2_manOn, Cond.code yX2_manOn cX2_manOn 2 (some .int), Cond.static yX4_sideOf, Cond.initialized RX4, Cond.code yX4_sideOf cX4_sideOf 1 (some .int), Cond.methodLink RX3 73 yX2_attackedFrom, Cond.instanceMethod yX2_attackedFrom, Cond.selects RX2 yX2_attackedFrom yX2_attackedFrom, Cond.code yX2_attackedFrom cX2_attackedFrom 9 (some .int), Cond.fieldLink RX2 15 "FiveShogi$Position" "beside" "[I", Cond.methodLink RX2 64 yX2_manOn, Cond.static yX4_has, Cond.code yX4_has cX4_has 2 (some .boolean), Cond.methodLink RX3 80 yX3_canEnter, Cond.instanceMethod yX3_canEnter]
def wsX3_whyNoMove_r2 : List Cond := [Cond.selects RX3 yX3_canEnter yX3_canEnter, Cond.initialized RX3, Cond.code yX3_canEnter cX3_canEnter 4 (some .boolean), Cond.static yX4_kindOf, Cond.code yX4_kindOf cX4_kindOf 1 (some .int), Cond.methodLink RX3 83 yX3_promotingSquares, Cond.instanceMethod yX3_promotingSquares, Cond.selects RX3 yX3_promotingSquares yX3_promotingSquares, Cond.code yX3_promotingSquares cX3_promotingSquares 4 (some .int), Cond.constant RX3 131 (33554431), Cond.static yX4_lastRow, Cond.code yX4_lastRow cX4_lastRow 1 (some .int), Cond.constant RX4 214 (32505856), Cond.methodLink RX3 86 yX3_forcingSquares, Cond.instanceMethod yX3_forcingSquares, Cond.selects RX3 yX3_forcingSquares yX3_forcingSquares, Cond.code yX3_forcingSquares cX3_forcingSquares 3 (some .int), Cond.methodLink RX3 89 yX3_safeTargets, Cond.instanceMethod yX3_safeTargets, Cond.selects RX3 yX3_safeTargets yX3_safeTargets, Cond.code yX3_safeTargets cX3_safeTargets 8 (some .int), Cond.methodLink RX3 132 yX2_place, Cond.instanceMethod yX2_place, Cond.selects RX2 yX2_place yX2_place]
def wsX3_whyNoMove_r3 : List Cond := [Cond.code yX2_place cX2_place 4 none, Cond.static yX4_isSquare, Cond.code yX4_isSquare cX4_isSquare 1 (some .boolean), Cond.static yX4_isMan, Cond.code yX4_isMan cX4_isMan 1 (some .boolean), Cond.methodLink RX3 38 yX2_kingOf, Cond.instanceMethod yX2_kingOf, Cond.selects RX2 yX2_kingOf yX2_kingOf, Cond.code yX2_kingOf cX2_kingOf 2 (some .int), Cond.static yX4_isSide, Cond.code yX4_isSide cX4_isSide 1 (some .boolean), Cond.methodLink RX3 42 yX2_countAttackers, Cond.instanceMethod yX2_countAttackers, Cond.selects RX2 yX2_countAttackers yX2_countAttackers, Cond.code yX2_countAttackers cX2_countAttackers 11 (some .int), Cond.static yX4_bit, Cond.code yX4_bit cX4_bit 1 (some .int)]
def wsX3_whyNoMove : List Cond := .code yX3_whyNoMove cX3_whyNoMove 5 (some .int) :: ((wsX3_whyNoMove_r1 ++ (wsX3_whyNoMove_r2 ++ wsX3_whyNoMove_r3)) ++ wsX30 ++ wsX20)
def wsX3_allows_r1 : List Cond := [Cond.static yX4_isSquare, Cond.initialized RX4, Cond.code yX4_isSquare cX4_isSquare 1 (some .boolean), Cond.static yX4_isHandKind, Cond.code yX4_isHandKind cX4_isHandKind 1 (some .boolean), Cond.methodLink RX3 60 yX3_whyNoDrop, Cond.instanceMethod yX3_whyNoDrop, Cond.selects RX3 yX3_whyNoDrop yX3_whyNoDrop, Cond.initialized RX3, Cond.code yX3_whyNoDrop cX3_whyNoDrop 4 (some .int), Cond.fieldLink RX3 28 "FiveShogi$Rules" "position" "LFiveShogi$Position;", Cond.methodLink RX3 32 yX2_sideToPlay, Cond.instanceMethod yX2_sideToPlay, Cond.selects RX2 yX2_sideToPlay yX2_sideToPlay, Cond.initialized RX2, Cond.code yX2_sideToPlay cX2_sideToPlay 1 (some .int), Cond.fieldLink RX2 11 "FiveShogi$Position" "state" "[I", Cond.methodLink RX3 92 yX2_inHand, Cond.instanceMethod yX2_inHand, Cond.selects RX2 yX2_inHand yX2_inHand, Cond.code yX2_inHand cX2_inHand 3 (some .int), Cond.static yX4_isSide, Cond.code yX4_isSide cX4_isSide 1 (some .boolean), Cond.methodLink RX3 67 yX2_manOn]
def wsX3_allows_r2 : List Cond := [Cond.instanceMethod yX2_manOn, Cond.selects RX2 yX2_manOn yX2_manOn, Cond.code yX2_manOn cX2_manOn 2 (some .int), Cond.static yX4_lastRow, Cond.code yX4_lastRow cX4_lastRow 1 (some .int), Cond.constant RX4 214 (32505856), Cond.static yX4_has, Cond.code yX4_has cX4_has 2 (some .boolean), Cond.methodLink RX3 98 yX3_pawnColumns, Cond.instanceMethod yX3_pawnColumns, Cond.selects RX3 yX3_pawnColumns yX3_pawnColumns, Cond.code yX3_pawnColumns cX3_pawnColumns 4 (some .int), Cond.constant RX3 138 (1082401), Cond.static yX4_manOf, Cond.code yX4_manOf cX4_manOf 2 (some .int), Cond.methodLink RX3 101 yX3_safeDrops, Cond.instanceMethod yX3_safeDrops, Cond.selects RX3 yX3_safeDrops yX3_safeDrops, Cond.code yX3_safeDrops cX3_safeDrops 6 (some .int), Cond.methodLink RX3 38 yX2_kingOf, Cond.instanceMethod yX2_kingOf, Cond.selects RX2 yX2_kingOf yX2_kingOf, Cond.code yX2_kingOf cX2_kingOf 2 (some .int), Cond.methodLink RX3 42 yX2_countAttackers]
def wsX3_allows_r3 : List Cond := [Cond.instanceMethod yX2_countAttackers, Cond.selects RX2 yX2_countAttackers yX2_countAttackers, Cond.code yX2_countAttackers cX2_countAttackers 11 (some .int), Cond.fieldLink RX2 15 "FiveShogi$Position" "beside" "[I", Cond.methodLink RX3 132 yX2_place, Cond.instanceMethod yX2_place, Cond.selects RX2 yX2_place yX2_place, Cond.code yX2_place cX2_place 4 none, Cond.static yX4_isMan, Cond.code yX4_isMan cX4_isMan 1 (some .boolean), Cond.static yX4_kindOf, Cond.code yX4_kindOf cX4_kindOf 1 (some .int), Cond.static yX4_sideOf, Cond.code yX4_sideOf cX4_sideOf 1 (some .int), Cond.static yX4_bit, Cond.code yX4_bit cX4_bit 1 (some .int), Cond.methodLink RX3 107 yX3_withoutMates, Cond.instanceMethod yX3_withoutMates, Cond.selects RX3 yX3_withoutMates yX3_withoutMates, Cond.code yX3_withoutMates cX3_withoutMates 6 (some .int), Cond.static yX4_dropNumber, Cond.code yX4_dropNumber cX4_dropNumber 2 (some .int), Cond.methodLink RX3 139 yX2_apply, Cond.instanceMethod yX2_apply]
def wsX3_allows_r4 : List Cond := [Cond.selects RX2 yX2_apply yX2_apply, Cond.code yX2_apply cX2_apply 7 (some .int), Cond.methodLink RX2 76 yX2_sideToPlay, Cond.methodLink RX2 80 yX2_setSideToPlay, Cond.instanceMethod yX2_setSideToPlay, Cond.selects RX2 yX2_setSideToPlay yX2_setSideToPlay, Cond.code yX2_setSideToPlay cX2_setSideToPlay 2 none, Cond.methodLink RX2 58 yX2_inHand, Cond.methodLink RX2 84 yX2_setInHand, Cond.instanceMethod yX2_setInHand, Cond.selects RX2 yX2_setInHand yX2_setInHand, Cond.code yX2_setInHand cX2_setInHand 4 none, Cond.methodLink RX2 28 yX2_place, Cond.methodLink RX2 64 yX2_manOn, Cond.methodLink RX2 91 yX2_changeHandForTaken, Cond.instanceMethod yX2_changeHandForTaken, Cond.selects RX2 yX2_changeHandForTaken yX2_changeHandForTaken, Cond.code yX2_changeHandForTaken cX2_changeHandForTaken 6 none, Cond.methodLink RX3 46 yX3_isInCheck, Cond.instanceMethod yX3_isInCheck, Cond.selects RX3 yX3_isInCheck yX3_isInCheck, Cond.code yX3_isInCheck cX3_isInCheck 2 (some .boolean), Cond.methodLink RX3 142 yX3_canReply, Cond.instanceMethod yX3_canReply]
def wsX3_allows_r5 : List Cond := [Cond.selects RX3 yX3_canReply yX3_canReply, Cond.code yX3_canReply cX3_canReply 4 (some .boolean), Cond.methodLink RX3 89 yX3_safeTargets, Cond.instanceMethod yX3_safeTargets, Cond.selects RX3 yX3_safeTargets yX3_safeTargets, Cond.code yX3_safeTargets cX3_safeTargets 8 (some .int), Cond.methodLink RX3 73 yX2_attackedFrom, Cond.instanceMethod yX2_attackedFrom, Cond.selects RX2 yX2_attackedFrom yX2_attackedFrom, Cond.code yX2_attackedFrom cX2_attackedFrom 9 (some .int), Cond.methodLink RX3 80 yX3_canEnter, Cond.instanceMethod yX3_canEnter, Cond.selects RX3 yX3_canEnter yX3_canEnter, Cond.code yX3_canEnter cX3_canEnter 4 (some .boolean), Cond.methodLink RX3 125 yX3_openToDrops, Cond.instanceMethod yX3_openToDrops, Cond.selects RX3 yX3_openToDrops yX3_openToDrops, Cond.code yX3_openToDrops cX3_openToDrops 4 (some .int), Cond.methodLink RX3 145 yX2_takeBack, Cond.instanceMethod yX2_takeBack, Cond.selects RX2 yX2_takeBack yX2_takeBack, Cond.code yX2_takeBack cX2_takeBack 6 none, Cond.methodLink RX3 63 yX3_whyNoMove, Cond.instanceMethod yX3_whyNoMove]
def wsX3_allows_r6 : List Cond := [Cond.selects RX3 yX3_whyNoMove yX3_whyNoMove, Cond.code yX3_whyNoMove cX3_whyNoMove 5 (some .int), Cond.methodLink RX3 83 yX3_promotingSquares, Cond.instanceMethod yX3_promotingSquares, Cond.selects RX3 yX3_promotingSquares yX3_promotingSquares, Cond.code yX3_promotingSquares cX3_promotingSquares 4 (some .int), Cond.constant RX3 131 (33554431), Cond.methodLink RX3 86 yX3_forcingSquares, Cond.instanceMethod yX3_forcingSquares, Cond.selects RX3 yX3_forcingSquares yX3_forcingSquares, Cond.code yX3_forcingSquares cX3_forcingSquares 3 (some .int)]
def wsX3_allows : List Cond := .code yX3_allows cX3_allows 4 (some .boolean) :: ((wsX3_allows_r1 ++ (wsX3_allows_r2 ++ (wsX3_allows_r3 ++ (wsX3_allows_r4 ++ (wsX3_allows_r5 ++ wsX3_allows_r6))))) ++ wsX30 ++ wsX20)
def wsX4_moveNumber : List Cond := .code yX4_moveNumber cX4_moveNumber 3 (some .int) :: ([])
def wsX3_addPlays : List Cond := .code yX3_addPlays cX3_addPlays 4 none :: ([.fieldLink RX3 24 "FiveShogi$Rules" "listSize" "I", .fieldLink RX3 21 "FiveShogi$Rules" "list" "[I", .static yX4_has, .initialized RX4, .code yX4_has cX4_has 2 (some .boolean)] ++ wsX30)
def wsX3_listPlays : List Cond := .code yX3_listPlays cX3_listPlays 2 (some .int) :: ([.fieldLink RX3 24 "FiveShogi$Rules" "listSize" "I", .fieldLink RX3 9 "FiveShogi$Rules" "plainMoves" "[I", .fieldLink RX3 15 "FiveShogi$Rules" "promotedMoves" "[I", .fieldLink RX3 18 "FiveShogi$Rules" "kindDrops" "[I", .static yX4_moveNumber, .initialized RX4, .code yX4_moveNumber cX4_moveNumber 3 (some .int), .methodLink RX3 113 yX3_addPlays, .instanceMethod yX3_addPlays, .selects RX3 yX3_addPlays yX3_addPlays, .initialized RX3, .code yX3_addPlays cX3_addPlays 4 none, .fieldLink RX3 21 "FiveShogi$Rules" "list" "[I", .static yX4_has, .code yX4_has cX4_has 2 (some .boolean), .static yX4_dropNumber, .code yX4_dropNumber cX4_dropNumber 2 (some .int)] ++ wsX30)
def wsX3_listed : List Cond := .code yX3_listed cX3_listed 2 (some .int) :: ([.fieldLink RX3 24 "FiveShogi$Rules" "listSize" "I", .fieldLink RX3 21 "FiveShogi$Rules" "list" "[I"] ++ wsX30)
def wsX3_dropSquares : List Cond := .code yX3_dropSquares cX3_dropSquares 2 (some .int) :: ([.fieldLink RX3 18 "FiveShogi$Rules" "kindDrops" "[I"] ++ wsX30)
def wsX4_init_r1 : List Cond := [Cond.methodLink RX4 3 objectInit, Cond.instanceMethod objectInit, Cond.code objectInit ⟨#[0xb1]⟩ 1 none, Cond.classLink RX4 9 RX2, Cond.instantiable RX2 2, Cond.initialized RX2, Cond.fieldLink RX4 12 "FiveShogi" "position" "LFiveShogi$Position;", Cond.classLink RX4 16 RX3, Cond.instantiable RX3 6, Cond.initialized RX3, Cond.fieldLink RX4 21 "FiveShogi" "rules" "LFiveShogi$Rules;", Cond.classLink RX4 25 RX0, Cond.instantiable RX0 2, Cond.initialized RX0, Cond.fieldLink RX4 28 "FiveShogi" "history" "LFiveShogi$History;", Cond.classLink RX4 32 RX1, Cond.instantiable RX1 5, Cond.initialized RX1, Cond.fieldLink RX4 35 "FiveShogi" "text" "LFiveShogi$PlayText;", Cond.arrayClass .int, Cond.fieldLink RX4 39 "FiveShogi" "before" "[I", Cond.fieldLink RX4 43 "FiveShogi" "snapshot" "[I", Cond.fieldLink RX4 46 "FiveShogi" "hasSnapshot" "Z", Cond.methodLink RX4 11 yX2_init]
def wsX4_init_r2 : List Cond := [Cond.instanceMethod yX2_init, Cond.code yX2_init cX2_init 2 none, Cond.methodLink RX2 5 objectInit, Cond.fieldLink RX2 11 "FiveShogi$Position" "state" "[I", Cond.fieldLink RX2 15 "FiveShogi$Position" "beside" "[I", Cond.static yX4_squareBeside, Cond.initialized RX4, Cond.code yX4_squareBeside cX4_squareBeside 5 (some .int), Cond.fieldLink RX4 215 "FiveShogi" "ROWS_ON" "[I", Cond.fieldLink RX4 218 "FiveShogi" "COLUMNS_ON" "[I", Cond.methodLink RX4 50 yX4_isSquare, Cond.static yX4_isSquare, Cond.code yX4_isSquare cX4_isSquare 1 (some .boolean), Cond.methodLink RX2 22 yX2_removeAllMen, Cond.instanceMethod yX2_removeAllMen, Cond.selects RX2 yX2_removeAllMen yX2_removeAllMen, Cond.code yX2_removeAllMen cX2_removeAllMen 2 none, Cond.methodLink RX2 28 yX2_place, Cond.instanceMethod yX2_place, Cond.selects RX2 yX2_place yX2_place, Cond.code yX2_place cX2_place 4 none, Cond.static yX4_isMan, Cond.code yX4_isMan cX4_isMan 1 (some .boolean), Cond.static yX4_kindOf]
def wsX4_init_r3 : List Cond := [Cond.code yX4_kindOf cX4_kindOf 1 (some .int), Cond.static yX4_sideOf, Cond.code yX4_sideOf cX4_sideOf 1 (some .int), Cond.methodLink RX4 18 yX3_init, Cond.instanceMethod yX3_init, Cond.code yX3_init cX3_init 2 none, Cond.methodLink RX3 3 objectInit, Cond.fieldLink RX3 9 "FiveShogi$Rules" "plainMoves" "[I", Cond.fieldLink RX3 15 "FiveShogi$Rules" "promotedMoves" "[I", Cond.fieldLink RX3 18 "FiveShogi$Rules" "kindDrops" "[I", Cond.fieldLink RX3 21 "FiveShogi$Rules" "list" "[I", Cond.fieldLink RX3 24 "FiveShogi$Rules" "listSize" "I", Cond.fieldLink RX3 28 "FiveShogi$Rules" "position" "LFiveShogi$Position;", Cond.instanceMethod yX0_init, Cond.code yX0_init cX0_init 1 none, Cond.methodLink RX0 1 objectInit, Cond.fieldLink RX0 11 "FiveShogi$History" "states" "[I", Cond.fieldLink RX0 15 "FiveShogi$History" "size" "I", Cond.instanceMethod yX1_init, Cond.code yX1_init cX1_init 1 none, Cond.methodLink RX1 3 objectInit, Cond.arrayClass .char, Cond.fieldLink RX1 11 "FiveShogi$PlayText" "signs" "[C", Cond.fieldLink RX1 15 "FiveShogi$PlayText" "size" "I"]
def wsX4_init_r4 : List Cond := [Cond.fieldLink RX1 19 "FiveShogi$PlayText" "plays" "[I", Cond.fieldLink RX1 23 "FiveShogi$PlayText" "playsRead" "I", Cond.fieldLink RX1 26 "FiveShogi$PlayText" "cursor" "I"]
def wsX4_init : List Cond := .code yX4_init cX4_init 1 none :: ((wsX4_init_r1 ++ (wsX4_init_r2 ++ (wsX4_init_r3 ++ wsX4_init_r4))) ++ wsX20 ++ wsX40 ++ wsX30 ++ wsX00 ++ wsX10)
def wsX4_recordChange : List Cond := .code yX4_recordChange cX4_recordChange 1 none :: ([.fieldLink RX4 12 "FiveShogi" "position" "LFiveShogi$Position;", .fieldLink RX4 39 "FiveShogi" "before" "[I", .fieldLink RX4 28 "FiveShogi" "history" "LFiveShogi$History;", .methodLink RX4 154 yX2_copyTo, .instanceMethod yX2_copyTo, .selects RX2 yX2_copyTo yX2_copyTo, .initialized RX2, .code yX2_copyTo cX2_copyTo 3 none, .fieldLink RX2 11 "FiveShogi$Position" "state" "[I", .methodLink RX2 32 arraycopyName, .native arraycopyName, .static arraycopyName, .initialized "java/lang/System", .methodLink RX4 167 yX0_push, .instanceMethod yX0_push, .selects RX0 yX0_push yX0_push, .initialized RX0, .code yX0_push cX0_push 2 none, .fieldLink RX0 15 "FiveShogi$History" "size" "I", .fieldLink RX0 11 "FiveShogi$History" "states" "[I", .methodLink RX0 19 arraycopyName] ++ wsX40 ++ wsX20 ++ wsX00)
def wsX4_asNumber : List Cond := .code yX4_asNumber cX4_asNumber 1 (some .int) :: ([])
def wsX4_make_r1 : List Cond := [Cond.fieldLink RX4 21 "FiveShogi" "rules" "LFiveShogi$Rules;", Cond.fieldLink RX4 12 "FiveShogi" "position" "LFiveShogi$Position;", Cond.methodLink RX4 85 yX3_allows, Cond.instanceMethod yX3_allows, Cond.selects RX3 yX3_allows yX3_allows, Cond.initialized RX3, Cond.code yX3_allows cX3_allows 4 (some .boolean), Cond.static yX4_isSquare, Cond.initialized RX4, Cond.code yX4_isSquare cX4_isSquare 1 (some .boolean), Cond.static yX4_isHandKind, Cond.code yX4_isHandKind cX4_isHandKind 1 (some .boolean), Cond.methodLink RX3 60 yX3_whyNoDrop, Cond.instanceMethod yX3_whyNoDrop, Cond.selects RX3 yX3_whyNoDrop yX3_whyNoDrop, Cond.code yX3_whyNoDrop cX3_whyNoDrop 4 (some .int), Cond.fieldLink RX3 28 "FiveShogi$Rules" "position" "LFiveShogi$Position;", Cond.methodLink RX3 32 yX2_sideToPlay, Cond.instanceMethod yX2_sideToPlay, Cond.selects RX2 yX2_sideToPlay yX2_sideToPlay, Cond.initialized RX2, Cond.code yX2_sideToPlay cX2_sideToPlay 1 (some .int), Cond.fieldLink RX2 11 "FiveShogi$Position" "state" "[I", Cond.methodLink RX3 92 yX2_inHand]
def wsX4_make_r2 : List Cond := [Cond.instanceMethod yX2_inHand, Cond.selects RX2 yX2_inHand yX2_inHand, Cond.code yX2_inHand cX2_inHand 3 (some .int), Cond.static yX4_isSide, Cond.code yX4_isSide cX4_isSide 1 (some .boolean), Cond.methodLink RX3 67 yX2_manOn, Cond.instanceMethod yX2_manOn, Cond.selects RX2 yX2_manOn yX2_manOn, Cond.code yX2_manOn cX2_manOn 2 (some .int), Cond.static yX4_lastRow, Cond.code yX4_lastRow cX4_lastRow 1 (some .int), Cond.constant RX4 214 (32505856), Cond.static yX4_has, Cond.code yX4_has cX4_has 2 (some .boolean), Cond.methodLink RX3 98 yX3_pawnColumns, Cond.instanceMethod yX3_pawnColumns, Cond.selects RX3 yX3_pawnColumns yX3_pawnColumns, Cond.code yX3_pawnColumns cX3_pawnColumns 4 (some .int), Cond.constant RX3 138 (1082401), Cond.static yX4_manOf, Cond.code yX4_manOf cX4_manOf 2 (some .int), Cond.methodLink RX3 101 yX3_safeDrops, Cond.instanceMethod yX3_safeDrops, Cond.selects RX3 yX3_safeDrops yX3_safeDrops]
def wsX4_make_r3 : List Cond := [Cond.code yX3_safeDrops cX3_safeDrops 6 (some .int), Cond.methodLink RX3 38 yX2_kingOf, Cond.instanceMethod yX2_kingOf, Cond.selects RX2 yX2_kingOf yX2_kingOf, Cond.code yX2_kingOf cX2_kingOf 2 (some .int), Cond.methodLink RX3 42 yX2_countAttackers, Cond.instanceMethod yX2_countAttackers, Cond.selects RX2 yX2_countAttackers yX2_countAttackers, Cond.code yX2_countAttackers cX2_countAttackers 11 (some .int), Cond.fieldLink RX2 15 "FiveShogi$Position" "beside" "[I", Cond.methodLink RX3 132 yX2_place, Cond.instanceMethod yX2_place, Cond.selects RX2 yX2_place yX2_place, Cond.code yX2_place cX2_place 4 none, Cond.static yX4_isMan, Cond.code yX4_isMan cX4_isMan 1 (some .boolean), Cond.static yX4_kindOf, Cond.code yX4_kindOf cX4_kindOf 1 (some .int), Cond.static yX4_sideOf, Cond.code yX4_sideOf cX4_sideOf 1 (some .int), Cond.static yX4_bit, Cond.code yX4_bit cX4_bit 1 (some .int), Cond.methodLink RX3 107 yX3_withoutMates, Cond.instanceMethod yX3_withoutMates]
def wsX4_make_r4 : List Cond := [Cond.selects RX3 yX3_withoutMates yX3_withoutMates, Cond.code yX3_withoutMates cX3_withoutMates 6 (some .int), Cond.static yX4_dropNumber, Cond.code yX4_dropNumber cX4_dropNumber 2 (some .int), Cond.methodLink RX3 139 yX2_apply, Cond.instanceMethod yX2_apply, Cond.selects RX2 yX2_apply yX2_apply, Cond.code yX2_apply cX2_apply 7 (some .int), Cond.methodLink RX2 76 yX2_sideToPlay, Cond.methodLink RX2 80 yX2_setSideToPlay, Cond.instanceMethod yX2_setSideToPlay, Cond.selects RX2 yX2_setSideToPlay yX2_setSideToPlay, Cond.code yX2_setSideToPlay cX2_setSideToPlay 2 none, Cond.methodLink RX2 58 yX2_inHand, Cond.methodLink RX2 84 yX2_setInHand, Cond.instanceMethod yX2_setInHand, Cond.selects RX2 yX2_setInHand yX2_setInHand, Cond.code yX2_setInHand cX2_setInHand 4 none, Cond.methodLink RX2 28 yX2_place, Cond.methodLink RX2 64 yX2_manOn, Cond.methodLink RX2 91 yX2_changeHandForTaken, Cond.instanceMethod yX2_changeHandForTaken, Cond.selects RX2 yX2_changeHandForTaken yX2_changeHandForTaken, Cond.code yX2_changeHandForTaken cX2_changeHandForTaken 6 none]
def wsX4_make_r5 : List Cond := [Cond.methodLink RX3 46 yX3_isInCheck, Cond.instanceMethod yX3_isInCheck, Cond.selects RX3 yX3_isInCheck yX3_isInCheck, Cond.code yX3_isInCheck cX3_isInCheck 2 (some .boolean), Cond.methodLink RX3 142 yX3_canReply, Cond.instanceMethod yX3_canReply, Cond.selects RX3 yX3_canReply yX3_canReply, Cond.code yX3_canReply cX3_canReply 4 (some .boolean), Cond.methodLink RX3 89 yX3_safeTargets, Cond.instanceMethod yX3_safeTargets, Cond.selects RX3 yX3_safeTargets yX3_safeTargets, Cond.code yX3_safeTargets cX3_safeTargets 8 (some .int), Cond.methodLink RX3 73 yX2_attackedFrom, Cond.instanceMethod yX2_attackedFrom, Cond.selects RX2 yX2_attackedFrom yX2_attackedFrom, Cond.code yX2_attackedFrom cX2_attackedFrom 9 (some .int), Cond.methodLink RX3 80 yX3_canEnter, Cond.instanceMethod yX3_canEnter, Cond.selects RX3 yX3_canEnter yX3_canEnter, Cond.code yX3_canEnter cX3_canEnter 4 (some .boolean), Cond.methodLink RX3 125 yX3_openToDrops, Cond.instanceMethod yX3_openToDrops, Cond.selects RX3 yX3_openToDrops yX3_openToDrops, Cond.code yX3_openToDrops cX3_openToDrops 4 (some .int)]
def wsX4_make_r6 : List Cond := [Cond.methodLink RX3 145 yX2_takeBack, Cond.instanceMethod yX2_takeBack, Cond.selects RX2 yX2_takeBack yX2_takeBack, Cond.code yX2_takeBack cX2_takeBack 6 none, Cond.methodLink RX3 63 yX3_whyNoMove, Cond.instanceMethod yX3_whyNoMove, Cond.selects RX3 yX3_whyNoMove yX3_whyNoMove, Cond.code yX3_whyNoMove cX3_whyNoMove 5 (some .int), Cond.methodLink RX3 83 yX3_promotingSquares, Cond.instanceMethod yX3_promotingSquares, Cond.selects RX3 yX3_promotingSquares yX3_promotingSquares, Cond.code yX3_promotingSquares cX3_promotingSquares 4 (some .int), Cond.constant RX3 131 (33554431), Cond.methodLink RX3 86 yX3_forcingSquares, Cond.instanceMethod yX3_forcingSquares, Cond.selects RX3 yX3_forcingSquares yX3_forcingSquares, Cond.code yX3_forcingSquares cX3_forcingSquares 3 (some .int), Cond.methodLink RX4 58 yX4_recordChange, Cond.instanceMethod yX4_recordChange, Cond.selects RX4 yX4_recordChange yX4_recordChange, Cond.code yX4_recordChange cX4_recordChange 1 none, Cond.fieldLink RX4 39 "FiveShogi" "before" "[I", Cond.fieldLink RX4 28 "FiveShogi" "history" "LFiveShogi$History;", Cond.methodLink RX4 154 yX2_copyTo]
def wsX4_make_r7 : List Cond := [Cond.instanceMethod yX2_copyTo, Cond.selects RX2 yX2_copyTo yX2_copyTo, Cond.code yX2_copyTo cX2_copyTo 3 none, Cond.methodLink RX2 32 arraycopyName, Cond.native arraycopyName, Cond.static arraycopyName, Cond.initialized "java/lang/System", Cond.methodLink RX4 167 yX0_push, Cond.instanceMethod yX0_push, Cond.selects RX0 yX0_push yX0_push, Cond.initialized RX0, Cond.code yX0_push cX0_push 2 none, Cond.fieldLink RX0 15 "FiveShogi$History" "size" "I", Cond.fieldLink RX0 11 "FiveShogi$History" "states" "[I", Cond.methodLink RX0 19 arraycopyName, Cond.methodLink RX4 64 yX2_play, Cond.instanceMethod yX2_play, Cond.selects RX2 yX2_play yX2_play, Cond.code yX2_play cX2_play 3 (some .int), Cond.methodLink RX2 73 yX2_apply, Cond.methodLink RX4 88 yX3_isInCheck, Cond.methodLink RX4 92 yX4_asNumber, Cond.static yX4_asNumber, Cond.code yX4_asNumber cX4_asNumber 1 (some .int)]
def wsX4_make : List Cond := .code yX4_make cX4_make 2 (some .int) :: ((wsX4_make_r1 ++ (wsX4_make_r2 ++ (wsX4_make_r3 ++ (wsX4_make_r4 ++ (wsX4_make_r5 ++ (wsX4_make_r6 ++ wsX4_make_r7)))))) ++ wsX40 ++ wsX30 ++ wsX20 ++ wsX00)
def wsX4_put_r1 : List Cond := [Cond.fieldLink RX4 12 "FiveShogi" "position" "LFiveShogi$Position;", Cond.methodLink RX4 50 yX4_isSquare, Cond.static yX4_isSquare, Cond.initialized RX4, Cond.code yX4_isSquare cX4_isSquare 1 (some .boolean), Cond.methodLink RX4 96 yX4_isMan, Cond.static yX4_isMan, Cond.code yX4_isMan cX4_isMan 1 (some .boolean), Cond.methodLink RX4 99 yX4_sideOf, Cond.static yX4_sideOf, Cond.code yX4_sideOf cX4_sideOf 1 (some .int), Cond.methodLink RX4 102 yX2_kingOf, Cond.instanceMethod yX2_kingOf, Cond.selects RX2 yX2_kingOf yX2_kingOf, Cond.initialized RX2, Cond.code yX2_kingOf cX2_kingOf 2 (some .int), Cond.fieldLink RX2 11 "FiveShogi$Position" "state" "[I", Cond.static yX4_isSide, Cond.code yX4_isSide cX4_isSide 1 (some .boolean), Cond.methodLink RX4 105 yX4_kindOf, Cond.static yX4_kindOf, Cond.code yX4_kindOf cX4_kindOf 1 (some .int), Cond.methodLink RX4 108 yX2_manOn, Cond.instanceMethod yX2_manOn]
def wsX4_put_r2 : List Cond := [Cond.selects RX2 yX2_manOn yX2_manOn, Cond.code yX2_manOn cX2_manOn 2 (some .int), Cond.methodLink RX4 58 yX4_recordChange, Cond.instanceMethod yX4_recordChange, Cond.selects RX4 yX4_recordChange yX4_recordChange, Cond.code yX4_recordChange cX4_recordChange 1 none, Cond.fieldLink RX4 39 "FiveShogi" "before" "[I", Cond.fieldLink RX4 28 "FiveShogi" "history" "LFiveShogi$History;", Cond.methodLink RX4 154 yX2_copyTo, Cond.instanceMethod yX2_copyTo, Cond.selects RX2 yX2_copyTo yX2_copyTo, Cond.code yX2_copyTo cX2_copyTo 3 none, Cond.methodLink RX2 32 arraycopyName, Cond.native arraycopyName, Cond.static arraycopyName, Cond.initialized "java/lang/System", Cond.methodLink RX4 167 yX0_push, Cond.instanceMethod yX0_push, Cond.selects RX0 yX0_push yX0_push, Cond.initialized RX0, Cond.code yX0_push cX0_push 2 none, Cond.fieldLink RX0 15 "FiveShogi$History" "size" "I", Cond.fieldLink RX0 11 "FiveShogi$History" "states" "[I", Cond.methodLink RX0 19 arraycopyName]
def wsX4_put_r3 : List Cond := [Cond.methodLink RX4 111 yX2_place, Cond.instanceMethod yX2_place, Cond.selects RX2 yX2_place yX2_place, Cond.code yX2_place cX2_place 4 none, Cond.methodLink RX4 115 yX2_menOnBoard, Cond.instanceMethod yX2_menOnBoard, Cond.selects RX2 yX2_menOnBoard yX2_menOnBoard, Cond.code yX2_menOnBoard cX2_menOnBoard 3 (some .int)]
def wsX4_put : List Cond := .code yX4_put cX4_put 4 (some .int) :: ((wsX4_put_r1 ++ (wsX4_put_r2 ++ wsX4_put_r3)) ++ wsX40 ++ wsX20 ++ wsX00)
def wsX4_takeOff_r1 : List Cond := [Cond.fieldLink RX4 12 "FiveShogi" "position" "LFiveShogi$Position;", Cond.methodLink RX4 50 yX4_isSquare, Cond.static yX4_isSquare, Cond.initialized RX4, Cond.code yX4_isSquare cX4_isSquare 1 (some .boolean), Cond.methodLink RX4 108 yX2_manOn, Cond.instanceMethod yX2_manOn, Cond.selects RX2 yX2_manOn yX2_manOn, Cond.initialized RX2, Cond.code yX2_manOn cX2_manOn 2 (some .int), Cond.fieldLink RX2 11 "FiveShogi$Position" "state" "[I", Cond.methodLink RX4 58 yX4_recordChange, Cond.instanceMethod yX4_recordChange, Cond.selects RX4 yX4_recordChange yX4_recordChange, Cond.code yX4_recordChange cX4_recordChange 1 none, Cond.fieldLink RX4 39 "FiveShogi" "before" "[I", Cond.fieldLink RX4 28 "FiveShogi" "history" "LFiveShogi$History;", Cond.methodLink RX4 154 yX2_copyTo, Cond.instanceMethod yX2_copyTo, Cond.selects RX2 yX2_copyTo yX2_copyTo, Cond.code yX2_copyTo cX2_copyTo 3 none, Cond.methodLink RX2 32 arraycopyName, Cond.native arraycopyName, Cond.static arraycopyName]
def wsX4_takeOff_r2 : List Cond := [Cond.initialized "java/lang/System", Cond.methodLink RX4 167 yX0_push, Cond.instanceMethod yX0_push, Cond.selects RX0 yX0_push yX0_push, Cond.initialized RX0, Cond.code yX0_push cX0_push 2 none, Cond.fieldLink RX0 15 "FiveShogi$History" "size" "I", Cond.fieldLink RX0 11 "FiveShogi$History" "states" "[I", Cond.methodLink RX0 19 arraycopyName, Cond.methodLink RX4 111 yX2_place, Cond.instanceMethod yX2_place, Cond.selects RX2 yX2_place yX2_place, Cond.code yX2_place cX2_place 4 none, Cond.static yX4_isMan, Cond.code yX4_isMan cX4_isMan 1 (some .boolean), Cond.static yX4_kindOf, Cond.code yX4_kindOf cX4_kindOf 1 (some .int), Cond.static yX4_sideOf, Cond.code yX4_sideOf cX4_sideOf 1 (some .int)]
def wsX4_takeOff : List Cond := .code yX4_takeOff cX4_takeOff 3 (some .int) :: ((wsX4_takeOff_r1 ++ wsX4_takeOff_r2) ++ wsX40 ++ wsX20 ++ wsX00)
def wsX4_setHand_r1 : List Cond := [Cond.fieldLink RX4 12 "FiveShogi" "position" "LFiveShogi$Position;", Cond.methodLink RX4 118 yX4_isSide, Cond.static yX4_isSide, Cond.initialized RX4, Cond.code yX4_isSide cX4_isSide 1 (some .boolean), Cond.methodLink RX4 68 yX4_isHandKind, Cond.static yX4_isHandKind, Cond.code yX4_isHandKind cX4_isHandKind 1 (some .boolean), Cond.methodLink RX4 82 yX2_inHand, Cond.instanceMethod yX2_inHand, Cond.selects RX2 yX2_inHand yX2_inHand, Cond.initialized RX2, Cond.code yX2_inHand cX2_inHand 3 (some .int), Cond.fieldLink RX2 11 "FiveShogi$Position" "state" "[I", Cond.methodLink RX4 58 yX4_recordChange, Cond.instanceMethod yX4_recordChange, Cond.selects RX4 yX4_recordChange yX4_recordChange, Cond.code yX4_recordChange cX4_recordChange 1 none, Cond.fieldLink RX4 39 "FiveShogi" "before" "[I", Cond.fieldLink RX4 28 "FiveShogi" "history" "LFiveShogi$History;", Cond.methodLink RX4 154 yX2_copyTo, Cond.instanceMethod yX2_copyTo, Cond.selects RX2 yX2_copyTo yX2_copyTo, Cond.code yX2_copyTo cX2_copyTo 3 none]
def wsX4_setHand_r2 : List Cond := [Cond.methodLink RX2 32 arraycopyName, Cond.native arraycopyName, Cond.static arraycopyName, Cond.initialized "java/lang/System", Cond.methodLink RX4 167 yX0_push, Cond.instanceMethod yX0_push, Cond.selects RX0 yX0_push yX0_push, Cond.initialized RX0, Cond.code yX0_push cX0_push 2 none, Cond.fieldLink RX0 15 "FiveShogi$History" "size" "I", Cond.fieldLink RX0 11 "FiveShogi$History" "states" "[I", Cond.methodLink RX0 19 arraycopyName, Cond.methodLink RX4 121 yX2_setInHand, Cond.instanceMethod yX2_setInHand, Cond.selects RX2 yX2_setInHand yX2_setInHand, Cond.code yX2_setInHand cX2_setInHand 4 none]
def wsX4_setHand : List Cond := .code yX4_setHand cX4_setHand 5 (some .int) :: ((wsX4_setHand_r1 ++ wsX4_setHand_r2) ++ wsX40 ++ wsX20 ++ wsX00)
def wsX4_setSide_r1 : List Cond := [Cond.fieldLink RX4 12 "FiveShogi" "position" "LFiveShogi$Position;", Cond.fieldLink RX4 21 "FiveShogi" "rules" "LFiveShogi$Rules;", Cond.methodLink RX4 118 yX4_isSide, Cond.static yX4_isSide, Cond.initialized RX4, Cond.code yX4_isSide cX4_isSide 1 (some .boolean), Cond.methodLink RX4 75 yX2_sideToPlay, Cond.instanceMethod yX2_sideToPlay, Cond.selects RX2 yX2_sideToPlay yX2_sideToPlay, Cond.initialized RX2, Cond.code yX2_sideToPlay cX2_sideToPlay 1 (some .int), Cond.fieldLink RX2 11 "FiveShogi$Position" "state" "[I", Cond.methodLink RX4 58 yX4_recordChange, Cond.instanceMethod yX4_recordChange, Cond.selects RX4 yX4_recordChange yX4_recordChange, Cond.code yX4_recordChange cX4_recordChange 1 none, Cond.fieldLink RX4 39 "FiveShogi" "before" "[I", Cond.fieldLink RX4 28 "FiveShogi" "history" "LFiveShogi$History;", Cond.methodLink RX4 154 yX2_copyTo, Cond.instanceMethod yX2_copyTo, Cond.selects RX2 yX2_copyTo yX2_copyTo, Cond.code yX2_copyTo cX2_copyTo 3 none, Cond.methodLink RX2 32 arraycopyName, Cond.native arraycopyName]
def wsX4_setSide_r2 : List Cond := [Cond.static arraycopyName, Cond.initialized "java/lang/System", Cond.methodLink RX4 167 yX0_push, Cond.instanceMethod yX0_push, Cond.selects RX0 yX0_push yX0_push, Cond.initialized RX0, Cond.code yX0_push cX0_push 2 none, Cond.fieldLink RX0 15 "FiveShogi$History" "size" "I", Cond.fieldLink RX0 11 "FiveShogi$History" "states" "[I", Cond.methodLink RX0 19 arraycopyName, Cond.methodLink RX4 131 yX2_setSideToPlay, Cond.instanceMethod yX2_setSideToPlay, Cond.selects RX2 yX2_setSideToPlay yX2_setSideToPlay, Cond.code yX2_setSideToPlay cX2_setSideToPlay 2 none, Cond.methodLink RX4 135 yX3_findPlays, Cond.instanceMethod yX3_findPlays, Cond.selects RX3 yX3_findPlays yX3_findPlays, Cond.initialized RX3, Cond.code yX3_findPlays cX3_findPlays 6 (some .int), Cond.fieldLink RX3 28 "FiveShogi$Rules" "position" "LFiveShogi$Position;", Cond.fieldLink RX3 9 "FiveShogi$Rules" "plainMoves" "[I", Cond.fieldLink RX3 15 "FiveShogi$Rules" "promotedMoves" "[I", Cond.fieldLink RX3 18 "FiveShogi$Rules" "kindDrops" "[I", Cond.methodLink RX3 32 yX2_sideToPlay]
def wsX4_setSide_r3 : List Cond := [Cond.methodLink RX3 67 yX2_manOn, Cond.instanceMethod yX2_manOn, Cond.selects RX2 yX2_manOn yX2_manOn, Cond.code yX2_manOn cX2_manOn 2 (some .int), Cond.static yX4_sideOf, Cond.code yX4_sideOf cX4_sideOf 1 (some .int), Cond.methodLink RX3 89 yX3_safeTargets, Cond.instanceMethod yX3_safeTargets, Cond.selects RX3 yX3_safeTargets yX3_safeTargets, Cond.code yX3_safeTargets cX3_safeTargets 8 (some .int), Cond.methodLink RX3 73 yX2_attackedFrom, Cond.instanceMethod yX2_attackedFrom, Cond.selects RX2 yX2_attackedFrom yX2_attackedFrom, Cond.code yX2_attackedFrom cX2_attackedFrom 9 (some .int), Cond.fieldLink RX2 15 "FiveShogi$Position" "beside" "[I", Cond.methodLink RX2 64 yX2_manOn, Cond.static yX4_has, Cond.code yX4_has cX4_has 2 (some .boolean), Cond.methodLink RX3 80 yX3_canEnter, Cond.instanceMethod yX3_canEnter, Cond.selects RX3 yX3_canEnter yX3_canEnter, Cond.code yX3_canEnter cX3_canEnter 4 (some .boolean), Cond.static yX4_kindOf, Cond.code yX4_kindOf cX4_kindOf 1 (some .int)]
def wsX4_setSide_r4 : List Cond := [Cond.methodLink RX3 132 yX2_place, Cond.instanceMethod yX2_place, Cond.selects RX2 yX2_place yX2_place, Cond.code yX2_place cX2_place 4 none, Cond.static yX4_isSquare, Cond.code yX4_isSquare cX4_isSquare 1 (some .boolean), Cond.static yX4_isMan, Cond.code yX4_isMan cX4_isMan 1 (some .boolean), Cond.methodLink RX3 38 yX2_kingOf, Cond.instanceMethod yX2_kingOf, Cond.selects RX2 yX2_kingOf yX2_kingOf, Cond.code yX2_kingOf cX2_kingOf 2 (some .int), Cond.methodLink RX3 42 yX2_countAttackers, Cond.instanceMethod yX2_countAttackers, Cond.selects RX2 yX2_countAttackers yX2_countAttackers, Cond.code yX2_countAttackers cX2_countAttackers 11 (some .int), Cond.static yX4_bit, Cond.code yX4_bit cX4_bit 1 (some .int), Cond.methodLink RX3 86 yX3_forcingSquares, Cond.instanceMethod yX3_forcingSquares, Cond.selects RX3 yX3_forcingSquares yX3_forcingSquares, Cond.code yX3_forcingSquares cX3_forcingSquares 3 (some .int), Cond.static yX4_lastRow, Cond.code yX4_lastRow cX4_lastRow 1 (some .int)]
def wsX4_setSide_r5 : List Cond := [Cond.constant RX4 214 (32505856), Cond.methodLink RX3 83 yX3_promotingSquares, Cond.instanceMethod yX3_promotingSquares, Cond.selects RX3 yX3_promotingSquares yX3_promotingSquares, Cond.code yX3_promotingSquares cX3_promotingSquares 4 (some .int), Cond.constant RX3 131 (33554431), Cond.methodLink RX3 120 yJ6_bitCount_0f7a4, Cond.static yJ6_bitCount_0f7a4, Cond.initialized RJ6, Cond.code yJ6_bitCount_0f7a4 cJ6_bitCount_0f7a4 1 (some .int), Cond.constant RJ6 265 (1431655765), Cond.constant RJ6 266 (858993459), Cond.constant RJ6 267 (252645135), Cond.methodLink RX3 101 yX3_safeDrops, Cond.instanceMethod yX3_safeDrops, Cond.selects RX3 yX3_safeDrops yX3_safeDrops, Cond.code yX3_safeDrops cX3_safeDrops 6 (some .int), Cond.static yX4_manOf, Cond.code yX4_manOf cX4_manOf 2 (some .int), Cond.methodLink RX3 125 yX3_openToDrops, Cond.instanceMethod yX3_openToDrops, Cond.selects RX3 yX3_openToDrops yX3_openToDrops, Cond.code yX3_openToDrops cX3_openToDrops 4 (some .int), Cond.methodLink RX3 92 yX2_inHand]
def wsX4_setSide_r6 : List Cond := [Cond.instanceMethod yX2_inHand, Cond.selects RX2 yX2_inHand yX2_inHand, Cond.code yX2_inHand cX2_inHand 3 (some .int), Cond.static yX4_isHandKind, Cond.code yX4_isHandKind cX4_isHandKind 1 (some .boolean), Cond.methodLink RX3 98 yX3_pawnColumns, Cond.instanceMethod yX3_pawnColumns, Cond.selects RX3 yX3_pawnColumns yX3_pawnColumns, Cond.code yX3_pawnColumns cX3_pawnColumns 4 (some .int), Cond.constant RX3 138 (1082401), Cond.methodLink RX3 107 yX3_withoutMates, Cond.instanceMethod yX3_withoutMates, Cond.selects RX3 yX3_withoutMates yX3_withoutMates, Cond.code yX3_withoutMates cX3_withoutMates 6 (some .int), Cond.static yX4_dropNumber, Cond.code yX4_dropNumber cX4_dropNumber 2 (some .int), Cond.methodLink RX3 139 yX2_apply, Cond.instanceMethod yX2_apply, Cond.selects RX2 yX2_apply yX2_apply, Cond.code yX2_apply cX2_apply 7 (some .int), Cond.methodLink RX2 76 yX2_sideToPlay, Cond.methodLink RX2 80 yX2_setSideToPlay, Cond.methodLink RX2 58 yX2_inHand, Cond.methodLink RX2 84 yX2_setInHand]
def wsX4_setSide_r7 : List Cond := [Cond.instanceMethod yX2_setInHand, Cond.selects RX2 yX2_setInHand yX2_setInHand, Cond.code yX2_setInHand cX2_setInHand 4 none, Cond.methodLink RX2 28 yX2_place, Cond.methodLink RX2 91 yX2_changeHandForTaken, Cond.instanceMethod yX2_changeHandForTaken, Cond.selects RX2 yX2_changeHandForTaken yX2_changeHandForTaken, Cond.code yX2_changeHandForTaken cX2_changeHandForTaken 6 none, Cond.methodLink RX3 46 yX3_isInCheck, Cond.instanceMethod yX3_isInCheck, Cond.selects RX3 yX3_isInCheck yX3_isInCheck, Cond.code yX3_isInCheck cX3_isInCheck 2 (some .boolean), Cond.methodLink RX3 142 yX3_canReply, Cond.instanceMethod yX3_canReply, Cond.selects RX3 yX3_canReply yX3_canReply, Cond.code yX3_canReply cX3_canReply 4 (some .boolean), Cond.methodLink RX3 145 yX2_takeBack, Cond.instanceMethod yX2_takeBack, Cond.selects RX2 yX2_takeBack yX2_takeBack, Cond.code yX2_takeBack cX2_takeBack 6 none]
def wsX4_setSide : List Cond := .code yX4_setSide cX4_setSide 2 (some .int) :: ((wsX4_setSide_r1 ++ (wsX4_setSide_r2 ++ (wsX4_setSide_r3 ++ (wsX4_setSide_r4 ++ (wsX4_setSide_r5 ++ (wsX4_setSide_r6 ++ wsX4_setSide_r7)))))) ++ wsX40 ++ wsX20 ++ wsX00 ++ wsX30)
def wsX4_undo : List Cond := .code yX4_undo cX4_undo 1 (some .int) :: ([.fieldLink RX4 28 "FiveShogi" "history" "LFiveShogi$History;", .fieldLink RX4 12 "FiveShogi" "position" "LFiveShogi$Position;", .methodLink RX4 171 yX0_size, .instanceMethod yX0_size, .selects RX0 yX0_size yX0_size, .initialized RX0, .code yX0_size cX0_size 1 (some .int), .fieldLink RX0 15 "FiveShogi$History" "size" "I", .methodLink RX4 172 yX0_popInto, .instanceMethod yX0_popInto, .selects RX0 yX0_popInto yX0_popInto, .code yX0_popInto cX0_popInto 2 none, .fieldLink RX0 11 "FiveShogi$History" "states" "[I", .methodLink RX0 25 yX2_copyFrom, .instanceMethod yX2_copyFrom, .selects RX2 yX2_copyFrom yX2_copyFrom, .initialized RX2, .code yX2_copyFrom cX2_copyFrom 3 none, .fieldLink RX2 11 "FiveShogi$Position" "state" "[I", .methodLink RX2 32 arraycopyName, .native arraycopyName, .static arraycopyName, .initialized "java/lang/System"] ++ wsX40 ++ wsX00 ++ wsX20)
def wsX4_restore_r1 : List Cond := [Cond.fieldLink RX4 46 "FiveShogi" "hasSnapshot" "Z", Cond.fieldLink RX4 12 "FiveShogi" "position" "LFiveShogi$Position;", Cond.fieldLink RX4 43 "FiveShogi" "snapshot" "[I", Cond.methodLink RX4 58 yX4_recordChange, Cond.instanceMethod yX4_recordChange, Cond.selects RX4 yX4_recordChange yX4_recordChange, Cond.initialized RX4, Cond.code yX4_recordChange cX4_recordChange 1 none, Cond.fieldLink RX4 39 "FiveShogi" "before" "[I", Cond.fieldLink RX4 28 "FiveShogi" "history" "LFiveShogi$History;", Cond.methodLink RX4 154 yX2_copyTo, Cond.instanceMethod yX2_copyTo, Cond.selects RX2 yX2_copyTo yX2_copyTo, Cond.initialized RX2, Cond.code yX2_copyTo cX2_copyTo 3 none, Cond.fieldLink RX2 11 "FiveShogi$Position" "state" "[I", Cond.methodLink RX2 32 arraycopyName, Cond.native arraycopyName, Cond.static arraycopyName, Cond.initialized "java/lang/System", Cond.methodLink RX4 167 yX0_push, Cond.instanceMethod yX0_push, Cond.selects RX0 yX0_push yX0_push, Cond.initialized RX0]
def wsX4_restore_r2 : List Cond := [Cond.code yX0_push cX0_push 2 none, Cond.fieldLink RX0 15 "FiveShogi$History" "size" "I", Cond.fieldLink RX0 11 "FiveShogi$History" "states" "[I", Cond.methodLink RX0 19 arraycopyName, Cond.methodLink RX4 164 yX2_copyFrom, Cond.instanceMethod yX2_copyFrom, Cond.selects RX2 yX2_copyFrom yX2_copyFrom, Cond.code yX2_copyFrom cX2_copyFrom 3 none, Cond.methodLink RX4 115 yX2_menOnBoard, Cond.instanceMethod yX2_menOnBoard, Cond.selects RX2 yX2_menOnBoard yX2_menOnBoard, Cond.code yX2_menOnBoard cX2_menOnBoard 3 (some .int)]
def wsX4_restore : List Cond := .code yX4_restore cX4_restore 1 (some .int) :: ((wsX4_restore_r1 ++ wsX4_restore_r2) ++ wsX40 ++ wsX20 ++ wsX00)
def wsX4_man : List Cond := .code yX4_man cX4_man 3 (some .int) :: ([.fieldLink RX4 12 "FiveShogi" "position" "LFiveShogi$Position;", .methodLink RX4 50 yX4_isSquare, .static yX4_isSquare, .initialized RX4, .code yX4_isSquare cX4_isSquare 1 (some .boolean), .methodLink RX4 108 yX2_manOn, .instanceMethod yX2_manOn, .selects RX2 yX2_manOn yX2_manOn, .initialized RX2, .code yX2_manOn cX2_manOn 2 (some .int), .fieldLink RX2 11 "FiveShogi$Position" "state" "[I"] ++ wsX40 ++ wsX20)
def wsX4_hand : List Cond := .code yX4_hand cX4_hand 3 (some .int) :: ([.fieldLink RX4 12 "FiveShogi" "position" "LFiveShogi$Position;", .methodLink RX4 118 yX4_isSide, .static yX4_isSide, .initialized RX4, .code yX4_isSide cX4_isSide 1 (some .boolean), .methodLink RX4 68 yX4_isHandKind, .static yX4_isHandKind, .code yX4_isHandKind cX4_isHandKind 1 (some .boolean), .methodLink RX4 82 yX2_inHand, .instanceMethod yX2_inHand, .selects RX2 yX2_inHand yX2_inHand, .initialized RX2, .code yX2_inHand cX2_inHand 3 (some .int), .fieldLink RX2 11 "FiveShogi$Position" "state" "[I"] ++ wsX40 ++ wsX20)
def wsX4_attackers : List Cond := .code yX4_attackers cX4_attackers 3 (some .int) :: ([.fieldLink RX4 12 "FiveShogi" "position" "LFiveShogi$Position;", .methodLink RX4 118 yX4_isSide, .static yX4_isSide, .initialized RX4, .code yX4_isSide cX4_isSide 1 (some .boolean), .methodLink RX4 50 yX4_isSquare, .static yX4_isSquare, .code yX4_isSquare cX4_isSquare 1 (some .boolean), .methodLink RX4 175 yX2_countAttackers, .instanceMethod yX2_countAttackers, .selects RX2 yX2_countAttackers yX2_countAttackers, .initialized RX2, .code yX2_countAttackers cX2_countAttackers 11 (some .int), .fieldLink RX2 15 "FiveShogi$Position" "beside" "[I", .fieldLink RX2 11 "FiveShogi$Position" "state" "[I"] ++ wsX40 ++ wsX20)
def wsX4_attacked : List Cond := .code yX4_attacked cX4_attacked 2 (some .int) :: ([.fieldLink RX4 12 "FiveShogi" "position" "LFiveShogi$Position;", .methodLink RX4 50 yX4_isSquare, .static yX4_isSquare, .initialized RX4, .code yX4_isSquare cX4_isSquare 1 (some .boolean), .methodLink RX4 108 yX2_manOn, .instanceMethod yX2_manOn, .selects RX2 yX2_manOn yX2_manOn, .initialized RX2, .code yX2_manOn cX2_manOn 2 (some .int), .fieldLink RX2 11 "FiveShogi$Position" "state" "[I", .methodLink RX4 178 yX2_attackedFrom, .instanceMethod yX2_attackedFrom, .selects RX2 yX2_attackedFrom yX2_attackedFrom, .code yX2_attackedFrom cX2_attackedFrom 9 (some .int), .fieldLink RX2 15 "FiveShogi$Position" "beside" "[I", .methodLink RX2 64 yX2_manOn] ++ wsX40 ++ wsX20)
def wsX4_total_r1 : List Cond := [Cond.fieldLink RX4 12 "FiveShogi" "position" "LFiveShogi$Position;", Cond.fieldLink RX4 21 "FiveShogi" "rules" "LFiveShogi$Rules;", Cond.fieldLink RX4 28 "FiveShogi" "history" "LFiveShogi$History;", Cond.fieldLink RX4 35 "FiveShogi" "text" "LFiveShogi$PlayText;", Cond.methodLink RX4 75 yX2_sideToPlay, Cond.instanceMethod yX2_sideToPlay, Cond.selects RX2 yX2_sideToPlay yX2_sideToPlay, Cond.initialized RX2, Cond.code yX2_sideToPlay cX2_sideToPlay 1 (some .int), Cond.fieldLink RX2 11 "FiveShogi$Position" "state" "[I", Cond.methodLink RX4 115 yX2_menOnBoard, Cond.instanceMethod yX2_menOnBoard, Cond.selects RX2 yX2_menOnBoard yX2_menOnBoard, Cond.code yX2_menOnBoard cX2_menOnBoard 3 (some .int), Cond.methodLink RX4 125 yX2_menInHand, Cond.instanceMethod yX2_menInHand, Cond.selects RX2 yX2_menInHand yX2_menInHand, Cond.code yX2_menInHand cX2_menInHand 4 (some .int), Cond.methodLink RX2 58 yX2_inHand, Cond.instanceMethod yX2_inHand, Cond.selects RX2 yX2_inHand yX2_inHand, Cond.code yX2_inHand cX2_inHand 3 (some .int), Cond.static yX4_isSide, Cond.initialized RX4]
def wsX4_total_r2 : List Cond := [Cond.code yX4_isSide cX4_isSide 1 (some .boolean), Cond.static yX4_isHandKind, Cond.code yX4_isHandKind cX4_isHandKind 1 (some .boolean), Cond.methodLink RX4 88 yX3_isInCheck, Cond.instanceMethod yX3_isInCheck, Cond.selects RX3 yX3_isInCheck yX3_isInCheck, Cond.initialized RX3, Cond.code yX3_isInCheck cX3_isInCheck 2 (some .boolean), Cond.fieldLink RX3 28 "FiveShogi$Rules" "position" "LFiveShogi$Position;", Cond.methodLink RX3 32 yX2_sideToPlay, Cond.methodLink RX3 38 yX2_kingOf, Cond.instanceMethod yX2_kingOf, Cond.selects RX2 yX2_kingOf yX2_kingOf, Cond.code yX2_kingOf cX2_kingOf 2 (some .int), Cond.methodLink RX3 42 yX2_countAttackers, Cond.instanceMethod yX2_countAttackers, Cond.selects RX2 yX2_countAttackers yX2_countAttackers, Cond.code yX2_countAttackers cX2_countAttackers 11 (some .int), Cond.fieldLink RX2 15 "FiveShogi$Position" "beside" "[I", Cond.methodLink RX4 92 yX4_asNumber, Cond.static yX4_asNumber, Cond.code yX4_asNumber cX4_asNumber 1 (some .int), Cond.methodLink RX4 181 yX3_isMated, Cond.instanceMethod yX3_isMated]
def wsX4_total_r3 : List Cond := [Cond.selects RX3 yX3_isMated yX3_isMated, Cond.code yX3_isMated cX3_isMated 1 (some .boolean), Cond.methodLink RX3 46 yX3_isInCheck, Cond.methodLink RX3 50 yX3_findPlays, Cond.instanceMethod yX3_findPlays, Cond.selects RX3 yX3_findPlays yX3_findPlays, Cond.code yX3_findPlays cX3_findPlays 6 (some .int), Cond.fieldLink RX3 9 "FiveShogi$Rules" "plainMoves" "[I", Cond.fieldLink RX3 15 "FiveShogi$Rules" "promotedMoves" "[I", Cond.fieldLink RX3 18 "FiveShogi$Rules" "kindDrops" "[I", Cond.methodLink RX3 67 yX2_manOn, Cond.instanceMethod yX2_manOn, Cond.selects RX2 yX2_manOn yX2_manOn, Cond.code yX2_manOn cX2_manOn 2 (some .int), Cond.static yX4_sideOf, Cond.code yX4_sideOf cX4_sideOf 1 (some .int), Cond.methodLink RX3 89 yX3_safeTargets, Cond.instanceMethod yX3_safeTargets, Cond.selects RX3 yX3_safeTargets yX3_safeTargets, Cond.code yX3_safeTargets cX3_safeTargets 8 (some .int), Cond.methodLink RX3 73 yX2_attackedFrom, Cond.instanceMethod yX2_attackedFrom, Cond.selects RX2 yX2_attackedFrom yX2_attackedFrom, Cond.code yX2_attackedFrom cX2_attackedFrom 9 (some .int)]
def wsX4_total_r4 : List Cond := [Cond.methodLink RX2 64 yX2_manOn, Cond.static yX4_has, Cond.code yX4_has cX4_has 2 (some .boolean), Cond.methodLink RX3 80 yX3_canEnter, Cond.instanceMethod yX3_canEnter, Cond.selects RX3 yX3_canEnter yX3_canEnter, Cond.code yX3_canEnter cX3_canEnter 4 (some .boolean), Cond.static yX4_kindOf, Cond.code yX4_kindOf cX4_kindOf 1 (some .int), Cond.methodLink RX3 132 yX2_place, Cond.instanceMethod yX2_place, Cond.selects RX2 yX2_place yX2_place, Cond.code yX2_place cX2_place 4 none, Cond.static yX4_isSquare, Cond.code yX4_isSquare cX4_isSquare 1 (some .boolean), Cond.static yX4_isMan, Cond.code yX4_isMan cX4_isMan 1 (some .boolean), Cond.static yX4_bit, Cond.code yX4_bit cX4_bit 1 (some .int), Cond.methodLink RX3 86 yX3_forcingSquares, Cond.instanceMethod yX3_forcingSquares, Cond.selects RX3 yX3_forcingSquares yX3_forcingSquares, Cond.code yX3_forcingSquares cX3_forcingSquares 3 (some .int), Cond.static yX4_lastRow]
def wsX4_total_r5 : List Cond := [Cond.code yX4_lastRow cX4_lastRow 1 (some .int), Cond.constant RX4 214 (32505856), Cond.methodLink RX3 83 yX3_promotingSquares, Cond.instanceMethod yX3_promotingSquares, Cond.selects RX3 yX3_promotingSquares yX3_promotingSquares, Cond.code yX3_promotingSquares cX3_promotingSquares 4 (some .int), Cond.constant RX3 131 (33554431), Cond.methodLink RX3 120 yJ6_bitCount_0f7a4, Cond.static yJ6_bitCount_0f7a4, Cond.initialized RJ6, Cond.code yJ6_bitCount_0f7a4 cJ6_bitCount_0f7a4 1 (some .int), Cond.constant RJ6 265 (1431655765), Cond.constant RJ6 266 (858993459), Cond.constant RJ6 267 (252645135), Cond.methodLink RX3 101 yX3_safeDrops, Cond.instanceMethod yX3_safeDrops, Cond.selects RX3 yX3_safeDrops yX3_safeDrops, Cond.code yX3_safeDrops cX3_safeDrops 6 (some .int), Cond.static yX4_manOf, Cond.code yX4_manOf cX4_manOf 2 (some .int), Cond.methodLink RX3 125 yX3_openToDrops, Cond.instanceMethod yX3_openToDrops, Cond.selects RX3 yX3_openToDrops yX3_openToDrops, Cond.code yX3_openToDrops cX3_openToDrops 4 (some .int)]
def wsX4_total_r6 : List Cond := [Cond.methodLink RX3 92 yX2_inHand, Cond.methodLink RX3 98 yX3_pawnColumns, Cond.instanceMethod yX3_pawnColumns, Cond.selects RX3 yX3_pawnColumns yX3_pawnColumns, Cond.code yX3_pawnColumns cX3_pawnColumns 4 (some .int), Cond.constant RX3 138 (1082401), Cond.methodLink RX3 107 yX3_withoutMates, Cond.instanceMethod yX3_withoutMates, Cond.selects RX3 yX3_withoutMates yX3_withoutMates, Cond.code yX3_withoutMates cX3_withoutMates 6 (some .int), Cond.static yX4_dropNumber, Cond.code yX4_dropNumber cX4_dropNumber 2 (some .int), Cond.methodLink RX3 139 yX2_apply, Cond.instanceMethod yX2_apply, Cond.selects RX2 yX2_apply yX2_apply, Cond.code yX2_apply cX2_apply 7 (some .int), Cond.methodLink RX2 76 yX2_sideToPlay, Cond.methodLink RX2 80 yX2_setSideToPlay, Cond.instanceMethod yX2_setSideToPlay, Cond.selects RX2 yX2_setSideToPlay yX2_setSideToPlay, Cond.code yX2_setSideToPlay cX2_setSideToPlay 2 none, Cond.methodLink RX2 84 yX2_setInHand, Cond.instanceMethod yX2_setInHand, Cond.selects RX2 yX2_setInHand yX2_setInHand]
def wsX4_total_r7 : List Cond := [Cond.code yX2_setInHand cX2_setInHand 4 none, Cond.methodLink RX2 28 yX2_place, Cond.methodLink RX2 91 yX2_changeHandForTaken, Cond.instanceMethod yX2_changeHandForTaken, Cond.selects RX2 yX2_changeHandForTaken yX2_changeHandForTaken, Cond.code yX2_changeHandForTaken cX2_changeHandForTaken 6 none, Cond.methodLink RX3 142 yX3_canReply, Cond.instanceMethod yX3_canReply, Cond.selects RX3 yX3_canReply yX3_canReply, Cond.code yX3_canReply cX3_canReply 4 (some .boolean), Cond.methodLink RX3 145 yX2_takeBack, Cond.instanceMethod yX2_takeBack, Cond.selects RX2 yX2_takeBack yX2_takeBack, Cond.code yX2_takeBack cX2_takeBack 6 none, Cond.methodLink RX4 135 yX3_findPlays, Cond.methodLink RX4 184 yX2_playsMade, Cond.instanceMethod yX2_playsMade, Cond.selects RX2 yX2_playsMade yX2_playsMade, Cond.code yX2_playsMade cX2_playsMade 1 (some .int), Cond.methodLink RX4 187 yX2_menTaken, Cond.instanceMethod yX2_menTaken, Cond.selects RX2 yX2_menTaken yX2_menTaken, Cond.code yX2_menTaken cX2_menTaken 1 (some .int), Cond.methodLink RX4 190 yX2_menPromoted]
def wsX4_total_r8 : List Cond := [Cond.instanceMethod yX2_menPromoted, Cond.selects RX2 yX2_menPromoted yX2_menPromoted, Cond.code yX2_menPromoted cX2_menPromoted 1 (some .int), Cond.methodLink RX4 193 yX2_menDropped, Cond.instanceMethod yX2_menDropped, Cond.selects RX2 yX2_menDropped yX2_menDropped, Cond.code yX2_menDropped cX2_menDropped 1 (some .int), Cond.methodLink RX4 171 yX0_size, Cond.instanceMethod yX0_size, Cond.selects RX0 yX0_size yX0_size, Cond.initialized RX0, Cond.code yX0_size cX0_size 1 (some .int), Cond.fieldLink RX0 15 "FiveShogi$History" "size" "I", Cond.methodLink RX4 145 yX1_size, Cond.instanceMethod yX1_size, Cond.selects RX1 yX1_size yX1_size, Cond.initialized RX1, Cond.code yX1_size cX1_size 1 (some .int), Cond.fieldLink RX1 15 "FiveShogi$PlayText" "size" "I"]
def wsX4_total : List Cond := .code yX4_total cX4_total 2 (some .int) :: ((wsX4_total_r1 ++ (wsX4_total_r2 ++ (wsX4_total_r3 ++ (wsX4_total_r4 ++ (wsX4_total_r5 ++ (wsX4_total_r6 ++ (wsX4_total_r7 ++ wsX4_total_r8))))))) ++ wsX40 ++ wsX20 ++ wsX30 ++ wsX00 ++ wsX10)
def wsX4_worth : List Cond := .code yX4_worth cX4_worth 2 (some .int) :: ([.fieldLink RX4 12 "FiveShogi" "position" "LFiveShogi$Position;", .methodLink RX4 118 yX4_isSide, .static yX4_isSide, .initialized RX4, .code yX4_isSide cX4_isSide 1 (some .boolean), .methodLink RX4 196 yX2_worthFor, .instanceMethod yX2_worthFor, .selects RX2 yX2_worthFor yX2_worthFor, .initialized RX2, .code yX2_worthFor cX2_worthFor 6 (some .int), .fieldLink RX2 11 "FiveShogi$Position" "state" "[I", .static yX4_kindOf, .code yX4_kindOf cX4_kindOf 1 (some .int), .static yX4_sideOf, .code yX4_sideOf cX4_sideOf 1 (some .int), .methodLink RX2 58 yX2_inHand, .instanceMethod yX2_inHand, .selects RX2 yX2_inHand yX2_inHand, .code yX2_inHand cX2_inHand 3 (some .int), .static yX4_isHandKind, .code yX4_isHandKind cX4_isHandKind 1 (some .boolean)] ++ wsX40 ++ wsX20)
def wsX4_dropReason_r1 : List Cond := [Cond.fieldLink RX4 21 "FiveShogi" "rules" "LFiveShogi$Rules;", Cond.methodLink RX4 68 yX4_isHandKind, Cond.static yX4_isHandKind, Cond.initialized RX4, Cond.code yX4_isHandKind cX4_isHandKind 1 (some .boolean), Cond.methodLink RX4 50 yX4_isSquare, Cond.static yX4_isSquare, Cond.code yX4_isSquare cX4_isSquare 1 (some .boolean), Cond.methodLink RX4 71 yX3_whyNoDrop, Cond.instanceMethod yX3_whyNoDrop, Cond.selects RX3 yX3_whyNoDrop yX3_whyNoDrop, Cond.initialized RX3, Cond.code yX3_whyNoDrop cX3_whyNoDrop 4 (some .int), Cond.fieldLink RX3 28 "FiveShogi$Rules" "position" "LFiveShogi$Position;", Cond.methodLink RX3 32 yX2_sideToPlay, Cond.instanceMethod yX2_sideToPlay, Cond.selects RX2 yX2_sideToPlay yX2_sideToPlay, Cond.initialized RX2, Cond.code yX2_sideToPlay cX2_sideToPlay 1 (some .int), Cond.fieldLink RX2 11 "FiveShogi$Position" "state" "[I", Cond.methodLink RX3 92 yX2_inHand, Cond.instanceMethod yX2_inHand, Cond.selects RX2 yX2_inHand yX2_inHand, Cond.code yX2_inHand cX2_inHand 3 (some .int)]
def wsX4_dropReason_r2 : List Cond := [Cond.static yX4_isSide, Cond.code yX4_isSide cX4_isSide 1 (some .boolean), Cond.methodLink RX3 67 yX2_manOn, Cond.instanceMethod yX2_manOn, Cond.selects RX2 yX2_manOn yX2_manOn, Cond.code yX2_manOn cX2_manOn 2 (some .int), Cond.static yX4_lastRow, Cond.code yX4_lastRow cX4_lastRow 1 (some .int), Cond.constant RX4 214 (32505856), Cond.static yX4_has, Cond.code yX4_has cX4_has 2 (some .boolean), Cond.methodLink RX3 98 yX3_pawnColumns, Cond.instanceMethod yX3_pawnColumns, Cond.selects RX3 yX3_pawnColumns yX3_pawnColumns, Cond.code yX3_pawnColumns cX3_pawnColumns 4 (some .int), Cond.constant RX3 138 (1082401), Cond.static yX4_manOf, Cond.code yX4_manOf cX4_manOf 2 (some .int), Cond.methodLink RX3 101 yX3_safeDrops, Cond.instanceMethod yX3_safeDrops, Cond.selects RX3 yX3_safeDrops yX3_safeDrops, Cond.code yX3_safeDrops cX3_safeDrops 6 (some .int), Cond.methodLink RX3 38 yX2_kingOf, Cond.instanceMethod yX2_kingOf]
def wsX4_dropReason_r3 : List Cond := [Cond.selects RX2 yX2_kingOf yX2_kingOf, Cond.code yX2_kingOf cX2_kingOf 2 (some .int), Cond.methodLink RX3 42 yX2_countAttackers, Cond.instanceMethod yX2_countAttackers, Cond.selects RX2 yX2_countAttackers yX2_countAttackers, Cond.code yX2_countAttackers cX2_countAttackers 11 (some .int), Cond.fieldLink RX2 15 "FiveShogi$Position" "beside" "[I", Cond.methodLink RX3 132 yX2_place, Cond.instanceMethod yX2_place, Cond.selects RX2 yX2_place yX2_place, Cond.code yX2_place cX2_place 4 none, Cond.static yX4_isMan, Cond.code yX4_isMan cX4_isMan 1 (some .boolean), Cond.static yX4_kindOf, Cond.code yX4_kindOf cX4_kindOf 1 (some .int), Cond.static yX4_sideOf, Cond.code yX4_sideOf cX4_sideOf 1 (some .int), Cond.static yX4_bit, Cond.code yX4_bit cX4_bit 1 (some .int), Cond.methodLink RX3 107 yX3_withoutMates, Cond.instanceMethod yX3_withoutMates, Cond.selects RX3 yX3_withoutMates yX3_withoutMates, Cond.code yX3_withoutMates cX3_withoutMates 6 (some .int), Cond.static yX4_dropNumber]
def wsX4_dropReason_r4 : List Cond := [Cond.code yX4_dropNumber cX4_dropNumber 2 (some .int), Cond.methodLink RX3 139 yX2_apply, Cond.instanceMethod yX2_apply, Cond.selects RX2 yX2_apply yX2_apply, Cond.code yX2_apply cX2_apply 7 (some .int), Cond.methodLink RX2 76 yX2_sideToPlay, Cond.methodLink RX2 80 yX2_setSideToPlay, Cond.instanceMethod yX2_setSideToPlay, Cond.selects RX2 yX2_setSideToPlay yX2_setSideToPlay, Cond.code yX2_setSideToPlay cX2_setSideToPlay 2 none, Cond.methodLink RX2 58 yX2_inHand, Cond.methodLink RX2 84 yX2_setInHand, Cond.instanceMethod yX2_setInHand, Cond.selects RX2 yX2_setInHand yX2_setInHand, Cond.code yX2_setInHand cX2_setInHand 4 none, Cond.methodLink RX2 28 yX2_place, Cond.methodLink RX2 64 yX2_manOn, Cond.methodLink RX2 91 yX2_changeHandForTaken, Cond.instanceMethod yX2_changeHandForTaken, Cond.selects RX2 yX2_changeHandForTaken yX2_changeHandForTaken, Cond.code yX2_changeHandForTaken cX2_changeHandForTaken 6 none, Cond.methodLink RX3 46 yX3_isInCheck, Cond.instanceMethod yX3_isInCheck, Cond.selects RX3 yX3_isInCheck yX3_isInCheck]
def wsX4_dropReason_r5 : List Cond := [Cond.code yX3_isInCheck cX3_isInCheck 2 (some .boolean), Cond.methodLink RX3 142 yX3_canReply, Cond.instanceMethod yX3_canReply, Cond.selects RX3 yX3_canReply yX3_canReply, Cond.code yX3_canReply cX3_canReply 4 (some .boolean), Cond.methodLink RX3 89 yX3_safeTargets, Cond.instanceMethod yX3_safeTargets, Cond.selects RX3 yX3_safeTargets yX3_safeTargets, Cond.code yX3_safeTargets cX3_safeTargets 8 (some .int), Cond.methodLink RX3 73 yX2_attackedFrom, Cond.instanceMethod yX2_attackedFrom, Cond.selects RX2 yX2_attackedFrom yX2_attackedFrom, Cond.code yX2_attackedFrom cX2_attackedFrom 9 (some .int), Cond.methodLink RX3 80 yX3_canEnter, Cond.instanceMethod yX3_canEnter, Cond.selects RX3 yX3_canEnter yX3_canEnter, Cond.code yX3_canEnter cX3_canEnter 4 (some .boolean), Cond.methodLink RX3 125 yX3_openToDrops, Cond.instanceMethod yX3_openToDrops, Cond.selects RX3 yX3_openToDrops yX3_openToDrops, Cond.code yX3_openToDrops cX3_openToDrops 4 (some .int), Cond.methodLink RX3 145 yX2_takeBack, Cond.instanceMethod yX2_takeBack, Cond.selects RX2 yX2_takeBack yX2_takeBack]
def wsX4_dropReason_r6 : List Cond := [Cond.code yX2_takeBack cX2_takeBack 6 none]
def wsX4_dropReason : List Cond := .code yX4_dropReason cX4_dropReason 3 (some .int) :: ((wsX4_dropReason_r1 ++ (wsX4_dropReason_r2 ++ (wsX4_dropReason_r3 ++ (wsX4_dropReason_r4 ++ (wsX4_dropReason_r5 ++ wsX4_dropReason_r6))))) ++ wsX40 ++ wsX30 ++ wsX20)
def wsX4_playAt_r1 : List Cond := [Cond.fieldLink RX4 21 "FiveShogi" "rules" "LFiveShogi$Rules;", Cond.methodLink RX4 135 yX3_findPlays, Cond.instanceMethod yX3_findPlays, Cond.selects RX3 yX3_findPlays yX3_findPlays, Cond.initialized RX3, Cond.code yX3_findPlays cX3_findPlays 6 (some .int), Cond.fieldLink RX3 28 "FiveShogi$Rules" "position" "LFiveShogi$Position;", Cond.fieldLink RX3 9 "FiveShogi$Rules" "plainMoves" "[I", Cond.fieldLink RX3 15 "FiveShogi$Rules" "promotedMoves" "[I", Cond.fieldLink RX3 18 "FiveShogi$Rules" "kindDrops" "[I", Cond.methodLink RX3 32 yX2_sideToPlay, Cond.instanceMethod yX2_sideToPlay, Cond.selects RX2 yX2_sideToPlay yX2_sideToPlay, Cond.initialized RX2, Cond.code yX2_sideToPlay cX2_sideToPlay 1 (some .int), Cond.fieldLink RX2 11 "FiveShogi$Position" "state" "[I", Cond.methodLink RX3 67 yX2_manOn, Cond.instanceMethod yX2_manOn, Cond.selects RX2 yX2_manOn yX2_manOn, Cond.code yX2_manOn cX2_manOn 2 (some .int), Cond.static yX4_sideOf, Cond.initialized RX4, Cond.code yX4_sideOf cX4_sideOf 1 (some .int), Cond.methodLink RX3 89 yX3_safeTargets]
def wsX4_playAt_r2 : List Cond := [Cond.instanceMethod yX3_safeTargets, Cond.selects RX3 yX3_safeTargets yX3_safeTargets, Cond.code yX3_safeTargets cX3_safeTargets 8 (some .int), Cond.methodLink RX3 73 yX2_attackedFrom, Cond.instanceMethod yX2_attackedFrom, Cond.selects RX2 yX2_attackedFrom yX2_attackedFrom, Cond.code yX2_attackedFrom cX2_attackedFrom 9 (some .int), Cond.fieldLink RX2 15 "FiveShogi$Position" "beside" "[I", Cond.methodLink RX2 64 yX2_manOn, Cond.static yX4_has, Cond.code yX4_has cX4_has 2 (some .boolean), Cond.methodLink RX3 80 yX3_canEnter, Cond.instanceMethod yX3_canEnter, Cond.selects RX3 yX3_canEnter yX3_canEnter, Cond.code yX3_canEnter cX3_canEnter 4 (some .boolean), Cond.static yX4_kindOf, Cond.code yX4_kindOf cX4_kindOf 1 (some .int), Cond.methodLink RX3 132 yX2_place, Cond.instanceMethod yX2_place, Cond.selects RX2 yX2_place yX2_place, Cond.code yX2_place cX2_place 4 none, Cond.static yX4_isSquare, Cond.code yX4_isSquare cX4_isSquare 1 (some .boolean), Cond.static yX4_isMan]
def wsX4_playAt_r3 : List Cond := [Cond.code yX4_isMan cX4_isMan 1 (some .boolean), Cond.methodLink RX3 38 yX2_kingOf, Cond.instanceMethod yX2_kingOf, Cond.selects RX2 yX2_kingOf yX2_kingOf, Cond.code yX2_kingOf cX2_kingOf 2 (some .int), Cond.static yX4_isSide, Cond.code yX4_isSide cX4_isSide 1 (some .boolean), Cond.methodLink RX3 42 yX2_countAttackers, Cond.instanceMethod yX2_countAttackers, Cond.selects RX2 yX2_countAttackers yX2_countAttackers, Cond.code yX2_countAttackers cX2_countAttackers 11 (some .int), Cond.static yX4_bit, Cond.code yX4_bit cX4_bit 1 (some .int), Cond.methodLink RX3 86 yX3_forcingSquares, Cond.instanceMethod yX3_forcingSquares, Cond.selects RX3 yX3_forcingSquares yX3_forcingSquares, Cond.code yX3_forcingSquares cX3_forcingSquares 3 (some .int), Cond.static yX4_lastRow, Cond.code yX4_lastRow cX4_lastRow 1 (some .int), Cond.constant RX4 214 (32505856), Cond.methodLink RX3 83 yX3_promotingSquares, Cond.instanceMethod yX3_promotingSquares, Cond.selects RX3 yX3_promotingSquares yX3_promotingSquares, Cond.code yX3_promotingSquares cX3_promotingSquares 4 (some .int)]
def wsX4_playAt_r4 : List Cond := [Cond.constant RX3 131 (33554431), Cond.methodLink RX3 120 yJ6_bitCount_0f7a4, Cond.static yJ6_bitCount_0f7a4, Cond.initialized RJ6, Cond.code yJ6_bitCount_0f7a4 cJ6_bitCount_0f7a4 1 (some .int), Cond.constant RJ6 265 (1431655765), Cond.constant RJ6 266 (858993459), Cond.constant RJ6 267 (252645135), Cond.methodLink RX3 101 yX3_safeDrops, Cond.instanceMethod yX3_safeDrops, Cond.selects RX3 yX3_safeDrops yX3_safeDrops, Cond.code yX3_safeDrops cX3_safeDrops 6 (some .int), Cond.static yX4_manOf, Cond.code yX4_manOf cX4_manOf 2 (some .int), Cond.methodLink RX3 125 yX3_openToDrops, Cond.instanceMethod yX3_openToDrops, Cond.selects RX3 yX3_openToDrops yX3_openToDrops, Cond.code yX3_openToDrops cX3_openToDrops 4 (some .int), Cond.methodLink RX3 92 yX2_inHand, Cond.instanceMethod yX2_inHand, Cond.selects RX2 yX2_inHand yX2_inHand, Cond.code yX2_inHand cX2_inHand 3 (some .int), Cond.static yX4_isHandKind, Cond.code yX4_isHandKind cX4_isHandKind 1 (some .boolean)]
def wsX4_playAt_r5 : List Cond := [Cond.methodLink RX3 98 yX3_pawnColumns, Cond.instanceMethod yX3_pawnColumns, Cond.selects RX3 yX3_pawnColumns yX3_pawnColumns, Cond.code yX3_pawnColumns cX3_pawnColumns 4 (some .int), Cond.constant RX3 138 (1082401), Cond.methodLink RX3 107 yX3_withoutMates, Cond.instanceMethod yX3_withoutMates, Cond.selects RX3 yX3_withoutMates yX3_withoutMates, Cond.code yX3_withoutMates cX3_withoutMates 6 (some .int), Cond.static yX4_dropNumber, Cond.code yX4_dropNumber cX4_dropNumber 2 (some .int), Cond.methodLink RX3 139 yX2_apply, Cond.instanceMethod yX2_apply, Cond.selects RX2 yX2_apply yX2_apply, Cond.code yX2_apply cX2_apply 7 (some .int), Cond.methodLink RX2 76 yX2_sideToPlay, Cond.methodLink RX2 80 yX2_setSideToPlay, Cond.instanceMethod yX2_setSideToPlay, Cond.selects RX2 yX2_setSideToPlay yX2_setSideToPlay, Cond.code yX2_setSideToPlay cX2_setSideToPlay 2 none, Cond.methodLink RX2 58 yX2_inHand, Cond.methodLink RX2 84 yX2_setInHand, Cond.instanceMethod yX2_setInHand, Cond.selects RX2 yX2_setInHand yX2_setInHand]
def wsX4_playAt_r6 : List Cond := [Cond.code yX2_setInHand cX2_setInHand 4 none, Cond.methodLink RX2 28 yX2_place, Cond.methodLink RX2 91 yX2_changeHandForTaken, Cond.instanceMethod yX2_changeHandForTaken, Cond.selects RX2 yX2_changeHandForTaken yX2_changeHandForTaken, Cond.code yX2_changeHandForTaken cX2_changeHandForTaken 6 none, Cond.methodLink RX3 46 yX3_isInCheck, Cond.instanceMethod yX3_isInCheck, Cond.selects RX3 yX3_isInCheck yX3_isInCheck, Cond.code yX3_isInCheck cX3_isInCheck 2 (some .boolean), Cond.methodLink RX3 142 yX3_canReply, Cond.instanceMethod yX3_canReply, Cond.selects RX3 yX3_canReply yX3_canReply, Cond.code yX3_canReply cX3_canReply 4 (some .boolean), Cond.methodLink RX3 145 yX2_takeBack, Cond.instanceMethod yX2_takeBack, Cond.selects RX2 yX2_takeBack yX2_takeBack, Cond.code yX2_takeBack cX2_takeBack 6 none, Cond.methodLink RX4 199 yX3_listPlays, Cond.instanceMethod yX3_listPlays, Cond.selects RX3 yX3_listPlays yX3_listPlays, Cond.code yX3_listPlays cX3_listPlays 2 (some .int), Cond.fieldLink RX3 24 "FiveShogi$Rules" "listSize" "I", Cond.static yX4_moveNumber]
def wsX4_playAt_r7 : List Cond := [Cond.code yX4_moveNumber cX4_moveNumber 3 (some .int), Cond.methodLink RX3 113 yX3_addPlays, Cond.instanceMethod yX3_addPlays, Cond.selects RX3 yX3_addPlays yX3_addPlays, Cond.code yX3_addPlays cX3_addPlays 4 none, Cond.fieldLink RX3 21 "FiveShogi$Rules" "list" "[I", Cond.methodLink RX4 202 yX3_listed, Cond.instanceMethod yX3_listed, Cond.selects RX3 yX3_listed yX3_listed, Cond.code yX3_listed cX3_listed 2 (some .int)]
def wsX4_playAt : List Cond := .code yX4_playAt cX4_playAt 2 (some .int) :: ((wsX4_playAt_r1 ++ (wsX4_playAt_r2 ++ (wsX4_playAt_r3 ++ (wsX4_playAt_r4 ++ (wsX4_playAt_r5 ++ (wsX4_playAt_r6 ++ wsX4_playAt_r7)))))) ++ wsX40 ++ wsX30 ++ wsX20)
def wsX4_drops_r1 : List Cond := [Cond.fieldLink RX4 21 "FiveShogi" "rules" "LFiveShogi$Rules;", Cond.methodLink RX4 68 yX4_isHandKind, Cond.static yX4_isHandKind, Cond.initialized RX4, Cond.code yX4_isHandKind cX4_isHandKind 1 (some .boolean), Cond.methodLink RX4 135 yX3_findPlays, Cond.instanceMethod yX3_findPlays, Cond.selects RX3 yX3_findPlays yX3_findPlays, Cond.initialized RX3, Cond.code yX3_findPlays cX3_findPlays 6 (some .int), Cond.fieldLink RX3 28 "FiveShogi$Rules" "position" "LFiveShogi$Position;", Cond.fieldLink RX3 9 "FiveShogi$Rules" "plainMoves" "[I", Cond.fieldLink RX3 15 "FiveShogi$Rules" "promotedMoves" "[I", Cond.fieldLink RX3 18 "FiveShogi$Rules" "kindDrops" "[I", Cond.methodLink RX3 32 yX2_sideToPlay, Cond.instanceMethod yX2_sideToPlay, Cond.selects RX2 yX2_sideToPlay yX2_sideToPlay, Cond.initialized RX2, Cond.code yX2_sideToPlay cX2_sideToPlay 1 (some .int), Cond.fieldLink RX2 11 "FiveShogi$Position" "state" "[I", Cond.methodLink RX3 67 yX2_manOn, Cond.instanceMethod yX2_manOn, Cond.selects RX2 yX2_manOn yX2_manOn, Cond.code yX2_manOn cX2_manOn 2 (some .int)]
def wsX4_drops_r2 : List Cond := [Cond.static yX4_sideOf, Cond.code yX4_sideOf cX4_sideOf 1 (some .int), Cond.methodLink RX3 89 yX3_safeTargets, Cond.instanceMethod yX3_safeTargets, Cond.selects RX3 yX3_safeTargets yX3_safeTargets, Cond.code yX3_safeTargets cX3_safeTargets 8 (some .int), Cond.methodLink RX3 73 yX2_attackedFrom, Cond.instanceMethod yX2_attackedFrom, Cond.selects RX2 yX2_attackedFrom yX2_attackedFrom, Cond.code yX2_attackedFrom cX2_attackedFrom 9 (some .int), Cond.fieldLink RX2 15 "FiveShogi$Position" "beside" "[I", Cond.methodLink RX2 64 yX2_manOn, Cond.static yX4_has, Cond.code yX4_has cX4_has 2 (some .boolean), Cond.methodLink RX3 80 yX3_canEnter, Cond.instanceMethod yX3_canEnter, Cond.selects RX3 yX3_canEnter yX3_canEnter, Cond.code yX3_canEnter cX3_canEnter 4 (some .boolean), Cond.static yX4_kindOf, Cond.code yX4_kindOf cX4_kindOf 1 (some .int), Cond.methodLink RX3 132 yX2_place, Cond.instanceMethod yX2_place, Cond.selects RX2 yX2_place yX2_place, Cond.code yX2_place cX2_place 4 none]
def wsX4_drops_r3 : List Cond := [Cond.static yX4_isSquare, Cond.code yX4_isSquare cX4_isSquare 1 (some .boolean), Cond.static yX4_isMan, Cond.code yX4_isMan cX4_isMan 1 (some .boolean), Cond.methodLink RX3 38 yX2_kingOf, Cond.instanceMethod yX2_kingOf, Cond.selects RX2 yX2_kingOf yX2_kingOf, Cond.code yX2_kingOf cX2_kingOf 2 (some .int), Cond.static yX4_isSide, Cond.code yX4_isSide cX4_isSide 1 (some .boolean), Cond.methodLink RX3 42 yX2_countAttackers, Cond.instanceMethod yX2_countAttackers, Cond.selects RX2 yX2_countAttackers yX2_countAttackers, Cond.code yX2_countAttackers cX2_countAttackers 11 (some .int), Cond.static yX4_bit, Cond.code yX4_bit cX4_bit 1 (some .int), Cond.methodLink RX3 86 yX3_forcingSquares, Cond.instanceMethod yX3_forcingSquares, Cond.selects RX3 yX3_forcingSquares yX3_forcingSquares, Cond.code yX3_forcingSquares cX3_forcingSquares 3 (some .int), Cond.static yX4_lastRow, Cond.code yX4_lastRow cX4_lastRow 1 (some .int), Cond.constant RX4 214 (32505856), Cond.methodLink RX3 83 yX3_promotingSquares]
def wsX4_drops_r4 : List Cond := [Cond.instanceMethod yX3_promotingSquares, Cond.selects RX3 yX3_promotingSquares yX3_promotingSquares, Cond.code yX3_promotingSquares cX3_promotingSquares 4 (some .int), Cond.constant RX3 131 (33554431), Cond.methodLink RX3 120 yJ6_bitCount_0f7a4, Cond.static yJ6_bitCount_0f7a4, Cond.initialized RJ6, Cond.code yJ6_bitCount_0f7a4 cJ6_bitCount_0f7a4 1 (some .int), Cond.constant RJ6 265 (1431655765), Cond.constant RJ6 266 (858993459), Cond.constant RJ6 267 (252645135), Cond.methodLink RX3 101 yX3_safeDrops, Cond.instanceMethod yX3_safeDrops, Cond.selects RX3 yX3_safeDrops yX3_safeDrops, Cond.code yX3_safeDrops cX3_safeDrops 6 (some .int), Cond.static yX4_manOf, Cond.code yX4_manOf cX4_manOf 2 (some .int), Cond.methodLink RX3 125 yX3_openToDrops, Cond.instanceMethod yX3_openToDrops, Cond.selects RX3 yX3_openToDrops yX3_openToDrops, Cond.code yX3_openToDrops cX3_openToDrops 4 (some .int), Cond.methodLink RX3 92 yX2_inHand, Cond.instanceMethod yX2_inHand, Cond.selects RX2 yX2_inHand yX2_inHand]
def wsX4_drops_r5 : List Cond := [Cond.code yX2_inHand cX2_inHand 3 (some .int), Cond.methodLink RX3 98 yX3_pawnColumns, Cond.instanceMethod yX3_pawnColumns, Cond.selects RX3 yX3_pawnColumns yX3_pawnColumns, Cond.code yX3_pawnColumns cX3_pawnColumns 4 (some .int), Cond.constant RX3 138 (1082401), Cond.methodLink RX3 107 yX3_withoutMates, Cond.instanceMethod yX3_withoutMates, Cond.selects RX3 yX3_withoutMates yX3_withoutMates, Cond.code yX3_withoutMates cX3_withoutMates 6 (some .int), Cond.static yX4_dropNumber, Cond.code yX4_dropNumber cX4_dropNumber 2 (some .int), Cond.methodLink RX3 139 yX2_apply, Cond.instanceMethod yX2_apply, Cond.selects RX2 yX2_apply yX2_apply, Cond.code yX2_apply cX2_apply 7 (some .int), Cond.methodLink RX2 76 yX2_sideToPlay, Cond.methodLink RX2 80 yX2_setSideToPlay, Cond.instanceMethod yX2_setSideToPlay, Cond.selects RX2 yX2_setSideToPlay yX2_setSideToPlay, Cond.code yX2_setSideToPlay cX2_setSideToPlay 2 none, Cond.methodLink RX2 58 yX2_inHand, Cond.methodLink RX2 84 yX2_setInHand, Cond.instanceMethod yX2_setInHand]
def wsX4_drops_r6 : List Cond := [Cond.selects RX2 yX2_setInHand yX2_setInHand, Cond.code yX2_setInHand cX2_setInHand 4 none, Cond.methodLink RX2 28 yX2_place, Cond.methodLink RX2 91 yX2_changeHandForTaken, Cond.instanceMethod yX2_changeHandForTaken, Cond.selects RX2 yX2_changeHandForTaken yX2_changeHandForTaken, Cond.code yX2_changeHandForTaken cX2_changeHandForTaken 6 none, Cond.methodLink RX3 46 yX3_isInCheck, Cond.instanceMethod yX3_isInCheck, Cond.selects RX3 yX3_isInCheck yX3_isInCheck, Cond.code yX3_isInCheck cX3_isInCheck 2 (some .boolean), Cond.methodLink RX3 142 yX3_canReply, Cond.instanceMethod yX3_canReply, Cond.selects RX3 yX3_canReply yX3_canReply, Cond.code yX3_canReply cX3_canReply 4 (some .boolean), Cond.methodLink RX3 145 yX2_takeBack, Cond.instanceMethod yX2_takeBack, Cond.selects RX2 yX2_takeBack yX2_takeBack, Cond.code yX2_takeBack cX2_takeBack 6 none, Cond.methodLink RX4 205 yX3_dropSquares, Cond.instanceMethod yX3_dropSquares, Cond.selects RX3 yX3_dropSquares yX3_dropSquares, Cond.code yX3_dropSquares cX3_dropSquares 2 (some .int)]
def wsX4_drops : List Cond := .code yX4_drops cX4_drops 2 (some .int) :: ((wsX4_drops_r1 ++ (wsX4_drops_r2 ++ (wsX4_drops_r3 ++ (wsX4_drops_r4 ++ (wsX4_drops_r5 ++ wsX4_drops_r6))))) ++ wsX40 ++ wsX30 ++ wsX20)
def wsX4_mate_r1 : List Cond := [Cond.fieldLink RX4 21 "FiveShogi" "rules" "LFiveShogi$Rules;", Cond.fieldLink RX4 12 "FiveShogi" "position" "LFiveShogi$Position;", Cond.methodLink RX4 135 yX3_findPlays, Cond.instanceMethod yX3_findPlays, Cond.selects RX3 yX3_findPlays yX3_findPlays, Cond.initialized RX3, Cond.code yX3_findPlays cX3_findPlays 6 (some .int), Cond.fieldLink RX3 28 "FiveShogi$Rules" "position" "LFiveShogi$Position;", Cond.fieldLink RX3 9 "FiveShogi$Rules" "plainMoves" "[I", Cond.fieldLink RX3 15 "FiveShogi$Rules" "promotedMoves" "[I", Cond.fieldLink RX3 18 "FiveShogi$Rules" "kindDrops" "[I", Cond.methodLink RX3 32 yX2_sideToPlay, Cond.instanceMethod yX2_sideToPlay, Cond.selects RX2 yX2_sideToPlay yX2_sideToPlay, Cond.initialized RX2, Cond.code yX2_sideToPlay cX2_sideToPlay 1 (some .int), Cond.fieldLink RX2 11 "FiveShogi$Position" "state" "[I", Cond.methodLink RX3 67 yX2_manOn, Cond.instanceMethod yX2_manOn, Cond.selects RX2 yX2_manOn yX2_manOn, Cond.code yX2_manOn cX2_manOn 2 (some .int), Cond.static yX4_sideOf, Cond.initialized RX4, Cond.code yX4_sideOf cX4_sideOf 1 (some .int)]
def wsX4_mate_r2 : List Cond := [Cond.methodLink RX3 89 yX3_safeTargets, Cond.instanceMethod yX3_safeTargets, Cond.selects RX3 yX3_safeTargets yX3_safeTargets, Cond.code yX3_safeTargets cX3_safeTargets 8 (some .int), Cond.methodLink RX3 73 yX2_attackedFrom, Cond.instanceMethod yX2_attackedFrom, Cond.selects RX2 yX2_attackedFrom yX2_attackedFrom, Cond.code yX2_attackedFrom cX2_attackedFrom 9 (some .int), Cond.fieldLink RX2 15 "FiveShogi$Position" "beside" "[I", Cond.methodLink RX2 64 yX2_manOn, Cond.static yX4_has, Cond.code yX4_has cX4_has 2 (some .boolean), Cond.methodLink RX3 80 yX3_canEnter, Cond.instanceMethod yX3_canEnter, Cond.selects RX3 yX3_canEnter yX3_canEnter, Cond.code yX3_canEnter cX3_canEnter 4 (some .boolean), Cond.static yX4_kindOf, Cond.code yX4_kindOf cX4_kindOf 1 (some .int), Cond.methodLink RX3 132 yX2_place, Cond.instanceMethod yX2_place, Cond.selects RX2 yX2_place yX2_place, Cond.code yX2_place cX2_place 4 none, Cond.static yX4_isSquare, Cond.code yX4_isSquare cX4_isSquare 1 (some .boolean)]
def wsX4_mate_r3 : List Cond := [Cond.static yX4_isMan, Cond.code yX4_isMan cX4_isMan 1 (some .boolean), Cond.methodLink RX3 38 yX2_kingOf, Cond.instanceMethod yX2_kingOf, Cond.selects RX2 yX2_kingOf yX2_kingOf, Cond.code yX2_kingOf cX2_kingOf 2 (some .int), Cond.static yX4_isSide, Cond.code yX4_isSide cX4_isSide 1 (some .boolean), Cond.methodLink RX3 42 yX2_countAttackers, Cond.instanceMethod yX2_countAttackers, Cond.selects RX2 yX2_countAttackers yX2_countAttackers, Cond.code yX2_countAttackers cX2_countAttackers 11 (some .int), Cond.static yX4_bit, Cond.code yX4_bit cX4_bit 1 (some .int), Cond.methodLink RX3 86 yX3_forcingSquares, Cond.instanceMethod yX3_forcingSquares, Cond.selects RX3 yX3_forcingSquares yX3_forcingSquares, Cond.code yX3_forcingSquares cX3_forcingSquares 3 (some .int), Cond.static yX4_lastRow, Cond.code yX4_lastRow cX4_lastRow 1 (some .int), Cond.constant RX4 214 (32505856), Cond.methodLink RX3 83 yX3_promotingSquares, Cond.instanceMethod yX3_promotingSquares, Cond.selects RX3 yX3_promotingSquares yX3_promotingSquares]
def wsX4_mate_r4 : List Cond := [Cond.code yX3_promotingSquares cX3_promotingSquares 4 (some .int), Cond.constant RX3 131 (33554431), Cond.methodLink RX3 120 yJ6_bitCount_0f7a4, Cond.static yJ6_bitCount_0f7a4, Cond.initialized RJ6, Cond.code yJ6_bitCount_0f7a4 cJ6_bitCount_0f7a4 1 (some .int), Cond.constant RJ6 265 (1431655765), Cond.constant RJ6 266 (858993459), Cond.constant RJ6 267 (252645135), Cond.methodLink RX3 101 yX3_safeDrops, Cond.instanceMethod yX3_safeDrops, Cond.selects RX3 yX3_safeDrops yX3_safeDrops, Cond.code yX3_safeDrops cX3_safeDrops 6 (some .int), Cond.static yX4_manOf, Cond.code yX4_manOf cX4_manOf 2 (some .int), Cond.methodLink RX3 125 yX3_openToDrops, Cond.instanceMethod yX3_openToDrops, Cond.selects RX3 yX3_openToDrops yX3_openToDrops, Cond.code yX3_openToDrops cX3_openToDrops 4 (some .int), Cond.methodLink RX3 92 yX2_inHand, Cond.instanceMethod yX2_inHand, Cond.selects RX2 yX2_inHand yX2_inHand, Cond.code yX2_inHand cX2_inHand 3 (some .int), Cond.static yX4_isHandKind]
def wsX4_mate_r5 : List Cond := [Cond.code yX4_isHandKind cX4_isHandKind 1 (some .boolean), Cond.methodLink RX3 98 yX3_pawnColumns, Cond.instanceMethod yX3_pawnColumns, Cond.selects RX3 yX3_pawnColumns yX3_pawnColumns, Cond.code yX3_pawnColumns cX3_pawnColumns 4 (some .int), Cond.constant RX3 138 (1082401), Cond.methodLink RX3 107 yX3_withoutMates, Cond.instanceMethod yX3_withoutMates, Cond.selects RX3 yX3_withoutMates yX3_withoutMates, Cond.code yX3_withoutMates cX3_withoutMates 6 (some .int), Cond.static yX4_dropNumber, Cond.code yX4_dropNumber cX4_dropNumber 2 (some .int), Cond.methodLink RX3 139 yX2_apply, Cond.instanceMethod yX2_apply, Cond.selects RX2 yX2_apply yX2_apply, Cond.code yX2_apply cX2_apply 7 (some .int), Cond.methodLink RX2 76 yX2_sideToPlay, Cond.methodLink RX2 80 yX2_setSideToPlay, Cond.instanceMethod yX2_setSideToPlay, Cond.selects RX2 yX2_setSideToPlay yX2_setSideToPlay, Cond.code yX2_setSideToPlay cX2_setSideToPlay 2 none, Cond.methodLink RX2 58 yX2_inHand, Cond.methodLink RX2 84 yX2_setInHand, Cond.instanceMethod yX2_setInHand]
def wsX4_mate_r6 : List Cond := [Cond.selects RX2 yX2_setInHand yX2_setInHand, Cond.code yX2_setInHand cX2_setInHand 4 none, Cond.methodLink RX2 28 yX2_place, Cond.methodLink RX2 91 yX2_changeHandForTaken, Cond.instanceMethod yX2_changeHandForTaken, Cond.selects RX2 yX2_changeHandForTaken yX2_changeHandForTaken, Cond.code yX2_changeHandForTaken cX2_changeHandForTaken 6 none, Cond.methodLink RX3 46 yX3_isInCheck, Cond.instanceMethod yX3_isInCheck, Cond.selects RX3 yX3_isInCheck yX3_isInCheck, Cond.code yX3_isInCheck cX3_isInCheck 2 (some .boolean), Cond.methodLink RX3 142 yX3_canReply, Cond.instanceMethod yX3_canReply, Cond.selects RX3 yX3_canReply yX3_canReply, Cond.code yX3_canReply cX3_canReply 4 (some .boolean), Cond.methodLink RX3 145 yX2_takeBack, Cond.instanceMethod yX2_takeBack, Cond.selects RX2 yX2_takeBack yX2_takeBack, Cond.code yX2_takeBack cX2_takeBack 6 none, Cond.methodLink RX4 199 yX3_listPlays, Cond.instanceMethod yX3_listPlays, Cond.selects RX3 yX3_listPlays yX3_listPlays, Cond.code yX3_listPlays cX3_listPlays 2 (some .int), Cond.fieldLink RX3 24 "FiveShogi$Rules" "listSize" "I"]
def wsX4_mate_r7 : List Cond := [Cond.static yX4_moveNumber, Cond.code yX4_moveNumber cX4_moveNumber 3 (some .int), Cond.methodLink RX3 113 yX3_addPlays, Cond.instanceMethod yX3_addPlays, Cond.selects RX3 yX3_addPlays yX3_addPlays, Cond.code yX3_addPlays cX3_addPlays 4 none, Cond.fieldLink RX3 21 "FiveShogi$Rules" "list" "[I", Cond.methodLink RX4 202 yX3_listed, Cond.instanceMethod yX3_listed, Cond.selects RX3 yX3_listed yX3_listed, Cond.code yX3_listed cX3_listed 2 (some .int), Cond.methodLink RX4 208 yX2_apply, Cond.methodLink RX4 181 yX3_isMated, Cond.instanceMethod yX3_isMated, Cond.selects RX3 yX3_isMated yX3_isMated, Cond.code yX3_isMated cX3_isMated 1 (some .boolean), Cond.methodLink RX3 50 yX3_findPlays, Cond.methodLink RX4 211 yX2_takeBack]
def wsX4_mate : List Cond := .code yX4_mate cX4_mate 6 (some .int) :: ((wsX4_mate_r1 ++ (wsX4_mate_r2 ++ (wsX4_mate_r3 ++ (wsX4_mate_r4 ++ (wsX4_mate_r5 ++ (wsX4_mate_r6 ++ wsX4_mate_r7)))))) ++ wsX40 ++ wsX30 ++ wsX20)
def wsX4_tightest_r1 : List Cond := [Cond.fieldLink RX4 21 "FiveShogi" "rules" "LFiveShogi$Rules;", Cond.fieldLink RX4 12 "FiveShogi" "position" "LFiveShogi$Position;", Cond.methodLink RX4 135 yX3_findPlays, Cond.instanceMethod yX3_findPlays, Cond.selects RX3 yX3_findPlays yX3_findPlays, Cond.initialized RX3, Cond.code yX3_findPlays cX3_findPlays 6 (some .int), Cond.fieldLink RX3 28 "FiveShogi$Rules" "position" "LFiveShogi$Position;", Cond.fieldLink RX3 9 "FiveShogi$Rules" "plainMoves" "[I", Cond.fieldLink RX3 15 "FiveShogi$Rules" "promotedMoves" "[I", Cond.fieldLink RX3 18 "FiveShogi$Rules" "kindDrops" "[I", Cond.methodLink RX3 32 yX2_sideToPlay, Cond.instanceMethod yX2_sideToPlay, Cond.selects RX2 yX2_sideToPlay yX2_sideToPlay, Cond.initialized RX2, Cond.code yX2_sideToPlay cX2_sideToPlay 1 (some .int), Cond.fieldLink RX2 11 "FiveShogi$Position" "state" "[I", Cond.methodLink RX3 67 yX2_manOn, Cond.instanceMethod yX2_manOn, Cond.selects RX2 yX2_manOn yX2_manOn, Cond.code yX2_manOn cX2_manOn 2 (some .int), Cond.static yX4_sideOf, Cond.initialized RX4, Cond.code yX4_sideOf cX4_sideOf 1 (some .int)]
def wsX4_tightest_r2 : List Cond := [Cond.methodLink RX3 89 yX3_safeTargets, Cond.instanceMethod yX3_safeTargets, Cond.selects RX3 yX3_safeTargets yX3_safeTargets, Cond.code yX3_safeTargets cX3_safeTargets 8 (some .int), Cond.methodLink RX3 73 yX2_attackedFrom, Cond.instanceMethod yX2_attackedFrom, Cond.selects RX2 yX2_attackedFrom yX2_attackedFrom, Cond.code yX2_attackedFrom cX2_attackedFrom 9 (some .int), Cond.fieldLink RX2 15 "FiveShogi$Position" "beside" "[I", Cond.methodLink RX2 64 yX2_manOn, Cond.static yX4_has, Cond.code yX4_has cX4_has 2 (some .boolean), Cond.methodLink RX3 80 yX3_canEnter, Cond.instanceMethod yX3_canEnter, Cond.selects RX3 yX3_canEnter yX3_canEnter, Cond.code yX3_canEnter cX3_canEnter 4 (some .boolean), Cond.static yX4_kindOf, Cond.code yX4_kindOf cX4_kindOf 1 (some .int), Cond.methodLink RX3 132 yX2_place, Cond.instanceMethod yX2_place, Cond.selects RX2 yX2_place yX2_place, Cond.code yX2_place cX2_place 4 none, Cond.static yX4_isSquare, Cond.code yX4_isSquare cX4_isSquare 1 (some .boolean)]
def wsX4_tightest_r3 : List Cond := [Cond.static yX4_isMan, Cond.code yX4_isMan cX4_isMan 1 (some .boolean), Cond.methodLink RX3 38 yX2_kingOf, Cond.instanceMethod yX2_kingOf, Cond.selects RX2 yX2_kingOf yX2_kingOf, Cond.code yX2_kingOf cX2_kingOf 2 (some .int), Cond.static yX4_isSide, Cond.code yX4_isSide cX4_isSide 1 (some .boolean), Cond.methodLink RX3 42 yX2_countAttackers, Cond.instanceMethod yX2_countAttackers, Cond.selects RX2 yX2_countAttackers yX2_countAttackers, Cond.code yX2_countAttackers cX2_countAttackers 11 (some .int), Cond.static yX4_bit, Cond.code yX4_bit cX4_bit 1 (some .int), Cond.methodLink RX3 86 yX3_forcingSquares, Cond.instanceMethod yX3_forcingSquares, Cond.selects RX3 yX3_forcingSquares yX3_forcingSquares, Cond.code yX3_forcingSquares cX3_forcingSquares 3 (some .int), Cond.static yX4_lastRow, Cond.code yX4_lastRow cX4_lastRow 1 (some .int), Cond.constant RX4 214 (32505856), Cond.methodLink RX3 83 yX3_promotingSquares, Cond.instanceMethod yX3_promotingSquares, Cond.selects RX3 yX3_promotingSquares yX3_promotingSquares]
def wsX4_tightest_r4 : List Cond := [Cond.code yX3_promotingSquares cX3_promotingSquares 4 (some .int), Cond.constant RX3 131 (33554431), Cond.methodLink RX3 120 yJ6_bitCount_0f7a4, Cond.static yJ6_bitCount_0f7a4, Cond.initialized RJ6, Cond.code yJ6_bitCount_0f7a4 cJ6_bitCount_0f7a4 1 (some .int), Cond.constant RJ6 265 (1431655765), Cond.constant RJ6 266 (858993459), Cond.constant RJ6 267 (252645135), Cond.methodLink RX3 101 yX3_safeDrops, Cond.instanceMethod yX3_safeDrops, Cond.selects RX3 yX3_safeDrops yX3_safeDrops, Cond.code yX3_safeDrops cX3_safeDrops 6 (some .int), Cond.static yX4_manOf, Cond.code yX4_manOf cX4_manOf 2 (some .int), Cond.methodLink RX3 125 yX3_openToDrops, Cond.instanceMethod yX3_openToDrops, Cond.selects RX3 yX3_openToDrops yX3_openToDrops, Cond.code yX3_openToDrops cX3_openToDrops 4 (some .int), Cond.methodLink RX3 92 yX2_inHand, Cond.instanceMethod yX2_inHand, Cond.selects RX2 yX2_inHand yX2_inHand, Cond.code yX2_inHand cX2_inHand 3 (some .int), Cond.static yX4_isHandKind]
def wsX4_tightest_r5 : List Cond := [Cond.code yX4_isHandKind cX4_isHandKind 1 (some .boolean), Cond.methodLink RX3 98 yX3_pawnColumns, Cond.instanceMethod yX3_pawnColumns, Cond.selects RX3 yX3_pawnColumns yX3_pawnColumns, Cond.code yX3_pawnColumns cX3_pawnColumns 4 (some .int), Cond.constant RX3 138 (1082401), Cond.methodLink RX3 107 yX3_withoutMates, Cond.instanceMethod yX3_withoutMates, Cond.selects RX3 yX3_withoutMates yX3_withoutMates, Cond.code yX3_withoutMates cX3_withoutMates 6 (some .int), Cond.static yX4_dropNumber, Cond.code yX4_dropNumber cX4_dropNumber 2 (some .int), Cond.methodLink RX3 139 yX2_apply, Cond.instanceMethod yX2_apply, Cond.selects RX2 yX2_apply yX2_apply, Cond.code yX2_apply cX2_apply 7 (some .int), Cond.methodLink RX2 76 yX2_sideToPlay, Cond.methodLink RX2 80 yX2_setSideToPlay, Cond.instanceMethod yX2_setSideToPlay, Cond.selects RX2 yX2_setSideToPlay yX2_setSideToPlay, Cond.code yX2_setSideToPlay cX2_setSideToPlay 2 none, Cond.methodLink RX2 58 yX2_inHand, Cond.methodLink RX2 84 yX2_setInHand, Cond.instanceMethod yX2_setInHand]
def wsX4_tightest_r6 : List Cond := [Cond.selects RX2 yX2_setInHand yX2_setInHand, Cond.code yX2_setInHand cX2_setInHand 4 none, Cond.methodLink RX2 28 yX2_place, Cond.methodLink RX2 91 yX2_changeHandForTaken, Cond.instanceMethod yX2_changeHandForTaken, Cond.selects RX2 yX2_changeHandForTaken yX2_changeHandForTaken, Cond.code yX2_changeHandForTaken cX2_changeHandForTaken 6 none, Cond.methodLink RX3 46 yX3_isInCheck, Cond.instanceMethod yX3_isInCheck, Cond.selects RX3 yX3_isInCheck yX3_isInCheck, Cond.code yX3_isInCheck cX3_isInCheck 2 (some .boolean), Cond.methodLink RX3 142 yX3_canReply, Cond.instanceMethod yX3_canReply, Cond.selects RX3 yX3_canReply yX3_canReply, Cond.code yX3_canReply cX3_canReply 4 (some .boolean), Cond.methodLink RX3 145 yX2_takeBack, Cond.instanceMethod yX2_takeBack, Cond.selects RX2 yX2_takeBack yX2_takeBack, Cond.code yX2_takeBack cX2_takeBack 6 none, Cond.methodLink RX4 199 yX3_listPlays, Cond.instanceMethod yX3_listPlays, Cond.selects RX3 yX3_listPlays yX3_listPlays, Cond.code yX3_listPlays cX3_listPlays 2 (some .int), Cond.fieldLink RX3 24 "FiveShogi$Rules" "listSize" "I"]
def wsX4_tightest_r7 : List Cond := [Cond.static yX4_moveNumber, Cond.code yX4_moveNumber cX4_moveNumber 3 (some .int), Cond.methodLink RX3 113 yX3_addPlays, Cond.instanceMethod yX3_addPlays, Cond.selects RX3 yX3_addPlays yX3_addPlays, Cond.code yX3_addPlays cX3_addPlays 4 none, Cond.fieldLink RX3 21 "FiveShogi$Rules" "list" "[I", Cond.methodLink RX4 75 yX2_sideToPlay, Cond.methodLink RX4 202 yX3_listed, Cond.instanceMethod yX3_listed, Cond.selects RX3 yX3_listed yX3_listed, Cond.code yX3_listed cX3_listed 2 (some .int), Cond.methodLink RX4 208 yX2_apply, Cond.methodLink RX4 196 yX2_worthFor, Cond.instanceMethod yX2_worthFor, Cond.selects RX2 yX2_worthFor yX2_worthFor, Cond.code yX2_worthFor cX2_worthFor 6 (some .int), Cond.methodLink RX4 211 yX2_takeBack]
def wsX4_tightest : List Cond := .code yX4_tightest cX4_tightest 11 (some .int) :: ((wsX4_tightest_r1 ++ (wsX4_tightest_r2 ++ (wsX4_tightest_r3 ++ (wsX4_tightest_r4 ++ (wsX4_tightest_r5 ++ (wsX4_tightest_r6 ++ wsX4_tightest_r7)))))) ++ wsX40 ++ wsX30 ++ wsX20)
def wsL_cell : List Cond := .code yL_cell cL_cell 2 (some .int) :: ([])
def wsL_low : List Cond := .code yL_low cL_low 2 (some .int) :: ([.constant RL 7 (2147483647)])
def wsL_worth : List Cond := .code yL_worth cL_worth 1 (some .int) :: ([])
def wsL_men_r1 : List Cond := [Cond.methodLink RL 8 yX4_total, Cond.instanceMethod yX4_total, Cond.selects RX4 yX4_total yX4_total, Cond.initialized RX4, Cond.code yX4_total cX4_total 2 (some .int), Cond.fieldLink RX4 12 "FiveShogi" "position" "LFiveShogi$Position;", Cond.fieldLink RX4 21 "FiveShogi" "rules" "LFiveShogi$Rules;", Cond.fieldLink RX4 28 "FiveShogi" "history" "LFiveShogi$History;", Cond.fieldLink RX4 35 "FiveShogi" "text" "LFiveShogi$PlayText;", Cond.methodLink RX4 75 yX2_sideToPlay, Cond.instanceMethod yX2_sideToPlay, Cond.selects RX2 yX2_sideToPlay yX2_sideToPlay, Cond.initialized RX2, Cond.code yX2_sideToPlay cX2_sideToPlay 1 (some .int), Cond.fieldLink RX2 11 "FiveShogi$Position" "state" "[I", Cond.methodLink RX4 115 yX2_menOnBoard, Cond.instanceMethod yX2_menOnBoard, Cond.selects RX2 yX2_menOnBoard yX2_menOnBoard, Cond.code yX2_menOnBoard cX2_menOnBoard 3 (some .int), Cond.methodLink RX4 125 yX2_menInHand, Cond.instanceMethod yX2_menInHand, Cond.selects RX2 yX2_menInHand yX2_menInHand, Cond.code yX2_menInHand cX2_menInHand 4 (some .int), Cond.methodLink RX2 58 yX2_inHand]
def wsL_men_r2 : List Cond := [Cond.instanceMethod yX2_inHand, Cond.selects RX2 yX2_inHand yX2_inHand, Cond.code yX2_inHand cX2_inHand 3 (some .int), Cond.static yX4_isSide, Cond.code yX4_isSide cX4_isSide 1 (some .boolean), Cond.static yX4_isHandKind, Cond.code yX4_isHandKind cX4_isHandKind 1 (some .boolean), Cond.methodLink RX4 88 yX3_isInCheck, Cond.instanceMethod yX3_isInCheck, Cond.selects RX3 yX3_isInCheck yX3_isInCheck, Cond.initialized RX3, Cond.code yX3_isInCheck cX3_isInCheck 2 (some .boolean), Cond.fieldLink RX3 28 "FiveShogi$Rules" "position" "LFiveShogi$Position;", Cond.methodLink RX3 32 yX2_sideToPlay, Cond.methodLink RX3 38 yX2_kingOf, Cond.instanceMethod yX2_kingOf, Cond.selects RX2 yX2_kingOf yX2_kingOf, Cond.code yX2_kingOf cX2_kingOf 2 (some .int), Cond.methodLink RX3 42 yX2_countAttackers, Cond.instanceMethod yX2_countAttackers, Cond.selects RX2 yX2_countAttackers yX2_countAttackers, Cond.code yX2_countAttackers cX2_countAttackers 11 (some .int), Cond.fieldLink RX2 15 "FiveShogi$Position" "beside" "[I", Cond.methodLink RX4 92 yX4_asNumber]
def wsL_men_r3 : List Cond := [Cond.static yX4_asNumber, Cond.code yX4_asNumber cX4_asNumber 1 (some .int), Cond.methodLink RX4 181 yX3_isMated, Cond.instanceMethod yX3_isMated, Cond.selects RX3 yX3_isMated yX3_isMated, Cond.code yX3_isMated cX3_isMated 1 (some .boolean), Cond.methodLink RX3 46 yX3_isInCheck, Cond.methodLink RX3 50 yX3_findPlays, Cond.instanceMethod yX3_findPlays, Cond.selects RX3 yX3_findPlays yX3_findPlays, Cond.code yX3_findPlays cX3_findPlays 6 (some .int), Cond.fieldLink RX3 9 "FiveShogi$Rules" "plainMoves" "[I", Cond.fieldLink RX3 15 "FiveShogi$Rules" "promotedMoves" "[I", Cond.fieldLink RX3 18 "FiveShogi$Rules" "kindDrops" "[I", Cond.methodLink RX3 67 yX2_manOn, Cond.instanceMethod yX2_manOn, Cond.selects RX2 yX2_manOn yX2_manOn, Cond.code yX2_manOn cX2_manOn 2 (some .int), Cond.static yX4_sideOf, Cond.code yX4_sideOf cX4_sideOf 1 (some .int), Cond.methodLink RX3 89 yX3_safeTargets, Cond.instanceMethod yX3_safeTargets, Cond.selects RX3 yX3_safeTargets yX3_safeTargets, Cond.code yX3_safeTargets cX3_safeTargets 8 (some .int)]
def wsL_men_r4 : List Cond := [Cond.methodLink RX3 73 yX2_attackedFrom, Cond.instanceMethod yX2_attackedFrom, Cond.selects RX2 yX2_attackedFrom yX2_attackedFrom, Cond.code yX2_attackedFrom cX2_attackedFrom 9 (some .int), Cond.methodLink RX2 64 yX2_manOn, Cond.static yX4_has, Cond.code yX4_has cX4_has 2 (some .boolean), Cond.methodLink RX3 80 yX3_canEnter, Cond.instanceMethod yX3_canEnter, Cond.selects RX3 yX3_canEnter yX3_canEnter, Cond.code yX3_canEnter cX3_canEnter 4 (some .boolean), Cond.static yX4_kindOf, Cond.code yX4_kindOf cX4_kindOf 1 (some .int), Cond.methodLink RX3 132 yX2_place, Cond.instanceMethod yX2_place, Cond.selects RX2 yX2_place yX2_place, Cond.code yX2_place cX2_place 4 none, Cond.static yX4_isSquare, Cond.code yX4_isSquare cX4_isSquare 1 (some .boolean), Cond.static yX4_isMan, Cond.code yX4_isMan cX4_isMan 1 (some .boolean), Cond.static yX4_bit, Cond.code yX4_bit cX4_bit 1 (some .int), Cond.methodLink RX3 86 yX3_forcingSquares]
def wsL_men_r5 : List Cond := [Cond.instanceMethod yX3_forcingSquares, Cond.selects RX3 yX3_forcingSquares yX3_forcingSquares, Cond.code yX3_forcingSquares cX3_forcingSquares 3 (some .int), Cond.static yX4_lastRow, Cond.code yX4_lastRow cX4_lastRow 1 (some .int), Cond.constant RX4 214 (32505856), Cond.methodLink RX3 83 yX3_promotingSquares, Cond.instanceMethod yX3_promotingSquares, Cond.selects RX3 yX3_promotingSquares yX3_promotingSquares, Cond.code yX3_promotingSquares cX3_promotingSquares 4 (some .int), Cond.constant RX3 131 (33554431), Cond.methodLink RX3 120 yJ6_bitCount_0f7a4, Cond.static yJ6_bitCount_0f7a4, Cond.initialized RJ6, Cond.code yJ6_bitCount_0f7a4 cJ6_bitCount_0f7a4 1 (some .int), Cond.constant RJ6 265 (1431655765), Cond.constant RJ6 266 (858993459), Cond.constant RJ6 267 (252645135), Cond.methodLink RX3 101 yX3_safeDrops, Cond.instanceMethod yX3_safeDrops, Cond.selects RX3 yX3_safeDrops yX3_safeDrops, Cond.code yX3_safeDrops cX3_safeDrops 6 (some .int), Cond.static yX4_manOf, Cond.code yX4_manOf cX4_manOf 2 (some .int)]
def wsL_men_r6 : List Cond := [Cond.methodLink RX3 125 yX3_openToDrops, Cond.instanceMethod yX3_openToDrops, Cond.selects RX3 yX3_openToDrops yX3_openToDrops, Cond.code yX3_openToDrops cX3_openToDrops 4 (some .int), Cond.methodLink RX3 92 yX2_inHand, Cond.methodLink RX3 98 yX3_pawnColumns, Cond.instanceMethod yX3_pawnColumns, Cond.selects RX3 yX3_pawnColumns yX3_pawnColumns, Cond.code yX3_pawnColumns cX3_pawnColumns 4 (some .int), Cond.constant RX3 138 (1082401), Cond.methodLink RX3 107 yX3_withoutMates, Cond.instanceMethod yX3_withoutMates, Cond.selects RX3 yX3_withoutMates yX3_withoutMates, Cond.code yX3_withoutMates cX3_withoutMates 6 (some .int), Cond.static yX4_dropNumber, Cond.code yX4_dropNumber cX4_dropNumber 2 (some .int), Cond.methodLink RX3 139 yX2_apply, Cond.instanceMethod yX2_apply, Cond.selects RX2 yX2_apply yX2_apply, Cond.code yX2_apply cX2_apply 7 (some .int), Cond.methodLink RX2 76 yX2_sideToPlay, Cond.methodLink RX2 80 yX2_setSideToPlay, Cond.instanceMethod yX2_setSideToPlay, Cond.selects RX2 yX2_setSideToPlay yX2_setSideToPlay]
def wsL_men_r7 : List Cond := [Cond.code yX2_setSideToPlay cX2_setSideToPlay 2 none, Cond.methodLink RX2 84 yX2_setInHand, Cond.instanceMethod yX2_setInHand, Cond.selects RX2 yX2_setInHand yX2_setInHand, Cond.code yX2_setInHand cX2_setInHand 4 none, Cond.methodLink RX2 28 yX2_place, Cond.methodLink RX2 91 yX2_changeHandForTaken, Cond.instanceMethod yX2_changeHandForTaken, Cond.selects RX2 yX2_changeHandForTaken yX2_changeHandForTaken, Cond.code yX2_changeHandForTaken cX2_changeHandForTaken 6 none, Cond.methodLink RX3 142 yX3_canReply, Cond.instanceMethod yX3_canReply, Cond.selects RX3 yX3_canReply yX3_canReply, Cond.code yX3_canReply cX3_canReply 4 (some .boolean), Cond.methodLink RX3 145 yX2_takeBack, Cond.instanceMethod yX2_takeBack, Cond.selects RX2 yX2_takeBack yX2_takeBack, Cond.code yX2_takeBack cX2_takeBack 6 none, Cond.methodLink RX4 135 yX3_findPlays, Cond.methodLink RX4 184 yX2_playsMade, Cond.instanceMethod yX2_playsMade, Cond.selects RX2 yX2_playsMade yX2_playsMade, Cond.code yX2_playsMade cX2_playsMade 1 (some .int), Cond.methodLink RX4 187 yX2_menTaken]
def wsL_men_r8 : List Cond := [Cond.instanceMethod yX2_menTaken, Cond.selects RX2 yX2_menTaken yX2_menTaken, Cond.code yX2_menTaken cX2_menTaken 1 (some .int), Cond.methodLink RX4 190 yX2_menPromoted, Cond.instanceMethod yX2_menPromoted, Cond.selects RX2 yX2_menPromoted yX2_menPromoted, Cond.code yX2_menPromoted cX2_menPromoted 1 (some .int), Cond.methodLink RX4 193 yX2_menDropped, Cond.instanceMethod yX2_menDropped, Cond.selects RX2 yX2_menDropped yX2_menDropped, Cond.code yX2_menDropped cX2_menDropped 1 (some .int), Cond.methodLink RX4 171 yX0_size, Cond.instanceMethod yX0_size, Cond.selects RX0 yX0_size yX0_size, Cond.initialized RX0, Cond.code yX0_size cX0_size 1 (some .int), Cond.fieldLink RX0 15 "FiveShogi$History" "size" "I", Cond.methodLink RX4 145 yX1_size, Cond.instanceMethod yX1_size, Cond.selects RX1 yX1_size yX1_size, Cond.initialized RX1, Cond.code yX1_size cX1_size 1 (some .int), Cond.fieldLink RX1 15 "FiveShogi$PlayText" "size" "I"]
def wsL_men : List Cond := .code yL_men cL_men 1 (some .int) :: ((wsL_men_r1 ++ (wsL_men_r2 ++ (wsL_men_r3 ++ (wsL_men_r4 ++ (wsL_men_r5 ++ (wsL_men_r6 ++ (wsL_men_r7 ++ wsL_men_r8))))))) ++ wsX40 ++ wsX20 ++ wsX30 ++ wsX00 ++ wsX10)
def wsL_king : List Cond := .code yL_king cL_king 4 (some .int) :: ([.methodLink RL 14 yX4_man, .instanceMethod yX4_man, .selects RX4 yX4_man yX4_man, .initialized RX4, .code yX4_man cX4_man 3 (some .int), .fieldLink RX4 12 "FiveShogi" "position" "LFiveShogi$Position;", .methodLink RX4 50 yX4_isSquare, .static yX4_isSquare, .code yX4_isSquare cX4_isSquare 1 (some .boolean), .methodLink RX4 108 yX2_manOn, .instanceMethod yX2_manOn, .selects RX2 yX2_manOn yX2_manOn, .initialized RX2, .code yX2_manOn cX2_manOn 2 (some .int), .fieldLink RX2 11 "FiveShogi$Position" "state" "[I"] ++ wsX40 ++ wsX20)
def wsL_isChecked_r1 : List Cond := [Cond.methodLink RL 17 yL_king, Cond.static yL_king, Cond.initialized RL, Cond.code yL_king cL_king 4 (some .int), Cond.methodLink RL 14 yX4_man, Cond.instanceMethod yX4_man, Cond.selects RX4 yX4_man yX4_man, Cond.initialized RX4, Cond.code yX4_man cX4_man 3 (some .int), Cond.fieldLink RX4 12 "FiveShogi" "position" "LFiveShogi$Position;", Cond.methodLink RX4 50 yX4_isSquare, Cond.static yX4_isSquare, Cond.code yX4_isSquare cX4_isSquare 1 (some .boolean), Cond.methodLink RX4 108 yX2_manOn, Cond.instanceMethod yX2_manOn, Cond.selects RX2 yX2_manOn yX2_manOn, Cond.initialized RX2, Cond.code yX2_manOn cX2_manOn 2 (some .int), Cond.fieldLink RX2 11 "FiveShogi$Position" "state" "[I", Cond.methodLink RL 23 yX4_attackers, Cond.instanceMethod yX4_attackers, Cond.selects RX4 yX4_attackers yX4_attackers, Cond.code yX4_attackers cX4_attackers 3 (some .int), Cond.methodLink RX4 118 yX4_isSide]
def wsL_isChecked_r2 : List Cond := [Cond.static yX4_isSide, Cond.code yX4_isSide cX4_isSide 1 (some .boolean), Cond.methodLink RX4 175 yX2_countAttackers, Cond.instanceMethod yX2_countAttackers, Cond.selects RX2 yX2_countAttackers yX2_countAttackers, Cond.code yX2_countAttackers cX2_countAttackers 11 (some .int), Cond.fieldLink RX2 15 "FiveShogi$Position" "beside" "[I"]
def wsL_isChecked : List Cond := .code yL_isChecked cL_isChecked 3 (some .boolean) :: ((wsL_isChecked_r1 ++ wsL_isChecked_r2) ++ wsX40 ++ wsX20)
def wsL_areMen_r1 : List Cond := [Cond.methodLink RL 14 yX4_man, Cond.instanceMethod yX4_man, Cond.selects RX4 yX4_man yX4_man, Cond.initialized RX4, Cond.code yX4_man cX4_man 3 (some .int), Cond.fieldLink RX4 12 "FiveShogi" "position" "LFiveShogi$Position;", Cond.methodLink RX4 50 yX4_isSquare, Cond.static yX4_isSquare, Cond.code yX4_isSquare cX4_isSquare 1 (some .boolean), Cond.methodLink RX4 108 yX2_manOn, Cond.instanceMethod yX2_manOn, Cond.selects RX2 yX2_manOn yX2_manOn, Cond.initialized RX2, Cond.code yX2_manOn cX2_manOn 2 (some .int), Cond.fieldLink RX2 11 "FiveShogi$Position" "state" "[I", Cond.methodLink RL 27 yX4_attacked, Cond.instanceMethod yX4_attacked, Cond.selects RX4 yX4_attacked yX4_attacked, Cond.code yX4_attacked cX4_attacked 2 (some .int), Cond.methodLink RX4 178 yX2_attackedFrom, Cond.instanceMethod yX2_attackedFrom, Cond.selects RX2 yX2_attackedFrom yX2_attackedFrom, Cond.code yX2_attackedFrom cX2_attackedFrom 9 (some .int), Cond.fieldLink RX2 15 "FiveShogi$Position" "beside" "[I"]
def wsL_areMen_r2 : List Cond := [Cond.methodLink RX2 64 yX2_manOn, Cond.methodLink RL 30 yL_worth, Cond.static yL_worth, Cond.initialized RL, Cond.code yL_worth cL_worth 1 (some .int), Cond.methodLink RL 33 yX4_hand, Cond.instanceMethod yX4_hand, Cond.selects RX4 yX4_hand yX4_hand, Cond.code yX4_hand cX4_hand 3 (some .int), Cond.methodLink RX4 118 yX4_isSide, Cond.static yX4_isSide, Cond.code yX4_isSide cX4_isSide 1 (some .boolean), Cond.methodLink RX4 68 yX4_isHandKind, Cond.static yX4_isHandKind, Cond.code yX4_isHandKind cX4_isHandKind 1 (some .boolean), Cond.methodLink RX4 82 yX2_inHand, Cond.instanceMethod yX2_inHand, Cond.selects RX2 yX2_inHand yX2_inHand, Cond.code yX2_inHand cX2_inHand 3 (some .int), Cond.methodLink RL 8 yX4_total, Cond.instanceMethod yX4_total, Cond.selects RX4 yX4_total yX4_total, Cond.code yX4_total cX4_total 2 (some .int), Cond.fieldLink RX4 21 "FiveShogi" "rules" "LFiveShogi$Rules;"]
def wsL_areMen_r3 : List Cond := [Cond.fieldLink RX4 28 "FiveShogi" "history" "LFiveShogi$History;", Cond.fieldLink RX4 35 "FiveShogi" "text" "LFiveShogi$PlayText;", Cond.methodLink RX4 75 yX2_sideToPlay, Cond.instanceMethod yX2_sideToPlay, Cond.selects RX2 yX2_sideToPlay yX2_sideToPlay, Cond.code yX2_sideToPlay cX2_sideToPlay 1 (some .int), Cond.methodLink RX4 115 yX2_menOnBoard, Cond.instanceMethod yX2_menOnBoard, Cond.selects RX2 yX2_menOnBoard yX2_menOnBoard, Cond.code yX2_menOnBoard cX2_menOnBoard 3 (some .int), Cond.methodLink RX4 125 yX2_menInHand, Cond.instanceMethod yX2_menInHand, Cond.selects RX2 yX2_menInHand yX2_menInHand, Cond.code yX2_menInHand cX2_menInHand 4 (some .int), Cond.methodLink RX2 58 yX2_inHand, Cond.methodLink RX4 88 yX3_isInCheck, Cond.instanceMethod yX3_isInCheck, Cond.selects RX3 yX3_isInCheck yX3_isInCheck, Cond.initialized RX3, Cond.code yX3_isInCheck cX3_isInCheck 2 (some .boolean), Cond.fieldLink RX3 28 "FiveShogi$Rules" "position" "LFiveShogi$Position;", Cond.methodLink RX3 32 yX2_sideToPlay, Cond.methodLink RX3 38 yX2_kingOf, Cond.instanceMethod yX2_kingOf]
def wsL_areMen_r4 : List Cond := [Cond.selects RX2 yX2_kingOf yX2_kingOf, Cond.code yX2_kingOf cX2_kingOf 2 (some .int), Cond.methodLink RX3 42 yX2_countAttackers, Cond.instanceMethod yX2_countAttackers, Cond.selects RX2 yX2_countAttackers yX2_countAttackers, Cond.code yX2_countAttackers cX2_countAttackers 11 (some .int), Cond.methodLink RX4 92 yX4_asNumber, Cond.static yX4_asNumber, Cond.code yX4_asNumber cX4_asNumber 1 (some .int), Cond.methodLink RX4 181 yX3_isMated, Cond.instanceMethod yX3_isMated, Cond.selects RX3 yX3_isMated yX3_isMated, Cond.code yX3_isMated cX3_isMated 1 (some .boolean), Cond.methodLink RX3 46 yX3_isInCheck, Cond.methodLink RX3 50 yX3_findPlays, Cond.instanceMethod yX3_findPlays, Cond.selects RX3 yX3_findPlays yX3_findPlays, Cond.code yX3_findPlays cX3_findPlays 6 (some .int), Cond.fieldLink RX3 9 "FiveShogi$Rules" "plainMoves" "[I", Cond.fieldLink RX3 15 "FiveShogi$Rules" "promotedMoves" "[I", Cond.fieldLink RX3 18 "FiveShogi$Rules" "kindDrops" "[I", Cond.methodLink RX3 67 yX2_manOn, Cond.static yX4_sideOf, Cond.code yX4_sideOf cX4_sideOf 1 (some .int)]
def wsL_areMen_r5 : List Cond := [Cond.methodLink RX3 89 yX3_safeTargets, Cond.instanceMethod yX3_safeTargets, Cond.selects RX3 yX3_safeTargets yX3_safeTargets, Cond.code yX3_safeTargets cX3_safeTargets 8 (some .int), Cond.methodLink RX3 73 yX2_attackedFrom, Cond.static yX4_has, Cond.code yX4_has cX4_has 2 (some .boolean), Cond.methodLink RX3 80 yX3_canEnter, Cond.instanceMethod yX3_canEnter, Cond.selects RX3 yX3_canEnter yX3_canEnter, Cond.code yX3_canEnter cX3_canEnter 4 (some .boolean), Cond.static yX4_kindOf, Cond.code yX4_kindOf cX4_kindOf 1 (some .int), Cond.methodLink RX3 132 yX2_place, Cond.instanceMethod yX2_place, Cond.selects RX2 yX2_place yX2_place, Cond.code yX2_place cX2_place 4 none, Cond.static yX4_isMan, Cond.code yX4_isMan cX4_isMan 1 (some .boolean), Cond.static yX4_bit, Cond.code yX4_bit cX4_bit 1 (some .int), Cond.methodLink RX3 86 yX3_forcingSquares, Cond.instanceMethod yX3_forcingSquares, Cond.selects RX3 yX3_forcingSquares yX3_forcingSquares]
def wsL_areMen_r6 : List Cond := [Cond.code yX3_forcingSquares cX3_forcingSquares 3 (some .int), Cond.static yX4_lastRow, Cond.code yX4_lastRow cX4_lastRow 1 (some .int), Cond.constant RX4 214 (32505856), Cond.methodLink RX3 83 yX3_promotingSquares, Cond.instanceMethod yX3_promotingSquares, Cond.selects RX3 yX3_promotingSquares yX3_promotingSquares, Cond.code yX3_promotingSquares cX3_promotingSquares 4 (some .int), Cond.constant RX3 131 (33554431), Cond.methodLink RX3 120 yJ6_bitCount_0f7a4, Cond.static yJ6_bitCount_0f7a4, Cond.initialized RJ6, Cond.code yJ6_bitCount_0f7a4 cJ6_bitCount_0f7a4 1 (some .int), Cond.constant RJ6 265 (1431655765), Cond.constant RJ6 266 (858993459), Cond.constant RJ6 267 (252645135), Cond.methodLink RX3 101 yX3_safeDrops, Cond.instanceMethod yX3_safeDrops, Cond.selects RX3 yX3_safeDrops yX3_safeDrops, Cond.code yX3_safeDrops cX3_safeDrops 6 (some .int), Cond.static yX4_manOf, Cond.code yX4_manOf cX4_manOf 2 (some .int), Cond.methodLink RX3 125 yX3_openToDrops, Cond.instanceMethod yX3_openToDrops]
def wsL_areMen_r7 : List Cond := [Cond.selects RX3 yX3_openToDrops yX3_openToDrops, Cond.code yX3_openToDrops cX3_openToDrops 4 (some .int), Cond.methodLink RX3 92 yX2_inHand, Cond.methodLink RX3 98 yX3_pawnColumns, Cond.instanceMethod yX3_pawnColumns, Cond.selects RX3 yX3_pawnColumns yX3_pawnColumns, Cond.code yX3_pawnColumns cX3_pawnColumns 4 (some .int), Cond.constant RX3 138 (1082401), Cond.methodLink RX3 107 yX3_withoutMates, Cond.instanceMethod yX3_withoutMates, Cond.selects RX3 yX3_withoutMates yX3_withoutMates, Cond.code yX3_withoutMates cX3_withoutMates 6 (some .int), Cond.static yX4_dropNumber, Cond.code yX4_dropNumber cX4_dropNumber 2 (some .int), Cond.methodLink RX3 139 yX2_apply, Cond.instanceMethod yX2_apply, Cond.selects RX2 yX2_apply yX2_apply, Cond.code yX2_apply cX2_apply 7 (some .int), Cond.methodLink RX2 76 yX2_sideToPlay, Cond.methodLink RX2 80 yX2_setSideToPlay, Cond.instanceMethod yX2_setSideToPlay, Cond.selects RX2 yX2_setSideToPlay yX2_setSideToPlay, Cond.code yX2_setSideToPlay cX2_setSideToPlay 2 none, Cond.methodLink RX2 84 yX2_setInHand]
def wsL_areMen_r8 : List Cond := [Cond.instanceMethod yX2_setInHand, Cond.selects RX2 yX2_setInHand yX2_setInHand, Cond.code yX2_setInHand cX2_setInHand 4 none, Cond.methodLink RX2 28 yX2_place, Cond.methodLink RX2 91 yX2_changeHandForTaken, Cond.instanceMethod yX2_changeHandForTaken, Cond.selects RX2 yX2_changeHandForTaken yX2_changeHandForTaken, Cond.code yX2_changeHandForTaken cX2_changeHandForTaken 6 none, Cond.methodLink RX3 142 yX3_canReply, Cond.instanceMethod yX3_canReply, Cond.selects RX3 yX3_canReply yX3_canReply, Cond.code yX3_canReply cX3_canReply 4 (some .boolean), Cond.methodLink RX3 145 yX2_takeBack, Cond.instanceMethod yX2_takeBack, Cond.selects RX2 yX2_takeBack yX2_takeBack, Cond.code yX2_takeBack cX2_takeBack 6 none, Cond.methodLink RX4 135 yX3_findPlays, Cond.methodLink RX4 184 yX2_playsMade, Cond.instanceMethod yX2_playsMade, Cond.selects RX2 yX2_playsMade yX2_playsMade, Cond.code yX2_playsMade cX2_playsMade 1 (some .int), Cond.methodLink RX4 187 yX2_menTaken, Cond.instanceMethod yX2_menTaken, Cond.selects RX2 yX2_menTaken yX2_menTaken]
def wsL_areMen_r9 : List Cond := [Cond.code yX2_menTaken cX2_menTaken 1 (some .int), Cond.methodLink RX4 190 yX2_menPromoted, Cond.instanceMethod yX2_menPromoted, Cond.selects RX2 yX2_menPromoted yX2_menPromoted, Cond.code yX2_menPromoted cX2_menPromoted 1 (some .int), Cond.methodLink RX4 193 yX2_menDropped, Cond.instanceMethod yX2_menDropped, Cond.selects RX2 yX2_menDropped yX2_menDropped, Cond.code yX2_menDropped cX2_menDropped 1 (some .int), Cond.methodLink RX4 171 yX0_size, Cond.instanceMethod yX0_size, Cond.selects RX0 yX0_size yX0_size, Cond.initialized RX0, Cond.code yX0_size cX0_size 1 (some .int), Cond.fieldLink RX0 15 "FiveShogi$History" "size" "I", Cond.methodLink RX4 145 yX1_size, Cond.instanceMethod yX1_size, Cond.selects RX1 yX1_size yX1_size, Cond.initialized RX1, Cond.code yX1_size cX1_size 1 (some .int), Cond.fieldLink RX1 15 "FiveShogi$PlayText" "size" "I", Cond.methodLink RL 36 yX4_worth, Cond.instanceMethod yX4_worth, Cond.selects RX4 yX4_worth yX4_worth]
def wsL_areMen_r10 : List Cond := [Cond.code yX4_worth cX4_worth 2 (some .int), Cond.methodLink RX4 196 yX2_worthFor, Cond.instanceMethod yX2_worthFor, Cond.selects RX2 yX2_worthFor yX2_worthFor, Cond.code yX2_worthFor cX2_worthFor 6 (some .int), Cond.methodLink RL 37 yL_isChecked, Cond.static yL_isChecked, Cond.code yL_isChecked cL_isChecked 3 (some .boolean), Cond.methodLink RL 17 yL_king, Cond.static yL_king, Cond.code yL_king cL_king 4 (some .int), Cond.methodLink RL 23 yX4_attackers, Cond.instanceMethod yX4_attackers, Cond.selects RX4 yX4_attackers yX4_attackers, Cond.code yX4_attackers cX4_attackers 3 (some .int), Cond.methodLink RX4 175 yX2_countAttackers]
def wsL_areMen : List Cond := .code yL_areMen cL_areMen 7 (some .boolean) :: ((wsL_areMen_r1 ++ (wsL_areMen_r2 ++ (wsL_areMen_r3 ++ (wsL_areMen_r4 ++ (wsL_areMen_r5 ++ (wsL_areMen_r6 ++ (wsL_areMen_r7 ++ (wsL_areMen_r8 ++ (wsL_areMen_r9 ++ wsL_areMen_r10))))))))) ++ wsX40 ++ wsX20 ++ wsX30 ++ wsX00 ++ wsX10)
def wsL_areAttacks_r1 : List Cond := [Cond.arrayClass .int, Cond.methodLink RL 27 yX4_attacked, Cond.instanceMethod yX4_attacked, Cond.selects RX4 yX4_attacked yX4_attacked, Cond.initialized RX4, Cond.code yX4_attacked cX4_attacked 2 (some .int), Cond.fieldLink RX4 12 "FiveShogi" "position" "LFiveShogi$Position;", Cond.methodLink RX4 50 yX4_isSquare, Cond.static yX4_isSquare, Cond.code yX4_isSquare cX4_isSquare 1 (some .boolean), Cond.methodLink RX4 108 yX2_manOn, Cond.instanceMethod yX2_manOn, Cond.selects RX2 yX2_manOn yX2_manOn, Cond.initialized RX2, Cond.code yX2_manOn cX2_manOn 2 (some .int), Cond.fieldLink RX2 11 "FiveShogi$Position" "state" "[I", Cond.methodLink RX4 178 yX2_attackedFrom, Cond.instanceMethod yX2_attackedFrom, Cond.selects RX2 yX2_attackedFrom yX2_attackedFrom, Cond.code yX2_attackedFrom cX2_attackedFrom 9 (some .int), Cond.fieldLink RX2 15 "FiveShogi$Position" "beside" "[I", Cond.methodLink RX2 64 yX2_manOn, Cond.methodLink RL 14 yX4_man, Cond.instanceMethod yX4_man]
def wsL_areAttacks_r2 : List Cond := [Cond.selects RX4 yX4_man yX4_man, Cond.code yX4_man cX4_man 3 (some .int), Cond.methodLink RL 23 yX4_attackers, Cond.instanceMethod yX4_attackers, Cond.selects RX4 yX4_attackers yX4_attackers, Cond.code yX4_attackers cX4_attackers 3 (some .int), Cond.methodLink RX4 118 yX4_isSide, Cond.static yX4_isSide, Cond.code yX4_isSide cX4_isSide 1 (some .boolean), Cond.methodLink RX4 175 yX2_countAttackers, Cond.instanceMethod yX2_countAttackers, Cond.selects RX2 yX2_countAttackers yX2_countAttackers, Cond.code yX2_countAttackers cX2_countAttackers 11 (some .int)]
def wsL_areAttacks : List Cond := .code yL_areAttacks cL_areAttacks 6 (some .boolean) :: ((wsL_areAttacks_r1 ++ wsL_areAttacks_r2) ++ wsX40 ++ wsX20)
def wsL_areDrops_r1 : List Cond := [Cond.methodLink RL 8 yX4_total, Cond.instanceMethod yX4_total, Cond.selects RX4 yX4_total yX4_total, Cond.initialized RX4, Cond.code yX4_total cX4_total 2 (some .int), Cond.fieldLink RX4 12 "FiveShogi" "position" "LFiveShogi$Position;", Cond.fieldLink RX4 21 "FiveShogi" "rules" "LFiveShogi$Rules;", Cond.fieldLink RX4 28 "FiveShogi" "history" "LFiveShogi$History;", Cond.fieldLink RX4 35 "FiveShogi" "text" "LFiveShogi$PlayText;", Cond.methodLink RX4 75 yX2_sideToPlay, Cond.instanceMethod yX2_sideToPlay, Cond.selects RX2 yX2_sideToPlay yX2_sideToPlay, Cond.initialized RX2, Cond.code yX2_sideToPlay cX2_sideToPlay 1 (some .int), Cond.fieldLink RX2 11 "FiveShogi$Position" "state" "[I", Cond.methodLink RX4 115 yX2_menOnBoard, Cond.instanceMethod yX2_menOnBoard, Cond.selects RX2 yX2_menOnBoard yX2_menOnBoard, Cond.code yX2_menOnBoard cX2_menOnBoard 3 (some .int), Cond.methodLink RX4 125 yX2_menInHand, Cond.instanceMethod yX2_menInHand, Cond.selects RX2 yX2_menInHand yX2_menInHand, Cond.code yX2_menInHand cX2_menInHand 4 (some .int), Cond.methodLink RX2 58 yX2_inHand]
def wsL_areDrops_r2 : List Cond := [Cond.instanceMethod yX2_inHand, Cond.selects RX2 yX2_inHand yX2_inHand, Cond.code yX2_inHand cX2_inHand 3 (some .int), Cond.static yX4_isSide, Cond.code yX4_isSide cX4_isSide 1 (some .boolean), Cond.static yX4_isHandKind, Cond.code yX4_isHandKind cX4_isHandKind 1 (some .boolean), Cond.methodLink RX4 88 yX3_isInCheck, Cond.instanceMethod yX3_isInCheck, Cond.selects RX3 yX3_isInCheck yX3_isInCheck, Cond.initialized RX3, Cond.code yX3_isInCheck cX3_isInCheck 2 (some .boolean), Cond.fieldLink RX3 28 "FiveShogi$Rules" "position" "LFiveShogi$Position;", Cond.methodLink RX3 32 yX2_sideToPlay, Cond.methodLink RX3 38 yX2_kingOf, Cond.instanceMethod yX2_kingOf, Cond.selects RX2 yX2_kingOf yX2_kingOf, Cond.code yX2_kingOf cX2_kingOf 2 (some .int), Cond.methodLink RX3 42 yX2_countAttackers, Cond.instanceMethod yX2_countAttackers, Cond.selects RX2 yX2_countAttackers yX2_countAttackers, Cond.code yX2_countAttackers cX2_countAttackers 11 (some .int), Cond.fieldLink RX2 15 "FiveShogi$Position" "beside" "[I", Cond.methodLink RX4 92 yX4_asNumber]
def wsL_areDrops_r3 : List Cond := [Cond.static yX4_asNumber, Cond.code yX4_asNumber cX4_asNumber 1 (some .int), Cond.methodLink RX4 181 yX3_isMated, Cond.instanceMethod yX3_isMated, Cond.selects RX3 yX3_isMated yX3_isMated, Cond.code yX3_isMated cX3_isMated 1 (some .boolean), Cond.methodLink RX3 46 yX3_isInCheck, Cond.methodLink RX3 50 yX3_findPlays, Cond.instanceMethod yX3_findPlays, Cond.selects RX3 yX3_findPlays yX3_findPlays, Cond.code yX3_findPlays cX3_findPlays 6 (some .int), Cond.fieldLink RX3 9 "FiveShogi$Rules" "plainMoves" "[I", Cond.fieldLink RX3 15 "FiveShogi$Rules" "promotedMoves" "[I", Cond.fieldLink RX3 18 "FiveShogi$Rules" "kindDrops" "[I", Cond.methodLink RX3 67 yX2_manOn, Cond.instanceMethod yX2_manOn, Cond.selects RX2 yX2_manOn yX2_manOn, Cond.code yX2_manOn cX2_manOn 2 (some .int), Cond.static yX4_sideOf, Cond.code yX4_sideOf cX4_sideOf 1 (some .int), Cond.methodLink RX3 89 yX3_safeTargets, Cond.instanceMethod yX3_safeTargets, Cond.selects RX3 yX3_safeTargets yX3_safeTargets, Cond.code yX3_safeTargets cX3_safeTargets 8 (some .int)]
def wsL_areDrops_r4 : List Cond := [Cond.methodLink RX3 73 yX2_attackedFrom, Cond.instanceMethod yX2_attackedFrom, Cond.selects RX2 yX2_attackedFrom yX2_attackedFrom, Cond.code yX2_attackedFrom cX2_attackedFrom 9 (some .int), Cond.methodLink RX2 64 yX2_manOn, Cond.static yX4_has, Cond.code yX4_has cX4_has 2 (some .boolean), Cond.methodLink RX3 80 yX3_canEnter, Cond.instanceMethod yX3_canEnter, Cond.selects RX3 yX3_canEnter yX3_canEnter, Cond.code yX3_canEnter cX3_canEnter 4 (some .boolean), Cond.static yX4_kindOf, Cond.code yX4_kindOf cX4_kindOf 1 (some .int), Cond.methodLink RX3 132 yX2_place, Cond.instanceMethod yX2_place, Cond.selects RX2 yX2_place yX2_place, Cond.code yX2_place cX2_place 4 none, Cond.static yX4_isSquare, Cond.code yX4_isSquare cX4_isSquare 1 (some .boolean), Cond.static yX4_isMan, Cond.code yX4_isMan cX4_isMan 1 (some .boolean), Cond.static yX4_bit, Cond.code yX4_bit cX4_bit 1 (some .int), Cond.methodLink RX3 86 yX3_forcingSquares]
def wsL_areDrops_r5 : List Cond := [Cond.instanceMethod yX3_forcingSquares, Cond.selects RX3 yX3_forcingSquares yX3_forcingSquares, Cond.code yX3_forcingSquares cX3_forcingSquares 3 (some .int), Cond.static yX4_lastRow, Cond.code yX4_lastRow cX4_lastRow 1 (some .int), Cond.constant RX4 214 (32505856), Cond.methodLink RX3 83 yX3_promotingSquares, Cond.instanceMethod yX3_promotingSquares, Cond.selects RX3 yX3_promotingSquares yX3_promotingSquares, Cond.code yX3_promotingSquares cX3_promotingSquares 4 (some .int), Cond.constant RX3 131 (33554431), Cond.methodLink RX3 120 yJ6_bitCount_0f7a4, Cond.static yJ6_bitCount_0f7a4, Cond.initialized RJ6, Cond.code yJ6_bitCount_0f7a4 cJ6_bitCount_0f7a4 1 (some .int), Cond.constant RJ6 265 (1431655765), Cond.constant RJ6 266 (858993459), Cond.constant RJ6 267 (252645135), Cond.methodLink RX3 101 yX3_safeDrops, Cond.instanceMethod yX3_safeDrops, Cond.selects RX3 yX3_safeDrops yX3_safeDrops, Cond.code yX3_safeDrops cX3_safeDrops 6 (some .int), Cond.static yX4_manOf, Cond.code yX4_manOf cX4_manOf 2 (some .int)]
def wsL_areDrops_r6 : List Cond := [Cond.methodLink RX3 125 yX3_openToDrops, Cond.instanceMethod yX3_openToDrops, Cond.selects RX3 yX3_openToDrops yX3_openToDrops, Cond.code yX3_openToDrops cX3_openToDrops 4 (some .int), Cond.methodLink RX3 92 yX2_inHand, Cond.methodLink RX3 98 yX3_pawnColumns, Cond.instanceMethod yX3_pawnColumns, Cond.selects RX3 yX3_pawnColumns yX3_pawnColumns, Cond.code yX3_pawnColumns cX3_pawnColumns 4 (some .int), Cond.constant RX3 138 (1082401), Cond.methodLink RX3 107 yX3_withoutMates, Cond.instanceMethod yX3_withoutMates, Cond.selects RX3 yX3_withoutMates yX3_withoutMates, Cond.code yX3_withoutMates cX3_withoutMates 6 (some .int), Cond.static yX4_dropNumber, Cond.code yX4_dropNumber cX4_dropNumber 2 (some .int), Cond.methodLink RX3 139 yX2_apply, Cond.instanceMethod yX2_apply, Cond.selects RX2 yX2_apply yX2_apply, Cond.code yX2_apply cX2_apply 7 (some .int), Cond.methodLink RX2 76 yX2_sideToPlay, Cond.methodLink RX2 80 yX2_setSideToPlay, Cond.instanceMethod yX2_setSideToPlay, Cond.selects RX2 yX2_setSideToPlay yX2_setSideToPlay]
def wsL_areDrops_r7 : List Cond := [Cond.code yX2_setSideToPlay cX2_setSideToPlay 2 none, Cond.methodLink RX2 84 yX2_setInHand, Cond.instanceMethod yX2_setInHand, Cond.selects RX2 yX2_setInHand yX2_setInHand, Cond.code yX2_setInHand cX2_setInHand 4 none, Cond.methodLink RX2 28 yX2_place, Cond.methodLink RX2 91 yX2_changeHandForTaken, Cond.instanceMethod yX2_changeHandForTaken, Cond.selects RX2 yX2_changeHandForTaken yX2_changeHandForTaken, Cond.code yX2_changeHandForTaken cX2_changeHandForTaken 6 none, Cond.methodLink RX3 142 yX3_canReply, Cond.instanceMethod yX3_canReply, Cond.selects RX3 yX3_canReply yX3_canReply, Cond.code yX3_canReply cX3_canReply 4 (some .boolean), Cond.methodLink RX3 145 yX2_takeBack, Cond.instanceMethod yX2_takeBack, Cond.selects RX2 yX2_takeBack yX2_takeBack, Cond.code yX2_takeBack cX2_takeBack 6 none, Cond.methodLink RX4 135 yX3_findPlays, Cond.methodLink RX4 184 yX2_playsMade, Cond.instanceMethod yX2_playsMade, Cond.selects RX2 yX2_playsMade yX2_playsMade, Cond.code yX2_playsMade cX2_playsMade 1 (some .int), Cond.methodLink RX4 187 yX2_menTaken]
def wsL_areDrops_r8 : List Cond := [Cond.instanceMethod yX2_menTaken, Cond.selects RX2 yX2_menTaken yX2_menTaken, Cond.code yX2_menTaken cX2_menTaken 1 (some .int), Cond.methodLink RX4 190 yX2_menPromoted, Cond.instanceMethod yX2_menPromoted, Cond.selects RX2 yX2_menPromoted yX2_menPromoted, Cond.code yX2_menPromoted cX2_menPromoted 1 (some .int), Cond.methodLink RX4 193 yX2_menDropped, Cond.instanceMethod yX2_menDropped, Cond.selects RX2 yX2_menDropped yX2_menDropped, Cond.code yX2_menDropped cX2_menDropped 1 (some .int), Cond.methodLink RX4 171 yX0_size, Cond.instanceMethod yX0_size, Cond.selects RX0 yX0_size yX0_size, Cond.initialized RX0, Cond.code yX0_size cX0_size 1 (some .int), Cond.fieldLink RX0 15 "FiveShogi$History" "size" "I", Cond.methodLink RX4 145 yX1_size, Cond.instanceMethod yX1_size, Cond.selects RX1 yX1_size yX1_size, Cond.initialized RX1, Cond.code yX1_size cX1_size 1 (some .int), Cond.fieldLink RX1 15 "FiveShogi$PlayText" "size" "I", Cond.methodLink RL 41 yX4_drops]
def wsL_areDrops_r9 : List Cond := [Cond.instanceMethod yX4_drops, Cond.selects RX4 yX4_drops yX4_drops, Cond.code yX4_drops cX4_drops 2 (some .int), Cond.methodLink RX4 68 yX4_isHandKind, Cond.methodLink RX4 205 yX3_dropSquares, Cond.instanceMethod yX3_dropSquares, Cond.selects RX3 yX3_dropSquares yX3_dropSquares, Cond.code yX3_dropSquares cX3_dropSquares 2 (some .int), Cond.methodLink RL 44 yX4_dropReason, Cond.instanceMethod yX4_dropReason, Cond.selects RX4 yX4_dropReason yX4_dropReason, Cond.code yX4_dropReason cX4_dropReason 3 (some .int), Cond.methodLink RX4 50 yX4_isSquare, Cond.methodLink RX4 71 yX3_whyNoDrop, Cond.instanceMethod yX3_whyNoDrop, Cond.selects RX3 yX3_whyNoDrop yX3_whyNoDrop, Cond.code yX3_whyNoDrop cX3_whyNoDrop 4 (some .int), Cond.methodLink RL 33 yX4_hand, Cond.instanceMethod yX4_hand, Cond.selects RX4 yX4_hand yX4_hand, Cond.code yX4_hand cX4_hand 3 (some .int), Cond.methodLink RX4 118 yX4_isSide, Cond.methodLink RX4 82 yX2_inHand, Cond.methodLink RL 14 yX4_man]
def wsL_areDrops_r10 : List Cond := [Cond.instanceMethod yX4_man, Cond.selects RX4 yX4_man yX4_man, Cond.code yX4_man cX4_man 3 (some .int), Cond.methodLink RX4 108 yX2_manOn]
def wsL_areDrops : List Cond := .code yL_areDrops cL_areDrops 6 (some .boolean) :: ((wsL_areDrops_r1 ++ (wsL_areDrops_r2 ++ (wsL_areDrops_r3 ++ (wsL_areDrops_r4 ++ (wsL_areDrops_r5 ++ (wsL_areDrops_r6 ++ (wsL_areDrops_r7 ++ (wsL_areDrops_r8 ++ (wsL_areDrops_r9 ++ wsL_areDrops_r10))))))))) ++ wsX40 ++ wsX20 ++ wsX30 ++ wsX00 ++ wsX10)
def wsL_arePlays_r1 : List Cond := [Cond.methodLink RL 8 yX4_total, Cond.instanceMethod yX4_total, Cond.selects RX4 yX4_total yX4_total, Cond.initialized RX4, Cond.code yX4_total cX4_total 2 (some .int), Cond.fieldLink RX4 12 "FiveShogi" "position" "LFiveShogi$Position;", Cond.fieldLink RX4 21 "FiveShogi" "rules" "LFiveShogi$Rules;", Cond.fieldLink RX4 28 "FiveShogi" "history" "LFiveShogi$History;", Cond.fieldLink RX4 35 "FiveShogi" "text" "LFiveShogi$PlayText;", Cond.methodLink RX4 75 yX2_sideToPlay, Cond.instanceMethod yX2_sideToPlay, Cond.selects RX2 yX2_sideToPlay yX2_sideToPlay, Cond.initialized RX2, Cond.code yX2_sideToPlay cX2_sideToPlay 1 (some .int), Cond.fieldLink RX2 11 "FiveShogi$Position" "state" "[I", Cond.methodLink RX4 115 yX2_menOnBoard, Cond.instanceMethod yX2_menOnBoard, Cond.selects RX2 yX2_menOnBoard yX2_menOnBoard, Cond.code yX2_menOnBoard cX2_menOnBoard 3 (some .int), Cond.methodLink RX4 125 yX2_menInHand, Cond.instanceMethod yX2_menInHand, Cond.selects RX2 yX2_menInHand yX2_menInHand, Cond.code yX2_menInHand cX2_menInHand 4 (some .int), Cond.methodLink RX2 58 yX2_inHand]
def wsL_arePlays_r2 : List Cond := [Cond.instanceMethod yX2_inHand, Cond.selects RX2 yX2_inHand yX2_inHand, Cond.code yX2_inHand cX2_inHand 3 (some .int), Cond.static yX4_isSide, Cond.code yX4_isSide cX4_isSide 1 (some .boolean), Cond.static yX4_isHandKind, Cond.code yX4_isHandKind cX4_isHandKind 1 (some .boolean), Cond.methodLink RX4 88 yX3_isInCheck, Cond.instanceMethod yX3_isInCheck, Cond.selects RX3 yX3_isInCheck yX3_isInCheck, Cond.initialized RX3, Cond.code yX3_isInCheck cX3_isInCheck 2 (some .boolean), Cond.fieldLink RX3 28 "FiveShogi$Rules" "position" "LFiveShogi$Position;", Cond.methodLink RX3 32 yX2_sideToPlay, Cond.methodLink RX3 38 yX2_kingOf, Cond.instanceMethod yX2_kingOf, Cond.selects RX2 yX2_kingOf yX2_kingOf, Cond.code yX2_kingOf cX2_kingOf 2 (some .int), Cond.methodLink RX3 42 yX2_countAttackers, Cond.instanceMethod yX2_countAttackers, Cond.selects RX2 yX2_countAttackers yX2_countAttackers, Cond.code yX2_countAttackers cX2_countAttackers 11 (some .int), Cond.fieldLink RX2 15 "FiveShogi$Position" "beside" "[I", Cond.methodLink RX4 92 yX4_asNumber]
def wsL_arePlays_r3 : List Cond := [Cond.static yX4_asNumber, Cond.code yX4_asNumber cX4_asNumber 1 (some .int), Cond.methodLink RX4 181 yX3_isMated, Cond.instanceMethod yX3_isMated, Cond.selects RX3 yX3_isMated yX3_isMated, Cond.code yX3_isMated cX3_isMated 1 (some .boolean), Cond.methodLink RX3 46 yX3_isInCheck, Cond.methodLink RX3 50 yX3_findPlays, Cond.instanceMethod yX3_findPlays, Cond.selects RX3 yX3_findPlays yX3_findPlays, Cond.code yX3_findPlays cX3_findPlays 6 (some .int), Cond.fieldLink RX3 9 "FiveShogi$Rules" "plainMoves" "[I", Cond.fieldLink RX3 15 "FiveShogi$Rules" "promotedMoves" "[I", Cond.fieldLink RX3 18 "FiveShogi$Rules" "kindDrops" "[I", Cond.methodLink RX3 67 yX2_manOn, Cond.instanceMethod yX2_manOn, Cond.selects RX2 yX2_manOn yX2_manOn, Cond.code yX2_manOn cX2_manOn 2 (some .int), Cond.static yX4_sideOf, Cond.code yX4_sideOf cX4_sideOf 1 (some .int), Cond.methodLink RX3 89 yX3_safeTargets, Cond.instanceMethod yX3_safeTargets, Cond.selects RX3 yX3_safeTargets yX3_safeTargets, Cond.code yX3_safeTargets cX3_safeTargets 8 (some .int)]
def wsL_arePlays_r4 : List Cond := [Cond.methodLink RX3 73 yX2_attackedFrom, Cond.instanceMethod yX2_attackedFrom, Cond.selects RX2 yX2_attackedFrom yX2_attackedFrom, Cond.code yX2_attackedFrom cX2_attackedFrom 9 (some .int), Cond.methodLink RX2 64 yX2_manOn, Cond.static yX4_has, Cond.code yX4_has cX4_has 2 (some .boolean), Cond.methodLink RX3 80 yX3_canEnter, Cond.instanceMethod yX3_canEnter, Cond.selects RX3 yX3_canEnter yX3_canEnter, Cond.code yX3_canEnter cX3_canEnter 4 (some .boolean), Cond.static yX4_kindOf, Cond.code yX4_kindOf cX4_kindOf 1 (some .int), Cond.methodLink RX3 132 yX2_place, Cond.instanceMethod yX2_place, Cond.selects RX2 yX2_place yX2_place, Cond.code yX2_place cX2_place 4 none, Cond.static yX4_isSquare, Cond.code yX4_isSquare cX4_isSquare 1 (some .boolean), Cond.static yX4_isMan, Cond.code yX4_isMan cX4_isMan 1 (some .boolean), Cond.static yX4_bit, Cond.code yX4_bit cX4_bit 1 (some .int), Cond.methodLink RX3 86 yX3_forcingSquares]
def wsL_arePlays_r5 : List Cond := [Cond.instanceMethod yX3_forcingSquares, Cond.selects RX3 yX3_forcingSquares yX3_forcingSquares, Cond.code yX3_forcingSquares cX3_forcingSquares 3 (some .int), Cond.static yX4_lastRow, Cond.code yX4_lastRow cX4_lastRow 1 (some .int), Cond.constant RX4 214 (32505856), Cond.methodLink RX3 83 yX3_promotingSquares, Cond.instanceMethod yX3_promotingSquares, Cond.selects RX3 yX3_promotingSquares yX3_promotingSquares, Cond.code yX3_promotingSquares cX3_promotingSquares 4 (some .int), Cond.constant RX3 131 (33554431), Cond.methodLink RX3 120 yJ6_bitCount_0f7a4, Cond.static yJ6_bitCount_0f7a4, Cond.initialized RJ6, Cond.code yJ6_bitCount_0f7a4 cJ6_bitCount_0f7a4 1 (some .int), Cond.constant RJ6 265 (1431655765), Cond.constant RJ6 266 (858993459), Cond.constant RJ6 267 (252645135), Cond.methodLink RX3 101 yX3_safeDrops, Cond.instanceMethod yX3_safeDrops, Cond.selects RX3 yX3_safeDrops yX3_safeDrops, Cond.code yX3_safeDrops cX3_safeDrops 6 (some .int), Cond.static yX4_manOf, Cond.code yX4_manOf cX4_manOf 2 (some .int)]
def wsL_arePlays_r6 : List Cond := [Cond.methodLink RX3 125 yX3_openToDrops, Cond.instanceMethod yX3_openToDrops, Cond.selects RX3 yX3_openToDrops yX3_openToDrops, Cond.code yX3_openToDrops cX3_openToDrops 4 (some .int), Cond.methodLink RX3 92 yX2_inHand, Cond.methodLink RX3 98 yX3_pawnColumns, Cond.instanceMethod yX3_pawnColumns, Cond.selects RX3 yX3_pawnColumns yX3_pawnColumns, Cond.code yX3_pawnColumns cX3_pawnColumns 4 (some .int), Cond.constant RX3 138 (1082401), Cond.methodLink RX3 107 yX3_withoutMates, Cond.instanceMethod yX3_withoutMates, Cond.selects RX3 yX3_withoutMates yX3_withoutMates, Cond.code yX3_withoutMates cX3_withoutMates 6 (some .int), Cond.static yX4_dropNumber, Cond.code yX4_dropNumber cX4_dropNumber 2 (some .int), Cond.methodLink RX3 139 yX2_apply, Cond.instanceMethod yX2_apply, Cond.selects RX2 yX2_apply yX2_apply, Cond.code yX2_apply cX2_apply 7 (some .int), Cond.methodLink RX2 76 yX2_sideToPlay, Cond.methodLink RX2 80 yX2_setSideToPlay, Cond.instanceMethod yX2_setSideToPlay, Cond.selects RX2 yX2_setSideToPlay yX2_setSideToPlay]
def wsL_arePlays_r7 : List Cond := [Cond.code yX2_setSideToPlay cX2_setSideToPlay 2 none, Cond.methodLink RX2 84 yX2_setInHand, Cond.instanceMethod yX2_setInHand, Cond.selects RX2 yX2_setInHand yX2_setInHand, Cond.code yX2_setInHand cX2_setInHand 4 none, Cond.methodLink RX2 28 yX2_place, Cond.methodLink RX2 91 yX2_changeHandForTaken, Cond.instanceMethod yX2_changeHandForTaken, Cond.selects RX2 yX2_changeHandForTaken yX2_changeHandForTaken, Cond.code yX2_changeHandForTaken cX2_changeHandForTaken 6 none, Cond.methodLink RX3 142 yX3_canReply, Cond.instanceMethod yX3_canReply, Cond.selects RX3 yX3_canReply yX3_canReply, Cond.code yX3_canReply cX3_canReply 4 (some .boolean), Cond.methodLink RX3 145 yX2_takeBack, Cond.instanceMethod yX2_takeBack, Cond.selects RX2 yX2_takeBack yX2_takeBack, Cond.code yX2_takeBack cX2_takeBack 6 none, Cond.methodLink RX4 135 yX3_findPlays, Cond.methodLink RX4 184 yX2_playsMade, Cond.instanceMethod yX2_playsMade, Cond.selects RX2 yX2_playsMade yX2_playsMade, Cond.code yX2_playsMade cX2_playsMade 1 (some .int), Cond.methodLink RX4 187 yX2_menTaken]
def wsL_arePlays_r8 : List Cond := [Cond.instanceMethod yX2_menTaken, Cond.selects RX2 yX2_menTaken yX2_menTaken, Cond.code yX2_menTaken cX2_menTaken 1 (some .int), Cond.methodLink RX4 190 yX2_menPromoted, Cond.instanceMethod yX2_menPromoted, Cond.selects RX2 yX2_menPromoted yX2_menPromoted, Cond.code yX2_menPromoted cX2_menPromoted 1 (some .int), Cond.methodLink RX4 193 yX2_menDropped, Cond.instanceMethod yX2_menDropped, Cond.selects RX2 yX2_menDropped yX2_menDropped, Cond.code yX2_menDropped cX2_menDropped 1 (some .int), Cond.methodLink RX4 171 yX0_size, Cond.instanceMethod yX0_size, Cond.selects RX0 yX0_size yX0_size, Cond.initialized RX0, Cond.code yX0_size cX0_size 1 (some .int), Cond.fieldLink RX0 15 "FiveShogi$History" "size" "I", Cond.methodLink RX4 145 yX1_size, Cond.instanceMethod yX1_size, Cond.selects RX1 yX1_size yX1_size, Cond.initialized RX1, Cond.code yX1_size cX1_size 1 (some .int), Cond.fieldLink RX1 15 "FiveShogi$PlayText" "size" "I", Cond.methodLink RL 47 yL_men]
def wsL_arePlays_r9 : List Cond := [Cond.static yL_men, Cond.initialized RL, Cond.code yL_men cL_men 1 (some .int), Cond.methodLink RL 51 yX4_playAt, Cond.instanceMethod yX4_playAt, Cond.selects RX4 yX4_playAt yX4_playAt, Cond.code yX4_playAt cX4_playAt 2 (some .int), Cond.methodLink RX4 199 yX3_listPlays, Cond.instanceMethod yX3_listPlays, Cond.selects RX3 yX3_listPlays yX3_listPlays, Cond.code yX3_listPlays cX3_listPlays 2 (some .int), Cond.fieldLink RX3 24 "FiveShogi$Rules" "listSize" "I", Cond.static yX4_moveNumber, Cond.code yX4_moveNumber cX4_moveNumber 3 (some .int), Cond.methodLink RX3 113 yX3_addPlays, Cond.instanceMethod yX3_addPlays, Cond.selects RX3 yX3_addPlays yX3_addPlays, Cond.code yX3_addPlays cX3_addPlays 4 none, Cond.fieldLink RX3 21 "FiveShogi$Rules" "list" "[I", Cond.methodLink RX4 202 yX3_listed, Cond.instanceMethod yX3_listed, Cond.selects RX3 yX3_listed yX3_listed, Cond.code yX3_listed cX3_listed 2 (some .int), Cond.methodLink RL 54 yX4_make]
def wsL_arePlays_r10 : List Cond := [Cond.instanceMethod yX4_make, Cond.selects RX4 yX4_make yX4_make, Cond.code yX4_make cX4_make 2 (some .int), Cond.methodLink RX4 85 yX3_allows, Cond.instanceMethod yX3_allows, Cond.selects RX3 yX3_allows yX3_allows, Cond.code yX3_allows cX3_allows 4 (some .boolean), Cond.methodLink RX3 60 yX3_whyNoDrop, Cond.instanceMethod yX3_whyNoDrop, Cond.selects RX3 yX3_whyNoDrop yX3_whyNoDrop, Cond.code yX3_whyNoDrop cX3_whyNoDrop 4 (some .int), Cond.methodLink RX3 63 yX3_whyNoMove, Cond.instanceMethod yX3_whyNoMove, Cond.selects RX3 yX3_whyNoMove yX3_whyNoMove, Cond.code yX3_whyNoMove cX3_whyNoMove 5 (some .int), Cond.methodLink RX4 58 yX4_recordChange, Cond.instanceMethod yX4_recordChange, Cond.selects RX4 yX4_recordChange yX4_recordChange, Cond.code yX4_recordChange cX4_recordChange 1 none, Cond.fieldLink RX4 39 "FiveShogi" "before" "[I", Cond.methodLink RX4 154 yX2_copyTo, Cond.instanceMethod yX2_copyTo, Cond.selects RX2 yX2_copyTo yX2_copyTo, Cond.code yX2_copyTo cX2_copyTo 3 none]
def wsL_arePlays_r11 : List Cond := [Cond.methodLink RX2 32 arraycopyName, Cond.native arraycopyName, Cond.static arraycopyName, Cond.initialized "java/lang/System", Cond.methodLink RX4 167 yX0_push, Cond.instanceMethod yX0_push, Cond.selects RX0 yX0_push yX0_push, Cond.code yX0_push cX0_push 2 none, Cond.fieldLink RX0 11 "FiveShogi$History" "states" "[I", Cond.methodLink RX0 19 arraycopyName, Cond.methodLink RX4 64 yX2_play, Cond.instanceMethod yX2_play, Cond.selects RX2 yX2_play yX2_play, Cond.code yX2_play cX2_play 3 (some .int), Cond.methodLink RX2 73 yX2_apply, Cond.methodLink RL 37 yL_isChecked, Cond.static yL_isChecked, Cond.code yL_isChecked cL_isChecked 3 (some .boolean), Cond.methodLink RL 17 yL_king, Cond.static yL_king, Cond.code yL_king cL_king 4 (some .int), Cond.methodLink RL 14 yX4_man, Cond.instanceMethod yX4_man, Cond.selects RX4 yX4_man yX4_man]
def wsL_arePlays_r12 : List Cond := [Cond.code yX4_man cX4_man 3 (some .int), Cond.methodLink RX4 50 yX4_isSquare, Cond.methodLink RX4 108 yX2_manOn, Cond.methodLink RL 23 yX4_attackers, Cond.instanceMethod yX4_attackers, Cond.selects RX4 yX4_attackers yX4_attackers, Cond.code yX4_attackers cX4_attackers 3 (some .int), Cond.methodLink RX4 118 yX4_isSide, Cond.methodLink RX4 175 yX2_countAttackers, Cond.methodLink RL 36 yX4_worth, Cond.instanceMethod yX4_worth, Cond.selects RX4 yX4_worth yX4_worth, Cond.code yX4_worth cX4_worth 2 (some .int), Cond.methodLink RX4 196 yX2_worthFor, Cond.instanceMethod yX2_worthFor, Cond.selects RX2 yX2_worthFor yX2_worthFor, Cond.code yX2_worthFor cX2_worthFor 6 (some .int), Cond.methodLink RL 57 yX4_undo, Cond.instanceMethod yX4_undo, Cond.selects RX4 yX4_undo yX4_undo, Cond.code yX4_undo cX4_undo 1 (some .int), Cond.methodLink RX4 172 yX0_popInto, Cond.instanceMethod yX0_popInto, Cond.selects RX0 yX0_popInto yX0_popInto]
def wsL_arePlays_r13 : List Cond := [Cond.code yX0_popInto cX0_popInto 2 none, Cond.methodLink RX0 25 yX2_copyFrom, Cond.instanceMethod yX2_copyFrom, Cond.selects RX2 yX2_copyFrom yX2_copyFrom, Cond.code yX2_copyFrom cX2_copyFrom 3 none, Cond.methodLink RL 61 yX4_mate, Cond.instanceMethod yX4_mate, Cond.selects RX4 yX4_mate yX4_mate, Cond.code yX4_mate cX4_mate 6 (some .int), Cond.methodLink RX4 208 yX2_apply, Cond.methodLink RX4 211 yX2_takeBack, Cond.methodLink RL 64 yX4_tightest, Cond.instanceMethod yX4_tightest, Cond.selects RX4 yX4_tightest yX4_tightest, Cond.code yX4_tightest cX4_tightest 11 (some .int)]
def wsL_arePlays : List Cond := .code yL_arePlays cL_arePlays 17 (some .boolean) :: ((wsL_arePlays_r1 ++ (wsL_arePlays_r2 ++ (wsL_arePlays_r3 ++ (wsL_arePlays_r4 ++ (wsL_arePlays_r5 ++ (wsL_arePlays_r6 ++ (wsL_arePlays_r7 ++ (wsL_arePlays_r8 ++ (wsL_arePlays_r9 ++ (wsL_arePlays_r10 ++ (wsL_arePlays_r11 ++ (wsL_arePlays_r12 ++ wsL_arePlays_r13)))))))))))) ++ wsX40 ++ wsX20 ++ wsX30 ++ wsX00 ++ wsX10)
def wsL_does_r1 : List Cond := [Cond.methodLink RL 67 yL_low, Cond.static yL_low, Cond.initialized RL, Cond.code yL_low cL_low 2 (some .int), Cond.constant RL 7 (2147483647), Cond.methodLink RL 14 yX4_man, Cond.instanceMethod yX4_man, Cond.selects RX4 yX4_man yX4_man, Cond.initialized RX4, Cond.code yX4_man cX4_man 3 (some .int), Cond.fieldLink RX4 12 "FiveShogi" "position" "LFiveShogi$Position;", Cond.methodLink RX4 50 yX4_isSquare, Cond.static yX4_isSquare, Cond.code yX4_isSquare cX4_isSquare 1 (some .boolean), Cond.methodLink RX4 108 yX2_manOn, Cond.instanceMethod yX2_manOn, Cond.selects RX2 yX2_manOn yX2_manOn, Cond.initialized RX2, Cond.code yX2_manOn cX2_manOn 2 (some .int), Cond.fieldLink RX2 11 "FiveShogi$Position" "state" "[I", Cond.methodLink RL 8 yX4_total, Cond.instanceMethod yX4_total, Cond.selects RX4 yX4_total yX4_total, Cond.code yX4_total cX4_total 2 (some .int)]
def wsL_does_r2 : List Cond := [Cond.fieldLink RX4 21 "FiveShogi" "rules" "LFiveShogi$Rules;", Cond.fieldLink RX4 28 "FiveShogi" "history" "LFiveShogi$History;", Cond.fieldLink RX4 35 "FiveShogi" "text" "LFiveShogi$PlayText;", Cond.methodLink RX4 75 yX2_sideToPlay, Cond.instanceMethod yX2_sideToPlay, Cond.selects RX2 yX2_sideToPlay yX2_sideToPlay, Cond.code yX2_sideToPlay cX2_sideToPlay 1 (some .int), Cond.methodLink RX4 115 yX2_menOnBoard, Cond.instanceMethod yX2_menOnBoard, Cond.selects RX2 yX2_menOnBoard yX2_menOnBoard, Cond.code yX2_menOnBoard cX2_menOnBoard 3 (some .int), Cond.methodLink RX4 125 yX2_menInHand, Cond.instanceMethod yX2_menInHand, Cond.selects RX2 yX2_menInHand yX2_menInHand, Cond.code yX2_menInHand cX2_menInHand 4 (some .int), Cond.methodLink RX2 58 yX2_inHand, Cond.instanceMethod yX2_inHand, Cond.selects RX2 yX2_inHand yX2_inHand, Cond.code yX2_inHand cX2_inHand 3 (some .int), Cond.static yX4_isSide, Cond.code yX4_isSide cX4_isSide 1 (some .boolean), Cond.static yX4_isHandKind, Cond.code yX4_isHandKind cX4_isHandKind 1 (some .boolean), Cond.methodLink RX4 88 yX3_isInCheck]
def wsL_does_r3 : List Cond := [Cond.instanceMethod yX3_isInCheck, Cond.selects RX3 yX3_isInCheck yX3_isInCheck, Cond.initialized RX3, Cond.code yX3_isInCheck cX3_isInCheck 2 (some .boolean), Cond.fieldLink RX3 28 "FiveShogi$Rules" "position" "LFiveShogi$Position;", Cond.methodLink RX3 32 yX2_sideToPlay, Cond.methodLink RX3 38 yX2_kingOf, Cond.instanceMethod yX2_kingOf, Cond.selects RX2 yX2_kingOf yX2_kingOf, Cond.code yX2_kingOf cX2_kingOf 2 (some .int), Cond.methodLink RX3 42 yX2_countAttackers, Cond.instanceMethod yX2_countAttackers, Cond.selects RX2 yX2_countAttackers yX2_countAttackers, Cond.code yX2_countAttackers cX2_countAttackers 11 (some .int), Cond.fieldLink RX2 15 "FiveShogi$Position" "beside" "[I", Cond.methodLink RX4 92 yX4_asNumber, Cond.static yX4_asNumber, Cond.code yX4_asNumber cX4_asNumber 1 (some .int), Cond.methodLink RX4 181 yX3_isMated, Cond.instanceMethod yX3_isMated, Cond.selects RX3 yX3_isMated yX3_isMated, Cond.code yX3_isMated cX3_isMated 1 (some .boolean), Cond.methodLink RX3 46 yX3_isInCheck, Cond.methodLink RX3 50 yX3_findPlays]
def wsL_does_r4 : List Cond := [Cond.instanceMethod yX3_findPlays, Cond.selects RX3 yX3_findPlays yX3_findPlays, Cond.code yX3_findPlays cX3_findPlays 6 (some .int), Cond.fieldLink RX3 9 "FiveShogi$Rules" "plainMoves" "[I", Cond.fieldLink RX3 15 "FiveShogi$Rules" "promotedMoves" "[I", Cond.fieldLink RX3 18 "FiveShogi$Rules" "kindDrops" "[I", Cond.methodLink RX3 67 yX2_manOn, Cond.static yX4_sideOf, Cond.code yX4_sideOf cX4_sideOf 1 (some .int), Cond.methodLink RX3 89 yX3_safeTargets, Cond.instanceMethod yX3_safeTargets, Cond.selects RX3 yX3_safeTargets yX3_safeTargets, Cond.code yX3_safeTargets cX3_safeTargets 8 (some .int), Cond.methodLink RX3 73 yX2_attackedFrom, Cond.instanceMethod yX2_attackedFrom, Cond.selects RX2 yX2_attackedFrom yX2_attackedFrom, Cond.code yX2_attackedFrom cX2_attackedFrom 9 (some .int), Cond.methodLink RX2 64 yX2_manOn, Cond.static yX4_has, Cond.code yX4_has cX4_has 2 (some .boolean), Cond.methodLink RX3 80 yX3_canEnter, Cond.instanceMethod yX3_canEnter, Cond.selects RX3 yX3_canEnter yX3_canEnter, Cond.code yX3_canEnter cX3_canEnter 4 (some .boolean)]
def wsL_does_r5 : List Cond := [Cond.static yX4_kindOf, Cond.code yX4_kindOf cX4_kindOf 1 (some .int), Cond.methodLink RX3 132 yX2_place, Cond.instanceMethod yX2_place, Cond.selects RX2 yX2_place yX2_place, Cond.code yX2_place cX2_place 4 none, Cond.static yX4_isMan, Cond.code yX4_isMan cX4_isMan 1 (some .boolean), Cond.static yX4_bit, Cond.code yX4_bit cX4_bit 1 (some .int), Cond.methodLink RX3 86 yX3_forcingSquares, Cond.instanceMethod yX3_forcingSquares, Cond.selects RX3 yX3_forcingSquares yX3_forcingSquares, Cond.code yX3_forcingSquares cX3_forcingSquares 3 (some .int), Cond.static yX4_lastRow, Cond.code yX4_lastRow cX4_lastRow 1 (some .int), Cond.constant RX4 214 (32505856), Cond.methodLink RX3 83 yX3_promotingSquares, Cond.instanceMethod yX3_promotingSquares, Cond.selects RX3 yX3_promotingSquares yX3_promotingSquares, Cond.code yX3_promotingSquares cX3_promotingSquares 4 (some .int), Cond.constant RX3 131 (33554431), Cond.methodLink RX3 120 yJ6_bitCount_0f7a4, Cond.static yJ6_bitCount_0f7a4]
def wsL_does_r6 : List Cond := [Cond.initialized RJ6, Cond.code yJ6_bitCount_0f7a4 cJ6_bitCount_0f7a4 1 (some .int), Cond.constant RJ6 265 (1431655765), Cond.constant RJ6 266 (858993459), Cond.constant RJ6 267 (252645135), Cond.methodLink RX3 101 yX3_safeDrops, Cond.instanceMethod yX3_safeDrops, Cond.selects RX3 yX3_safeDrops yX3_safeDrops, Cond.code yX3_safeDrops cX3_safeDrops 6 (some .int), Cond.static yX4_manOf, Cond.code yX4_manOf cX4_manOf 2 (some .int), Cond.methodLink RX3 125 yX3_openToDrops, Cond.instanceMethod yX3_openToDrops, Cond.selects RX3 yX3_openToDrops yX3_openToDrops, Cond.code yX3_openToDrops cX3_openToDrops 4 (some .int), Cond.methodLink RX3 92 yX2_inHand, Cond.methodLink RX3 98 yX3_pawnColumns, Cond.instanceMethod yX3_pawnColumns, Cond.selects RX3 yX3_pawnColumns yX3_pawnColumns, Cond.code yX3_pawnColumns cX3_pawnColumns 4 (some .int), Cond.constant RX3 138 (1082401), Cond.methodLink RX3 107 yX3_withoutMates, Cond.instanceMethod yX3_withoutMates, Cond.selects RX3 yX3_withoutMates yX3_withoutMates]
def wsL_does_r7 : List Cond := [Cond.code yX3_withoutMates cX3_withoutMates 6 (some .int), Cond.static yX4_dropNumber, Cond.code yX4_dropNumber cX4_dropNumber 2 (some .int), Cond.methodLink RX3 139 yX2_apply, Cond.instanceMethod yX2_apply, Cond.selects RX2 yX2_apply yX2_apply, Cond.code yX2_apply cX2_apply 7 (some .int), Cond.methodLink RX2 76 yX2_sideToPlay, Cond.methodLink RX2 80 yX2_setSideToPlay, Cond.instanceMethod yX2_setSideToPlay, Cond.selects RX2 yX2_setSideToPlay yX2_setSideToPlay, Cond.code yX2_setSideToPlay cX2_setSideToPlay 2 none, Cond.methodLink RX2 84 yX2_setInHand, Cond.instanceMethod yX2_setInHand, Cond.selects RX2 yX2_setInHand yX2_setInHand, Cond.code yX2_setInHand cX2_setInHand 4 none, Cond.methodLink RX2 28 yX2_place, Cond.methodLink RX2 91 yX2_changeHandForTaken, Cond.instanceMethod yX2_changeHandForTaken, Cond.selects RX2 yX2_changeHandForTaken yX2_changeHandForTaken, Cond.code yX2_changeHandForTaken cX2_changeHandForTaken 6 none, Cond.methodLink RX3 142 yX3_canReply, Cond.instanceMethod yX3_canReply, Cond.selects RX3 yX3_canReply yX3_canReply]
def wsL_does_r8 : List Cond := [Cond.code yX3_canReply cX3_canReply 4 (some .boolean), Cond.methodLink RX3 145 yX2_takeBack, Cond.instanceMethod yX2_takeBack, Cond.selects RX2 yX2_takeBack yX2_takeBack, Cond.code yX2_takeBack cX2_takeBack 6 none, Cond.methodLink RX4 135 yX3_findPlays, Cond.methodLink RX4 184 yX2_playsMade, Cond.instanceMethod yX2_playsMade, Cond.selects RX2 yX2_playsMade yX2_playsMade, Cond.code yX2_playsMade cX2_playsMade 1 (some .int), Cond.methodLink RX4 187 yX2_menTaken, Cond.instanceMethod yX2_menTaken, Cond.selects RX2 yX2_menTaken yX2_menTaken, Cond.code yX2_menTaken cX2_menTaken 1 (some .int), Cond.methodLink RX4 190 yX2_menPromoted, Cond.instanceMethod yX2_menPromoted, Cond.selects RX2 yX2_menPromoted yX2_menPromoted, Cond.code yX2_menPromoted cX2_menPromoted 1 (some .int), Cond.methodLink RX4 193 yX2_menDropped, Cond.instanceMethod yX2_menDropped, Cond.selects RX2 yX2_menDropped yX2_menDropped, Cond.code yX2_menDropped cX2_menDropped 1 (some .int), Cond.methodLink RX4 171 yX0_size, Cond.instanceMethod yX0_size]
def wsL_does_r9 : List Cond := [Cond.selects RX0 yX0_size yX0_size, Cond.initialized RX0, Cond.code yX0_size cX0_size 1 (some .int), Cond.fieldLink RX0 15 "FiveShogi$History" "size" "I", Cond.methodLink RX4 145 yX1_size, Cond.instanceMethod yX1_size, Cond.selects RX1 yX1_size yX1_size, Cond.initialized RX1, Cond.code yX1_size cX1_size 1 (some .int), Cond.fieldLink RX1 15 "FiveShogi$PlayText" "size" "I", Cond.methodLink RL 17 yL_king, Cond.static yL_king, Cond.code yL_king cL_king 4 (some .int), Cond.methodLink RL 70 yX4_put, Cond.instanceMethod yX4_put, Cond.selects RX4 yX4_put yX4_put, Cond.code yX4_put cX4_put 4 (some .int), Cond.methodLink RX4 96 yX4_isMan, Cond.methodLink RX4 99 yX4_sideOf, Cond.methodLink RX4 102 yX2_kingOf, Cond.methodLink RX4 105 yX4_kindOf, Cond.methodLink RX4 58 yX4_recordChange, Cond.instanceMethod yX4_recordChange, Cond.selects RX4 yX4_recordChange yX4_recordChange]
def wsL_does_r10 : List Cond := [Cond.code yX4_recordChange cX4_recordChange 1 none, Cond.fieldLink RX4 39 "FiveShogi" "before" "[I", Cond.methodLink RX4 154 yX2_copyTo, Cond.instanceMethod yX2_copyTo, Cond.selects RX2 yX2_copyTo yX2_copyTo, Cond.code yX2_copyTo cX2_copyTo 3 none, Cond.methodLink RX2 32 arraycopyName, Cond.native arraycopyName, Cond.static arraycopyName, Cond.initialized "java/lang/System", Cond.methodLink RX4 167 yX0_push, Cond.instanceMethod yX0_push, Cond.selects RX0 yX0_push yX0_push, Cond.code yX0_push cX0_push 2 none, Cond.fieldLink RX0 11 "FiveShogi$History" "states" "[I", Cond.methodLink RX0 19 arraycopyName, Cond.methodLink RX4 111 yX2_place, Cond.methodLink RL 73 yX4_takeOff, Cond.instanceMethod yX4_takeOff, Cond.selects RX4 yX4_takeOff yX4_takeOff, Cond.code yX4_takeOff cX4_takeOff 3 (some .int), Cond.methodLink RL 33 yX4_hand, Cond.instanceMethod yX4_hand, Cond.selects RX4 yX4_hand yX4_hand]
def wsL_does_r11 : List Cond := [Cond.code yX4_hand cX4_hand 3 (some .int), Cond.methodLink RX4 118 yX4_isSide, Cond.methodLink RX4 68 yX4_isHandKind, Cond.methodLink RX4 82 yX2_inHand, Cond.methodLink RL 76 yX4_setHand, Cond.instanceMethod yX4_setHand, Cond.selects RX4 yX4_setHand yX4_setHand, Cond.code yX4_setHand cX4_setHand 5 (some .int), Cond.methodLink RX4 121 yX2_setInHand, Cond.methodLink RL 80 yX4_setSide, Cond.instanceMethod yX4_setSide, Cond.selects RX4 yX4_setSide yX4_setSide, Cond.code yX4_setSide cX4_setSide 2 (some .int), Cond.methodLink RX4 131 yX2_setSideToPlay, Cond.methodLink RL 51 yX4_playAt, Cond.instanceMethod yX4_playAt, Cond.selects RX4 yX4_playAt yX4_playAt, Cond.code yX4_playAt cX4_playAt 2 (some .int), Cond.methodLink RX4 199 yX3_listPlays, Cond.instanceMethod yX3_listPlays, Cond.selects RX3 yX3_listPlays yX3_listPlays, Cond.code yX3_listPlays cX3_listPlays 2 (some .int), Cond.fieldLink RX3 24 "FiveShogi$Rules" "listSize" "I", Cond.static yX4_moveNumber]
def wsL_does_r12 : List Cond := [Cond.code yX4_moveNumber cX4_moveNumber 3 (some .int), Cond.methodLink RX3 113 yX3_addPlays, Cond.instanceMethod yX3_addPlays, Cond.selects RX3 yX3_addPlays yX3_addPlays, Cond.code yX3_addPlays cX3_addPlays 4 none, Cond.fieldLink RX3 21 "FiveShogi$Rules" "list" "[I", Cond.methodLink RX4 202 yX3_listed, Cond.instanceMethod yX3_listed, Cond.selects RX3 yX3_listed yX3_listed, Cond.code yX3_listed cX3_listed 2 (some .int), Cond.methodLink RL 54 yX4_make, Cond.instanceMethod yX4_make, Cond.selects RX4 yX4_make yX4_make, Cond.code yX4_make cX4_make 2 (some .int), Cond.methodLink RX4 85 yX3_allows, Cond.instanceMethod yX3_allows, Cond.selects RX3 yX3_allows yX3_allows, Cond.code yX3_allows cX3_allows 4 (some .boolean), Cond.methodLink RX3 60 yX3_whyNoDrop, Cond.instanceMethod yX3_whyNoDrop, Cond.selects RX3 yX3_whyNoDrop yX3_whyNoDrop, Cond.code yX3_whyNoDrop cX3_whyNoDrop 4 (some .int), Cond.methodLink RX3 63 yX3_whyNoMove, Cond.instanceMethod yX3_whyNoMove]
def wsL_does_r13 : List Cond := [Cond.selects RX3 yX3_whyNoMove yX3_whyNoMove, Cond.code yX3_whyNoMove cX3_whyNoMove 5 (some .int), Cond.methodLink RX4 64 yX2_play, Cond.instanceMethod yX2_play, Cond.selects RX2 yX2_play yX2_play, Cond.code yX2_play cX2_play 3 (some .int), Cond.methodLink RX2 73 yX2_apply]
def wsL_does : List Cond := .code yL_does cL_does 16 (some .boolean) :: ((wsL_does_r1 ++ (wsL_does_r2 ++ (wsL_does_r3 ++ (wsL_does_r4 ++ (wsL_does_r5 ++ (wsL_does_r6 ++ (wsL_does_r7 ++ (wsL_does_r8 ++ (wsL_does_r9 ++ (wsL_does_r10 ++ (wsL_does_r11 ++ (wsL_does_r12 ++ wsL_does_r13)))))))))))) ++ wsX40 ++ wsX20 ++ wsX30 ++ wsX00 ++ wsX10)
def wsL_law_r1 : List Cond := [Cond.classLink RL 9 RX4, Cond.instantiable RX4 7, Cond.initialized RX4, Cond.methodLink RL 83 yX4_init, Cond.instanceMethod yX4_init, Cond.code yX4_init cX4_init 1 none, Cond.methodLink RX4 3 objectInit, Cond.instanceMethod objectInit, Cond.code objectInit ⟨#[0xb1]⟩ 1 none, Cond.classLink RX4 9 RX2, Cond.instantiable RX2 2, Cond.initialized RX2, Cond.fieldLink RX4 12 "FiveShogi" "position" "LFiveShogi$Position;", Cond.classLink RX4 16 RX3, Cond.instantiable RX3 6, Cond.initialized RX3, Cond.fieldLink RX4 21 "FiveShogi" "rules" "LFiveShogi$Rules;", Cond.classLink RX4 25 RX0, Cond.instantiable RX0 2, Cond.initialized RX0, Cond.fieldLink RX4 28 "FiveShogi" "history" "LFiveShogi$History;", Cond.classLink RX4 32 RX1, Cond.instantiable RX1 5, Cond.initialized RX1]
def wsL_law_r2 : List Cond := [Cond.fieldLink RX4 35 "FiveShogi" "text" "LFiveShogi$PlayText;", Cond.arrayClass .int, Cond.fieldLink RX4 39 "FiveShogi" "before" "[I", Cond.fieldLink RX4 43 "FiveShogi" "snapshot" "[I", Cond.fieldLink RX4 46 "FiveShogi" "hasSnapshot" "Z", Cond.methodLink RX4 11 yX2_init, Cond.instanceMethod yX2_init, Cond.code yX2_init cX2_init 2 none, Cond.methodLink RX2 5 objectInit, Cond.fieldLink RX2 11 "FiveShogi$Position" "state" "[I", Cond.fieldLink RX2 15 "FiveShogi$Position" "beside" "[I", Cond.static yX4_squareBeside, Cond.code yX4_squareBeside cX4_squareBeside 5 (some .int), Cond.fieldLink RX4 215 "FiveShogi" "ROWS_ON" "[I", Cond.fieldLink RX4 218 "FiveShogi" "COLUMNS_ON" "[I", Cond.methodLink RX4 50 yX4_isSquare, Cond.static yX4_isSquare, Cond.code yX4_isSquare cX4_isSquare 1 (some .boolean), Cond.methodLink RX2 22 yX2_removeAllMen, Cond.instanceMethod yX2_removeAllMen, Cond.selects RX2 yX2_removeAllMen yX2_removeAllMen, Cond.code yX2_removeAllMen cX2_removeAllMen 2 none, Cond.methodLink RX2 28 yX2_place, Cond.instanceMethod yX2_place]
def wsL_law_r3 : List Cond := [Cond.selects RX2 yX2_place yX2_place, Cond.code yX2_place cX2_place 4 none, Cond.static yX4_isMan, Cond.code yX4_isMan cX4_isMan 1 (some .boolean), Cond.static yX4_kindOf, Cond.code yX4_kindOf cX4_kindOf 1 (some .int), Cond.static yX4_sideOf, Cond.code yX4_sideOf cX4_sideOf 1 (some .int), Cond.methodLink RX4 18 yX3_init, Cond.instanceMethod yX3_init, Cond.code yX3_init cX3_init 2 none, Cond.methodLink RX3 3 objectInit, Cond.fieldLink RX3 9 "FiveShogi$Rules" "plainMoves" "[I", Cond.fieldLink RX3 15 "FiveShogi$Rules" "promotedMoves" "[I", Cond.fieldLink RX3 18 "FiveShogi$Rules" "kindDrops" "[I", Cond.fieldLink RX3 21 "FiveShogi$Rules" "list" "[I", Cond.fieldLink RX3 24 "FiveShogi$Rules" "listSize" "I", Cond.fieldLink RX3 28 "FiveShogi$Rules" "position" "LFiveShogi$Position;", Cond.instanceMethod yX0_init, Cond.code yX0_init cX0_init 1 none, Cond.methodLink RX0 1 objectInit, Cond.fieldLink RX0 11 "FiveShogi$History" "states" "[I", Cond.fieldLink RX0 15 "FiveShogi$History" "size" "I", Cond.instanceMethod yX1_init]
def wsL_law_r4 : List Cond := [Cond.code yX1_init cX1_init 1 none, Cond.methodLink RX1 3 objectInit, Cond.arrayClass .char, Cond.fieldLink RX1 11 "FiveShogi$PlayText" "signs" "[C", Cond.fieldLink RX1 15 "FiveShogi$PlayText" "size" "I", Cond.fieldLink RX1 19 "FiveShogi$PlayText" "plays" "[I", Cond.fieldLink RX1 23 "FiveShogi$PlayText" "playsRead" "I", Cond.fieldLink RX1 26 "FiveShogi$PlayText" "cursor" "I", Cond.methodLink RL 84 yL_areMen, Cond.static yL_areMen, Cond.initialized RL, Cond.code yL_areMen cL_areMen 7 (some .boolean), Cond.methodLink RL 14 yX4_man, Cond.instanceMethod yX4_man, Cond.selects RX4 yX4_man yX4_man, Cond.code yX4_man cX4_man 3 (some .int), Cond.methodLink RX4 108 yX2_manOn, Cond.instanceMethod yX2_manOn, Cond.selects RX2 yX2_manOn yX2_manOn, Cond.code yX2_manOn cX2_manOn 2 (some .int), Cond.methodLink RL 27 yX4_attacked, Cond.instanceMethod yX4_attacked, Cond.selects RX4 yX4_attacked yX4_attacked, Cond.code yX4_attacked cX4_attacked 2 (some .int)]
def wsL_law_r5 : List Cond := [Cond.methodLink RX4 178 yX2_attackedFrom, Cond.instanceMethod yX2_attackedFrom, Cond.selects RX2 yX2_attackedFrom yX2_attackedFrom, Cond.code yX2_attackedFrom cX2_attackedFrom 9 (some .int), Cond.methodLink RX2 64 yX2_manOn, Cond.methodLink RL 30 yL_worth, Cond.static yL_worth, Cond.code yL_worth cL_worth 1 (some .int), Cond.methodLink RL 33 yX4_hand, Cond.instanceMethod yX4_hand, Cond.selects RX4 yX4_hand yX4_hand, Cond.code yX4_hand cX4_hand 3 (some .int), Cond.methodLink RX4 118 yX4_isSide, Cond.static yX4_isSide, Cond.code yX4_isSide cX4_isSide 1 (some .boolean), Cond.methodLink RX4 68 yX4_isHandKind, Cond.static yX4_isHandKind, Cond.code yX4_isHandKind cX4_isHandKind 1 (some .boolean), Cond.methodLink RX4 82 yX2_inHand, Cond.instanceMethod yX2_inHand, Cond.selects RX2 yX2_inHand yX2_inHand, Cond.code yX2_inHand cX2_inHand 3 (some .int), Cond.methodLink RL 8 yX4_total, Cond.instanceMethod yX4_total]
def wsL_law_r6 : List Cond := [Cond.selects RX4 yX4_total yX4_total, Cond.code yX4_total cX4_total 2 (some .int), Cond.methodLink RX4 75 yX2_sideToPlay, Cond.instanceMethod yX2_sideToPlay, Cond.selects RX2 yX2_sideToPlay yX2_sideToPlay, Cond.code yX2_sideToPlay cX2_sideToPlay 1 (some .int), Cond.methodLink RX4 115 yX2_menOnBoard, Cond.instanceMethod yX2_menOnBoard, Cond.selects RX2 yX2_menOnBoard yX2_menOnBoard, Cond.code yX2_menOnBoard cX2_menOnBoard 3 (some .int), Cond.methodLink RX4 125 yX2_menInHand, Cond.instanceMethod yX2_menInHand, Cond.selects RX2 yX2_menInHand yX2_menInHand, Cond.code yX2_menInHand cX2_menInHand 4 (some .int), Cond.methodLink RX2 58 yX2_inHand, Cond.methodLink RX4 88 yX3_isInCheck, Cond.instanceMethod yX3_isInCheck, Cond.selects RX3 yX3_isInCheck yX3_isInCheck, Cond.code yX3_isInCheck cX3_isInCheck 2 (some .boolean), Cond.methodLink RX3 32 yX2_sideToPlay, Cond.methodLink RX3 38 yX2_kingOf, Cond.instanceMethod yX2_kingOf, Cond.selects RX2 yX2_kingOf yX2_kingOf, Cond.code yX2_kingOf cX2_kingOf 2 (some .int)]
def wsL_law_r7 : List Cond := [Cond.methodLink RX3 42 yX2_countAttackers, Cond.instanceMethod yX2_countAttackers, Cond.selects RX2 yX2_countAttackers yX2_countAttackers, Cond.code yX2_countAttackers cX2_countAttackers 11 (some .int), Cond.methodLink RX4 92 yX4_asNumber, Cond.static yX4_asNumber, Cond.code yX4_asNumber cX4_asNumber 1 (some .int), Cond.methodLink RX4 181 yX3_isMated, Cond.instanceMethod yX3_isMated, Cond.selects RX3 yX3_isMated yX3_isMated, Cond.code yX3_isMated cX3_isMated 1 (some .boolean), Cond.methodLink RX3 46 yX3_isInCheck, Cond.methodLink RX3 50 yX3_findPlays, Cond.instanceMethod yX3_findPlays, Cond.selects RX3 yX3_findPlays yX3_findPlays, Cond.code yX3_findPlays cX3_findPlays 6 (some .int), Cond.methodLink RX3 67 yX2_manOn, Cond.methodLink RX3 89 yX3_safeTargets, Cond.instanceMethod yX3_safeTargets, Cond.selects RX3 yX3_safeTargets yX3_safeTargets, Cond.code yX3_safeTargets cX3_safeTargets 8 (some .int), Cond.methodLink RX3 73 yX2_attackedFrom, Cond.static yX4_has, Cond.code yX4_has cX4_has 2 (some .boolean)]
def wsL_law_r8 : List Cond := [Cond.methodLink RX3 80 yX3_canEnter, Cond.instanceMethod yX3_canEnter, Cond.selects RX3 yX3_canEnter yX3_canEnter, Cond.code yX3_canEnter cX3_canEnter 4 (some .boolean), Cond.methodLink RX3 132 yX2_place, Cond.static yX4_bit, Cond.code yX4_bit cX4_bit 1 (some .int), Cond.methodLink RX3 86 yX3_forcingSquares, Cond.instanceMethod yX3_forcingSquares, Cond.selects RX3 yX3_forcingSquares yX3_forcingSquares, Cond.code yX3_forcingSquares cX3_forcingSquares 3 (some .int), Cond.static yX4_lastRow, Cond.code yX4_lastRow cX4_lastRow 1 (some .int), Cond.constant RX4 214 (32505856), Cond.methodLink RX3 83 yX3_promotingSquares, Cond.instanceMethod yX3_promotingSquares, Cond.selects RX3 yX3_promotingSquares yX3_promotingSquares, Cond.code yX3_promotingSquares cX3_promotingSquares 4 (some .int), Cond.constant RX3 131 (33554431), Cond.methodLink RX3 120 yJ6_bitCount_0f7a4, Cond.static yJ6_bitCount_0f7a4, Cond.initialized RJ6, Cond.code yJ6_bitCount_0f7a4 cJ6_bitCount_0f7a4 1 (some .int), Cond.constant RJ6 265 (1431655765)]
def wsL_law_r9 : List Cond := [Cond.constant RJ6 266 (858993459), Cond.constant RJ6 267 (252645135), Cond.methodLink RX3 101 yX3_safeDrops, Cond.instanceMethod yX3_safeDrops, Cond.selects RX3 yX3_safeDrops yX3_safeDrops, Cond.code yX3_safeDrops cX3_safeDrops 6 (some .int), Cond.static yX4_manOf, Cond.code yX4_manOf cX4_manOf 2 (some .int), Cond.methodLink RX3 125 yX3_openToDrops, Cond.instanceMethod yX3_openToDrops, Cond.selects RX3 yX3_openToDrops yX3_openToDrops, Cond.code yX3_openToDrops cX3_openToDrops 4 (some .int), Cond.methodLink RX3 92 yX2_inHand, Cond.methodLink RX3 98 yX3_pawnColumns, Cond.instanceMethod yX3_pawnColumns, Cond.selects RX3 yX3_pawnColumns yX3_pawnColumns, Cond.code yX3_pawnColumns cX3_pawnColumns 4 (some .int), Cond.constant RX3 138 (1082401), Cond.methodLink RX3 107 yX3_withoutMates, Cond.instanceMethod yX3_withoutMates, Cond.selects RX3 yX3_withoutMates yX3_withoutMates, Cond.code yX3_withoutMates cX3_withoutMates 6 (some .int), Cond.static yX4_dropNumber, Cond.code yX4_dropNumber cX4_dropNumber 2 (some .int)]
def wsL_law_r10 : List Cond := [Cond.methodLink RX3 139 yX2_apply, Cond.instanceMethod yX2_apply, Cond.selects RX2 yX2_apply yX2_apply, Cond.code yX2_apply cX2_apply 7 (some .int), Cond.methodLink RX2 76 yX2_sideToPlay, Cond.methodLink RX2 80 yX2_setSideToPlay, Cond.instanceMethod yX2_setSideToPlay, Cond.selects RX2 yX2_setSideToPlay yX2_setSideToPlay, Cond.code yX2_setSideToPlay cX2_setSideToPlay 2 none, Cond.methodLink RX2 84 yX2_setInHand, Cond.instanceMethod yX2_setInHand, Cond.selects RX2 yX2_setInHand yX2_setInHand, Cond.code yX2_setInHand cX2_setInHand 4 none, Cond.methodLink RX2 91 yX2_changeHandForTaken, Cond.instanceMethod yX2_changeHandForTaken, Cond.selects RX2 yX2_changeHandForTaken yX2_changeHandForTaken, Cond.code yX2_changeHandForTaken cX2_changeHandForTaken 6 none, Cond.methodLink RX3 142 yX3_canReply, Cond.instanceMethod yX3_canReply, Cond.selects RX3 yX3_canReply yX3_canReply, Cond.code yX3_canReply cX3_canReply 4 (some .boolean), Cond.methodLink RX3 145 yX2_takeBack, Cond.instanceMethod yX2_takeBack, Cond.selects RX2 yX2_takeBack yX2_takeBack]
def wsL_law_r11 : List Cond := [Cond.code yX2_takeBack cX2_takeBack 6 none, Cond.methodLink RX4 135 yX3_findPlays, Cond.methodLink RX4 184 yX2_playsMade, Cond.instanceMethod yX2_playsMade, Cond.selects RX2 yX2_playsMade yX2_playsMade, Cond.code yX2_playsMade cX2_playsMade 1 (some .int), Cond.methodLink RX4 187 yX2_menTaken, Cond.instanceMethod yX2_menTaken, Cond.selects RX2 yX2_menTaken yX2_menTaken, Cond.code yX2_menTaken cX2_menTaken 1 (some .int), Cond.methodLink RX4 190 yX2_menPromoted, Cond.instanceMethod yX2_menPromoted, Cond.selects RX2 yX2_menPromoted yX2_menPromoted, Cond.code yX2_menPromoted cX2_menPromoted 1 (some .int), Cond.methodLink RX4 193 yX2_menDropped, Cond.instanceMethod yX2_menDropped, Cond.selects RX2 yX2_menDropped yX2_menDropped, Cond.code yX2_menDropped cX2_menDropped 1 (some .int), Cond.methodLink RX4 171 yX0_size, Cond.instanceMethod yX0_size, Cond.selects RX0 yX0_size yX0_size, Cond.code yX0_size cX0_size 1 (some .int), Cond.methodLink RX4 145 yX1_size, Cond.instanceMethod yX1_size]
def wsL_law_r12 : List Cond := [Cond.selects RX1 yX1_size yX1_size, Cond.code yX1_size cX1_size 1 (some .int), Cond.methodLink RL 36 yX4_worth, Cond.instanceMethod yX4_worth, Cond.selects RX4 yX4_worth yX4_worth, Cond.code yX4_worth cX4_worth 2 (some .int), Cond.methodLink RX4 196 yX2_worthFor, Cond.instanceMethod yX2_worthFor, Cond.selects RX2 yX2_worthFor yX2_worthFor, Cond.code yX2_worthFor cX2_worthFor 6 (some .int), Cond.methodLink RL 37 yL_isChecked, Cond.static yL_isChecked, Cond.code yL_isChecked cL_isChecked 3 (some .boolean), Cond.methodLink RL 17 yL_king, Cond.static yL_king, Cond.code yL_king cL_king 4 (some .int), Cond.methodLink RL 23 yX4_attackers, Cond.instanceMethod yX4_attackers, Cond.selects RX4 yX4_attackers yX4_attackers, Cond.code yX4_attackers cX4_attackers 3 (some .int), Cond.methodLink RX4 175 yX2_countAttackers, Cond.methodLink RL 57 yX4_undo, Cond.instanceMethod yX4_undo, Cond.selects RX4 yX4_undo yX4_undo]
def wsL_law_r13 : List Cond := [Cond.code yX4_undo cX4_undo 1 (some .int), Cond.methodLink RX4 172 yX0_popInto, Cond.instanceMethod yX0_popInto, Cond.selects RX0 yX0_popInto yX0_popInto, Cond.code yX0_popInto cX0_popInto 2 none, Cond.methodLink RX0 25 yX2_copyFrom, Cond.instanceMethod yX2_copyFrom, Cond.selects RX2 yX2_copyFrom yX2_copyFrom, Cond.code yX2_copyFrom cX2_copyFrom 3 none, Cond.methodLink RX2 32 arraycopyName, Cond.native arraycopyName, Cond.static arraycopyName, Cond.initialized "java/lang/System", Cond.methodLink RL 88 yX4_restore, Cond.instanceMethod yX4_restore, Cond.selects RX4 yX4_restore yX4_restore, Cond.code yX4_restore cX4_restore 1 (some .int), Cond.methodLink RX4 58 yX4_recordChange, Cond.instanceMethod yX4_recordChange, Cond.selects RX4 yX4_recordChange yX4_recordChange, Cond.code yX4_recordChange cX4_recordChange 1 none, Cond.methodLink RX4 154 yX2_copyTo, Cond.instanceMethod yX2_copyTo, Cond.selects RX2 yX2_copyTo yX2_copyTo]
def wsL_law_r14 : List Cond := [Cond.code yX2_copyTo cX2_copyTo 3 none, Cond.methodLink RX4 167 yX0_push, Cond.instanceMethod yX0_push, Cond.selects RX0 yX0_push yX0_push, Cond.code yX0_push cX0_push 2 none, Cond.methodLink RX0 19 arraycopyName, Cond.methodLink RX4 164 yX2_copyFrom, Cond.methodLink RL 61 yX4_mate, Cond.instanceMethod yX4_mate, Cond.selects RX4 yX4_mate yX4_mate, Cond.code yX4_mate cX4_mate 6 (some .int), Cond.methodLink RX4 199 yX3_listPlays, Cond.instanceMethod yX3_listPlays, Cond.selects RX3 yX3_listPlays yX3_listPlays, Cond.code yX3_listPlays cX3_listPlays 2 (some .int), Cond.static yX4_moveNumber, Cond.code yX4_moveNumber cX4_moveNumber 3 (some .int), Cond.methodLink RX3 113 yX3_addPlays, Cond.instanceMethod yX3_addPlays, Cond.selects RX3 yX3_addPlays yX3_addPlays, Cond.code yX3_addPlays cX3_addPlays 4 none, Cond.methodLink RX4 202 yX3_listed, Cond.instanceMethod yX3_listed, Cond.selects RX3 yX3_listed yX3_listed]
def wsL_law_r15 : List Cond := [Cond.code yX3_listed cX3_listed 2 (some .int), Cond.methodLink RX4 208 yX2_apply, Cond.methodLink RX4 211 yX2_takeBack, Cond.methodLink RL 91 yL_cell, Cond.static yL_cell, Cond.code yL_cell cL_cell 2 (some .int), Cond.methodLink RL 95 yL_does, Cond.static yL_does, Cond.code yL_does cL_does 16 (some .boolean), Cond.methodLink RL 67 yL_low, Cond.static yL_low, Cond.code yL_low cL_low 2 (some .int), Cond.constant RL 7 (2147483647), Cond.methodLink RL 70 yX4_put, Cond.instanceMethod yX4_put, Cond.selects RX4 yX4_put yX4_put, Cond.code yX4_put cX4_put 4 (some .int), Cond.methodLink RX4 96 yX4_isMan, Cond.methodLink RX4 99 yX4_sideOf, Cond.methodLink RX4 102 yX2_kingOf, Cond.methodLink RX4 105 yX4_kindOf, Cond.methodLink RX4 111 yX2_place, Cond.methodLink RL 73 yX4_takeOff, Cond.instanceMethod yX4_takeOff]
def wsL_law_r16 : List Cond := [Cond.selects RX4 yX4_takeOff yX4_takeOff, Cond.code yX4_takeOff cX4_takeOff 3 (some .int), Cond.methodLink RL 76 yX4_setHand, Cond.instanceMethod yX4_setHand, Cond.selects RX4 yX4_setHand yX4_setHand, Cond.code yX4_setHand cX4_setHand 5 (some .int), Cond.methodLink RX4 121 yX2_setInHand, Cond.methodLink RL 80 yX4_setSide, Cond.instanceMethod yX4_setSide, Cond.selects RX4 yX4_setSide yX4_setSide, Cond.code yX4_setSide cX4_setSide 2 (some .int), Cond.methodLink RX4 131 yX2_setSideToPlay, Cond.methodLink RL 51 yX4_playAt, Cond.instanceMethod yX4_playAt, Cond.selects RX4 yX4_playAt yX4_playAt, Cond.code yX4_playAt cX4_playAt 2 (some .int), Cond.methodLink RL 54 yX4_make, Cond.instanceMethod yX4_make, Cond.selects RX4 yX4_make yX4_make, Cond.code yX4_make cX4_make 2 (some .int), Cond.methodLink RX4 85 yX3_allows, Cond.instanceMethod yX3_allows, Cond.selects RX3 yX3_allows yX3_allows, Cond.code yX3_allows cX3_allows 4 (some .boolean)]
def wsL_law_r17 : List Cond := [Cond.methodLink RX3 60 yX3_whyNoDrop, Cond.instanceMethod yX3_whyNoDrop, Cond.selects RX3 yX3_whyNoDrop yX3_whyNoDrop, Cond.code yX3_whyNoDrop cX3_whyNoDrop 4 (some .int), Cond.methodLink RX3 63 yX3_whyNoMove, Cond.instanceMethod yX3_whyNoMove, Cond.selects RX3 yX3_whyNoMove yX3_whyNoMove, Cond.code yX3_whyNoMove cX3_whyNoMove 5 (some .int), Cond.methodLink RX4 64 yX2_play, Cond.instanceMethod yX2_play, Cond.selects RX2 yX2_play yX2_play, Cond.code yX2_play cX2_play 3 (some .int), Cond.methodLink RX2 73 yX2_apply, Cond.methodLink RL 98 yL_areAttacks, Cond.static yL_areAttacks, Cond.code yL_areAttacks cL_areAttacks 6 (some .boolean), Cond.methodLink RL 101 yL_areDrops, Cond.static yL_areDrops, Cond.code yL_areDrops cL_areDrops 6 (some .boolean), Cond.methodLink RL 41 yX4_drops, Cond.instanceMethod yX4_drops, Cond.selects RX4 yX4_drops yX4_drops, Cond.code yX4_drops cX4_drops 2 (some .int), Cond.methodLink RX4 205 yX3_dropSquares]
def wsL_law_r18 : List Cond := [Cond.instanceMethod yX3_dropSquares, Cond.selects RX3 yX3_dropSquares yX3_dropSquares, Cond.code yX3_dropSquares cX3_dropSquares 2 (some .int), Cond.methodLink RL 44 yX4_dropReason, Cond.instanceMethod yX4_dropReason, Cond.selects RX4 yX4_dropReason yX4_dropReason, Cond.code yX4_dropReason cX4_dropReason 3 (some .int), Cond.methodLink RX4 71 yX3_whyNoDrop, Cond.methodLink RL 104 yL_arePlays, Cond.static yL_arePlays, Cond.code yL_arePlays cL_arePlays 17 (some .boolean), Cond.methodLink RL 47 yL_men, Cond.static yL_men, Cond.code yL_men cL_men 1 (some .int), Cond.methodLink RL 64 yX4_tightest, Cond.instanceMethod yX4_tightest, Cond.selects RX4 yX4_tightest yX4_tightest, Cond.code yX4_tightest cX4_tightest 11 (some .int)]
def wsL_law : List Cond := (wsL_law_r1 ++ (wsL_law_r2 ++ (wsL_law_r3 ++ (wsL_law_r4 ++ (wsL_law_r5 ++ (wsL_law_r6 ++ (wsL_law_r7 ++ (wsL_law_r8 ++ (wsL_law_r9 ++ (wsL_law_r10 ++ (wsL_law_r11 ++ (wsL_law_r12 ++ (wsL_law_r13 ++ (wsL_law_r14 ++ (wsL_law_r15 ++ (wsL_law_r16 ++ (wsL_law_r17 ++ wsL_law_r18))))))))))))))))) ++ wsX40 ++ wsX20 ++ wsX30 ++ wsX00 ++ wsX10 ++ ([] : List Cond)
end
section
theorem mem_ap2 {a b big : List Cond} (ha : ∀ w ∈ a, w ∈ big) (hb : ∀ w ∈ b, w ∈ big) : ∀ w ∈ a ++ b, w ∈ big := fun w h => (List.mem_append.mp h).elim (ha w) (hb w)
set_option maxRecDepth 20000 in
theorem wsL_law_r1_in : ∀ w ∈ wsL_law_r1, w ∈ lw_tbl := fun w h => (goodIn_p wsL_law_r1 [24, 27] (by decide +kernel) (by decide +kernel) w h).1
set_option maxRecDepth 20000 in
theorem wsL_law_r2_in : ∀ w ∈ wsL_law_r2, w ∈ lw_tbl := fun w h => (goodIn_p wsL_law_r2 [32, 36, 39, 47] (by decide +kernel) (by decide +kernel) w h).1
set_option maxRecDepth 20000 in
theorem wsL_law_r3_in : ∀ w ∈ wsL_law_r3, w ∈ lw_tbl := fun w h => (goodIn_p wsL_law_r3 [53, 57, 60, 63, 76, 101] (by decide +kernel) (by decide +kernel) w h).1
set_option maxRecDepth 20000 in
theorem wsL_law_r4_in : ∀ w ∈ wsL_law_r4, w ∈ lw_tbl := fun w h => (goodIn_p wsL_law_r4 [114, 448, 363, 186, 452] (by decide +kernel) (by decide +kernel) w h).1
set_option maxRecDepth 20000 in
theorem wsL_law_r5_in : ∀ w ∈ wsL_law_r5, w ∈ lw_tbl := fun w h => (goodIn_p wsL_law_r5 [265, 456, 367, 181, 166, 178] (by decide +kernel) (by decide +kernel) w h).1
set_option maxRecDepth 20000 in
theorem wsL_law_r6_in : ∀ w ∈ wsL_law_r6, w ∈ lw_tbl := fun w h => (goodIn_p wsL_law_r6 [371, 174, 330, 376, 252, 209] (by decide +kernel) (by decide +kernel) w h).1
set_option maxRecDepth 20000 in
theorem wsL_law_r7_in : ∀ w ∈ wsL_law_r7, w ∈ lw_tbl := fun w h => (goodIn_p wsL_law_r7 [213, 316, 380, 384, 261, 193] (by decide +kernel) (by decide +kernel) w h).1
set_option maxRecDepth 20000 in
theorem wsL_law_r8_in : ∀ w ∈ wsL_law_r8, w ∈ lw_tbl := fun w h => (goodIn_p wsL_law_r8 [269, 221, 291, 189, 286, 387] (by decide +kernel) (by decide +kernel) w h).1
set_option maxRecDepth 20000 in
theorem wsL_law_r9_in : ∀ w ∈ wsL_law_r9, w ∈ lw_tbl := fun w h => (goodIn_p wsL_law_r9 [205, 200, 274, 197, 225, 228] (by decide +kernel) (by decide +kernel) w h).1
set_option maxRecDepth 20000 in
theorem wsL_law_r10_in : ∀ w ∈ wsL_law_r10, w ∈ lw_tbl := fun w h => (goodIn_p wsL_law_r10 [232, 237, 242, 248, 256] (by decide +kernel) (by decide +kernel) w h).1
set_option maxRecDepth 20000 in
theorem wsL_law_r11_in : ∀ w ∈ wsL_law_r11, w ∈ lw_tbl := fun w h => (goodIn_p wsL_law_r11 [278, 395, 399, 403, 407, 346] (by decide +kernel) (by decide +kernel) w h).1
set_option maxRecDepth 20000 in
theorem wsL_law_r12_in : ∀ w ∈ wsL_law_r12, w ∈ lw_tbl := fun w h => (goodIn_p wsL_law_r12 [411, 415, 419, 459, 462, 466] (by decide +kernel) (by decide +kernel) w h).1
set_option maxRecDepth 20000 in
theorem wsL_law_r13_in : ∀ w ∈ wsL_law_r13, w ∈ lw_tbl := fun w h => (goodIn_p wsL_law_r13 [342, 350, 354, 358, 295] (by decide +kernel) (by decide +kernel) w h).1
set_option maxRecDepth 20000 in
theorem wsL_law_r14_in : ∀ w ∈ wsL_law_r14, w ∈ lw_tbl := fun w h => (goodIn_p wsL_law_r14 [299, 306, 425, 429, 432, 436] (by decide +kernel) (by decide +kernel) w h).1
set_option maxRecDepth 20000 in
theorem wsL_law_r15_in : ∀ w ∈ wsL_law_r15, w ∈ lw_tbl := fun w h => (goodIn_p wsL_law_r15 [440, 445, 503, 506, 320] (by decide +kernel) (by decide +kernel) w h).1
set_option maxRecDepth 20000 in
theorem wsL_law_r16_in : ∀ w ∈ wsL_law_r16, w ∈ lw_tbl := fun w h => (goodIn_p wsL_law_r16 [511, 334, 515, 496, 158, 162] (by decide +kernel) (by decide +kernel) w h).1
set_option maxRecDepth 20000 in
theorem wsL_law_r17_in : ∀ w ∈ wsL_law_r17, w ∈ lw_tbl := fun w h => (goodIn_p wsL_law_r17 [170, 282, 311, 470, 473, 477] (by decide +kernel) (by decide +kernel) w h).1
set_option maxRecDepth 20000 in
theorem wsL_law_r18_in : ∀ w ∈ wsL_law_r18, w ∈ lw_tbl := fun w h => (goodIn_p wsL_law_r18 [481, 485, 489, 492, 500] (by decide +kernel) (by decide +kernel) w h).1
theorem wsX40_in0 : ∀ w ∈ wsX40, w ∈ lw_tbl := by decide +kernel
theorem wsX20_in0 : ∀ w ∈ wsX20, w ∈ lw_tbl := by decide +kernel
theorem wsX30_in0 : ∀ w ∈ wsX30, w ∈ lw_tbl := by decide +kernel
theorem wsX00_in0 : ∀ w ∈ wsX00, w ∈ lw_tbl := by decide +kernel
theorem wsX10_in0 : ∀ w ∈ wsX10, w ∈ lw_tbl := by decide +kernel
theorem wsL_law_in : ∀ w ∈ wsL_law, w ∈ lw_tbl := mem_ap2 (mem_ap2 (mem_ap2 (mem_ap2 (mem_ap2 (mem_ap2 (mem_ap2 wsL_law_r1_in (mem_ap2 wsL_law_r2_in (mem_ap2 wsL_law_r3_in (mem_ap2 wsL_law_r4_in (mem_ap2 wsL_law_r5_in (mem_ap2 wsL_law_r6_in (mem_ap2 wsL_law_r7_in (mem_ap2 wsL_law_r8_in (mem_ap2 wsL_law_r9_in (mem_ap2 wsL_law_r10_in (mem_ap2 wsL_law_r11_in (mem_ap2 wsL_law_r12_in (mem_ap2 wsL_law_r13_in (mem_ap2 wsL_law_r14_in (mem_ap2 wsL_law_r15_in (mem_ap2 wsL_law_r16_in (mem_ap2 wsL_law_r17_in wsL_law_r18_in))))))))))))))))) wsX40_in0) wsX20_in0) wsX30_in0) wsX00_in0) wsX10_in0) (fun _ h => absurd h (List.not_mem_nil))
theorem inlX0 : ∀ w ∈ wsX00, w ∈ wsL_law := fun _ h => List.mem_append_left _ (List.mem_append_left _ (List.mem_append_right _ h))
theorem inX0 : ∀ w ∈ wsX00, w ∈ lw_tbl := fun w h => wsL_law_in w (inlX0 w h)
theorem inlX1 : ∀ w ∈ wsX10, w ∈ wsL_law := fun _ h => List.mem_append_left _ (List.mem_append_right _ h)
theorem inX1 : ∀ w ∈ wsX10, w ∈ lw_tbl := fun w h => wsL_law_in w (inlX1 w h)
theorem inlX2 : ∀ w ∈ wsX20, w ∈ wsL_law := fun _ h => List.mem_append_left _ (List.mem_append_left _ (List.mem_append_left _ (List.mem_append_left _ (List.mem_append_right _ h))))
theorem inX2 : ∀ w ∈ wsX20, w ∈ lw_tbl := fun w h => wsL_law_in w (inlX2 w h)
theorem inlX3 : ∀ w ∈ wsX30, w ∈ wsL_law := fun _ h => List.mem_append_left _ (List.mem_append_left _ (List.mem_append_left _ (List.mem_append_right _ h)))
theorem inX3 : ∀ w ∈ wsX30, w ∈ lw_tbl := fun w h => wsL_law_in w (inlX3 w h)
theorem inlX4 : ∀ w ∈ wsX40, w ∈ wsL_law := fun _ h => List.mem_append_left _ (List.mem_append_left _ (List.mem_append_left _ (List.mem_append_left _ (List.mem_append_left _ (List.mem_append_right _ h)))))
theorem inX4 : ∀ w ∈ wsX40, w ∈ lw_tbl := fun w h => wsL_law_in w (inlX4 w h)
theorem inX5 : ∀ w ∈ wsX50, w ∈ lw_tbl := by decide +kernel
theorem inJ6 : ∀ w ∈ wsJ60, w ∈ lw_tbl := by decide +kernel
theorem inJ10 : ∀ w ∈ wsJ100, w ∈ lw_tbl := by decide +kernel
end
section
theorem dX0_init_0 : decode cX0_init 0 = .ok (.aload_n 0, 1) := by decide +kernel
theorem dX0_init_1 : decode cX0_init 1 = .ok (.invokespecial 1, 3) := by decide +kernel
theorem dX0_init_4 : decode cX0_init 4 = .ok (.aload_n 0, 1) := by decide +kernel
theorem dX0_init_5 : decode cX0_init 5 = .ok (.sipush 176, 3) := by decide +kernel
theorem dX0_init_8 : decode cX0_init 8 = .ok (.newarray .int, 2) := by decide +kernel
theorem dX0_init_10 : decode cX0_init 10 = .ok (.putfield 11, 3) := by decide +kernel
theorem dX0_init_13 : decode cX0_init 13 = .ok (.aload_n 0, 1) := by decide +kernel
theorem dX0_init_14 : decode cX0_init 14 = .ok (.iconst 0, 1) := by decide +kernel
theorem dX0_init_15 : decode cX0_init 15 = .ok (.putfield 15, 3) := by decide +kernel
theorem dX0_init_18 : decode cX0_init 18 = .ok (.return_, 1) := by decide +kernel
theorem dX0_size_0 : decode cX0_size 0 = .ok (.aload_n 0, 1) := by decide +kernel
theorem dX0_size_1 : decode cX0_size 1 = .ok (.getfield 15, 3) := by decide +kernel
theorem dX0_size_4 : decode cX0_size 4 = .ok (.ireturn, 1) := by decide +kernel
theorem dX0_push_0 : decode cX0_push 0 = .ok (.aload_n 1, 1) := by decide +kernel
theorem dX0_push_1 : decode cX0_push 1 = .ok (.ifnull 10, 3) := by decide +kernel
theorem dX0_push_4 : decode cX0_push 4 = .ok (.aload_n 1, 1) := by decide +kernel
theorem dX0_push_5 : decode cX0_push 5 = .ok (.arraylength, 1) := by decide +kernel
theorem dX0_push_6 : decode cX0_push 6 = .ok (.bipush 44, 2) := by decide +kernel
theorem dX0_push_8 : decode cX0_push 8 = .ok (.if_icmp .ge 4, 3) := by decide +kernel
theorem dX0_push_11 : decode cX0_push 11 = .ok (.return_, 1) := by decide +kernel
theorem dX0_push_12 : decode cX0_push 12 = .ok (.aload_n 0, 1) := by decide +kernel
theorem dX0_push_13 : decode cX0_push 13 = .ok (.getfield 15, 3) := by decide +kernel
theorem dX0_push_16 : decode cX0_push 16 = .ok (.iconst 4, 1) := by decide +kernel
theorem dX0_push_17 : decode cX0_push 17 = .ok (.if_icmp .lt 25, 3) := by decide +kernel
theorem dX0_push_20 : decode cX0_push 20 = .ok (.aload_n 0, 1) := by decide +kernel
theorem dX0_push_21 : decode cX0_push 21 = .ok (.getfield 11, 3) := by decide +kernel
theorem dX0_push_24 : decode cX0_push 24 = .ok (.bipush 44, 2) := by decide +kernel
theorem dX0_push_26 : decode cX0_push 26 = .ok (.aload_n 0, 1) := by decide +kernel
theorem dX0_push_27 : decode cX0_push 27 = .ok (.getfield 11, 3) := by decide +kernel
theorem dX0_push_30 : decode cX0_push 30 = .ok (.iconst 0, 1) := by decide +kernel
theorem dX0_push_31 : decode cX0_push 31 = .ok (.sipush 132, 3) := by decide +kernel
theorem dX0_push_34 : decode cX0_push 34 = .ok (.invokestatic 19, 3) := by decide +kernel
theorem dX0_push_37 : decode cX0_push 37 = .ok (.aload_n 0, 1) := by decide +kernel
theorem dX0_push_38 : decode cX0_push 38 = .ok (.iconst 3, 1) := by decide +kernel
theorem dX0_push_39 : decode cX0_push 39 = .ok (.putfield 15, 3) := by decide +kernel
theorem dX0_push_42 : decode cX0_push 42 = .ok (.aload_n 1, 1) := by decide +kernel
theorem dX0_push_43 : decode cX0_push 43 = .ok (.iconst 0, 1) := by decide +kernel
theorem dX0_push_44 : decode cX0_push 44 = .ok (.aload_n 0, 1) := by decide +kernel
theorem dX0_push_45 : decode cX0_push 45 = .ok (.getfield 11, 3) := by decide +kernel
theorem dX0_push_48 : decode cX0_push 48 = .ok (.aload_n 0, 1) := by decide +kernel
theorem dX0_push_49 : decode cX0_push 49 = .ok (.getfield 15, 3) := by decide +kernel
theorem dX0_push_52 : decode cX0_push 52 = .ok (.bipush 44, 2) := by decide +kernel
theorem dX0_push_54 : decode cX0_push 54 = .ok (.imul, 1) := by decide +kernel
theorem dX0_push_55 : decode cX0_push 55 = .ok (.bipush 44, 2) := by decide +kernel
theorem dX0_push_57 : decode cX0_push 57 = .ok (.invokestatic 19, 3) := by decide +kernel
theorem dX0_push_60 : decode cX0_push 60 = .ok (.aload_n 0, 1) := by decide +kernel
theorem dX0_push_61 : decode cX0_push 61 = .ok (.dup, 1) := by decide +kernel
theorem dX0_push_62 : decode cX0_push 62 = .ok (.getfield 15, 3) := by decide +kernel
theorem dX0_push_65 : decode cX0_push 65 = .ok (.iconst 1, 1) := by decide +kernel
theorem dX0_push_66 : decode cX0_push 66 = .ok (.iadd, 1) := by decide +kernel
theorem dX0_push_67 : decode cX0_push 67 = .ok (.putfield 15, 3) := by decide +kernel
theorem dX0_push_70 : decode cX0_push 70 = .ok (.return_, 1) := by decide +kernel
set_option maxRecDepth 20000 in
theorem ggX0_popInto_X2_copyFrom : GoodIn wsX0_popInto wsX2_copyFrom := goodIn_r _ [7, 8, 9, 10, 11, 12, 15, 16] (by decide +kernel) (by decide +kernel)
set_option maxRecDepth 20000 in
theorem gX0_popInto_X2_copyFrom : GoodIn wsX0_popInto (wsV RX0 25 RX2 yX2_copyFrom wsX2_copyFrom) := goodIn_app (goodIn_of _ (by decide +kernel)) ggX0_popInto_X2_copyFrom
theorem dX0_popInto_0 : decode cX0_popInto 0 = .ok (.aload_n 1, 1) := by decide +kernel
theorem dX0_popInto_1 : decode cX0_popInto 1 = .ok (.ifnull 10, 3) := by decide +kernel
theorem dX0_popInto_4 : decode cX0_popInto 4 = .ok (.aload_n 0, 1) := by decide +kernel
theorem dX0_popInto_5 : decode cX0_popInto 5 = .ok (.getfield 15, 3) := by decide +kernel
theorem dX0_popInto_8 : decode cX0_popInto 8 = .ok (.ifCond .gt 4, 3) := by decide +kernel
theorem dX0_popInto_11 : decode cX0_popInto 11 = .ok (.return_, 1) := by decide +kernel
theorem dX0_popInto_12 : decode cX0_popInto 12 = .ok (.aload_n 0, 1) := by decide +kernel
theorem dX0_popInto_13 : decode cX0_popInto 13 = .ok (.dup, 1) := by decide +kernel
theorem dX0_popInto_14 : decode cX0_popInto 14 = .ok (.getfield 15, 3) := by decide +kernel
theorem dX0_popInto_17 : decode cX0_popInto 17 = .ok (.iconst 1, 1) := by decide +kernel
theorem dX0_popInto_18 : decode cX0_popInto 18 = .ok (.isub, 1) := by decide +kernel
theorem dX0_popInto_19 : decode cX0_popInto 19 = .ok (.putfield 15, 3) := by decide +kernel
theorem dX0_popInto_22 : decode cX0_popInto 22 = .ok (.aload_n 1, 1) := by decide +kernel
theorem dX0_popInto_23 : decode cX0_popInto 23 = .ok (.aload_n 0, 1) := by decide +kernel
theorem dX0_popInto_24 : decode cX0_popInto 24 = .ok (.getfield 11, 3) := by decide +kernel
theorem dX0_popInto_27 : decode cX0_popInto 27 = .ok (.aload_n 0, 1) := by decide +kernel
theorem dX0_popInto_28 : decode cX0_popInto 28 = .ok (.getfield 15, 3) := by decide +kernel
theorem dX0_popInto_31 : decode cX0_popInto 31 = .ok (.bipush 44, 2) := by decide +kernel
theorem dX0_popInto_33 : decode cX0_popInto 33 = .ok (.imul, 1) := by decide +kernel
theorem dX0_popInto_34 : decode cX0_popInto 34 = .ok (.invokevirtual 25, 3) := by decide +kernel
theorem dX0_popInto_37 : decode cX0_popInto 37 = .ok (.return_, 1) := by decide +kernel
theorem dX1_init_0 : decode cX1_init 0 = .ok (.aload_n 0, 1) := by decide +kernel
theorem dX1_init_1 : decode cX1_init 1 = .ok (.invokespecial 3, 3) := by decide +kernel
theorem dX1_init_4 : decode cX1_init 4 = .ok (.aload_n 0, 1) := by decide +kernel
theorem dX1_init_5 : decode cX1_init 5 = .ok (.bipush 60, 2) := by decide +kernel
theorem dX1_init_7 : decode cX1_init 7 = .ok (.newarray .char, 2) := by decide +kernel
theorem dX1_init_9 : decode cX1_init 9 = .ok (.putfield 11, 3) := by decide +kernel
theorem dX1_init_12 : decode cX1_init 12 = .ok (.aload_n 0, 1) := by decide +kernel
theorem dX1_init_13 : decode cX1_init 13 = .ok (.iconst 0, 1) := by decide +kernel
theorem dX1_init_14 : decode cX1_init 14 = .ok (.putfield 15, 3) := by decide +kernel
theorem dX1_init_17 : decode cX1_init 17 = .ok (.aload_n 0, 1) := by decide +kernel
theorem dX1_init_18 : decode cX1_init 18 = .ok (.bipush 60, 2) := by decide +kernel
theorem dX1_init_20 : decode cX1_init 20 = .ok (.newarray .int, 2) := by decide +kernel
theorem dX1_init_22 : decode cX1_init 22 = .ok (.putfield 19, 3) := by decide +kernel
theorem dX1_init_25 : decode cX1_init 25 = .ok (.aload_n 0, 1) := by decide +kernel
theorem dX1_init_26 : decode cX1_init 26 = .ok (.iconst 0, 1) := by decide +kernel
theorem dX1_init_27 : decode cX1_init 27 = .ok (.putfield 23, 3) := by decide +kernel
theorem dX1_init_30 : decode cX1_init 30 = .ok (.aload_n 0, 1) := by decide +kernel
theorem dX1_init_31 : decode cX1_init 31 = .ok (.iconst 0, 1) := by decide +kernel
theorem dX1_init_32 : decode cX1_init 32 = .ok (.putfield 26, 3) := by decide +kernel
theorem dX1_init_35 : decode cX1_init 35 = .ok (.return_, 1) := by decide +kernel
theorem dX1_size_0 : decode cX1_size 0 = .ok (.aload_n 0, 1) := by decide +kernel
theorem dX1_size_1 : decode cX1_size 1 = .ok (.getfield 15, 3) := by decide +kernel
theorem dX1_size_4 : decode cX1_size 4 = .ok (.ireturn, 1) := by decide +kernel
end
section
set_option maxRecDepth 20000 in
theorem ggX2_init_X4_squareBeside : GoodIn wsX2_init wsX4_squareBeside := goodIn_r _ [9, 10, 11, 12, 13, 8, 14] (by decide +kernel) (by decide +kernel)
set_option maxRecDepth 20000 in
theorem gX2_init_X4_squareBeside_n18 : GoodIn wsX2_init (wsX4_squareBeside) := ggX2_init_X4_squareBeside
set_option maxRecDepth 20000 in
theorem ggX2_init_X2_removeAllMen : GoodIn wsX2_init wsX2_removeAllMen := goodIn_r _ [19, 5, 30, 31] (by decide +kernel) (by decide +kernel)
set_option maxRecDepth 20000 in
theorem gX2_init_X2_removeAllMen : GoodIn wsX2_init (wsV RX2 22 RX2 yX2_removeAllMen wsX2_removeAllMen) := goodIn_app (goodIn_of _ (by decide +kernel)) ggX2_init_X2_removeAllMen
set_option maxRecDepth 20000 in
theorem ggX2_init_X2_place : GoodIn wsX2_init wsX2_place := goodIn_r _ [23, 5, 13, 8, 14, 24, 25, 26, 27, 28, 29, 30, 31] (by decide +kernel) (by decide +kernel)
set_option maxRecDepth 20000 in
theorem gX2_init_X2_place : GoodIn wsX2_init (wsV RX2 28 RX2 yX2_place wsX2_place) := goodIn_app (goodIn_of _ (by decide +kernel)) ggX2_init_X2_place
theorem dX2_init_0 : decode cX2_init 0 = .ok (.aload_n 0, 1) := by decide +kernel
theorem dX2_init_1 : decode cX2_init 1 = .ok (.invokespecial 5, 3) := by decide +kernel
theorem dX2_init_4 : decode cX2_init 4 = .ok (.aload_n 0, 1) := by decide +kernel
theorem dX2_init_5 : decode cX2_init 5 = .ok (.bipush 44, 2) := by decide +kernel
theorem dX2_init_7 : decode cX2_init 7 = .ok (.newarray .int, 2) := by decide +kernel
theorem dX2_init_9 : decode cX2_init 9 = .ok (.putfield 11, 3) := by decide +kernel
theorem dX2_init_12 : decode cX2_init 12 = .ok (.aload_n 0, 1) := by decide +kernel
theorem dX2_init_13 : decode cX2_init 13 = .ok (.sipush 200, 3) := by decide +kernel
theorem dX2_init_16 : decode cX2_init 16 = .ok (.newarray .int, 2) := by decide +kernel
theorem dX2_init_18 : decode cX2_init 18 = .ok (.putfield 15, 3) := by decide +kernel
theorem dX2_init_21 : decode cX2_init 21 = .ok (.iconst 0, 1) := by decide +kernel
theorem dX2_init_22 : decode cX2_init 22 = .ok (.istore_n 1, 1) := by decide +kernel
theorem dX2_init_23 : decode cX2_init 23 = .ok (.iload_n 1, 1) := by decide +kernel
theorem dX2_init_24 : decode cX2_init 24 = .ok (.aload_n 0, 1) := by decide +kernel
theorem dX2_init_25 : decode cX2_init 25 = .ok (.getfield 15, 3) := by decide +kernel
theorem dX2_init_28 : decode cX2_init 28 = .ok (.arraylength, 1) := by decide +kernel
theorem dX2_init_29 : decode cX2_init 29 = .ok (.if_icmp .ge 26, 3) := by decide +kernel
theorem dX2_init_32 : decode cX2_init 32 = .ok (.aload_n 0, 1) := by decide +kernel
theorem dX2_init_33 : decode cX2_init 33 = .ok (.getfield 15, 3) := by decide +kernel
theorem dX2_init_36 : decode cX2_init 36 = .ok (.iload_n 1, 1) := by decide +kernel
theorem dX2_init_37 : decode cX2_init 37 = .ok (.iload_n 1, 1) := by decide +kernel
theorem dX2_init_38 : decode cX2_init 38 = .ok (.bipush 8, 2) := by decide +kernel
theorem dX2_init_40 : decode cX2_init 40 = .ok (.idiv, 1) := by decide +kernel
theorem dX2_init_41 : decode cX2_init 41 = .ok (.iload_n 1, 1) := by decide +kernel
theorem dX2_init_42 : decode cX2_init 42 = .ok (.bipush 8, 2) := by decide +kernel
theorem dX2_init_44 : decode cX2_init 44 = .ok (.irem, 1) := by decide +kernel
theorem dX2_init_45 : decode cX2_init 45 = .ok (.invokestatic 18, 3) := by decide +kernel
theorem dX2_init_48 : decode cX2_init 48 = .ok (.iastore, 1) := by decide +kernel
theorem dX2_init_49 : decode cX2_init 49 = .ok (.iinc 1 1, 3) := by decide +kernel
theorem dX2_init_52 : decode cX2_init 52 = .ok (.goto (-29), 3) := by decide +kernel
theorem dX2_init_55 : decode cX2_init 55 = .ok (.aload_n 0, 1) := by decide +kernel
theorem dX2_init_56 : decode cX2_init 56 = .ok (.invokevirtual 22, 3) := by decide +kernel
theorem dX2_init_59 : decode cX2_init 59 = .ok (.iconst 0, 1) := by decide +kernel
theorem dX2_init_60 : decode cX2_init 60 = .ok (.istore_n 1, 1) := by decide +kernel
theorem dX2_init_61 : decode cX2_init 61 = .ok (.iload_n 1, 1) := by decide +kernel
theorem dX2_init_62 : decode cX2_init 62 = .ok (.getstatic 25, 3) := by decide +kernel
theorem dX2_init_65 : decode cX2_init 65 = .ok (.arraylength, 1) := by decide +kernel
theorem dX2_init_66 : decode cX2_init 66 = .ok (.if_icmp .ge 19, 3) := by decide +kernel
theorem dX2_init_69 : decode cX2_init 69 = .ok (.aload_n 0, 1) := by decide +kernel
theorem dX2_init_70 : decode cX2_init 70 = .ok (.iload_n 1, 1) := by decide +kernel
theorem dX2_init_71 : decode cX2_init 71 = .ok (.getstatic 25, 3) := by decide +kernel
theorem dX2_init_74 : decode cX2_init 74 = .ok (.iload_n 1, 1) := by decide +kernel
theorem dX2_init_75 : decode cX2_init 75 = .ok (.iaload, 1) := by decide +kernel
theorem dX2_init_76 : decode cX2_init 76 = .ok (.invokevirtual 28, 3) := by decide +kernel
theorem dX2_init_79 : decode cX2_init 79 = .ok (.iinc 1 1, 3) := by decide +kernel
theorem dX2_init_82 : decode cX2_init 82 = .ok (.goto (-21), 3) := by decide +kernel
theorem dX2_init_85 : decode cX2_init 85 = .ok (.return_, 1) := by decide +kernel
theorem dX2_copyTo_0 : decode cX2_copyTo 0 = .ok (.aload_n 1, 1) := by decide +kernel
theorem dX2_copyTo_1 : decode cX2_copyTo 1 = .ok (.ifnull 28, 3) := by decide +kernel
theorem dX2_copyTo_4 : decode cX2_copyTo 4 = .ok (.iload_n 2, 1) := by decide +kernel
theorem dX2_copyTo_5 : decode cX2_copyTo 5 = .ok (.ifCond .lt 24, 3) := by decide +kernel
theorem dX2_copyTo_8 : decode cX2_copyTo 8 = .ok (.iload_n 2, 1) := by decide +kernel
theorem dX2_copyTo_9 : decode cX2_copyTo 9 = .ok (.aload_n 1, 1) := by decide +kernel
theorem dX2_copyTo_10 : decode cX2_copyTo 10 = .ok (.arraylength, 1) := by decide +kernel
theorem dX2_copyTo_11 : decode cX2_copyTo 11 = .ok (.bipush 44, 2) := by decide +kernel
theorem dX2_copyTo_13 : decode cX2_copyTo 13 = .ok (.isub, 1) := by decide +kernel
theorem dX2_copyTo_14 : decode cX2_copyTo 14 = .ok (.if_icmp .gt 15, 3) := by decide +kernel
theorem dX2_copyTo_17 : decode cX2_copyTo 17 = .ok (.aload_n 0, 1) := by decide +kernel
theorem dX2_copyTo_18 : decode cX2_copyTo 18 = .ok (.getfield 11, 3) := by decide +kernel
theorem dX2_copyTo_21 : decode cX2_copyTo 21 = .ok (.iconst 0, 1) := by decide +kernel
theorem dX2_copyTo_22 : decode cX2_copyTo 22 = .ok (.aload_n 1, 1) := by decide +kernel
theorem dX2_copyTo_23 : decode cX2_copyTo 23 = .ok (.iload_n 2, 1) := by decide +kernel
theorem dX2_copyTo_24 : decode cX2_copyTo 24 = .ok (.bipush 44, 2) := by decide +kernel
theorem dX2_copyTo_26 : decode cX2_copyTo 26 = .ok (.invokestatic 32, 3) := by decide +kernel
theorem dX2_copyTo_29 : decode cX2_copyTo 29 = .ok (.return_, 1) := by decide +kernel
theorem dX2_copyFrom_0 : decode cX2_copyFrom 0 = .ok (.aload_n 1, 1) := by decide +kernel
theorem dX2_copyFrom_1 : decode cX2_copyFrom 1 = .ok (.ifnull 28, 3) := by decide +kernel
theorem dX2_copyFrom_4 : decode cX2_copyFrom 4 = .ok (.iload_n 2, 1) := by decide +kernel
theorem dX2_copyFrom_5 : decode cX2_copyFrom 5 = .ok (.ifCond .lt 24, 3) := by decide +kernel
theorem dX2_copyFrom_8 : decode cX2_copyFrom 8 = .ok (.iload_n 2, 1) := by decide +kernel
theorem dX2_copyFrom_9 : decode cX2_copyFrom 9 = .ok (.aload_n 1, 1) := by decide +kernel
theorem dX2_copyFrom_10 : decode cX2_copyFrom 10 = .ok (.arraylength, 1) := by decide +kernel
theorem dX2_copyFrom_11 : decode cX2_copyFrom 11 = .ok (.bipush 44, 2) := by decide +kernel
theorem dX2_copyFrom_13 : decode cX2_copyFrom 13 = .ok (.isub, 1) := by decide +kernel
theorem dX2_copyFrom_14 : decode cX2_copyFrom 14 = .ok (.if_icmp .gt 15, 3) := by decide +kernel
theorem dX2_copyFrom_17 : decode cX2_copyFrom 17 = .ok (.aload_n 1, 1) := by decide +kernel
theorem dX2_copyFrom_18 : decode cX2_copyFrom 18 = .ok (.iload_n 2, 1) := by decide +kernel
theorem dX2_copyFrom_19 : decode cX2_copyFrom 19 = .ok (.aload_n 0, 1) := by decide +kernel
theorem dX2_copyFrom_20 : decode cX2_copyFrom 20 = .ok (.getfield 11, 3) := by decide +kernel
theorem dX2_copyFrom_23 : decode cX2_copyFrom 23 = .ok (.iconst 0, 1) := by decide +kernel
theorem dX2_copyFrom_24 : decode cX2_copyFrom 24 = .ok (.bipush 44, 2) := by decide +kernel
theorem dX2_copyFrom_26 : decode cX2_copyFrom 26 = .ok (.invokestatic 32, 3) := by decide +kernel
theorem dX2_copyFrom_29 : decode cX2_copyFrom 29 = .ok (.return_, 1) := by decide +kernel
theorem dX2_sideToPlay_0 : decode cX2_sideToPlay 0 = .ok (.aload_n 0, 1) := by decide +kernel
theorem dX2_sideToPlay_1 : decode cX2_sideToPlay 1 = .ok (.getfield 11, 3) := by decide +kernel
theorem dX2_sideToPlay_4 : decode cX2_sideToPlay 4 = .ok (.bipush 39, 2) := by decide +kernel
theorem dX2_sideToPlay_6 : decode cX2_sideToPlay 6 = .ok (.iaload, 1) := by decide +kernel
theorem dX2_sideToPlay_7 : decode cX2_sideToPlay 7 = .ok (.ireturn, 1) := by decide +kernel
theorem dX2_setSideToPlay_0 : decode cX2_setSideToPlay 0 = .ok (.aload_n 0, 1) := by decide +kernel
theorem dX2_setSideToPlay_1 : decode cX2_setSideToPlay 1 = .ok (.getfield 11, 3) := by decide +kernel
theorem dX2_setSideToPlay_4 : decode cX2_setSideToPlay 4 = .ok (.bipush 39, 2) := by decide +kernel
theorem dX2_setSideToPlay_6 : decode cX2_setSideToPlay 6 = .ok (.iload_n 1, 1) := by decide +kernel
theorem dX2_setSideToPlay_7 : decode cX2_setSideToPlay 7 = .ok (.iastore, 1) := by decide +kernel
theorem dX2_setSideToPlay_8 : decode cX2_setSideToPlay 8 = .ok (.return_, 1) := by decide +kernel
theorem dX2_playsMade_0 : decode cX2_playsMade 0 = .ok (.aload_n 0, 1) := by decide +kernel
theorem dX2_playsMade_1 : decode cX2_playsMade 1 = .ok (.getfield 11, 3) := by decide +kernel
theorem dX2_playsMade_4 : decode cX2_playsMade 4 = .ok (.bipush 40, 2) := by decide +kernel
theorem dX2_playsMade_6 : decode cX2_playsMade 6 = .ok (.iaload, 1) := by decide +kernel
theorem dX2_playsMade_7 : decode cX2_playsMade 7 = .ok (.ireturn, 1) := by decide +kernel
theorem dX2_menTaken_0 : decode cX2_menTaken 0 = .ok (.aload_n 0, 1) := by decide +kernel
theorem dX2_menTaken_1 : decode cX2_menTaken 1 = .ok (.getfield 11, 3) := by decide +kernel
theorem dX2_menTaken_4 : decode cX2_menTaken 4 = .ok (.bipush 41, 2) := by decide +kernel
theorem dX2_menTaken_6 : decode cX2_menTaken 6 = .ok (.iaload, 1) := by decide +kernel
theorem dX2_menTaken_7 : decode cX2_menTaken 7 = .ok (.ireturn, 1) := by decide +kernel
theorem dX2_menPromoted_0 : decode cX2_menPromoted 0 = .ok (.aload_n 0, 1) := by decide +kernel
theorem dX2_menPromoted_1 : decode cX2_menPromoted 1 = .ok (.getfield 11, 3) := by decide +kernel
theorem dX2_menPromoted_4 : decode cX2_menPromoted 4 = .ok (.bipush 42, 2) := by decide +kernel
theorem dX2_menPromoted_6 : decode cX2_menPromoted 6 = .ok (.iaload, 1) := by decide +kernel
theorem dX2_menPromoted_7 : decode cX2_menPromoted 7 = .ok (.ireturn, 1) := by decide +kernel
theorem dX2_menDropped_0 : decode cX2_menDropped 0 = .ok (.aload_n 0, 1) := by decide +kernel
theorem dX2_menDropped_1 : decode cX2_menDropped 1 = .ok (.getfield 11, 3) := by decide +kernel
theorem dX2_menDropped_4 : decode cX2_menDropped 4 = .ok (.bipush 43, 2) := by decide +kernel
theorem dX2_menDropped_6 : decode cX2_menDropped 6 = .ok (.iaload, 1) := by decide +kernel
theorem dX2_menDropped_7 : decode cX2_menDropped 7 = .ok (.ireturn, 1) := by decide +kernel
theorem dX2_manOn_0 : decode cX2_manOn 0 = .ok (.iload_n 1, 1) := by decide +kernel
theorem dX2_manOn_1 : decode cX2_manOn 1 = .ok (.ifCond .lt 18, 3) := by decide +kernel
theorem dX2_manOn_4 : decode cX2_manOn 4 = .ok (.iload_n 1, 1) := by decide +kernel
theorem dX2_manOn_5 : decode cX2_manOn 5 = .ok (.bipush 25, 2) := by decide +kernel
theorem dX2_manOn_7 : decode cX2_manOn 7 = .ok (.if_icmp .ge 12, 3) := by decide +kernel
theorem dX2_manOn_10 : decode cX2_manOn 10 = .ok (.aload_n 0, 1) := by decide +kernel
theorem dX2_manOn_11 : decode cX2_manOn 11 = .ok (.getfield 11, 3) := by decide +kernel
theorem dX2_manOn_14 : decode cX2_manOn 14 = .ok (.iload_n 1, 1) := by decide +kernel
theorem dX2_manOn_15 : decode cX2_manOn 15 = .ok (.iaload, 1) := by decide +kernel
theorem dX2_manOn_16 : decode cX2_manOn 16 = .ok (.goto 5, 3) := by decide +kernel
theorem dX2_manOn_19 : decode cX2_manOn 19 = .ok (.bipush 99, 2) := by decide +kernel
theorem dX2_manOn_21 : decode cX2_manOn 21 = .ok (.ireturn, 1) := by decide +kernel
set_option maxRecDepth 20000 in
theorem ggX2_kingOf_X4_isSide : GoodIn wsX2_kingOf wsX4_isSide := goodIn_r _ [4] (by decide +kernel) (by decide +kernel)
set_option maxRecDepth 20000 in
theorem gX2_kingOf_X4_isSide_n38 : GoodIn wsX2_kingOf (wsX4_isSide) := ggX2_kingOf_X4_isSide
theorem dX2_kingOf_0 : decode cX2_kingOf 0 = .ok (.iload_n 1, 1) := by decide +kernel
theorem dX2_kingOf_1 : decode cX2_kingOf 1 = .ok (.invokestatic 38, 3) := by decide +kernel
theorem dX2_kingOf_4 : decode cX2_kingOf 4 = .ok (.ifCond .eq 15, 3) := by decide +kernel
theorem dX2_kingOf_7 : decode cX2_kingOf 7 = .ok (.aload_n 0, 1) := by decide +kernel
theorem dX2_kingOf_8 : decode cX2_kingOf 8 = .ok (.getfield 11, 3) := by decide +kernel
theorem dX2_kingOf_11 : decode cX2_kingOf 11 = .ok (.bipush 37, 2) := by decide +kernel
theorem dX2_kingOf_13 : decode cX2_kingOf 13 = .ok (.iload_n 1, 1) := by decide +kernel
theorem dX2_kingOf_14 : decode cX2_kingOf 14 = .ok (.iadd, 1) := by decide +kernel
theorem dX2_kingOf_15 : decode cX2_kingOf 15 = .ok (.iaload, 1) := by decide +kernel
theorem dX2_kingOf_16 : decode cX2_kingOf 16 = .ok (.goto 4, 3) := by decide +kernel
theorem dX2_kingOf_19 : decode cX2_kingOf 19 = .ok (.iconst (-1), 1) := by decide +kernel
theorem dX2_kingOf_20 : decode cX2_kingOf 20 = .ok (.ireturn, 1) := by decide +kernel
set_option maxRecDepth 20000 in
theorem ggX2_place_X4_isSquare : GoodIn wsX2_place wsX4_isSquare := goodIn_r _ [4] (by decide +kernel) (by decide +kernel)
set_option maxRecDepth 20000 in
theorem gX2_place_X4_isSquare_n42 : GoodIn wsX2_place (wsX4_isSquare) := ggX2_place_X4_isSquare
set_option maxRecDepth 20000 in
theorem ggX2_place_X4_isMan : GoodIn wsX2_place wsX4_isMan := goodIn_r _ [6] (by decide +kernel) (by decide +kernel)
set_option maxRecDepth 20000 in
theorem gX2_place_X4_isMan_n45 : GoodIn wsX2_place (wsX4_isMan) := ggX2_place_X4_isMan
set_option maxRecDepth 20000 in
theorem ggX2_place_X4_kindOf : GoodIn wsX2_place wsX4_kindOf := goodIn_r _ [8] (by decide +kernel) (by decide +kernel)
set_option maxRecDepth 20000 in
theorem gX2_place_X4_kindOf_n48 : GoodIn wsX2_place (wsX4_kindOf) := ggX2_place_X4_kindOf
set_option maxRecDepth 20000 in
theorem ggX2_place_X4_sideOf : GoodIn wsX2_place wsX4_sideOf := goodIn_r _ [10] (by decide +kernel) (by decide +kernel)
set_option maxRecDepth 20000 in
theorem gX2_place_X4_sideOf_n52 : GoodIn wsX2_place (wsX4_sideOf) := ggX2_place_X4_sideOf
theorem dX2_place_0 : decode cX2_place 0 = .ok (.iload_n 1, 1) := by decide +kernel
theorem dX2_place_1 : decode cX2_place 1 = .ok (.invokestatic 42, 3) := by decide +kernel
theorem dX2_place_4 : decode cX2_place 4 = .ok (.ifCond .ne 4, 3) := by decide +kernel
theorem dX2_place_7 : decode cX2_place 7 = .ok (.return_, 1) := by decide +kernel
theorem dX2_place_8 : decode cX2_place 8 = .ok (.aload_n 0, 1) := by decide +kernel
theorem dX2_place_9 : decode cX2_place 9 = .ok (.getfield 11, 3) := by decide +kernel
theorem dX2_place_12 : decode cX2_place 12 = .ok (.iload_n 1, 1) := by decide +kernel
theorem dX2_place_13 : decode cX2_place 13 = .ok (.iaload, 1) := by decide +kernel
theorem dX2_place_14 : decode cX2_place 14 = .ok (.istore_n 3, 1) := by decide +kernel
theorem dX2_place_15 : decode cX2_place 15 = .ok (.iload_n 3, 1) := by decide +kernel
theorem dX2_place_16 : decode cX2_place 16 = .ok (.invokestatic 45, 3) := by decide +kernel
theorem dX2_place_19 : decode cX2_place 19 = .ok (.ifCond .eq 23, 3) := by decide +kernel
theorem dX2_place_22 : decode cX2_place 22 = .ok (.iload_n 3, 1) := by decide +kernel
theorem dX2_place_23 : decode cX2_place 23 = .ok (.invokestatic 48, 3) := by decide +kernel
theorem dX2_place_26 : decode cX2_place 26 = .ok (.ifCond .ne 16, 3) := by decide +kernel
theorem dX2_place_29 : decode cX2_place 29 = .ok (.aload_n 0, 1) := by decide +kernel
theorem dX2_place_30 : decode cX2_place 30 = .ok (.getfield 11, 3) := by decide +kernel
theorem dX2_place_33 : decode cX2_place 33 = .ok (.bipush 37, 2) := by decide +kernel
theorem dX2_place_35 : decode cX2_place 35 = .ok (.iload_n 3, 1) := by decide +kernel
theorem dX2_place_36 : decode cX2_place 36 = .ok (.invokestatic 52, 3) := by decide +kernel
theorem dX2_place_39 : decode cX2_place 39 = .ok (.iadd, 1) := by decide +kernel
theorem dX2_place_40 : decode cX2_place 40 = .ok (.iconst (-1), 1) := by decide +kernel
theorem dX2_place_41 : decode cX2_place 41 = .ok (.iastore, 1) := by decide +kernel
theorem dX2_place_42 : decode cX2_place 42 = .ok (.aload_n 0, 1) := by decide +kernel
theorem dX2_place_43 : decode cX2_place 43 = .ok (.getfield 11, 3) := by decide +kernel
theorem dX2_place_46 : decode cX2_place 46 = .ok (.iload_n 1, 1) := by decide +kernel
theorem dX2_place_47 : decode cX2_place 47 = .ok (.iload_n 2, 1) := by decide +kernel
theorem dX2_place_48 : decode cX2_place 48 = .ok (.iastore, 1) := by decide +kernel
theorem dX2_place_49 : decode cX2_place 49 = .ok (.iload_n 2, 1) := by decide +kernel
theorem dX2_place_50 : decode cX2_place 50 = .ok (.invokestatic 45, 3) := by decide +kernel
theorem dX2_place_53 : decode cX2_place 53 = .ok (.ifCond .eq 23, 3) := by decide +kernel
theorem dX2_place_56 : decode cX2_place 56 = .ok (.iload_n 2, 1) := by decide +kernel
theorem dX2_place_57 : decode cX2_place 57 = .ok (.invokestatic 48, 3) := by decide +kernel
theorem dX2_place_60 : decode cX2_place 60 = .ok (.ifCond .ne 16, 3) := by decide +kernel
theorem dX2_place_63 : decode cX2_place 63 = .ok (.aload_n 0, 1) := by decide +kernel
theorem dX2_place_64 : decode cX2_place 64 = .ok (.getfield 11, 3) := by decide +kernel
theorem dX2_place_67 : decode cX2_place 67 = .ok (.bipush 37, 2) := by decide +kernel
theorem dX2_place_69 : decode cX2_place 69 = .ok (.iload_n 2, 1) := by decide +kernel
theorem dX2_place_70 : decode cX2_place 70 = .ok (.invokestatic 52, 3) := by decide +kernel
theorem dX2_place_73 : decode cX2_place 73 = .ok (.iadd, 1) := by decide +kernel
theorem dX2_place_74 : decode cX2_place 74 = .ok (.iload_n 1, 1) := by decide +kernel
theorem dX2_place_75 : decode cX2_place 75 = .ok (.iastore, 1) := by decide +kernel
theorem dX2_place_76 : decode cX2_place 76 = .ok (.return_, 1) := by decide +kernel
theorem dX2_removeAllMen_0 : decode cX2_removeAllMen 0 = .ok (.iconst 0, 1) := by decide +kernel
theorem dX2_removeAllMen_1 : decode cX2_removeAllMen 1 = .ok (.istore_n 1, 1) := by decide +kernel
theorem dX2_removeAllMen_2 : decode cX2_removeAllMen 2 = .ok (.iload_n 1, 1) := by decide +kernel
theorem dX2_removeAllMen_3 : decode cX2_removeAllMen 3 = .ok (.bipush 25, 2) := by decide +kernel
theorem dX2_removeAllMen_5 : decode cX2_removeAllMen 5 = .ok (.if_icmp .ge 17, 3) := by decide +kernel
theorem dX2_removeAllMen_8 : decode cX2_removeAllMen 8 = .ok (.aload_n 0, 1) := by decide +kernel
theorem dX2_removeAllMen_9 : decode cX2_removeAllMen 9 = .ok (.getfield 11, 3) := by decide +kernel
theorem dX2_removeAllMen_12 : decode cX2_removeAllMen 12 = .ok (.iload_n 1, 1) := by decide +kernel
theorem dX2_removeAllMen_13 : decode cX2_removeAllMen 13 = .ok (.bipush 99, 2) := by decide +kernel
theorem dX2_removeAllMen_15 : decode cX2_removeAllMen 15 = .ok (.iastore, 1) := by decide +kernel
theorem dX2_removeAllMen_16 : decode cX2_removeAllMen 16 = .ok (.iinc 1 1, 3) := by decide +kernel
theorem dX2_removeAllMen_19 : decode cX2_removeAllMen 19 = .ok (.goto (-17), 3) := by decide +kernel
theorem dX2_removeAllMen_22 : decode cX2_removeAllMen 22 = .ok (.bipush 25, 2) := by decide +kernel
theorem dX2_removeAllMen_24 : decode cX2_removeAllMen 24 = .ok (.istore_n 1, 1) := by decide +kernel
theorem dX2_removeAllMen_25 : decode cX2_removeAllMen 25 = .ok (.iload_n 1, 1) := by decide +kernel
theorem dX2_removeAllMen_26 : decode cX2_removeAllMen 26 = .ok (.bipush 37, 2) := by decide +kernel
theorem dX2_removeAllMen_28 : decode cX2_removeAllMen 28 = .ok (.if_icmp .ge 16, 3) := by decide +kernel
theorem dX2_removeAllMen_31 : decode cX2_removeAllMen 31 = .ok (.aload_n 0, 1) := by decide +kernel
theorem dX2_removeAllMen_32 : decode cX2_removeAllMen 32 = .ok (.getfield 11, 3) := by decide +kernel
theorem dX2_removeAllMen_35 : decode cX2_removeAllMen 35 = .ok (.iload_n 1, 1) := by decide +kernel
theorem dX2_removeAllMen_36 : decode cX2_removeAllMen 36 = .ok (.iconst 0, 1) := by decide +kernel
theorem dX2_removeAllMen_37 : decode cX2_removeAllMen 37 = .ok (.iastore, 1) := by decide +kernel
theorem dX2_removeAllMen_38 : decode cX2_removeAllMen 38 = .ok (.iinc 1 1, 3) := by decide +kernel
theorem dX2_removeAllMen_41 : decode cX2_removeAllMen 41 = .ok (.goto (-16), 3) := by decide +kernel
theorem dX2_removeAllMen_44 : decode cX2_removeAllMen 44 = .ok (.iconst 0, 1) := by decide +kernel
theorem dX2_removeAllMen_45 : decode cX2_removeAllMen 45 = .ok (.istore_n 1, 1) := by decide +kernel
theorem dX2_removeAllMen_46 : decode cX2_removeAllMen 46 = .ok (.iload_n 1, 1) := by decide +kernel
theorem dX2_removeAllMen_47 : decode cX2_removeAllMen 47 = .ok (.iconst 2, 1) := by decide +kernel
theorem dX2_removeAllMen_48 : decode cX2_removeAllMen 48 = .ok (.if_icmp .ge 19, 3) := by decide +kernel
theorem dX2_removeAllMen_51 : decode cX2_removeAllMen 51 = .ok (.aload_n 0, 1) := by decide +kernel
theorem dX2_removeAllMen_52 : decode cX2_removeAllMen 52 = .ok (.getfield 11, 3) := by decide +kernel
theorem dX2_removeAllMen_55 : decode cX2_removeAllMen 55 = .ok (.bipush 37, 2) := by decide +kernel
theorem dX2_removeAllMen_57 : decode cX2_removeAllMen 57 = .ok (.iload_n 1, 1) := by decide +kernel
theorem dX2_removeAllMen_58 : decode cX2_removeAllMen 58 = .ok (.iadd, 1) := by decide +kernel
theorem dX2_removeAllMen_59 : decode cX2_removeAllMen 59 = .ok (.iconst (-1), 1) := by decide +kernel
theorem dX2_removeAllMen_60 : decode cX2_removeAllMen 60 = .ok (.iastore, 1) := by decide +kernel
theorem dX2_removeAllMen_61 : decode cX2_removeAllMen 61 = .ok (.iinc 1 1, 3) := by decide +kernel
theorem dX2_removeAllMen_64 : decode cX2_removeAllMen 64 = .ok (.goto (-18), 3) := by decide +kernel
theorem dX2_removeAllMen_67 : decode cX2_removeAllMen 67 = .ok (.return_, 1) := by decide +kernel
set_option maxRecDepth 20000 in
theorem ggX2_inHand_X4_isSide : GoodIn wsX2_inHand wsX4_isSide := goodIn_r _ [4] (by decide +kernel) (by decide +kernel)
set_option maxRecDepth 20000 in
theorem gX2_inHand_X4_isSide_n38 : GoodIn wsX2_inHand (wsX4_isSide) := ggX2_inHand_X4_isSide
set_option maxRecDepth 20000 in
theorem ggX2_inHand_X4_isHandKind : GoodIn wsX2_inHand wsX4_isHandKind := goodIn_r _ [6] (by decide +kernel) (by decide +kernel)
set_option maxRecDepth 20000 in
theorem gX2_inHand_X4_isHandKind_n55 : GoodIn wsX2_inHand (wsX4_isHandKind) := ggX2_inHand_X4_isHandKind
theorem dX2_inHand_0 : decode cX2_inHand 0 = .ok (.iload_n 1, 1) := by decide +kernel
theorem dX2_inHand_1 : decode cX2_inHand 1 = .ok (.invokestatic 38, 3) := by decide +kernel
theorem dX2_inHand_4 : decode cX2_inHand 4 = .ok (.ifCond .eq 27, 3) := by decide +kernel
theorem dX2_inHand_7 : decode cX2_inHand 7 = .ok (.iload_n 2, 1) := by decide +kernel
theorem dX2_inHand_8 : decode cX2_inHand 8 = .ok (.invokestatic 55, 3) := by decide +kernel
theorem dX2_inHand_11 : decode cX2_inHand 11 = .ok (.ifCond .eq 20, 3) := by decide +kernel
theorem dX2_inHand_14 : decode cX2_inHand 14 = .ok (.aload_n 0, 1) := by decide +kernel
theorem dX2_inHand_15 : decode cX2_inHand 15 = .ok (.getfield 11, 3) := by decide +kernel
theorem dX2_inHand_18 : decode cX2_inHand 18 = .ok (.bipush 25, 2) := by decide +kernel
theorem dX2_inHand_20 : decode cX2_inHand 20 = .ok (.iload_n 1, 1) := by decide +kernel
theorem dX2_inHand_21 : decode cX2_inHand 21 = .ok (.bipush 6, 2) := by decide +kernel
theorem dX2_inHand_23 : decode cX2_inHand 23 = .ok (.imul, 1) := by decide +kernel
theorem dX2_inHand_24 : decode cX2_inHand 24 = .ok (.iadd, 1) := by decide +kernel
theorem dX2_inHand_25 : decode cX2_inHand 25 = .ok (.iload_n 2, 1) := by decide +kernel
theorem dX2_inHand_26 : decode cX2_inHand 26 = .ok (.iadd, 1) := by decide +kernel
theorem dX2_inHand_27 : decode cX2_inHand 27 = .ok (.iaload, 1) := by decide +kernel
theorem dX2_inHand_28 : decode cX2_inHand 28 = .ok (.goto 4, 3) := by decide +kernel
theorem dX2_inHand_31 : decode cX2_inHand 31 = .ok (.iconst 0, 1) := by decide +kernel
theorem dX2_inHand_32 : decode cX2_inHand 32 = .ok (.ireturn, 1) := by decide +kernel
set_option maxRecDepth 20000 in
theorem ggX2_setInHand_X4_isSide : GoodIn wsX2_setInHand wsX4_isSide := goodIn_r _ [4] (by decide +kernel) (by decide +kernel)
set_option maxRecDepth 20000 in
theorem gX2_setInHand_X4_isSide_n38 : GoodIn wsX2_setInHand (wsX4_isSide) := ggX2_setInHand_X4_isSide
set_option maxRecDepth 20000 in
theorem ggX2_setInHand_X4_isHandKind : GoodIn wsX2_setInHand wsX4_isHandKind := goodIn_r _ [6] (by decide +kernel) (by decide +kernel)
set_option maxRecDepth 20000 in
theorem gX2_setInHand_X4_isHandKind_n55 : GoodIn wsX2_setInHand (wsX4_isHandKind) := ggX2_setInHand_X4_isHandKind
theorem dX2_setInHand_0 : decode cX2_setInHand 0 = .ok (.iload_n 1, 1) := by decide +kernel
theorem dX2_setInHand_1 : decode cX2_setInHand 1 = .ok (.invokestatic 38, 3) := by decide +kernel
theorem dX2_setInHand_4 : decode cX2_setInHand 4 = .ok (.ifCond .eq 25, 3) := by decide +kernel
theorem dX2_setInHand_7 : decode cX2_setInHand 7 = .ok (.iload_n 2, 1) := by decide +kernel
theorem dX2_setInHand_8 : decode cX2_setInHand 8 = .ok (.invokestatic 55, 3) := by decide +kernel
theorem dX2_setInHand_11 : decode cX2_setInHand 11 = .ok (.ifCond .eq 18, 3) := by decide +kernel
theorem dX2_setInHand_14 : decode cX2_setInHand 14 = .ok (.aload_n 0, 1) := by decide +kernel
theorem dX2_setInHand_15 : decode cX2_setInHand 15 = .ok (.getfield 11, 3) := by decide +kernel
theorem dX2_setInHand_18 : decode cX2_setInHand 18 = .ok (.bipush 25, 2) := by decide +kernel
theorem dX2_setInHand_20 : decode cX2_setInHand 20 = .ok (.iload_n 1, 1) := by decide +kernel
theorem dX2_setInHand_21 : decode cX2_setInHand 21 = .ok (.bipush 6, 2) := by decide +kernel
theorem dX2_setInHand_23 : decode cX2_setInHand 23 = .ok (.imul, 1) := by decide +kernel
theorem dX2_setInHand_24 : decode cX2_setInHand 24 = .ok (.iadd, 1) := by decide +kernel
theorem dX2_setInHand_25 : decode cX2_setInHand 25 = .ok (.iload_n 2, 1) := by decide +kernel
theorem dX2_setInHand_26 : decode cX2_setInHand 26 = .ok (.iadd, 1) := by decide +kernel
theorem dX2_setInHand_27 : decode cX2_setInHand 27 = .ok (.iload_n 3, 1) := by decide +kernel
theorem dX2_setInHand_28 : decode cX2_setInHand 28 = .ok (.iastore, 1) := by decide +kernel
theorem dX2_setInHand_29 : decode cX2_setInHand 29 = .ok (.return_, 1) := by decide +kernel
theorem dX2_menOnBoard_0 : decode cX2_menOnBoard 0 = .ok (.iconst 0, 1) := by decide +kernel
theorem dX2_menOnBoard_1 : decode cX2_menOnBoard 1 = .ok (.istore_n 1, 1) := by decide +kernel
theorem dX2_menOnBoard_2 : decode cX2_menOnBoard 2 = .ok (.iconst 0, 1) := by decide +kernel
theorem dX2_menOnBoard_3 : decode cX2_menOnBoard 3 = .ok (.istore_n 2, 1) := by decide +kernel
theorem dX2_menOnBoard_4 : decode cX2_menOnBoard 4 = .ok (.iload_n 2, 1) := by decide +kernel
theorem dX2_menOnBoard_5 : decode cX2_menOnBoard 5 = .ok (.bipush 25, 2) := by decide +kernel
theorem dX2_menOnBoard_7 : decode cX2_menOnBoard 7 = .ok (.if_icmp .ge 23, 3) := by decide +kernel
theorem dX2_menOnBoard_10 : decode cX2_menOnBoard 10 = .ok (.aload_n 0, 1) := by decide +kernel
theorem dX2_menOnBoard_11 : decode cX2_menOnBoard 11 = .ok (.getfield 11, 3) := by decide +kernel
theorem dX2_menOnBoard_14 : decode cX2_menOnBoard 14 = .ok (.iload_n 2, 1) := by decide +kernel
theorem dX2_menOnBoard_15 : decode cX2_menOnBoard 15 = .ok (.iaload, 1) := by decide +kernel
theorem dX2_menOnBoard_16 : decode cX2_menOnBoard 16 = .ok (.bipush 99, 2) := by decide +kernel
theorem dX2_menOnBoard_18 : decode cX2_menOnBoard 18 = .ok (.if_icmp .eq 6, 3) := by decide +kernel
theorem dX2_menOnBoard_21 : decode cX2_menOnBoard 21 = .ok (.iinc 1 1, 3) := by decide +kernel
theorem dX2_menOnBoard_24 : decode cX2_menOnBoard 24 = .ok (.iinc 2 1, 3) := by decide +kernel
theorem dX2_menOnBoard_27 : decode cX2_menOnBoard 27 = .ok (.goto (-23), 3) := by decide +kernel
theorem dX2_menOnBoard_30 : decode cX2_menOnBoard 30 = .ok (.iload_n 1, 1) := by decide +kernel
theorem dX2_menOnBoard_31 : decode cX2_menOnBoard 31 = .ok (.ireturn, 1) := by decide +kernel
set_option maxRecDepth 20000 in
theorem ggX2_menInHand_X2_inHand : GoodIn wsX2_menInHand wsX2_inHand := goodIn_r _ [5, 6, 7, 8, 9, 10, 11, 12, 13] (by decide +kernel) (by decide +kernel)
set_option maxRecDepth 20000 in
theorem gX2_menInHand_X2_inHand : GoodIn wsX2_menInHand (wsV RX2 58 RX2 yX2_inHand wsX2_inHand) := goodIn_app (goodIn_of _ (by decide +kernel)) ggX2_menInHand_X2_inHand
theorem dX2_menInHand_0 : decode cX2_menInHand 0 = .ok (.iconst 0, 1) := by decide +kernel
theorem dX2_menInHand_1 : decode cX2_menInHand 1 = .ok (.istore_n 2, 1) := by decide +kernel
theorem dX2_menInHand_2 : decode cX2_menInHand 2 = .ok (.iconst 1, 1) := by decide +kernel
theorem dX2_menInHand_3 : decode cX2_menInHand 3 = .ok (.istore_n 3, 1) := by decide +kernel
theorem dX2_menInHand_4 : decode cX2_menInHand 4 = .ok (.iload_n 3, 1) := by decide +kernel
theorem dX2_menInHand_5 : decode cX2_menInHand 5 = .ok (.iconst 5, 1) := by decide +kernel
theorem dX2_menInHand_6 : decode cX2_menInHand 6 = .ok (.if_icmp .gt 18, 3) := by decide +kernel
theorem dX2_menInHand_9 : decode cX2_menInHand 9 = .ok (.iload_n 2, 1) := by decide +kernel
theorem dX2_menInHand_10 : decode cX2_menInHand 10 = .ok (.aload_n 0, 1) := by decide +kernel
theorem dX2_menInHand_11 : decode cX2_menInHand 11 = .ok (.iload_n 1, 1) := by decide +kernel
theorem dX2_menInHand_12 : decode cX2_menInHand 12 = .ok (.iload_n 3, 1) := by decide +kernel
theorem dX2_menInHand_13 : decode cX2_menInHand 13 = .ok (.invokevirtual 58, 3) := by decide +kernel
theorem dX2_menInHand_16 : decode cX2_menInHand 16 = .ok (.iadd, 1) := by decide +kernel
theorem dX2_menInHand_17 : decode cX2_menInHand 17 = .ok (.istore_n 2, 1) := by decide +kernel
theorem dX2_menInHand_18 : decode cX2_menInHand 18 = .ok (.iinc 3 1, 3) := by decide +kernel
theorem dX2_menInHand_21 : decode cX2_menInHand 21 = .ok (.goto (-17), 3) := by decide +kernel
theorem dX2_menInHand_24 : decode cX2_menInHand 24 = .ok (.iload_n 2, 1) := by decide +kernel
theorem dX2_menInHand_25 : decode cX2_menInHand 25 = .ok (.ireturn, 1) := by decide +kernel
set_option maxRecDepth 20000 in
theorem ggX2_worthFor_X4_kindOf : GoodIn wsX2_worthFor wsX4_kindOf := goodIn_r _ [4] (by decide +kernel) (by decide +kernel)
set_option maxRecDepth 20000 in
theorem gX2_worthFor_X4_kindOf_n48 : GoodIn wsX2_worthFor (wsX4_kindOf) := ggX2_worthFor_X4_kindOf
set_option maxRecDepth 20000 in
theorem ggX2_worthFor_X4_sideOf : GoodIn wsX2_worthFor wsX4_sideOf := goodIn_r _ [6] (by decide +kernel) (by decide +kernel)
set_option maxRecDepth 20000 in
theorem gX2_worthFor_X4_sideOf_n52 : GoodIn wsX2_worthFor (wsX4_sideOf) := ggX2_worthFor_X4_sideOf
set_option maxRecDepth 20000 in
theorem ggX2_worthFor_X2_inHand : GoodIn wsX2_worthFor wsX2_inHand := goodIn_r _ [11, 1, 12, 3, 13, 14, 15, 16, 17] (by decide +kernel) (by decide +kernel)
set_option maxRecDepth 20000 in
theorem gX2_worthFor_X2_inHand : GoodIn wsX2_worthFor (wsV RX2 58 RX2 yX2_inHand wsX2_inHand) := goodIn_app (goodIn_of _ (by decide +kernel)) ggX2_worthFor_X2_inHand
theorem dX2_worthFor_0 : decode cX2_worthFor 0 = .ok (.iconst 0, 1) := by decide +kernel
theorem dX2_worthFor_1 : decode cX2_worthFor 1 = .ok (.istore_n 2, 1) := by decide +kernel
theorem dX2_worthFor_2 : decode cX2_worthFor 2 = .ok (.iconst 0, 1) := by decide +kernel
theorem dX2_worthFor_3 : decode cX2_worthFor 3 = .ok (.istore_n 3, 1) := by decide +kernel
theorem dX2_worthFor_4 : decode cX2_worthFor 4 = .ok (.iload_n 3, 1) := by decide +kernel
theorem dX2_worthFor_5 : decode cX2_worthFor 5 = .ok (.bipush 25, 2) := by decide +kernel
theorem dX2_worthFor_7 : decode cX2_worthFor 7 = .ok (.if_icmp .ge 73, 3) := by decide +kernel
theorem dX2_worthFor_10 : decode cX2_worthFor 10 = .ok (.aload_n 0, 1) := by decide +kernel
theorem dX2_worthFor_11 : decode cX2_worthFor 11 = .ok (.getfield 11, 3) := by decide +kernel
theorem dX2_worthFor_14 : decode cX2_worthFor 14 = .ok (.iload_n 3, 1) := by decide +kernel
theorem dX2_worthFor_15 : decode cX2_worthFor 15 = .ok (.iaload, 1) := by decide +kernel
theorem dX2_worthFor_16 : decode cX2_worthFor 16 = .ok (.istore 4, 2) := by decide +kernel
theorem dX2_worthFor_18 : decode cX2_worthFor 18 = .ok (.iload 4, 2) := by decide +kernel
theorem dX2_worthFor_20 : decode cX2_worthFor 20 = .ok (.invokestatic 48, 3) := by decide +kernel
theorem dX2_worthFor_23 : decode cX2_worthFor 23 = .ok (.istore 5, 2) := by decide +kernel
theorem dX2_worthFor_25 : decode cX2_worthFor 25 = .ok (.iload 4, 2) := by decide +kernel
theorem dX2_worthFor_27 : decode cX2_worthFor 27 = .ok (.bipush 99, 2) := by decide +kernel
theorem dX2_worthFor_29 : decode cX2_worthFor 29 = .ok (.if_icmp .eq 45, 3) := by decide +kernel
theorem dX2_worthFor_32 : decode cX2_worthFor 32 = .ok (.iload 5, 2) := by decide +kernel
theorem dX2_worthFor_34 : decode cX2_worthFor 34 = .ok (.ifCond .lt 40, 3) := by decide +kernel
theorem dX2_worthFor_37 : decode cX2_worthFor 37 = .ok (.iload 5, 2) := by decide +kernel
theorem dX2_worthFor_39 : decode cX2_worthFor 39 = .ok (.getstatic 61, 3) := by decide +kernel
theorem dX2_worthFor_42 : decode cX2_worthFor 42 = .ok (.arraylength, 1) := by decide +kernel
theorem dX2_worthFor_43 : decode cX2_worthFor 43 = .ok (.if_icmp .ge 31, 3) := by decide +kernel
theorem dX2_worthFor_46 : decode cX2_worthFor 46 = .ok (.iload_n 2, 1) := by decide +kernel
theorem dX2_worthFor_47 : decode cX2_worthFor 47 = .ok (.iload 4, 2) := by decide +kernel
theorem dX2_worthFor_49 : decode cX2_worthFor 49 = .ok (.invokestatic 52, 3) := by decide +kernel
theorem dX2_worthFor_52 : decode cX2_worthFor 52 = .ok (.iload_n 1, 1) := by decide +kernel
theorem dX2_worthFor_53 : decode cX2_worthFor 53 = .ok (.if_icmp .ne 12, 3) := by decide +kernel
theorem dX2_worthFor_56 : decode cX2_worthFor 56 = .ok (.getstatic 61, 3) := by decide +kernel
theorem dX2_worthFor_59 : decode cX2_worthFor 59 = .ok (.iload 5, 2) := by decide +kernel
theorem dX2_worthFor_61 : decode cX2_worthFor 61 = .ok (.iaload, 1) := by decide +kernel
theorem dX2_worthFor_62 : decode cX2_worthFor 62 = .ok (.goto 10, 3) := by decide +kernel
theorem dX2_worthFor_65 : decode cX2_worthFor 65 = .ok (.getstatic 61, 3) := by decide +kernel
theorem dX2_worthFor_68 : decode cX2_worthFor 68 = .ok (.iload 5, 2) := by decide +kernel
theorem dX2_worthFor_70 : decode cX2_worthFor 70 = .ok (.iaload, 1) := by decide +kernel
theorem dX2_worthFor_71 : decode cX2_worthFor 71 = .ok (.ineg, 1) := by decide +kernel
theorem dX2_worthFor_72 : decode cX2_worthFor 72 = .ok (.iadd, 1) := by decide +kernel
theorem dX2_worthFor_73 : decode cX2_worthFor 73 = .ok (.istore_n 2, 1) := by decide +kernel
theorem dX2_worthFor_74 : decode cX2_worthFor 74 = .ok (.iinc 3 1, 3) := by decide +kernel
theorem dX2_worthFor_77 : decode cX2_worthFor 77 = .ok (.goto (-73), 3) := by decide +kernel
theorem dX2_worthFor_80 : decode cX2_worthFor 80 = .ok (.iconst 1, 1) := by decide +kernel
theorem dX2_worthFor_81 : decode cX2_worthFor 81 = .ok (.istore_n 3, 1) := by decide +kernel
theorem dX2_worthFor_82 : decode cX2_worthFor 82 = .ok (.iload_n 3, 1) := by decide +kernel
theorem dX2_worthFor_83 : decode cX2_worthFor 83 = .ok (.iconst 5, 1) := by decide +kernel
theorem dX2_worthFor_84 : decode cX2_worthFor 84 = .ok (.if_icmp .gt 43, 3) := by decide +kernel
theorem dX2_worthFor_87 : decode cX2_worthFor 87 = .ok (.iload_n 3, 1) := by decide +kernel
theorem dX2_worthFor_88 : decode cX2_worthFor 88 = .ok (.getstatic 61, 3) := by decide +kernel
theorem dX2_worthFor_91 : decode cX2_worthFor 91 = .ok (.arraylength, 1) := by decide +kernel
theorem dX2_worthFor_92 : decode cX2_worthFor 92 = .ok (.if_icmp .ge 35, 3) := by decide +kernel
theorem dX2_worthFor_95 : decode cX2_worthFor 95 = .ok (.iload_n 2, 1) := by decide +kernel
theorem dX2_worthFor_96 : decode cX2_worthFor 96 = .ok (.aload_n 0, 1) := by decide +kernel
theorem dX2_worthFor_97 : decode cX2_worthFor 97 = .ok (.iload_n 1, 1) := by decide +kernel
theorem dX2_worthFor_98 : decode cX2_worthFor 98 = .ok (.iload_n 3, 1) := by decide +kernel
theorem dX2_worthFor_99 : decode cX2_worthFor 99 = .ok (.invokevirtual 58, 3) := by decide +kernel
theorem dX2_worthFor_102 : decode cX2_worthFor 102 = .ok (.aload_n 0, 1) := by decide +kernel
theorem dX2_worthFor_103 : decode cX2_worthFor 103 = .ok (.iconst 1, 1) := by decide +kernel
theorem dX2_worthFor_104 : decode cX2_worthFor 104 = .ok (.iload_n 1, 1) := by decide +kernel
theorem dX2_worthFor_105 : decode cX2_worthFor 105 = .ok (.isub, 1) := by decide +kernel
theorem dX2_worthFor_106 : decode cX2_worthFor 106 = .ok (.iload_n 3, 1) := by decide +kernel
theorem dX2_worthFor_107 : decode cX2_worthFor 107 = .ok (.invokevirtual 58, 3) := by decide +kernel
theorem dX2_worthFor_110 : decode cX2_worthFor 110 = .ok (.isub, 1) := by decide +kernel
theorem dX2_worthFor_111 : decode cX2_worthFor 111 = .ok (.getstatic 61, 3) := by decide +kernel
theorem dX2_worthFor_114 : decode cX2_worthFor 114 = .ok (.iload_n 3, 1) := by decide +kernel
theorem dX2_worthFor_115 : decode cX2_worthFor 115 = .ok (.iaload, 1) := by decide +kernel
theorem dX2_worthFor_116 : decode cX2_worthFor 116 = .ok (.iconst 1, 1) := by decide +kernel
theorem dX2_worthFor_117 : decode cX2_worthFor 117 = .ok (.iadd, 1) := by decide +kernel
theorem dX2_worthFor_118 : decode cX2_worthFor 118 = .ok (.imul, 1) := by decide +kernel
theorem dX2_worthFor_119 : decode cX2_worthFor 119 = .ok (.iadd, 1) := by decide +kernel
theorem dX2_worthFor_120 : decode cX2_worthFor 120 = .ok (.istore_n 2, 1) := by decide +kernel
theorem dX2_worthFor_121 : decode cX2_worthFor 121 = .ok (.iinc 3 1, 3) := by decide +kernel
theorem dX2_worthFor_124 : decode cX2_worthFor 124 = .ok (.goto (-42), 3) := by decide +kernel
theorem dX2_worthFor_127 : decode cX2_worthFor 127 = .ok (.iload_n 2, 1) := by decide +kernel
theorem dX2_worthFor_128 : decode cX2_worthFor 128 = .ok (.ireturn, 1) := by decide +kernel
set_option maxRecDepth 20000 in
theorem ggX2_attackedFrom_X2_manOn : GoodIn wsX2_attackedFrom wsX2_manOn := goodIn_r _ [7, 2, 8, 9] (by decide +kernel) (by decide +kernel)
set_option maxRecDepth 20000 in
theorem gX2_attackedFrom_X2_manOn : GoodIn wsX2_attackedFrom (wsV RX2 64 RX2 yX2_manOn wsX2_manOn) := goodIn_app (goodIn_of _ (by decide +kernel)) ggX2_attackedFrom_X2_manOn
theorem dX2_attackedFrom_0 : decode cX2_attackedFrom 0 = .ok (.aload_n 0, 1) := by decide +kernel
theorem dX2_attackedFrom_1 : decode cX2_attackedFrom 1 = .ok (.iload_n 1, 1) := by decide +kernel
theorem dX2_attackedFrom_2 : decode cX2_attackedFrom 2 = .ok (.invokevirtual 64, 3) := by decide +kernel
theorem dX2_attackedFrom_5 : decode cX2_attackedFrom 5 = .ok (.istore_n 2, 1) := by decide +kernel
theorem dX2_attackedFrom_6 : decode cX2_attackedFrom 6 = .ok (.iload_n 2, 1) := by decide +kernel
theorem dX2_attackedFrom_7 : decode cX2_attackedFrom 7 = .ok (.ifCond .lt 19, 3) := by decide +kernel
theorem dX2_attackedFrom_10 : decode cX2_attackedFrom 10 = .ok (.iload_n 2, 1) := by decide +kernel
theorem dX2_attackedFrom_11 : decode cX2_attackedFrom 11 = .ok (.getstatic 67, 3) := by decide +kernel
theorem dX2_attackedFrom_14 : decode cX2_attackedFrom 14 = .ok (.arraylength, 1) := by decide +kernel
theorem dX2_attackedFrom_15 : decode cX2_attackedFrom 15 = .ok (.if_icmp .ge 11, 3) := by decide +kernel
theorem dX2_attackedFrom_18 : decode cX2_attackedFrom 18 = .ok (.iload_n 2, 1) := by decide +kernel
theorem dX2_attackedFrom_19 : decode cX2_attackedFrom 19 = .ok (.getstatic 70, 3) := by decide +kernel
theorem dX2_attackedFrom_22 : decode cX2_attackedFrom 22 = .ok (.arraylength, 1) := by decide +kernel
theorem dX2_attackedFrom_23 : decode cX2_attackedFrom 23 = .ok (.if_icmp .lt 5, 3) := by decide +kernel
theorem dX2_attackedFrom_26 : decode cX2_attackedFrom 26 = .ok (.iconst 0, 1) := by decide +kernel
theorem dX2_attackedFrom_27 : decode cX2_attackedFrom 27 = .ok (.ireturn, 1) := by decide +kernel
theorem dX2_attackedFrom_28 : decode cX2_attackedFrom 28 = .ok (.iconst 0, 1) := by decide +kernel
theorem dX2_attackedFrom_29 : decode cX2_attackedFrom 29 = .ok (.istore_n 3, 1) := by decide +kernel
theorem dX2_attackedFrom_30 : decode cX2_attackedFrom 30 = .ok (.iconst 0, 1) := by decide +kernel
theorem dX2_attackedFrom_31 : decode cX2_attackedFrom 31 = .ok (.istore 4, 2) := by decide +kernel
theorem dX2_attackedFrom_33 : decode cX2_attackedFrom 33 = .ok (.iload 4, 2) := by decide +kernel
theorem dX2_attackedFrom_35 : decode cX2_attackedFrom 35 = .ok (.bipush 8, 2) := by decide +kernel
theorem dX2_attackedFrom_37 : decode cX2_attackedFrom 37 = .ok (.if_icmp .ge 132, 3) := by decide +kernel
theorem dX2_attackedFrom_40 : decode cX2_attackedFrom 40 = .ok (.iload_n 1, 1) := by decide +kernel
theorem dX2_attackedFrom_41 : decode cX2_attackedFrom 41 = .ok (.istore 5, 2) := by decide +kernel
theorem dX2_attackedFrom_43 : decode cX2_attackedFrom 43 = .ok (.iconst 1, 1) := by decide +kernel
theorem dX2_attackedFrom_44 : decode cX2_attackedFrom 44 = .ok (.istore 6, 2) := by decide +kernel
theorem dX2_attackedFrom_46 : decode cX2_attackedFrom 46 = .ok (.iload 6, 2) := by decide +kernel
theorem dX2_attackedFrom_48 : decode cX2_attackedFrom 48 = .ok (.iconst 5, 1) := by decide +kernel
theorem dX2_attackedFrom_49 : decode cX2_attackedFrom 49 = .ok (.if_icmp .ge 114, 3) := by decide +kernel
theorem dX2_attackedFrom_52 : decode cX2_attackedFrom 52 = .ok (.iload 6, 2) := by decide +kernel
theorem dX2_attackedFrom_54 : decode cX2_attackedFrom 54 = .ok (.iconst 1, 1) := by decide +kernel
theorem dX2_attackedFrom_55 : decode cX2_attackedFrom 55 = .ok (.if_icmp .ne 11, 3) := by decide +kernel
theorem dX2_attackedFrom_58 : decode cX2_attackedFrom 58 = .ok (.getstatic 67, 3) := by decide +kernel
theorem dX2_attackedFrom_61 : decode cX2_attackedFrom 61 = .ok (.iload_n 2, 1) := by decide +kernel
theorem dX2_attackedFrom_62 : decode cX2_attackedFrom 62 = .ok (.iaload, 1) := by decide +kernel
theorem dX2_attackedFrom_63 : decode cX2_attackedFrom 63 = .ok (.goto 8, 3) := by decide +kernel
theorem dX2_attackedFrom_66 : decode cX2_attackedFrom 66 = .ok (.getstatic 70, 3) := by decide +kernel
theorem dX2_attackedFrom_69 : decode cX2_attackedFrom 69 = .ok (.iload_n 2, 1) := by decide +kernel
theorem dX2_attackedFrom_70 : decode cX2_attackedFrom 70 = .ok (.iaload, 1) := by decide +kernel
theorem dX2_attackedFrom_71 : decode cX2_attackedFrom 71 = .ok (.istore 7, 2) := by decide +kernel
theorem dX2_attackedFrom_73 : decode cX2_attackedFrom 73 = .ok (.iload 5, 2) := by decide +kernel
theorem dX2_attackedFrom_75 : decode cX2_attackedFrom 75 = .ok (.bipush 8, 2) := by decide +kernel
theorem dX2_attackedFrom_77 : decode cX2_attackedFrom 77 = .ok (.imul, 1) := by decide +kernel
theorem dX2_attackedFrom_78 : decode cX2_attackedFrom 78 = .ok (.iload 4, 2) := by decide +kernel
theorem dX2_attackedFrom_80 : decode cX2_attackedFrom 80 = .ok (.iadd, 1) := by decide +kernel
theorem dX2_attackedFrom_81 : decode cX2_attackedFrom 81 = .ok (.istore 8, 2) := by decide +kernel
theorem dX2_attackedFrom_83 : decode cX2_attackedFrom 83 = .ok (.iload 7, 2) := by decide +kernel
theorem dX2_attackedFrom_85 : decode cX2_attackedFrom 85 = .ok (.iload 4, 2) := by decide +kernel
theorem dX2_attackedFrom_87 : decode cX2_attackedFrom 87 = .ok (.ishr, 1) := by decide +kernel
theorem dX2_attackedFrom_88 : decode cX2_attackedFrom 88 = .ok (.iconst 1, 1) := by decide +kernel
theorem dX2_attackedFrom_89 : decode cX2_attackedFrom 89 = .ok (.iand, 1) := by decide +kernel
theorem dX2_attackedFrom_90 : decode cX2_attackedFrom 90 = .ok (.ifCond .eq 73, 3) := by decide +kernel
theorem dX2_attackedFrom_93 : decode cX2_attackedFrom 93 = .ok (.iload 8, 2) := by decide +kernel
theorem dX2_attackedFrom_95 : decode cX2_attackedFrom 95 = .ok (.ifCond .lt 68, 3) := by decide +kernel
theorem dX2_attackedFrom_98 : decode cX2_attackedFrom 98 = .ok (.iload 8, 2) := by decide +kernel
theorem dX2_attackedFrom_100 : decode cX2_attackedFrom 100 = .ok (.aload_n 0, 1) := by decide +kernel
theorem dX2_attackedFrom_101 : decode cX2_attackedFrom 101 = .ok (.getfield 15, 3) := by decide +kernel
theorem dX2_attackedFrom_104 : decode cX2_attackedFrom 104 = .ok (.arraylength, 1) := by decide +kernel
theorem dX2_attackedFrom_105 : decode cX2_attackedFrom 105 = .ok (.if_icmp .lt 6, 3) := by decide +kernel
theorem dX2_attackedFrom_108 : decode cX2_attackedFrom 108 = .ok (.goto 55, 3) := by decide +kernel
theorem dX2_attackedFrom_111 : decode cX2_attackedFrom 111 = .ok (.aload_n 0, 1) := by decide +kernel
theorem dX2_attackedFrom_112 : decode cX2_attackedFrom 112 = .ok (.getfield 15, 3) := by decide +kernel
theorem dX2_attackedFrom_115 : decode cX2_attackedFrom 115 = .ok (.iload 8, 2) := by decide +kernel
theorem dX2_attackedFrom_117 : decode cX2_attackedFrom 117 = .ok (.iaload, 1) := by decide +kernel
theorem dX2_attackedFrom_118 : decode cX2_attackedFrom 118 = .ok (.istore 5, 2) := by decide +kernel
theorem dX2_attackedFrom_120 : decode cX2_attackedFrom 120 = .ok (.iload 5, 2) := by decide +kernel
theorem dX2_attackedFrom_122 : decode cX2_attackedFrom 122 = .ok (.ifCond .lt 41, 3) := by decide +kernel
theorem dX2_attackedFrom_125 : decode cX2_attackedFrom 125 = .ok (.iload 5, 2) := by decide +kernel
theorem dX2_attackedFrom_127 : decode cX2_attackedFrom 127 = .ok (.bipush 25, 2) := by decide +kernel
theorem dX2_attackedFrom_129 : decode cX2_attackedFrom 129 = .ok (.if_icmp .lt 6, 3) := by decide +kernel
theorem dX2_attackedFrom_132 : decode cX2_attackedFrom 132 = .ok (.goto 31, 3) := by decide +kernel
theorem dX2_attackedFrom_135 : decode cX2_attackedFrom 135 = .ok (.iload_n 3, 1) := by decide +kernel
theorem dX2_attackedFrom_136 : decode cX2_attackedFrom 136 = .ok (.iconst 1, 1) := by decide +kernel
theorem dX2_attackedFrom_137 : decode cX2_attackedFrom 137 = .ok (.iload 5, 2) := by decide +kernel
theorem dX2_attackedFrom_139 : decode cX2_attackedFrom 139 = .ok (.ishl, 1) := by decide +kernel
theorem dX2_attackedFrom_140 : decode cX2_attackedFrom 140 = .ok (.ior, 1) := by decide +kernel
theorem dX2_attackedFrom_141 : decode cX2_attackedFrom 141 = .ok (.istore_n 3, 1) := by decide +kernel
theorem dX2_attackedFrom_142 : decode cX2_attackedFrom 142 = .ok (.aload_n 0, 1) := by decide +kernel
theorem dX2_attackedFrom_143 : decode cX2_attackedFrom 143 = .ok (.getfield 11, 3) := by decide +kernel
theorem dX2_attackedFrom_146 : decode cX2_attackedFrom 146 = .ok (.iload 5, 2) := by decide +kernel
theorem dX2_attackedFrom_148 : decode cX2_attackedFrom 148 = .ok (.iaload, 1) := by decide +kernel
theorem dX2_attackedFrom_149 : decode cX2_attackedFrom 149 = .ok (.bipush 99, 2) := by decide +kernel
theorem dX2_attackedFrom_151 : decode cX2_attackedFrom 151 = .ok (.if_icmp .eq 6, 3) := by decide +kernel
theorem dX2_attackedFrom_154 : decode cX2_attackedFrom 154 = .ok (.goto 9, 3) := by decide +kernel
theorem dX2_attackedFrom_157 : decode cX2_attackedFrom 157 = .ok (.iinc 6 1, 3) := by decide +kernel
theorem dX2_attackedFrom_160 : decode cX2_attackedFrom 160 = .ok (.goto (-114), 3) := by decide +kernel
theorem dX2_attackedFrom_163 : decode cX2_attackedFrom 163 = .ok (.iinc 4 1, 3) := by decide +kernel
theorem dX2_attackedFrom_166 : decode cX2_attackedFrom 166 = .ok (.goto (-133), 3) := by decide +kernel
theorem dX2_attackedFrom_169 : decode cX2_attackedFrom 169 = .ok (.iload_n 3, 1) := by decide +kernel
theorem dX2_attackedFrom_170 : decode cX2_attackedFrom 170 = .ok (.ireturn, 1) := by decide +kernel
theorem dX2_countAttackers_0 : decode cX2_countAttackers 0 = .ok (.iconst 0, 1) := by decide +kernel
theorem dX2_countAttackers_1 : decode cX2_countAttackers 1 = .ok (.istore_n 3, 1) := by decide +kernel
theorem dX2_countAttackers_2 : decode cX2_countAttackers 2 = .ok (.iconst 0, 1) := by decide +kernel
theorem dX2_countAttackers_3 : decode cX2_countAttackers 3 = .ok (.istore 4, 2) := by decide +kernel
theorem dX2_countAttackers_5 : decode cX2_countAttackers 5 = .ok (.iload 4, 2) := by decide +kernel
theorem dX2_countAttackers_7 : decode cX2_countAttackers 7 = .ok (.bipush 8, 2) := by decide +kernel
theorem dX2_countAttackers_9 : decode cX2_countAttackers 9 = .ok (.if_icmp .ge 170, 3) := by decide +kernel
theorem dX2_countAttackers_12 : decode cX2_countAttackers 12 = .ok (.bipush 7, 2) := by decide +kernel
theorem dX2_countAttackers_14 : decode cX2_countAttackers 14 = .ok (.iload 4, 2) := by decide +kernel
theorem dX2_countAttackers_16 : decode cX2_countAttackers 16 = .ok (.isub, 1) := by decide +kernel
theorem dX2_countAttackers_17 : decode cX2_countAttackers 17 = .ok (.istore 5, 2) := by decide +kernel
theorem dX2_countAttackers_19 : decode cX2_countAttackers 19 = .ok (.iload_n 2, 1) := by decide +kernel
theorem dX2_countAttackers_20 : decode cX2_countAttackers 20 = .ok (.istore 6, 2) := by decide +kernel
theorem dX2_countAttackers_22 : decode cX2_countAttackers 22 = .ok (.iconst 1, 1) := by decide +kernel
theorem dX2_countAttackers_23 : decode cX2_countAttackers 23 = .ok (.istore 7, 2) := by decide +kernel
theorem dX2_countAttackers_25 : decode cX2_countAttackers 25 = .ok (.iload 7, 2) := by decide +kernel
theorem dX2_countAttackers_27 : decode cX2_countAttackers 27 = .ok (.iconst 5, 1) := by decide +kernel
theorem dX2_countAttackers_28 : decode cX2_countAttackers 28 = .ok (.if_icmp .ge 145, 3) := by decide +kernel
theorem dX2_countAttackers_31 : decode cX2_countAttackers 31 = .ok (.iload 6, 2) := by decide +kernel
theorem dX2_countAttackers_33 : decode cX2_countAttackers 33 = .ok (.bipush 8, 2) := by decide +kernel
theorem dX2_countAttackers_35 : decode cX2_countAttackers 35 = .ok (.imul, 1) := by decide +kernel
theorem dX2_countAttackers_36 : decode cX2_countAttackers 36 = .ok (.iload 4, 2) := by decide +kernel
theorem dX2_countAttackers_38 : decode cX2_countAttackers 38 = .ok (.iadd, 1) := by decide +kernel
theorem dX2_countAttackers_39 : decode cX2_countAttackers 39 = .ok (.istore 8, 2) := by decide +kernel
theorem dX2_countAttackers_41 : decode cX2_countAttackers 41 = .ok (.iload 8, 2) := by decide +kernel
theorem dX2_countAttackers_43 : decode cX2_countAttackers 43 = .ok (.ifCond .lt 23, 3) := by decide +kernel
theorem dX2_countAttackers_46 : decode cX2_countAttackers 46 = .ok (.iload 8, 2) := by decide +kernel
theorem dX2_countAttackers_48 : decode cX2_countAttackers 48 = .ok (.aload_n 0, 1) := by decide +kernel
theorem dX2_countAttackers_49 : decode cX2_countAttackers 49 = .ok (.getfield 15, 3) := by decide +kernel
theorem dX2_countAttackers_52 : decode cX2_countAttackers 52 = .ok (.arraylength, 1) := by decide +kernel
theorem dX2_countAttackers_53 : decode cX2_countAttackers 53 = .ok (.if_icmp .ge 13, 3) := by decide +kernel
theorem dX2_countAttackers_56 : decode cX2_countAttackers 56 = .ok (.aload_n 0, 1) := by decide +kernel
theorem dX2_countAttackers_57 : decode cX2_countAttackers 57 = .ok (.getfield 15, 3) := by decide +kernel
theorem dX2_countAttackers_60 : decode cX2_countAttackers 60 = .ok (.iload 8, 2) := by decide +kernel
theorem dX2_countAttackers_62 : decode cX2_countAttackers 62 = .ok (.iaload, 1) := by decide +kernel
theorem dX2_countAttackers_63 : decode cX2_countAttackers 63 = .ok (.goto 4, 3) := by decide +kernel
theorem dX2_countAttackers_66 : decode cX2_countAttackers 66 = .ok (.iconst (-1), 1) := by decide +kernel
theorem dX2_countAttackers_67 : decode cX2_countAttackers 67 = .ok (.istore 6, 2) := by decide +kernel
theorem dX2_countAttackers_69 : decode cX2_countAttackers 69 = .ok (.iload 6, 2) := by decide +kernel
theorem dX2_countAttackers_71 : decode cX2_countAttackers 71 = .ok (.ifCond .lt 102, 3) := by decide +kernel
theorem dX2_countAttackers_74 : decode cX2_countAttackers 74 = .ok (.iload 6, 2) := by decide +kernel
theorem dX2_countAttackers_76 : decode cX2_countAttackers 76 = .ok (.bipush 25, 2) := by decide +kernel
theorem dX2_countAttackers_78 : decode cX2_countAttackers 78 = .ok (.if_icmp .lt 6, 3) := by decide +kernel
theorem dX2_countAttackers_81 : decode cX2_countAttackers 81 = .ok (.goto 92, 3) := by decide +kernel
theorem dX2_countAttackers_84 : decode cX2_countAttackers 84 = .ok (.aload_n 0, 1) := by decide +kernel
theorem dX2_countAttackers_85 : decode cX2_countAttackers 85 = .ok (.getfield 11, 3) := by decide +kernel
theorem dX2_countAttackers_88 : decode cX2_countAttackers 88 = .ok (.iload 6, 2) := by decide +kernel
theorem dX2_countAttackers_90 : decode cX2_countAttackers 90 = .ok (.iaload, 1) := by decide +kernel
theorem dX2_countAttackers_91 : decode cX2_countAttackers 91 = .ok (.istore 9, 2) := by decide +kernel
theorem dX2_countAttackers_93 : decode cX2_countAttackers 93 = .ok (.iload 9, 2) := by decide +kernel
theorem dX2_countAttackers_95 : decode cX2_countAttackers 95 = .ok (.ifCond .lt 72, 3) := by decide +kernel
theorem dX2_countAttackers_98 : decode cX2_countAttackers 98 = .ok (.iload 9, 2) := by decide +kernel
theorem dX2_countAttackers_100 : decode cX2_countAttackers 100 = .ok (.getstatic 67, 3) := by decide +kernel
theorem dX2_countAttackers_103 : decode cX2_countAttackers 103 = .ok (.arraylength, 1) := by decide +kernel
theorem dX2_countAttackers_104 : decode cX2_countAttackers 104 = .ok (.if_icmp .ge 63, 3) := by decide +kernel
theorem dX2_countAttackers_107 : decode cX2_countAttackers 107 = .ok (.iload 9, 2) := by decide +kernel
theorem dX2_countAttackers_109 : decode cX2_countAttackers 109 = .ok (.getstatic 70, 3) := by decide +kernel
theorem dX2_countAttackers_112 : decode cX2_countAttackers 112 = .ok (.arraylength, 1) := by decide +kernel
theorem dX2_countAttackers_113 : decode cX2_countAttackers 113 = .ok (.if_icmp .lt 6, 3) := by decide +kernel
theorem dX2_countAttackers_116 : decode cX2_countAttackers 116 = .ok (.goto 51, 3) := by decide +kernel
theorem dX2_countAttackers_119 : decode cX2_countAttackers 119 = .ok (.iload 7, 2) := by decide +kernel
theorem dX2_countAttackers_121 : decode cX2_countAttackers 121 = .ok (.iconst 1, 1) := by decide +kernel
theorem dX2_countAttackers_122 : decode cX2_countAttackers 122 = .ok (.if_icmp .ne 12, 3) := by decide +kernel
theorem dX2_countAttackers_125 : decode cX2_countAttackers 125 = .ok (.getstatic 67, 3) := by decide +kernel
theorem dX2_countAttackers_128 : decode cX2_countAttackers 128 = .ok (.iload 9, 2) := by decide +kernel
theorem dX2_countAttackers_130 : decode cX2_countAttackers 130 = .ok (.iaload, 1) := by decide +kernel
theorem dX2_countAttackers_131 : decode cX2_countAttackers 131 = .ok (.goto 9, 3) := by decide +kernel
theorem dX2_countAttackers_134 : decode cX2_countAttackers 134 = .ok (.getstatic 70, 3) := by decide +kernel
theorem dX2_countAttackers_137 : decode cX2_countAttackers 137 = .ok (.iload 9, 2) := by decide +kernel
theorem dX2_countAttackers_139 : decode cX2_countAttackers 139 = .ok (.iaload, 1) := by decide +kernel
theorem dX2_countAttackers_140 : decode cX2_countAttackers 140 = .ok (.istore 10, 2) := by decide +kernel
theorem dX2_countAttackers_142 : decode cX2_countAttackers 142 = .ok (.iload 9, 2) := by decide +kernel
theorem dX2_countAttackers_144 : decode cX2_countAttackers 144 = .ok (.bipush 10, 2) := by decide +kernel
theorem dX2_countAttackers_146 : decode cX2_countAttackers 146 = .ok (.idiv, 1) := by decide +kernel
theorem dX2_countAttackers_147 : decode cX2_countAttackers 147 = .ok (.iload_n 1, 1) := by decide +kernel
theorem dX2_countAttackers_148 : decode cX2_countAttackers 148 = .ok (.if_icmp .ne 25, 3) := by decide +kernel
theorem dX2_countAttackers_151 : decode cX2_countAttackers 151 = .ok (.iload 10, 2) := by decide +kernel
theorem dX2_countAttackers_153 : decode cX2_countAttackers 153 = .ok (.iload 5, 2) := by decide +kernel
theorem dX2_countAttackers_155 : decode cX2_countAttackers 155 = .ok (.ishr, 1) := by decide +kernel
theorem dX2_countAttackers_156 : decode cX2_countAttackers 156 = .ok (.iconst 1, 1) := by decide +kernel
theorem dX2_countAttackers_157 : decode cX2_countAttackers 157 = .ok (.iand, 1) := by decide +kernel
theorem dX2_countAttackers_158 : decode cX2_countAttackers 158 = .ok (.ifCond .eq 15, 3) := by decide +kernel
theorem dX2_countAttackers_161 : decode cX2_countAttackers 161 = .ok (.iinc 3 1, 3) := by decide +kernel
theorem dX2_countAttackers_164 : decode cX2_countAttackers 164 = .ok (.goto 9, 3) := by decide +kernel
theorem dX2_countAttackers_167 : decode cX2_countAttackers 167 = .ok (.iinc 7 1, 3) := by decide +kernel
theorem dX2_countAttackers_170 : decode cX2_countAttackers 170 = .ok (.goto (-145), 3) := by decide +kernel
theorem dX2_countAttackers_173 : decode cX2_countAttackers 173 = .ok (.iinc 4 1, 3) := by decide +kernel
theorem dX2_countAttackers_176 : decode cX2_countAttackers 176 = .ok (.goto (-171), 3) := by decide +kernel
theorem dX2_countAttackers_179 : decode cX2_countAttackers 179 = .ok (.iload_n 3, 1) := by decide +kernel
theorem dX2_countAttackers_180 : decode cX2_countAttackers 180 = .ok (.ireturn, 1) := by decide +kernel
set_option maxRecDepth 20000 in
theorem ggX2_play_X2_apply : GoodIn wsX2_play wsX2_apply := goodIn_r _ [6, 7, 8, 9, 5, 10, 1, 11, 12, 13, 14, 15, 16, 17, 18, 19, 20, 21, 22, 23, 24, 25, 26, 27, 28, 29, 30, 31, 32, 33, 34, 35, 36, 37, 38, 39, 40, 41, 42, 43, 44, 45, 46, 47, 48, 49, 50, 51] (by decide +kernel) (by decide +kernel)
set_option maxRecDepth 20000 in
theorem gX2_play_X2_apply : GoodIn wsX2_play (wsV RX2 73 RX2 yX2_apply wsX2_apply) := goodIn_app (goodIn_of _ (by decide +kernel)) ggX2_play_X2_apply
theorem dX2_play_0 : decode cX2_play 0 = .ok (.aload_n 0, 1) := by decide +kernel
theorem dX2_play_1 : decode cX2_play 1 = .ok (.iload_n 1, 1) := by decide +kernel
theorem dX2_play_2 : decode cX2_play 2 = .ok (.invokevirtual 73, 3) := by decide +kernel
theorem dX2_play_5 : decode cX2_play 5 = .ok (.istore_n 2, 1) := by decide +kernel
theorem dX2_play_6 : decode cX2_play 6 = .ok (.aload_n 0, 1) := by decide +kernel
theorem dX2_play_7 : decode cX2_play 7 = .ok (.getfield 11, 3) := by decide +kernel
theorem dX2_play_10 : decode cX2_play 10 = .ok (.bipush 40, 2) := by decide +kernel
theorem dX2_play_12 : decode cX2_play 12 = .ok (.dup2, 1) := by decide +kernel
theorem dX2_play_13 : decode cX2_play 13 = .ok (.iaload, 1) := by decide +kernel
theorem dX2_play_14 : decode cX2_play 14 = .ok (.iconst 1, 1) := by decide +kernel
theorem dX2_play_15 : decode cX2_play 15 = .ok (.iadd, 1) := by decide +kernel
theorem dX2_play_16 : decode cX2_play 16 = .ok (.iastore, 1) := by decide +kernel
theorem dX2_play_17 : decode cX2_play 17 = .ok (.iload_n 2, 1) := by decide +kernel
theorem dX2_play_18 : decode cX2_play 18 = .ok (.bipush 99, 2) := by decide +kernel
theorem dX2_play_20 : decode cX2_play 20 = .ok (.if_icmp .eq 14, 3) := by decide +kernel
theorem dX2_play_23 : decode cX2_play 23 = .ok (.aload_n 0, 1) := by decide +kernel
theorem dX2_play_24 : decode cX2_play 24 = .ok (.getfield 11, 3) := by decide +kernel
theorem dX2_play_27 : decode cX2_play 27 = .ok (.bipush 41, 2) := by decide +kernel
theorem dX2_play_29 : decode cX2_play 29 = .ok (.dup2, 1) := by decide +kernel
theorem dX2_play_30 : decode cX2_play 30 = .ok (.iaload, 1) := by decide +kernel
theorem dX2_play_31 : decode cX2_play 31 = .ok (.iconst 1, 1) := by decide +kernel
theorem dX2_play_32 : decode cX2_play 32 = .ok (.iadd, 1) := by decide +kernel
theorem dX2_play_33 : decode cX2_play 33 = .ok (.iastore, 1) := by decide +kernel
theorem dX2_play_34 : decode cX2_play 34 = .ok (.iload_n 1, 1) := by decide +kernel
theorem dX2_play_35 : decode cX2_play 35 = .ok (.sipush 20000, 3) := by decide +kernel
theorem dX2_play_38 : decode cX2_play 38 = .ok (.if_icmp .lt 17, 3) := by decide +kernel
theorem dX2_play_41 : decode cX2_play 41 = .ok (.aload_n 0, 1) := by decide +kernel
theorem dX2_play_42 : decode cX2_play 42 = .ok (.getfield 11, 3) := by decide +kernel
theorem dX2_play_45 : decode cX2_play 45 = .ok (.bipush 43, 2) := by decide +kernel
theorem dX2_play_47 : decode cX2_play 47 = .ok (.dup2, 1) := by decide +kernel
theorem dX2_play_48 : decode cX2_play 48 = .ok (.iaload, 1) := by decide +kernel
theorem dX2_play_49 : decode cX2_play 49 = .ok (.iconst 1, 1) := by decide +kernel
theorem dX2_play_50 : decode cX2_play 50 = .ok (.iadd, 1) := by decide +kernel
theorem dX2_play_51 : decode cX2_play 51 = .ok (.iastore, 1) := by decide +kernel
theorem dX2_play_52 : decode cX2_play 52 = .ok (.goto 21, 3) := by decide +kernel
theorem dX2_play_55 : decode cX2_play 55 = .ok (.iload_n 1, 1) := by decide +kernel
theorem dX2_play_56 : decode cX2_play 56 = .ok (.sipush 10000, 3) := by decide +kernel
theorem dX2_play_59 : decode cX2_play 59 = .ok (.if_icmp .lt 14, 3) := by decide +kernel
theorem dX2_play_62 : decode cX2_play 62 = .ok (.aload_n 0, 1) := by decide +kernel
theorem dX2_play_63 : decode cX2_play 63 = .ok (.getfield 11, 3) := by decide +kernel
theorem dX2_play_66 : decode cX2_play 66 = .ok (.bipush 42, 2) := by decide +kernel
theorem dX2_play_68 : decode cX2_play 68 = .ok (.dup2, 1) := by decide +kernel
theorem dX2_play_69 : decode cX2_play 69 = .ok (.iaload, 1) := by decide +kernel
theorem dX2_play_70 : decode cX2_play 70 = .ok (.iconst 1, 1) := by decide +kernel
theorem dX2_play_71 : decode cX2_play 71 = .ok (.iadd, 1) := by decide +kernel
theorem dX2_play_72 : decode cX2_play 72 = .ok (.iastore, 1) := by decide +kernel
theorem dX2_play_73 : decode cX2_play 73 = .ok (.iload_n 2, 1) := by decide +kernel
theorem dX2_play_74 : decode cX2_play 74 = .ok (.ireturn, 1) := by decide +kernel
set_option maxRecDepth 20000 in
theorem ggX2_apply_X2_sideToPlay : GoodIn wsX2_apply wsX2_sideToPlay := goodIn_r _ [5, 6, 46, 47] (by decide +kernel) (by decide +kernel)
set_option maxRecDepth 20000 in
theorem gX2_apply_X2_sideToPlay : GoodIn wsX2_apply (wsV RX2 76 RX2 yX2_sideToPlay wsX2_sideToPlay) := goodIn_app (goodIn_of _ (by decide +kernel)) ggX2_apply_X2_sideToPlay
set_option maxRecDepth 20000 in
theorem ggX2_apply_X2_setSideToPlay : GoodIn wsX2_apply wsX2_setSideToPlay := goodIn_r _ [10, 6, 46, 47] (by decide +kernel) (by decide +kernel)
set_option maxRecDepth 20000 in
theorem gX2_apply_X2_setSideToPlay : GoodIn wsX2_apply (wsV RX2 80 RX2 yX2_setSideToPlay wsX2_setSideToPlay) := goodIn_app (goodIn_of _ (by decide +kernel)) ggX2_apply_X2_setSideToPlay
set_option maxRecDepth 20000 in
theorem ggX2_apply_X2_inHand : GoodIn wsX2_apply wsX2_inHand := goodIn_r _ [14, 6, 15, 16, 17, 18, 19, 46, 47] (by decide +kernel) (by decide +kernel)
set_option maxRecDepth 20000 in
theorem gX2_apply_X2_inHand : GoodIn wsX2_apply (wsV RX2 58 RX2 yX2_inHand wsX2_inHand) := goodIn_app (goodIn_of _ (by decide +kernel)) ggX2_apply_X2_inHand
set_option maxRecDepth 20000 in
theorem ggX2_apply_X2_setInHand : GoodIn wsX2_apply wsX2_setInHand := goodIn_r _ [23, 6, 15, 16, 17, 18, 19, 46, 47] (by decide +kernel) (by decide +kernel)
set_option maxRecDepth 20000 in
theorem gX2_apply_X2_setInHand : GoodIn wsX2_apply (wsV RX2 84 RX2 yX2_setInHand wsX2_setInHand) := goodIn_app (goodIn_of _ (by decide +kernel)) ggX2_apply_X2_setInHand
set_option maxRecDepth 20000 in
theorem ggX2_apply_X4_manOf : GoodIn wsX2_apply wsX4_manOf := goodIn_r _ [25] (by decide +kernel) (by decide +kernel)
set_option maxRecDepth 20000 in
theorem gX2_apply_X4_manOf_n88 : GoodIn wsX2_apply (wsX4_manOf) := ggX2_apply_X4_manOf
set_option maxRecDepth 20000 in
theorem ggX2_apply_X2_place : GoodIn wsX2_apply wsX2_place := goodIn_r _ [29, 6, 30, 16, 31, 32, 33, 34, 35, 36, 37, 46, 47] (by decide +kernel) (by decide +kernel)
set_option maxRecDepth 20000 in
theorem gX2_apply_X2_place : GoodIn wsX2_apply (wsV RX2 28 RX2 yX2_place wsX2_place) := goodIn_app (goodIn_of _ (by decide +kernel)) ggX2_apply_X2_place
set_option maxRecDepth 20000 in
theorem ggX2_apply_X2_manOn : GoodIn wsX2_apply wsX2_manOn := goodIn_r _ [41, 6, 46, 47] (by decide +kernel) (by decide +kernel)
set_option maxRecDepth 20000 in
theorem gX2_apply_X2_manOn : GoodIn wsX2_apply (wsV RX2 64 RX2 yX2_manOn wsX2_manOn) := goodIn_app (goodIn_of _ (by decide +kernel)) ggX2_apply_X2_manOn
set_option maxRecDepth 20000 in
theorem ggX2_apply_X2_changeHandForTaken : GoodIn wsX2_apply wsX2_changeHandForTaken := goodIn_r _ [45, 34, 16, 35, 11, 12, 13, 4, 14, 6, 15, 17, 18, 19, 20, 21, 22, 23, 46, 47] (by decide +kernel) (by decide +kernel)
set_option maxRecDepth 20000 in
theorem gX2_apply_X2_changeHandForTaken : GoodIn wsX2_apply (wsV RX2 91 RX2 yX2_changeHandForTaken wsX2_changeHandForTaken) := goodIn_app (goodIn_of _ (by decide +kernel)) ggX2_apply_X2_changeHandForTaken
theorem dX2_apply_0 : decode cX2_apply 0 = .ok (.aload_n 0, 1) := by decide +kernel
theorem dX2_apply_1 : decode cX2_apply 1 = .ok (.invokevirtual 76, 3) := by decide +kernel
theorem dX2_apply_4 : decode cX2_apply 4 = .ok (.istore_n 2, 1) := by decide +kernel
theorem dX2_apply_5 : decode cX2_apply 5 = .ok (.iload_n 1, 1) := by decide +kernel
theorem dX2_apply_6 : decode cX2_apply 6 = .ok (.bipush 100, 2) := by decide +kernel
theorem dX2_apply_8 : decode cX2_apply 8 = .ok (.irem, 1) := by decide +kernel
theorem dX2_apply_9 : decode cX2_apply 9 = .ok (.istore_n 3, 1) := by decide +kernel
theorem dX2_apply_10 : decode cX2_apply 10 = .ok (.aload_n 0, 1) := by decide +kernel
theorem dX2_apply_11 : decode cX2_apply 11 = .ok (.iconst 1, 1) := by decide +kernel
theorem dX2_apply_12 : decode cX2_apply 12 = .ok (.iload_n 2, 1) := by decide +kernel
theorem dX2_apply_13 : decode cX2_apply 13 = .ok (.isub, 1) := by decide +kernel
theorem dX2_apply_14 : decode cX2_apply 14 = .ok (.invokevirtual 80, 3) := by decide +kernel
theorem dX2_apply_17 : decode cX2_apply 17 = .ok (.iload_n 1, 1) := by decide +kernel
theorem dX2_apply_18 : decode cX2_apply 18 = .ok (.sipush 20000, 3) := by decide +kernel
theorem dX2_apply_21 : decode cX2_apply 21 = .ok (.if_icmp .lt 43, 3) := by decide +kernel
theorem dX2_apply_24 : decode cX2_apply 24 = .ok (.iload_n 1, 1) := by decide +kernel
theorem dX2_apply_25 : decode cX2_apply 25 = .ok (.sipush 20000, 3) := by decide +kernel
theorem dX2_apply_28 : decode cX2_apply 28 = .ok (.isub, 1) := by decide +kernel
theorem dX2_apply_29 : decode cX2_apply 29 = .ok (.bipush 100, 2) := by decide +kernel
theorem dX2_apply_31 : decode cX2_apply 31 = .ok (.idiv, 1) := by decide +kernel
theorem dX2_apply_32 : decode cX2_apply 32 = .ok (.istore 4, 2) := by decide +kernel
theorem dX2_apply_34 : decode cX2_apply 34 = .ok (.aload_n 0, 1) := by decide +kernel
theorem dX2_apply_35 : decode cX2_apply 35 = .ok (.iload_n 2, 1) := by decide +kernel
theorem dX2_apply_36 : decode cX2_apply 36 = .ok (.iload 4, 2) := by decide +kernel
theorem dX2_apply_38 : decode cX2_apply 38 = .ok (.aload_n 0, 1) := by decide +kernel
theorem dX2_apply_39 : decode cX2_apply 39 = .ok (.iload_n 2, 1) := by decide +kernel
theorem dX2_apply_40 : decode cX2_apply 40 = .ok (.iload 4, 2) := by decide +kernel
theorem dX2_apply_42 : decode cX2_apply 42 = .ok (.invokevirtual 58, 3) := by decide +kernel
theorem dX2_apply_45 : decode cX2_apply 45 = .ok (.iconst 1, 1) := by decide +kernel
theorem dX2_apply_46 : decode cX2_apply 46 = .ok (.isub, 1) := by decide +kernel
theorem dX2_apply_47 : decode cX2_apply 47 = .ok (.invokevirtual 84, 3) := by decide +kernel
theorem dX2_apply_50 : decode cX2_apply 50 = .ok (.aload_n 0, 1) := by decide +kernel
theorem dX2_apply_51 : decode cX2_apply 51 = .ok (.iload_n 3, 1) := by decide +kernel
theorem dX2_apply_52 : decode cX2_apply 52 = .ok (.iload_n 2, 1) := by decide +kernel
theorem dX2_apply_53 : decode cX2_apply 53 = .ok (.iload 4, 2) := by decide +kernel
theorem dX2_apply_55 : decode cX2_apply 55 = .ok (.invokestatic 88, 3) := by decide +kernel
theorem dX2_apply_58 : decode cX2_apply 58 = .ok (.invokevirtual 28, 3) := by decide +kernel
theorem dX2_apply_61 : decode cX2_apply 61 = .ok (.bipush 99, 2) := by decide +kernel
theorem dX2_apply_63 : decode cX2_apply 63 = .ok (.ireturn, 1) := by decide +kernel
theorem dX2_apply_64 : decode cX2_apply 64 = .ok (.iload_n 1, 1) := by decide +kernel
theorem dX2_apply_65 : decode cX2_apply 65 = .ok (.sipush 10000, 3) := by decide +kernel
theorem dX2_apply_68 : decode cX2_apply 68 = .ok (.irem, 1) := by decide +kernel
theorem dX2_apply_69 : decode cX2_apply 69 = .ok (.bipush 100, 2) := by decide +kernel
theorem dX2_apply_71 : decode cX2_apply 71 = .ok (.idiv, 1) := by decide +kernel
theorem dX2_apply_72 : decode cX2_apply 72 = .ok (.istore 4, 2) := by decide +kernel
theorem dX2_apply_74 : decode cX2_apply 74 = .ok (.aload_n 0, 1) := by decide +kernel
theorem dX2_apply_75 : decode cX2_apply 75 = .ok (.iload 4, 2) := by decide +kernel
theorem dX2_apply_77 : decode cX2_apply 77 = .ok (.invokevirtual 64, 3) := by decide +kernel
theorem dX2_apply_80 : decode cX2_apply 80 = .ok (.istore 5, 2) := by decide +kernel
theorem dX2_apply_82 : decode cX2_apply 82 = .ok (.aload_n 0, 1) := by decide +kernel
theorem dX2_apply_83 : decode cX2_apply 83 = .ok (.iload_n 3, 1) := by decide +kernel
theorem dX2_apply_84 : decode cX2_apply 84 = .ok (.invokevirtual 64, 3) := by decide +kernel
theorem dX2_apply_87 : decode cX2_apply 87 = .ok (.istore 6, 2) := by decide +kernel
theorem dX2_apply_89 : decode cX2_apply 89 = .ok (.aload_n 0, 1) := by decide +kernel
theorem dX2_apply_90 : decode cX2_apply 90 = .ok (.iload_n 2, 1) := by decide +kernel
theorem dX2_apply_91 : decode cX2_apply 91 = .ok (.iload 6, 2) := by decide +kernel
theorem dX2_apply_93 : decode cX2_apply 93 = .ok (.iconst 1, 1) := by decide +kernel
theorem dX2_apply_94 : decode cX2_apply 94 = .ok (.invokevirtual 91, 3) := by decide +kernel
theorem dX2_apply_97 : decode cX2_apply 97 = .ok (.aload_n 0, 1) := by decide +kernel
theorem dX2_apply_98 : decode cX2_apply 98 = .ok (.iload 4, 2) := by decide +kernel
theorem dX2_apply_100 : decode cX2_apply 100 = .ok (.bipush 99, 2) := by decide +kernel
theorem dX2_apply_102 : decode cX2_apply 102 = .ok (.invokevirtual 28, 3) := by decide +kernel
theorem dX2_apply_105 : decode cX2_apply 105 = .ok (.aload_n 0, 1) := by decide +kernel
theorem dX2_apply_106 : decode cX2_apply 106 = .ok (.iload_n 3, 1) := by decide +kernel
theorem dX2_apply_107 : decode cX2_apply 107 = .ok (.iload_n 1, 1) := by decide +kernel
theorem dX2_apply_108 : decode cX2_apply 108 = .ok (.sipush 10000, 3) := by decide +kernel
theorem dX2_apply_111 : decode cX2_apply 111 = .ok (.if_icmp .lt 10, 3) := by decide +kernel
theorem dX2_apply_114 : decode cX2_apply 114 = .ok (.iload 5, 2) := by decide +kernel
theorem dX2_apply_116 : decode cX2_apply 116 = .ok (.iconst 4, 1) := by decide +kernel
theorem dX2_apply_117 : decode cX2_apply 117 = .ok (.iadd, 1) := by decide +kernel
theorem dX2_apply_118 : decode cX2_apply 118 = .ok (.goto 5, 3) := by decide +kernel
theorem dX2_apply_121 : decode cX2_apply 121 = .ok (.iload 5, 2) := by decide +kernel
theorem dX2_apply_123 : decode cX2_apply 123 = .ok (.invokevirtual 28, 3) := by decide +kernel
theorem dX2_apply_126 : decode cX2_apply 126 = .ok (.iload 6, 2) := by decide +kernel
theorem dX2_apply_128 : decode cX2_apply 128 = .ok (.ireturn, 1) := by decide +kernel
set_option maxRecDepth 20000 in
theorem ggX2_takeBack_X2_sideToPlay : GoodIn wsX2_takeBack wsX2_sideToPlay := goodIn_r _ [5, 6, 44, 45] (by decide +kernel) (by decide +kernel)
set_option maxRecDepth 20000 in
theorem gX2_takeBack_X2_sideToPlay : GoodIn wsX2_takeBack (wsV RX2 76 RX2 yX2_sideToPlay wsX2_sideToPlay) := goodIn_app (goodIn_of _ (by decide +kernel)) ggX2_takeBack_X2_sideToPlay
set_option maxRecDepth 20000 in
theorem ggX2_takeBack_X2_setSideToPlay : GoodIn wsX2_takeBack wsX2_setSideToPlay := goodIn_r _ [10, 6, 44, 45] (by decide +kernel) (by decide +kernel)
set_option maxRecDepth 20000 in
theorem gX2_takeBack_X2_setSideToPlay : GoodIn wsX2_takeBack (wsV RX2 80 RX2 yX2_setSideToPlay wsX2_setSideToPlay) := goodIn_app (goodIn_of _ (by decide +kernel)) ggX2_takeBack_X2_setSideToPlay
set_option maxRecDepth 20000 in
theorem ggX2_takeBack_X2_place : GoodIn wsX2_takeBack wsX2_place := goodIn_r _ [14, 6, 15, 16, 17, 18, 19, 20, 21, 22, 23, 44, 45] (by decide +kernel) (by decide +kernel)
set_option maxRecDepth 20000 in
theorem gX2_takeBack_X2_place : GoodIn wsX2_takeBack (wsV RX2 28 RX2 yX2_place wsX2_place) := goodIn_app (goodIn_of _ (by decide +kernel)) ggX2_takeBack_X2_place
set_option maxRecDepth 20000 in
theorem ggX2_takeBack_X2_inHand : GoodIn wsX2_takeBack wsX2_inHand := goodIn_r _ [27, 6, 28, 16, 29, 30, 31, 44, 45] (by decide +kernel) (by decide +kernel)
set_option maxRecDepth 20000 in
theorem gX2_takeBack_X2_inHand : GoodIn wsX2_takeBack (wsV RX2 58 RX2 yX2_inHand wsX2_inHand) := goodIn_app (goodIn_of _ (by decide +kernel)) ggX2_takeBack_X2_inHand
set_option maxRecDepth 20000 in
theorem ggX2_takeBack_X2_setInHand : GoodIn wsX2_takeBack wsX2_setInHand := goodIn_r _ [35, 6, 28, 16, 29, 30, 31, 44, 45] (by decide +kernel) (by decide +kernel)
set_option maxRecDepth 20000 in
theorem gX2_takeBack_X2_setInHand : GoodIn wsX2_takeBack (wsV RX2 84 RX2 yX2_setInHand wsX2_setInHand) := goodIn_app (goodIn_of _ (by decide +kernel)) ggX2_takeBack_X2_setInHand
set_option maxRecDepth 20000 in
theorem ggX2_takeBack_X2_manOn : GoodIn wsX2_takeBack wsX2_manOn := goodIn_r _ [39, 6, 44, 45] (by decide +kernel) (by decide +kernel)
set_option maxRecDepth 20000 in
theorem gX2_takeBack_X2_manOn : GoodIn wsX2_takeBack (wsV RX2 64 RX2 yX2_manOn wsX2_manOn) := goodIn_app (goodIn_of _ (by decide +kernel)) ggX2_takeBack_X2_manOn
set_option maxRecDepth 20000 in
theorem ggX2_takeBack_X2_changeHandForTaken : GoodIn wsX2_takeBack wsX2_changeHandForTaken := goodIn_r _ [43, 20, 16, 21, 24, 25, 26, 4, 27, 6, 28, 29, 30, 31, 32, 33, 34, 35, 44, 45] (by decide +kernel) (by decide +kernel)
set_option maxRecDepth 20000 in
theorem gX2_takeBack_X2_changeHandForTaken : GoodIn wsX2_takeBack (wsV RX2 91 RX2 yX2_changeHandForTaken wsX2_changeHandForTaken) := goodIn_app (goodIn_of _ (by decide +kernel)) ggX2_takeBack_X2_changeHandForTaken
theorem dX2_takeBack_0 : decode cX2_takeBack 0 = .ok (.iconst 1, 1) := by decide +kernel
theorem dX2_takeBack_1 : decode cX2_takeBack 1 = .ok (.aload_n 0, 1) := by decide +kernel
theorem dX2_takeBack_2 : decode cX2_takeBack 2 = .ok (.invokevirtual 76, 3) := by decide +kernel
theorem dX2_takeBack_5 : decode cX2_takeBack 5 = .ok (.isub, 1) := by decide +kernel
theorem dX2_takeBack_6 : decode cX2_takeBack 6 = .ok (.istore_n 3, 1) := by decide +kernel
theorem dX2_takeBack_7 : decode cX2_takeBack 7 = .ok (.iload_n 1, 1) := by decide +kernel
theorem dX2_takeBack_8 : decode cX2_takeBack 8 = .ok (.bipush 100, 2) := by decide +kernel
theorem dX2_takeBack_10 : decode cX2_takeBack 10 = .ok (.irem, 1) := by decide +kernel
theorem dX2_takeBack_11 : decode cX2_takeBack 11 = .ok (.istore 4, 2) := by decide +kernel
theorem dX2_takeBack_13 : decode cX2_takeBack 13 = .ok (.aload_n 0, 1) := by decide +kernel
theorem dX2_takeBack_14 : decode cX2_takeBack 14 = .ok (.iload_n 3, 1) := by decide +kernel
theorem dX2_takeBack_15 : decode cX2_takeBack 15 = .ok (.invokevirtual 80, 3) := by decide +kernel
theorem dX2_takeBack_18 : decode cX2_takeBack 18 = .ok (.iload_n 1, 1) := by decide +kernel
theorem dX2_takeBack_19 : decode cX2_takeBack 19 = .ok (.sipush 20000, 3) := by decide +kernel
theorem dX2_takeBack_22 : decode cX2_takeBack 22 = .ok (.if_icmp .lt 38, 3) := by decide +kernel
theorem dX2_takeBack_25 : decode cX2_takeBack 25 = .ok (.iload_n 1, 1) := by decide +kernel
theorem dX2_takeBack_26 : decode cX2_takeBack 26 = .ok (.sipush 20000, 3) := by decide +kernel
theorem dX2_takeBack_29 : decode cX2_takeBack 29 = .ok (.isub, 1) := by decide +kernel
theorem dX2_takeBack_30 : decode cX2_takeBack 30 = .ok (.bipush 100, 2) := by decide +kernel
theorem dX2_takeBack_32 : decode cX2_takeBack 32 = .ok (.idiv, 1) := by decide +kernel
theorem dX2_takeBack_33 : decode cX2_takeBack 33 = .ok (.istore 5, 2) := by decide +kernel
theorem dX2_takeBack_35 : decode cX2_takeBack 35 = .ok (.aload_n 0, 1) := by decide +kernel
theorem dX2_takeBack_36 : decode cX2_takeBack 36 = .ok (.iload 4, 2) := by decide +kernel
theorem dX2_takeBack_38 : decode cX2_takeBack 38 = .ok (.bipush 99, 2) := by decide +kernel
theorem dX2_takeBack_40 : decode cX2_takeBack 40 = .ok (.invokevirtual 28, 3) := by decide +kernel
theorem dX2_takeBack_43 : decode cX2_takeBack 43 = .ok (.aload_n 0, 1) := by decide +kernel
theorem dX2_takeBack_44 : decode cX2_takeBack 44 = .ok (.iload_n 3, 1) := by decide +kernel
theorem dX2_takeBack_45 : decode cX2_takeBack 45 = .ok (.iload 5, 2) := by decide +kernel
theorem dX2_takeBack_47 : decode cX2_takeBack 47 = .ok (.aload_n 0, 1) := by decide +kernel
theorem dX2_takeBack_48 : decode cX2_takeBack 48 = .ok (.iload_n 3, 1) := by decide +kernel
theorem dX2_takeBack_49 : decode cX2_takeBack 49 = .ok (.iload 5, 2) := by decide +kernel
theorem dX2_takeBack_51 : decode cX2_takeBack 51 = .ok (.invokevirtual 58, 3) := by decide +kernel
theorem dX2_takeBack_54 : decode cX2_takeBack 54 = .ok (.iconst 1, 1) := by decide +kernel
theorem dX2_takeBack_55 : decode cX2_takeBack 55 = .ok (.iadd, 1) := by decide +kernel
theorem dX2_takeBack_56 : decode cX2_takeBack 56 = .ok (.invokevirtual 84, 3) := by decide +kernel
theorem dX2_takeBack_59 : decode cX2_takeBack 59 = .ok (.return_, 1) := by decide +kernel
theorem dX2_takeBack_60 : decode cX2_takeBack 60 = .ok (.aload_n 0, 1) := by decide +kernel
theorem dX2_takeBack_61 : decode cX2_takeBack 61 = .ok (.iload 4, 2) := by decide +kernel
theorem dX2_takeBack_63 : decode cX2_takeBack 63 = .ok (.invokevirtual 64, 3) := by decide +kernel
theorem dX2_takeBack_66 : decode cX2_takeBack 66 = .ok (.istore 5, 2) := by decide +kernel
theorem dX2_takeBack_68 : decode cX2_takeBack 68 = .ok (.aload_n 0, 1) := by decide +kernel
theorem dX2_takeBack_69 : decode cX2_takeBack 69 = .ok (.iload 4, 2) := by decide +kernel
theorem dX2_takeBack_71 : decode cX2_takeBack 71 = .ok (.iload_n 2, 1) := by decide +kernel
theorem dX2_takeBack_72 : decode cX2_takeBack 72 = .ok (.invokevirtual 28, 3) := by decide +kernel
theorem dX2_takeBack_75 : decode cX2_takeBack 75 = .ok (.aload_n 0, 1) := by decide +kernel
theorem dX2_takeBack_76 : decode cX2_takeBack 76 = .ok (.iload_n 1, 1) := by decide +kernel
theorem dX2_takeBack_77 : decode cX2_takeBack 77 = .ok (.sipush 10000, 3) := by decide +kernel
theorem dX2_takeBack_80 : decode cX2_takeBack 80 = .ok (.irem, 1) := by decide +kernel
theorem dX2_takeBack_81 : decode cX2_takeBack 81 = .ok (.bipush 100, 2) := by decide +kernel
theorem dX2_takeBack_83 : decode cX2_takeBack 83 = .ok (.idiv, 1) := by decide +kernel
theorem dX2_takeBack_84 : decode cX2_takeBack 84 = .ok (.iload_n 1, 1) := by decide +kernel
theorem dX2_takeBack_85 : decode cX2_takeBack 85 = .ok (.sipush 10000, 3) := by decide +kernel
theorem dX2_takeBack_88 : decode cX2_takeBack 88 = .ok (.if_icmp .lt 10, 3) := by decide +kernel
theorem dX2_takeBack_91 : decode cX2_takeBack 91 = .ok (.iload 5, 2) := by decide +kernel
theorem dX2_takeBack_93 : decode cX2_takeBack 93 = .ok (.iconst 4, 1) := by decide +kernel
theorem dX2_takeBack_94 : decode cX2_takeBack 94 = .ok (.isub, 1) := by decide +kernel
theorem dX2_takeBack_95 : decode cX2_takeBack 95 = .ok (.goto 5, 3) := by decide +kernel
theorem dX2_takeBack_98 : decode cX2_takeBack 98 = .ok (.iload 5, 2) := by decide +kernel
theorem dX2_takeBack_100 : decode cX2_takeBack 100 = .ok (.invokevirtual 28, 3) := by decide +kernel
theorem dX2_takeBack_103 : decode cX2_takeBack 103 = .ok (.aload_n 0, 1) := by decide +kernel
theorem dX2_takeBack_104 : decode cX2_takeBack 104 = .ok (.iload_n 3, 1) := by decide +kernel
theorem dX2_takeBack_105 : decode cX2_takeBack 105 = .ok (.iload_n 2, 1) := by decide +kernel
theorem dX2_takeBack_106 : decode cX2_takeBack 106 = .ok (.iconst (-1), 1) := by decide +kernel
theorem dX2_takeBack_107 : decode cX2_takeBack 107 = .ok (.invokevirtual 91, 3) := by decide +kernel
theorem dX2_takeBack_110 : decode cX2_takeBack 110 = .ok (.return_, 1) := by decide +kernel
set_option maxRecDepth 20000 in
theorem ggX2_changeHandForTaken_X4_kindOf : GoodIn wsX2_changeHandForTaken wsX4_kindOf := goodIn_r _ [3] (by decide +kernel) (by decide +kernel)
set_option maxRecDepth 20000 in
theorem gX2_changeHandForTaken_X4_kindOf_n48 : GoodIn wsX2_changeHandForTaken (wsX4_kindOf) := ggX2_changeHandForTaken_X4_kindOf
set_option maxRecDepth 20000 in
theorem ggX2_changeHandForTaken_X2_inHand : GoodIn wsX2_changeHandForTaken wsX2_inHand := goodIn_r _ [8, 9, 10, 2, 11, 12, 13, 18, 19] (by decide +kernel) (by decide +kernel)
set_option maxRecDepth 20000 in
theorem gX2_changeHandForTaken_X2_inHand : GoodIn wsX2_changeHandForTaken (wsV RX2 58 RX2 yX2_inHand wsX2_inHand) := goodIn_app (goodIn_of _ (by decide +kernel)) ggX2_changeHandForTaken_X2_inHand
set_option maxRecDepth 20000 in
theorem ggX2_changeHandForTaken_X2_setInHand : GoodIn wsX2_changeHandForTaken wsX2_setInHand := goodIn_r _ [17, 9, 10, 2, 11, 12, 13, 18, 19] (by decide +kernel) (by decide +kernel)
set_option maxRecDepth 20000 in
theorem gX2_changeHandForTaken_X2_setInHand : GoodIn wsX2_changeHandForTaken (wsV RX2 84 RX2 yX2_setInHand wsX2_setInHand) := goodIn_app (goodIn_of _ (by decide +kernel)) ggX2_changeHandForTaken_X2_setInHand
theorem dX2_changeHandForTaken_0 : decode cX2_changeHandForTaken 0 = .ok (.iload_n 2, 1) := by decide +kernel
theorem dX2_changeHandForTaken_1 : decode cX2_changeHandForTaken 1 = .ok (.bipush 99, 2) := by decide +kernel
theorem dX2_changeHandForTaken_3 : decode cX2_changeHandForTaken 3 = .ok (.if_icmp .ne 4, 3) := by decide +kernel
theorem dX2_changeHandForTaken_6 : decode cX2_changeHandForTaken 6 = .ok (.return_, 1) := by decide +kernel
theorem dX2_changeHandForTaken_7 : decode cX2_changeHandForTaken 7 = .ok (.iload_n 2, 1) := by decide +kernel
theorem dX2_changeHandForTaken_8 : decode cX2_changeHandForTaken 8 = .ok (.invokestatic 48, 3) := by decide +kernel
theorem dX2_changeHandForTaken_11 : decode cX2_changeHandForTaken 11 = .ok (.istore 4, 2) := by decide +kernel
theorem dX2_changeHandForTaken_13 : decode cX2_changeHandForTaken 13 = .ok (.iload 4, 2) := by decide +kernel
theorem dX2_changeHandForTaken_15 : decode cX2_changeHandForTaken 15 = .ok (.iconst 5, 1) := by decide +kernel
theorem dX2_changeHandForTaken_16 : decode cX2_changeHandForTaken 16 = .ok (.if_icmp .le 10, 3) := by decide +kernel
theorem dX2_changeHandForTaken_19 : decode cX2_changeHandForTaken 19 = .ok (.iload 4, 2) := by decide +kernel
theorem dX2_changeHandForTaken_21 : decode cX2_changeHandForTaken 21 = .ok (.iconst 4, 1) := by decide +kernel
theorem dX2_changeHandForTaken_22 : decode cX2_changeHandForTaken 22 = .ok (.isub, 1) := by decide +kernel
theorem dX2_changeHandForTaken_23 : decode cX2_changeHandForTaken 23 = .ok (.goto 5, 3) := by decide +kernel
theorem dX2_changeHandForTaken_26 : decode cX2_changeHandForTaken 26 = .ok (.iload 4, 2) := by decide +kernel
theorem dX2_changeHandForTaken_28 : decode cX2_changeHandForTaken 28 = .ok (.istore 5, 2) := by decide +kernel
theorem dX2_changeHandForTaken_30 : decode cX2_changeHandForTaken 30 = .ok (.aload_n 0, 1) := by decide +kernel
theorem dX2_changeHandForTaken_31 : decode cX2_changeHandForTaken 31 = .ok (.iload_n 1, 1) := by decide +kernel
theorem dX2_changeHandForTaken_32 : decode cX2_changeHandForTaken 32 = .ok (.iload 5, 2) := by decide +kernel
theorem dX2_changeHandForTaken_34 : decode cX2_changeHandForTaken 34 = .ok (.aload_n 0, 1) := by decide +kernel
theorem dX2_changeHandForTaken_35 : decode cX2_changeHandForTaken 35 = .ok (.iload_n 1, 1) := by decide +kernel
theorem dX2_changeHandForTaken_36 : decode cX2_changeHandForTaken 36 = .ok (.iload 5, 2) := by decide +kernel
theorem dX2_changeHandForTaken_38 : decode cX2_changeHandForTaken 38 = .ok (.invokevirtual 58, 3) := by decide +kernel
theorem dX2_changeHandForTaken_41 : decode cX2_changeHandForTaken 41 = .ok (.iload_n 3, 1) := by decide +kernel
theorem dX2_changeHandForTaken_42 : decode cX2_changeHandForTaken 42 = .ok (.iadd, 1) := by decide +kernel
theorem dX2_changeHandForTaken_43 : decode cX2_changeHandForTaken 43 = .ok (.invokevirtual 84, 3) := by decide +kernel
theorem dX2_changeHandForTaken_46 : decode cX2_changeHandForTaken 46 = .ok (.return_, 1) := by decide +kernel
end
section
theorem dX3_init_0 : decode cX3_init 0 = .ok (.aload_n 0, 1) := by decide +kernel
theorem dX3_init_1 : decode cX3_init 1 = .ok (.invokespecial 3, 3) := by decide +kernel
theorem dX3_init_4 : decode cX3_init 4 = .ok (.aload_n 0, 1) := by decide +kernel
theorem dX3_init_5 : decode cX3_init 5 = .ok (.bipush 25, 2) := by decide +kernel
theorem dX3_init_7 : decode cX3_init 7 = .ok (.newarray .int, 2) := by decide +kernel
theorem dX3_init_9 : decode cX3_init 9 = .ok (.putfield 9, 3) := by decide +kernel
theorem dX3_init_12 : decode cX3_init 12 = .ok (.aload_n 0, 1) := by decide +kernel
theorem dX3_init_13 : decode cX3_init 13 = .ok (.bipush 25, 2) := by decide +kernel
theorem dX3_init_15 : decode cX3_init 15 = .ok (.newarray .int, 2) := by decide +kernel
theorem dX3_init_17 : decode cX3_init 17 = .ok (.putfield 15, 3) := by decide +kernel
theorem dX3_init_20 : decode cX3_init 20 = .ok (.aload_n 0, 1) := by decide +kernel
theorem dX3_init_21 : decode cX3_init 21 = .ok (.bipush 6, 2) := by decide +kernel
theorem dX3_init_23 : decode cX3_init 23 = .ok (.newarray .int, 2) := by decide +kernel
theorem dX3_init_25 : decode cX3_init 25 = .ok (.putfield 18, 3) := by decide +kernel
theorem dX3_init_28 : decode cX3_init 28 = .ok (.aload_n 0, 1) := by decide +kernel
theorem dX3_init_29 : decode cX3_init 29 = .ok (.sipush 525, 3) := by decide +kernel
theorem dX3_init_32 : decode cX3_init 32 = .ok (.newarray .int, 2) := by decide +kernel
theorem dX3_init_34 : decode cX3_init 34 = .ok (.putfield 21, 3) := by decide +kernel
theorem dX3_init_37 : decode cX3_init 37 = .ok (.aload_n 0, 1) := by decide +kernel
theorem dX3_init_38 : decode cX3_init 38 = .ok (.iconst 0, 1) := by decide +kernel
theorem dX3_init_39 : decode cX3_init 39 = .ok (.putfield 24, 3) := by decide +kernel
theorem dX3_init_42 : decode cX3_init 42 = .ok (.aload_n 0, 1) := by decide +kernel
theorem dX3_init_43 : decode cX3_init 43 = .ok (.aload_n 1, 1) := by decide +kernel
theorem dX3_init_44 : decode cX3_init 44 = .ok (.putfield 28, 3) := by decide +kernel
theorem dX3_init_47 : decode cX3_init 47 = .ok (.return_, 1) := by decide +kernel
set_option maxRecDepth 20000 in
theorem ggX3_isInCheck_X2_sideToPlay : GoodIn wsX3_isInCheck wsX2_sideToPlay := goodIn_r _ [6, 7, 26, 27] (by decide +kernel) (by decide +kernel)
set_option maxRecDepth 20000 in
theorem gX3_isInCheck_X2_sideToPlay : GoodIn wsX3_isInCheck (wsV RX3 32 RX2 yX2_sideToPlay wsX2_sideToPlay) := goodIn_app (goodIn_of _ (by decide +kernel)) ggX3_isInCheck_X2_sideToPlay
set_option maxRecDepth 20000 in
theorem ggX3_isInCheck_X2_kingOf : GoodIn wsX3_isInCheck wsX2_kingOf := goodIn_r _ [11, 7, 12, 13, 14, 26, 27] (by decide +kernel) (by decide +kernel)
set_option maxRecDepth 20000 in
theorem gX3_isInCheck_X2_kingOf : GoodIn wsX3_isInCheck (wsV RX3 38 RX2 yX2_kingOf wsX2_kingOf) := goodIn_app (goodIn_of _ (by decide +kernel)) ggX3_isInCheck_X2_kingOf
set_option maxRecDepth 20000 in
theorem ggX3_isInCheck_X2_countAttackers : GoodIn wsX3_isInCheck wsX2_countAttackers := goodIn_r _ [18, 19, 7, 26, 27] (by decide +kernel) (by decide +kernel)
set_option maxRecDepth 20000 in
theorem gX3_isInCheck_X2_countAttackers : GoodIn wsX3_isInCheck (wsV RX3 42 RX2 yX2_countAttackers wsX2_countAttackers) := goodIn_app (goodIn_of _ (by decide +kernel)) ggX3_isInCheck_X2_countAttackers
theorem dX3_isInCheck_0 : decode cX3_isInCheck 0 = .ok (.aload_n 0, 1) := by decide +kernel
theorem dX3_isInCheck_1 : decode cX3_isInCheck 1 = .ok (.getfield 28, 3) := by decide +kernel
theorem dX3_isInCheck_4 : decode cX3_isInCheck 4 = .ok (.invokevirtual 32, 3) := by decide +kernel
theorem dX3_isInCheck_7 : decode cX3_isInCheck 7 = .ok (.istore_n 1, 1) := by decide +kernel
theorem dX3_isInCheck_8 : decode cX3_isInCheck 8 = .ok (.aload_n 0, 1) := by decide +kernel
theorem dX3_isInCheck_9 : decode cX3_isInCheck 9 = .ok (.getfield 28, 3) := by decide +kernel
theorem dX3_isInCheck_12 : decode cX3_isInCheck 12 = .ok (.iconst 1, 1) := by decide +kernel
theorem dX3_isInCheck_13 : decode cX3_isInCheck 13 = .ok (.iload_n 1, 1) := by decide +kernel
theorem dX3_isInCheck_14 : decode cX3_isInCheck 14 = .ok (.isub, 1) := by decide +kernel
theorem dX3_isInCheck_15 : decode cX3_isInCheck 15 = .ok (.aload_n 0, 1) := by decide +kernel
theorem dX3_isInCheck_16 : decode cX3_isInCheck 16 = .ok (.getfield 28, 3) := by decide +kernel
theorem dX3_isInCheck_19 : decode cX3_isInCheck 19 = .ok (.iload_n 1, 1) := by decide +kernel
theorem dX3_isInCheck_20 : decode cX3_isInCheck 20 = .ok (.invokevirtual 38, 3) := by decide +kernel
theorem dX3_isInCheck_23 : decode cX3_isInCheck 23 = .ok (.invokevirtual 42, 3) := by decide +kernel
theorem dX3_isInCheck_26 : decode cX3_isInCheck 26 = .ok (.ifCond .le 7, 3) := by decide +kernel
theorem dX3_isInCheck_29 : decode cX3_isInCheck 29 = .ok (.iconst 1, 1) := by decide +kernel
theorem dX3_isInCheck_30 : decode cX3_isInCheck 30 = .ok (.goto 4, 3) := by decide +kernel
theorem dX3_isInCheck_33 : decode cX3_isInCheck 33 = .ok (.iconst 0, 1) := by decide +kernel
theorem dX3_isInCheck_34 : decode cX3_isInCheck 34 = .ok (.ireturn, 1) := by decide +kernel
set_option maxRecDepth 20000 in
theorem ggX3_isMated_X3_isInCheck : GoodIn wsX3_isMated wsX3_isInCheck := goodIn_r _ [5, 6, 7, 8, 9, 10, 11, 12, 13, 14, 15, 16, 17, 18, 19, 20, 21, 22, 23, 24, 138, 139, 140, 141, 142, 143, 144, 145] (by decide +kernel) (by decide +kernel)
set_option maxRecDepth 20000 in
theorem gX3_isMated_X3_isInCheck : GoodIn wsX3_isMated (wsV RX3 46 RX3 yX3_isInCheck wsX3_isInCheck) := goodIn_app (goodIn_of _ (by decide +kernel)) ggX3_isMated_X3_isInCheck
set_option maxRecDepth 20000 in
theorem ggX3_isMated_X3_findPlays : GoodIn wsX3_isMated wsX3_findPlays := goodIn_r _ [28, 6, 29, 30, 31, 7, 8, 9, 10, 11, 12, 32, 33, 34, 35, 36, 18, 37, 38, 39, 40, 4, 41, 42, 43, 44, 45, 24, 46, 47, 48, 49, 50, 51, 52, 53, 54, 55, 56, 57, 58, 59, 60, 61, 62, 13, 14, 15, 16, 17, 19, 20, 21, 22, 23, 63, 64, 65, 66, 67, 68, 69, 70, 71, 72, 73, 74, 75, 76, 77, 78, 79, 80, 81, 82, 83, 84, 85, 86, 87, 88, 89, 90, 91, 92, 93, 94, 95, 96, 97, 98, 99, 100, 101, 102, 103, 104, 105, 106, 107, 108, 109, 110, 111, 112, 113, 114, 115, 116, 117, 118, 119, 120, 121, 122, 123, 124, 125, 126, 127, 128, 129, 1, 2, 3, 5, 130, 131, 132, 133, 134, 135, 136, 137, 138, 139, 140, 141, 142, 143, 144, 145] (by decide +kernel) (by decide +kernel)
set_option maxRecDepth 20000 in
theorem gX3_isMated_X3_findPlays : GoodIn wsX3_isMated (wsV RX3 50 RX3 yX3_findPlays wsX3_findPlays) := goodIn_app (goodIn_of _ (by decide +kernel)) ggX3_isMated_X3_findPlays
theorem dX3_isMated_0 : decode cX3_isMated 0 = .ok (.aload_n 0, 1) := by decide +kernel
theorem dX3_isMated_1 : decode cX3_isMated 1 = .ok (.invokevirtual 46, 3) := by decide +kernel
theorem dX3_isMated_4 : decode cX3_isMated 4 = .ok (.ifCond .eq 14, 3) := by decide +kernel
theorem dX3_isMated_7 : decode cX3_isMated 7 = .ok (.aload_n 0, 1) := by decide +kernel
theorem dX3_isMated_8 : decode cX3_isMated 8 = .ok (.invokevirtual 50, 3) := by decide +kernel
theorem dX3_isMated_11 : decode cX3_isMated 11 = .ok (.ifCond .ne 7, 3) := by decide +kernel
theorem dX3_isMated_14 : decode cX3_isMated 14 = .ok (.iconst 1, 1) := by decide +kernel
theorem dX3_isMated_15 : decode cX3_isMated 15 = .ok (.goto 4, 3) := by decide +kernel
theorem dX3_isMated_18 : decode cX3_isMated 18 = .ok (.iconst 0, 1) := by decide +kernel
theorem dX3_isMated_19 : decode cX3_isMated 19 = .ok (.ireturn, 1) := by decide +kernel
set_option maxRecDepth 20000 in
theorem ggX3_allows_X4_isSquare : GoodIn wsX3_allows wsX4_isSquare := goodIn_r _ [3] (by decide +kernel) (by decide +kernel)
set_option maxRecDepth 20000 in
theorem gX3_allows_X4_isSquare_n53 : GoodIn wsX3_allows (wsX4_isSquare) := ggX3_allows_X4_isSquare
set_option maxRecDepth 20000 in
theorem ggX3_allows_X4_isHandKind : GoodIn wsX3_allows wsX4_isHandKind := goodIn_r _ [5] (by decide +kernel) (by decide +kernel)
set_option maxRecDepth 20000 in
theorem gX3_allows_X4_isHandKind_n57 : GoodIn wsX3_allows (wsX4_isHandKind) := ggX3_allows_X4_isHandKind
set_option maxRecDepth 20000 in
theorem ggX3_allows_X3_whyNoDrop : GoodIn wsX3_allows wsX3_whyNoDrop := goodIn_r _ [10, 11, 12, 13, 14, 15, 16, 17, 18, 19, 20, 21, 22, 2, 23, 4, 5, 24, 25, 26, 27, 28, 29, 30, 31, 32, 33, 34, 35, 9, 36, 37, 38, 39, 40, 41, 42, 43, 44, 45, 46, 47, 48, 49, 50, 51, 52, 53, 54, 55, 56, 1, 3, 57, 58, 59, 60, 61, 62, 63, 64, 65, 66, 67, 68, 69, 70, 71, 72, 73, 74, 75, 76, 77, 78, 79, 80, 81, 82, 83, 84, 85, 86, 87, 88, 89, 90, 91, 92, 93, 94, 95, 96, 97, 98, 99, 100, 101, 102, 103, 104, 105, 106, 107, 108, 109, 110, 111, 112, 113, 114, 115, 116, 117, 118, 132, 133, 134, 135, 136, 137, 138, 139] (by decide +kernel) (by decide +kernel)
set_option maxRecDepth 20000 in
theorem gX3_allows_X3_whyNoDrop : GoodIn wsX3_allows (wsV RX3 60 RX3 yX3_whyNoDrop wsX3_whyNoDrop) := goodIn_app (goodIn_of _ (by decide +kernel)) ggX3_allows_X3_whyNoDrop
set_option maxRecDepth 20000 in
theorem ggX3_allows_X3_whyNoMove : GoodIn wsX3_allows wsX3_whyNoMove := goodIn_r _ [122, 11, 12, 13, 14, 15, 16, 17, 24, 25, 26, 27, 61, 2, 62, 103, 104, 105, 106, 52, 86, 31, 32, 107, 108, 109, 9, 110, 59, 60, 123, 124, 125, 126, 127, 28, 29, 30, 128, 129, 130, 131, 99, 100, 101, 102, 53, 54, 55, 56, 1, 3, 57, 58, 44, 45, 46, 47, 22, 23, 48, 49, 50, 51, 63, 64, 132, 133, 134, 135, 136, 137, 138, 139] (by decide +kernel) (by decide +kernel)
set_option maxRecDepth 20000 in
theorem gX3_allows_X3_whyNoMove : GoodIn wsX3_allows (wsV RX3 63 RX3 yX3_whyNoMove wsX3_whyNoMove) := goodIn_app (goodIn_of _ (by decide +kernel)) ggX3_allows_X3_whyNoMove
theorem dX3_allows_0 : decode cX3_allows 0 = .ok (.iload_n 1, 1) := by decide +kernel
theorem dX3_allows_1 : decode cX3_allows 1 = .ok (.bipush 100, 2) := by decide +kernel
theorem dX3_allows_3 : decode cX3_allows 3 = .ok (.irem, 1) := by decide +kernel
theorem dX3_allows_4 : decode cX3_allows 4 = .ok (.istore_n 2, 1) := by decide +kernel
theorem dX3_allows_5 : decode cX3_allows 5 = .ok (.iload_n 1, 1) := by decide +kernel
theorem dX3_allows_6 : decode cX3_allows 6 = .ok (.ifCond .lt 10, 3) := by decide +kernel
theorem dX3_allows_9 : decode cX3_allows 9 = .ok (.iload_n 2, 1) := by decide +kernel
theorem dX3_allows_10 : decode cX3_allows 10 = .ok (.invokestatic 53, 3) := by decide +kernel
theorem dX3_allows_13 : decode cX3_allows 13 = .ok (.ifCond .ne 5, 3) := by decide +kernel
theorem dX3_allows_16 : decode cX3_allows 16 = .ok (.iconst 0, 1) := by decide +kernel
theorem dX3_allows_17 : decode cX3_allows 17 = .ok (.ireturn, 1) := by decide +kernel
theorem dX3_allows_18 : decode cX3_allows 18 = .ok (.iload_n 1, 1) := by decide +kernel
theorem dX3_allows_19 : decode cX3_allows 19 = .ok (.sipush 20000, 3) := by decide +kernel
theorem dX3_allows_22 : decode cX3_allows 22 = .ok (.if_icmp .lt 34, 3) := by decide +kernel
theorem dX3_allows_25 : decode cX3_allows 25 = .ok (.iload_n 1, 1) := by decide +kernel
theorem dX3_allows_26 : decode cX3_allows 26 = .ok (.sipush 20000, 3) := by decide +kernel
theorem dX3_allows_29 : decode cX3_allows 29 = .ok (.isub, 1) := by decide +kernel
theorem dX3_allows_30 : decode cX3_allows 30 = .ok (.bipush 100, 2) := by decide +kernel
theorem dX3_allows_32 : decode cX3_allows 32 = .ok (.idiv, 1) := by decide +kernel
theorem dX3_allows_33 : decode cX3_allows 33 = .ok (.istore_n 3, 1) := by decide +kernel
theorem dX3_allows_34 : decode cX3_allows 34 = .ok (.iload_n 3, 1) := by decide +kernel
theorem dX3_allows_35 : decode cX3_allows 35 = .ok (.invokestatic 57, 3) := by decide +kernel
theorem dX3_allows_38 : decode cX3_allows 38 = .ok (.ifCond .eq 16, 3) := by decide +kernel
theorem dX3_allows_41 : decode cX3_allows 41 = .ok (.aload_n 0, 1) := by decide +kernel
theorem dX3_allows_42 : decode cX3_allows 42 = .ok (.iload_n 3, 1) := by decide +kernel
theorem dX3_allows_43 : decode cX3_allows 43 = .ok (.iload_n 2, 1) := by decide +kernel
theorem dX3_allows_44 : decode cX3_allows 44 = .ok (.invokevirtual 60, 3) := by decide +kernel
theorem dX3_allows_47 : decode cX3_allows 47 = .ok (.ifCond .ne 7, 3) := by decide +kernel
theorem dX3_allows_50 : decode cX3_allows 50 = .ok (.iconst 1, 1) := by decide +kernel
theorem dX3_allows_51 : decode cX3_allows 51 = .ok (.goto 4, 3) := by decide +kernel
theorem dX3_allows_54 : decode cX3_allows 54 = .ok (.iconst 0, 1) := by decide +kernel
theorem dX3_allows_55 : decode cX3_allows 55 = .ok (.ireturn, 1) := by decide +kernel
theorem dX3_allows_56 : decode cX3_allows 56 = .ok (.iload_n 1, 1) := by decide +kernel
theorem dX3_allows_57 : decode cX3_allows 57 = .ok (.sipush 10000, 3) := by decide +kernel
theorem dX3_allows_60 : decode cX3_allows 60 = .ok (.irem, 1) := by decide +kernel
theorem dX3_allows_61 : decode cX3_allows 61 = .ok (.bipush 100, 2) := by decide +kernel
theorem dX3_allows_63 : decode cX3_allows 63 = .ok (.idiv, 1) := by decide +kernel
theorem dX3_allows_64 : decode cX3_allows 64 = .ok (.istore_n 3, 1) := by decide +kernel
theorem dX3_allows_65 : decode cX3_allows 65 = .ok (.iload_n 3, 1) := by decide +kernel
theorem dX3_allows_66 : decode cX3_allows 66 = .ok (.invokestatic 53, 3) := by decide +kernel
theorem dX3_allows_69 : decode cX3_allows 69 = .ok (.ifCond .eq 28, 3) := by decide +kernel
theorem dX3_allows_72 : decode cX3_allows 72 = .ok (.aload_n 0, 1) := by decide +kernel
theorem dX3_allows_73 : decode cX3_allows 73 = .ok (.iload_n 3, 1) := by decide +kernel
theorem dX3_allows_74 : decode cX3_allows 74 = .ok (.iload_n 2, 1) := by decide +kernel
theorem dX3_allows_75 : decode cX3_allows 75 = .ok (.iload_n 1, 1) := by decide +kernel
theorem dX3_allows_76 : decode cX3_allows 76 = .ok (.sipush 10000, 3) := by decide +kernel
theorem dX3_allows_79 : decode cX3_allows 79 = .ok (.if_icmp .lt 7, 3) := by decide +kernel
theorem dX3_allows_82 : decode cX3_allows 82 = .ok (.iconst 1, 1) := by decide +kernel
theorem dX3_allows_83 : decode cX3_allows 83 = .ok (.goto 4, 3) := by decide +kernel
theorem dX3_allows_86 : decode cX3_allows 86 = .ok (.iconst 0, 1) := by decide +kernel
theorem dX3_allows_87 : decode cX3_allows 87 = .ok (.invokevirtual 63, 3) := by decide +kernel
theorem dX3_allows_90 : decode cX3_allows 90 = .ok (.ifCond .ne 7, 3) := by decide +kernel
theorem dX3_allows_93 : decode cX3_allows 93 = .ok (.iconst 1, 1) := by decide +kernel
theorem dX3_allows_94 : decode cX3_allows 94 = .ok (.goto 4, 3) := by decide +kernel
theorem dX3_allows_97 : decode cX3_allows 97 = .ok (.iconst 0, 1) := by decide +kernel
theorem dX3_allows_98 : decode cX3_allows 98 = .ok (.ireturn, 1) := by decide +kernel
set_option maxRecDepth 20000 in
theorem ggX3_whyNoMove_X2_sideToPlay : GoodIn wsX3_whyNoMove wsX2_sideToPlay := goodIn_r _ [6, 7, 72, 73] (by decide +kernel) (by decide +kernel)
set_option maxRecDepth 20000 in
theorem gX3_whyNoMove_X2_sideToPlay : GoodIn wsX3_whyNoMove (wsV RX3 32 RX2 yX2_sideToPlay wsX2_sideToPlay) := goodIn_app (goodIn_of _ (by decide +kernel)) ggX3_whyNoMove_X2_sideToPlay
set_option maxRecDepth 20000 in
theorem ggX3_whyNoMove_X2_manOn : GoodIn wsX3_whyNoMove wsX2_manOn := goodIn_r _ [11, 7, 72, 73] (by decide +kernel) (by decide +kernel)
set_option maxRecDepth 20000 in
theorem gX3_whyNoMove_X2_manOn : GoodIn wsX3_whyNoMove (wsV RX3 67 RX2 yX2_manOn wsX2_manOn) := goodIn_app (goodIn_of _ (by decide +kernel)) ggX3_whyNoMove_X2_manOn
set_option maxRecDepth 20000 in
theorem ggX3_whyNoMove_X4_sideOf : GoodIn wsX3_whyNoMove wsX4_sideOf := goodIn_r _ [14] (by decide +kernel) (by decide +kernel)
set_option maxRecDepth 20000 in
theorem gX3_whyNoMove_X4_sideOf_n70 : GoodIn wsX3_whyNoMove (wsX4_sideOf) := ggX3_whyNoMove_X4_sideOf
set_option maxRecDepth 20000 in
theorem ggX3_whyNoMove_X2_attackedFrom : GoodIn wsX3_whyNoMove wsX2_attackedFrom := goodIn_r _ [18, 19, 7, 20, 9, 10, 5, 11, 72, 73] (by decide +kernel) (by decide +kernel)
set_option maxRecDepth 20000 in
theorem gX3_whyNoMove_X2_attackedFrom : GoodIn wsX3_whyNoMove (wsV RX3 73 RX2 yX2_attackedFrom wsX2_attackedFrom) := goodIn_app (goodIn_of _ (by decide +kernel)) ggX3_whyNoMove_X2_attackedFrom
set_option maxRecDepth 20000 in
theorem ggX3_whyNoMove_X4_has : GoodIn wsX3_whyNoMove wsX4_has := goodIn_r _ [22] (by decide +kernel) (by decide +kernel)
set_option maxRecDepth 20000 in
theorem gX3_whyNoMove_X4_has_n76 : GoodIn wsX3_whyNoMove (wsX4_has) := ggX3_whyNoMove_X4_has
set_option maxRecDepth 20000 in
theorem ggX3_whyNoMove_X3_canEnter : GoodIn wsX3_whyNoMove wsX3_canEnter := goodIn_r _ [27, 1, 8, 9, 10, 5, 11, 7, 12, 13, 14, 28, 29, 66, 67, 68, 69, 70, 71, 72, 73] (by decide +kernel) (by decide +kernel)
set_option maxRecDepth 20000 in
theorem gX3_whyNoMove_X3_canEnter : GoodIn wsX3_whyNoMove (wsV RX3 80 RX3 yX3_canEnter wsX3_canEnter) := goodIn_app (goodIn_of _ (by decide +kernel)) ggX3_whyNoMove_X3_canEnter
set_option maxRecDepth 20000 in
theorem ggX3_whyNoMove_X3_promotingSquares : GoodIn wsX3_whyNoMove wsX3_promotingSquares := goodIn_r _ [33, 1, 34, 8, 9, 10, 5, 11, 7, 28, 13, 29, 12, 14, 35, 36, 37, 21, 22, 66, 67, 68, 69, 70, 71, 72, 73] (by decide +kernel) (by decide +kernel)
set_option maxRecDepth 20000 in
theorem gX3_whyNoMove_X3_promotingSquares : GoodIn wsX3_whyNoMove (wsV RX3 83 RX3 yX3_promotingSquares wsX3_promotingSquares) := goodIn_app (goodIn_of _ (by decide +kernel)) ggX3_whyNoMove_X3_promotingSquares
set_option maxRecDepth 20000 in
theorem ggX3_whyNoMove_X3_forcingSquares : GoodIn wsX3_whyNoMove wsX3_forcingSquares := goodIn_r _ [41, 1, 8, 9, 10, 5, 11, 7, 28, 13, 29, 12, 14, 35, 36, 37, 66, 67, 68, 69, 70, 71, 72, 73] (by decide +kernel) (by decide +kernel)
set_option maxRecDepth 20000 in
theorem gX3_whyNoMove_X3_forcingSquares : GoodIn wsX3_whyNoMove (wsV RX3 86 RX3 yX3_forcingSquares wsX3_forcingSquares) := goodIn_app (goodIn_of _ (by decide +kernel)) ggX3_whyNoMove_X3_forcingSquares
set_option maxRecDepth 20000 in
theorem ggX3_whyNoMove_X3_safeTargets : GoodIn wsX3_whyNoMove wsX3_safeTargets := goodIn_r _ [45, 1, 8, 9, 10, 5, 11, 7, 12, 13, 14, 15, 16, 17, 18, 19, 20, 21, 22, 23, 24, 25, 26, 27, 28, 29, 46, 47, 48, 49, 50, 51, 52, 53, 54, 55, 56, 57, 58, 59, 60, 61, 62, 63, 64, 65, 66, 67, 68, 69, 70, 71, 72, 73] (by decide +kernel) (by decide +kernel)
set_option maxRecDepth 20000 in
theorem gX3_whyNoMove_X3_safeTargets : GoodIn wsX3_whyNoMove (wsV RX3 89 RX3 yX3_safeTargets wsX3_safeTargets) := goodIn_app (goodIn_of _ (by decide +kernel)) ggX3_whyNoMove_X3_safeTargets
theorem dX3_whyNoMove_0 : decode cX3_whyNoMove 0 = .ok (.aload_n 0, 1) := by decide +kernel
theorem dX3_whyNoMove_1 : decode cX3_whyNoMove 1 = .ok (.getfield 28, 3) := by decide +kernel
theorem dX3_whyNoMove_4 : decode cX3_whyNoMove 4 = .ok (.invokevirtual 32, 3) := by decide +kernel
theorem dX3_whyNoMove_7 : decode cX3_whyNoMove 7 = .ok (.istore 4, 2) := by decide +kernel
theorem dX3_whyNoMove_9 : decode cX3_whyNoMove 9 = .ok (.aload_n 0, 1) := by decide +kernel
theorem dX3_whyNoMove_10 : decode cX3_whyNoMove 10 = .ok (.getfield 28, 3) := by decide +kernel
theorem dX3_whyNoMove_13 : decode cX3_whyNoMove 13 = .ok (.iload_n 1, 1) := by decide +kernel
theorem dX3_whyNoMove_14 : decode cX3_whyNoMove 14 = .ok (.invokevirtual 67, 3) := by decide +kernel
theorem dX3_whyNoMove_17 : decode cX3_whyNoMove 17 = .ok (.invokestatic 70, 3) := by decide +kernel
theorem dX3_whyNoMove_20 : decode cX3_whyNoMove 20 = .ok (.iload 4, 2) := by decide +kernel
theorem dX3_whyNoMove_22 : decode cX3_whyNoMove 22 = .ok (.if_icmp .eq 5, 3) := by decide +kernel
theorem dX3_whyNoMove_25 : decode cX3_whyNoMove 25 = .ok (.iconst 1, 1) := by decide +kernel
theorem dX3_whyNoMove_26 : decode cX3_whyNoMove 26 = .ok (.ireturn, 1) := by decide +kernel
theorem dX3_whyNoMove_27 : decode cX3_whyNoMove 27 = .ok (.aload_n 0, 1) := by decide +kernel
theorem dX3_whyNoMove_28 : decode cX3_whyNoMove 28 = .ok (.getfield 28, 3) := by decide +kernel
theorem dX3_whyNoMove_31 : decode cX3_whyNoMove 31 = .ok (.iload_n 1, 1) := by decide +kernel
theorem dX3_whyNoMove_32 : decode cX3_whyNoMove 32 = .ok (.invokevirtual 73, 3) := by decide +kernel
theorem dX3_whyNoMove_35 : decode cX3_whyNoMove 35 = .ok (.iload_n 2, 1) := by decide +kernel
theorem dX3_whyNoMove_36 : decode cX3_whyNoMove 36 = .ok (.invokestatic 76, 3) := by decide +kernel
theorem dX3_whyNoMove_39 : decode cX3_whyNoMove 39 = .ok (.ifCond .ne 5, 3) := by decide +kernel
theorem dX3_whyNoMove_42 : decode cX3_whyNoMove 42 = .ok (.iconst 2, 1) := by decide +kernel
theorem dX3_whyNoMove_43 : decode cX3_whyNoMove 43 = .ok (.ireturn, 1) := by decide +kernel
theorem dX3_whyNoMove_44 : decode cX3_whyNoMove 44 = .ok (.aload_n 0, 1) := by decide +kernel
theorem dX3_whyNoMove_45 : decode cX3_whyNoMove 45 = .ok (.iload 4, 2) := by decide +kernel
theorem dX3_whyNoMove_47 : decode cX3_whyNoMove 47 = .ok (.iload_n 2, 1) := by decide +kernel
theorem dX3_whyNoMove_48 : decode cX3_whyNoMove 48 = .ok (.invokevirtual 80, 3) := by decide +kernel
theorem dX3_whyNoMove_51 : decode cX3_whyNoMove 51 = .ok (.ifCond .ne 5, 3) := by decide +kernel
theorem dX3_whyNoMove_54 : decode cX3_whyNoMove 54 = .ok (.iconst 3, 1) := by decide +kernel
theorem dX3_whyNoMove_55 : decode cX3_whyNoMove 55 = .ok (.ireturn, 1) := by decide +kernel
theorem dX3_whyNoMove_56 : decode cX3_whyNoMove 56 = .ok (.iload_n 3, 1) := by decide +kernel
theorem dX3_whyNoMove_57 : decode cX3_whyNoMove 57 = .ok (.ifCond .eq 17, 3) := by decide +kernel
theorem dX3_whyNoMove_60 : decode cX3_whyNoMove 60 = .ok (.aload_n 0, 1) := by decide +kernel
theorem dX3_whyNoMove_61 : decode cX3_whyNoMove 61 = .ok (.iload_n 1, 1) := by decide +kernel
theorem dX3_whyNoMove_62 : decode cX3_whyNoMove 62 = .ok (.invokevirtual 83, 3) := by decide +kernel
theorem dX3_whyNoMove_65 : decode cX3_whyNoMove 65 = .ok (.iload_n 2, 1) := by decide +kernel
theorem dX3_whyNoMove_66 : decode cX3_whyNoMove 66 = .ok (.invokestatic 76, 3) := by decide +kernel
theorem dX3_whyNoMove_69 : decode cX3_whyNoMove 69 = .ok (.ifCond .ne 5, 3) := by decide +kernel
theorem dX3_whyNoMove_72 : decode cX3_whyNoMove 72 = .ok (.iconst 4, 1) := by decide +kernel
theorem dX3_whyNoMove_73 : decode cX3_whyNoMove 73 = .ok (.ireturn, 1) := by decide +kernel
theorem dX3_whyNoMove_74 : decode cX3_whyNoMove 74 = .ok (.iload_n 3, 1) := by decide +kernel
theorem dX3_whyNoMove_75 : decode cX3_whyNoMove 75 = .ok (.ifCond .ne 17, 3) := by decide +kernel
theorem dX3_whyNoMove_78 : decode cX3_whyNoMove 78 = .ok (.aload_n 0, 1) := by decide +kernel
theorem dX3_whyNoMove_79 : decode cX3_whyNoMove 79 = .ok (.iload_n 1, 1) := by decide +kernel
theorem dX3_whyNoMove_80 : decode cX3_whyNoMove 80 = .ok (.invokevirtual 86, 3) := by decide +kernel
theorem dX3_whyNoMove_83 : decode cX3_whyNoMove 83 = .ok (.iload_n 2, 1) := by decide +kernel
theorem dX3_whyNoMove_84 : decode cX3_whyNoMove 84 = .ok (.invokestatic 76, 3) := by decide +kernel
theorem dX3_whyNoMove_87 : decode cX3_whyNoMove 87 = .ok (.ifCond .eq 5, 3) := by decide +kernel
theorem dX3_whyNoMove_90 : decode cX3_whyNoMove 90 = .ok (.iconst 5, 1) := by decide +kernel
theorem dX3_whyNoMove_91 : decode cX3_whyNoMove 91 = .ok (.ireturn, 1) := by decide +kernel
theorem dX3_whyNoMove_92 : decode cX3_whyNoMove 92 = .ok (.aload_n 0, 1) := by decide +kernel
theorem dX3_whyNoMove_93 : decode cX3_whyNoMove 93 = .ok (.iload_n 1, 1) := by decide +kernel
theorem dX3_whyNoMove_94 : decode cX3_whyNoMove 94 = .ok (.invokevirtual 89, 3) := by decide +kernel
theorem dX3_whyNoMove_97 : decode cX3_whyNoMove 97 = .ok (.iload_n 2, 1) := by decide +kernel
theorem dX3_whyNoMove_98 : decode cX3_whyNoMove 98 = .ok (.invokestatic 76, 3) := by decide +kernel
theorem dX3_whyNoMove_101 : decode cX3_whyNoMove 101 = .ok (.ifCond .eq 7, 3) := by decide +kernel
theorem dX3_whyNoMove_104 : decode cX3_whyNoMove 104 = .ok (.iconst 0, 1) := by decide +kernel
theorem dX3_whyNoMove_105 : decode cX3_whyNoMove 105 = .ok (.goto 5, 3) := by decide +kernel
theorem dX3_whyNoMove_108 : decode cX3_whyNoMove 108 = .ok (.bipush 6, 2) := by decide +kernel
theorem dX3_whyNoMove_110 : decode cX3_whyNoMove 110 = .ok (.ireturn, 1) := by decide +kernel
set_option maxRecDepth 20000 in
theorem ggX3_whyNoDrop_X2_sideToPlay : GoodIn wsX3_whyNoDrop wsX2_sideToPlay := goodIn_r _ [6, 7, 121, 122] (by decide +kernel) (by decide +kernel)
set_option maxRecDepth 20000 in
theorem gX3_whyNoDrop_X2_sideToPlay : GoodIn wsX3_whyNoDrop (wsV RX3 32 RX2 yX2_sideToPlay wsX2_sideToPlay) := goodIn_app (goodIn_of _ (by decide +kernel)) ggX3_whyNoDrop_X2_sideToPlay
set_option maxRecDepth 20000 in
theorem ggX3_whyNoDrop_X2_inHand : GoodIn wsX3_whyNoDrop wsX2_inHand := goodIn_r _ [11, 7, 12, 13, 14, 15, 16, 121, 122] (by decide +kernel) (by decide +kernel)
set_option maxRecDepth 20000 in
theorem gX3_whyNoDrop_X2_inHand : GoodIn wsX3_whyNoDrop (wsV RX3 92 RX2 yX2_inHand wsX2_inHand) := goodIn_app (goodIn_of _ (by decide +kernel)) ggX3_whyNoDrop_X2_inHand
set_option maxRecDepth 20000 in
theorem ggX3_whyNoDrop_X2_manOn : GoodIn wsX3_whyNoDrop wsX2_manOn := goodIn_r _ [20, 7, 121, 122] (by decide +kernel) (by decide +kernel)
set_option maxRecDepth 20000 in
theorem gX3_whyNoDrop_X2_manOn : GoodIn wsX3_whyNoDrop (wsV RX3 67 RX2 yX2_manOn wsX2_manOn) := goodIn_app (goodIn_of _ (by decide +kernel)) ggX3_whyNoDrop_X2_manOn
set_option maxRecDepth 20000 in
theorem ggX3_whyNoDrop_X4_lastRow : GoodIn wsX3_whyNoDrop wsX4_lastRow := goodIn_r _ [22, 23] (by decide +kernel) (by decide +kernel)
set_option maxRecDepth 20000 in
theorem gX3_whyNoDrop_X4_lastRow_n95 : GoodIn wsX3_whyNoDrop (wsX4_lastRow) := ggX3_whyNoDrop_X4_lastRow
set_option maxRecDepth 20000 in
theorem ggX3_whyNoDrop_X4_has : GoodIn wsX3_whyNoDrop wsX4_has := goodIn_r _ [25] (by decide +kernel) (by decide +kernel)
set_option maxRecDepth 20000 in
theorem gX3_whyNoDrop_X4_has_n76 : GoodIn wsX3_whyNoDrop (wsX4_has) := ggX3_whyNoDrop_X4_has
set_option maxRecDepth 20000 in
theorem ggX3_whyNoDrop_X3_pawnColumns : GoodIn wsX3_whyNoDrop wsX3_pawnColumns := goodIn_r _ [30, 1, 31, 17, 18, 19, 5, 20, 7, 32, 13, 33, 115, 116, 117, 118, 119, 120, 121, 122] (by decide +kernel) (by decide +kernel)
set_option maxRecDepth 20000 in
theorem gX3_whyNoDrop_X3_pawnColumns : GoodIn wsX3_whyNoDrop (wsV RX3 98 RX3 yX3_pawnColumns wsX3_pawnColumns) := goodIn_app (goodIn_of _ (by decide +kernel)) ggX3_whyNoDrop_X3_pawnColumns
set_option maxRecDepth 20000 in
theorem ggX3_whyNoDrop_X3_safeDrops : GoodIn wsX3_whyNoDrop wsX3_safeDrops := goodIn_r _ [37, 1, 2, 3, 4, 5, 6, 7, 38, 39, 40, 41, 12, 13, 14, 42, 43, 44, 45, 46, 17, 18, 19, 20, 32, 33, 47, 48, 49, 50, 51, 52, 53, 54, 55, 56, 57, 58, 59, 60, 115, 116, 117, 118, 119, 120, 121, 122] (by decide +kernel) (by decide +kernel)
set_option maxRecDepth 20000 in
theorem gX3_whyNoDrop_X3_safeDrops : GoodIn wsX3_whyNoDrop (wsV RX3 101 RX3 yX3_safeDrops wsX3_safeDrops) := goodIn_app (goodIn_of _ (by decide +kernel)) ggX3_whyNoDrop_X3_safeDrops
set_option maxRecDepth 20000 in
theorem ggX3_whyNoDrop_X4_bit : GoodIn wsX3_whyNoDrop wsX4_bit := goodIn_r _ [60] (by decide +kernel) (by decide +kernel)
set_option maxRecDepth 20000 in
theorem gX3_whyNoDrop_X4_bit_n104 : GoodIn wsX3_whyNoDrop (wsX4_bit) := ggX3_whyNoDrop_X4_bit
set_option maxRecDepth 20000 in
theorem ggX3_whyNoDrop_X3_withoutMates : GoodIn wsX3_whyNoDrop wsX3_withoutMates := goodIn_r _ [64, 1, 24, 13, 25, 65, 66, 67, 68, 69, 5, 70, 71, 3, 4, 6, 7, 72, 73, 74, 75, 76, 9, 10, 11, 12, 14, 15, 16, 77, 78, 79, 80, 32, 33, 81, 48, 49, 50, 51, 52, 53, 54, 55, 56, 57, 58, 82, 18, 19, 20, 83, 84, 85, 86, 87, 88, 89, 29, 90, 2, 38, 39, 40, 41, 42, 43, 44, 45, 46, 91, 92, 93, 94, 17, 95, 96, 97, 98, 99, 100, 101, 102, 103, 104, 105, 106, 47, 59, 60, 34, 35, 36, 37, 107, 108, 109, 110, 8, 21, 22, 23, 26, 27, 28, 30, 31, 111, 112, 113, 114, 115, 116, 117, 118, 119, 120, 121, 122] (by decide +kernel) (by decide +kernel)
set_option maxRecDepth 20000 in
theorem gX3_whyNoDrop_X3_withoutMates : GoodIn wsX3_whyNoDrop (wsV RX3 107 RX3 yX3_withoutMates wsX3_withoutMates) := goodIn_app (goodIn_of _ (by decide +kernel)) ggX3_whyNoDrop_X3_withoutMates
theorem dX3_whyNoDrop_0 : decode cX3_whyNoDrop 0 = .ok (.aload_n 0, 1) := by decide +kernel
theorem dX3_whyNoDrop_1 : decode cX3_whyNoDrop 1 = .ok (.getfield 28, 3) := by decide +kernel
theorem dX3_whyNoDrop_4 : decode cX3_whyNoDrop 4 = .ok (.invokevirtual 32, 3) := by decide +kernel
theorem dX3_whyNoDrop_7 : decode cX3_whyNoDrop 7 = .ok (.istore_n 3, 1) := by decide +kernel
theorem dX3_whyNoDrop_8 : decode cX3_whyNoDrop 8 = .ok (.aload_n 0, 1) := by decide +kernel
theorem dX3_whyNoDrop_9 : decode cX3_whyNoDrop 9 = .ok (.getfield 28, 3) := by decide +kernel
theorem dX3_whyNoDrop_12 : decode cX3_whyNoDrop 12 = .ok (.iload_n 3, 1) := by decide +kernel
theorem dX3_whyNoDrop_13 : decode cX3_whyNoDrop 13 = .ok (.iload_n 1, 1) := by decide +kernel
theorem dX3_whyNoDrop_14 : decode cX3_whyNoDrop 14 = .ok (.invokevirtual 92, 3) := by decide +kernel
theorem dX3_whyNoDrop_17 : decode cX3_whyNoDrop 17 = .ok (.ifCond .ne 5, 3) := by decide +kernel
theorem dX3_whyNoDrop_20 : decode cX3_whyNoDrop 20 = .ok (.iconst 1, 1) := by decide +kernel
theorem dX3_whyNoDrop_21 : decode cX3_whyNoDrop 21 = .ok (.ireturn, 1) := by decide +kernel
theorem dX3_whyNoDrop_22 : decode cX3_whyNoDrop 22 = .ok (.aload_n 0, 1) := by decide +kernel
theorem dX3_whyNoDrop_23 : decode cX3_whyNoDrop 23 = .ok (.getfield 28, 3) := by decide +kernel
theorem dX3_whyNoDrop_26 : decode cX3_whyNoDrop 26 = .ok (.iload_n 2, 1) := by decide +kernel
theorem dX3_whyNoDrop_27 : decode cX3_whyNoDrop 27 = .ok (.invokevirtual 67, 3) := by decide +kernel
theorem dX3_whyNoDrop_30 : decode cX3_whyNoDrop 30 = .ok (.bipush 99, 2) := by decide +kernel
theorem dX3_whyNoDrop_32 : decode cX3_whyNoDrop 32 = .ok (.if_icmp .eq 5, 3) := by decide +kernel
theorem dX3_whyNoDrop_35 : decode cX3_whyNoDrop 35 = .ok (.iconst 2, 1) := by decide +kernel
theorem dX3_whyNoDrop_36 : decode cX3_whyNoDrop 36 = .ok (.ireturn, 1) := by decide +kernel
theorem dX3_whyNoDrop_37 : decode cX3_whyNoDrop 37 = .ok (.iload_n 1, 1) := by decide +kernel
theorem dX3_whyNoDrop_38 : decode cX3_whyNoDrop 38 = .ok (.iconst 5, 1) := by decide +kernel
theorem dX3_whyNoDrop_39 : decode cX3_whyNoDrop 39 = .ok (.if_icmp .ne 16, 3) := by decide +kernel
theorem dX3_whyNoDrop_42 : decode cX3_whyNoDrop 42 = .ok (.iload_n 3, 1) := by decide +kernel
theorem dX3_whyNoDrop_43 : decode cX3_whyNoDrop 43 = .ok (.invokestatic 95, 3) := by decide +kernel
theorem dX3_whyNoDrop_46 : decode cX3_whyNoDrop 46 = .ok (.iload_n 2, 1) := by decide +kernel
theorem dX3_whyNoDrop_47 : decode cX3_whyNoDrop 47 = .ok (.invokestatic 76, 3) := by decide +kernel
theorem dX3_whyNoDrop_50 : decode cX3_whyNoDrop 50 = .ok (.ifCond .eq 5, 3) := by decide +kernel
theorem dX3_whyNoDrop_53 : decode cX3_whyNoDrop 53 = .ok (.iconst 3, 1) := by decide +kernel
theorem dX3_whyNoDrop_54 : decode cX3_whyNoDrop 54 = .ok (.ireturn, 1) := by decide +kernel
theorem dX3_whyNoDrop_55 : decode cX3_whyNoDrop 55 = .ok (.iload_n 1, 1) := by decide +kernel
theorem dX3_whyNoDrop_56 : decode cX3_whyNoDrop 56 = .ok (.iconst 5, 1) := by decide +kernel
theorem dX3_whyNoDrop_57 : decode cX3_whyNoDrop 57 = .ok (.if_icmp .ne 17, 3) := by decide +kernel
theorem dX3_whyNoDrop_60 : decode cX3_whyNoDrop 60 = .ok (.aload_n 0, 1) := by decide +kernel
theorem dX3_whyNoDrop_61 : decode cX3_whyNoDrop 61 = .ok (.iload_n 3, 1) := by decide +kernel
theorem dX3_whyNoDrop_62 : decode cX3_whyNoDrop 62 = .ok (.invokevirtual 98, 3) := by decide +kernel
theorem dX3_whyNoDrop_65 : decode cX3_whyNoDrop 65 = .ok (.iload_n 2, 1) := by decide +kernel
theorem dX3_whyNoDrop_66 : decode cX3_whyNoDrop 66 = .ok (.invokestatic 76, 3) := by decide +kernel
theorem dX3_whyNoDrop_69 : decode cX3_whyNoDrop 69 = .ok (.ifCond .eq 5, 3) := by decide +kernel
theorem dX3_whyNoDrop_72 : decode cX3_whyNoDrop 72 = .ok (.iconst 4, 1) := by decide +kernel
theorem dX3_whyNoDrop_73 : decode cX3_whyNoDrop 73 = .ok (.ireturn, 1) := by decide +kernel
theorem dX3_whyNoDrop_74 : decode cX3_whyNoDrop 74 = .ok (.aload_n 0, 1) := by decide +kernel
theorem dX3_whyNoDrop_75 : decode cX3_whyNoDrop 75 = .ok (.invokevirtual 101, 3) := by decide +kernel
theorem dX3_whyNoDrop_78 : decode cX3_whyNoDrop 78 = .ok (.iload_n 2, 1) := by decide +kernel
theorem dX3_whyNoDrop_79 : decode cX3_whyNoDrop 79 = .ok (.invokestatic 76, 3) := by decide +kernel
theorem dX3_whyNoDrop_82 : decode cX3_whyNoDrop 82 = .ok (.ifCond .ne 5, 3) := by decide +kernel
theorem dX3_whyNoDrop_85 : decode cX3_whyNoDrop 85 = .ok (.iconst 5, 1) := by decide +kernel
theorem dX3_whyNoDrop_86 : decode cX3_whyNoDrop 86 = .ok (.ireturn, 1) := by decide +kernel
theorem dX3_whyNoDrop_87 : decode cX3_whyNoDrop 87 = .ok (.iload_n 1, 1) := by decide +kernel
theorem dX3_whyNoDrop_88 : decode cX3_whyNoDrop 88 = .ok (.iconst 5, 1) := by decide +kernel
theorem dX3_whyNoDrop_89 : decode cX3_whyNoDrop 89 = .ok (.if_icmp .ne 19, 3) := by decide +kernel
theorem dX3_whyNoDrop_92 : decode cX3_whyNoDrop 92 = .ok (.aload_n 0, 1) := by decide +kernel
theorem dX3_whyNoDrop_93 : decode cX3_whyNoDrop 93 = .ok (.iload_n 2, 1) := by decide +kernel
theorem dX3_whyNoDrop_94 : decode cX3_whyNoDrop 94 = .ok (.invokestatic 104, 3) := by decide +kernel
theorem dX3_whyNoDrop_97 : decode cX3_whyNoDrop 97 = .ok (.invokevirtual 107, 3) := by decide +kernel
theorem dX3_whyNoDrop_100 : decode cX3_whyNoDrop 100 = .ok (.ifCond .ne 8, 3) := by decide +kernel
theorem dX3_whyNoDrop_103 : decode cX3_whyNoDrop 103 = .ok (.bipush 6, 2) := by decide +kernel
theorem dX3_whyNoDrop_105 : decode cX3_whyNoDrop 105 = .ok (.goto 4, 3) := by decide +kernel
theorem dX3_whyNoDrop_108 : decode cX3_whyNoDrop 108 = .ok (.iconst 0, 1) := by decide +kernel
theorem dX3_whyNoDrop_109 : decode cX3_whyNoDrop 109 = .ok (.ireturn, 1) := by decide +kernel
set_option maxRecDepth 20000 in
theorem ggX3_listPlays_X4_moveNumber : GoodIn wsX3_listPlays wsX4_moveNumber := goodIn_r _ [7] (by decide +kernel) (by decide +kernel)
set_option maxRecDepth 20000 in
theorem gX3_listPlays_X4_moveNumber_n110 : GoodIn wsX3_listPlays (wsX4_moveNumber) := ggX3_listPlays_X4_moveNumber
set_option maxRecDepth 20000 in
theorem ggX3_listPlays_X3_addPlays : GoodIn wsX3_listPlays wsX3_addPlays := goodIn_r _ [12, 1, 13, 14, 6, 15, 18, 19, 20, 21, 22, 23] (by decide +kernel) (by decide +kernel)
set_option maxRecDepth 20000 in
theorem gX3_listPlays_X3_addPlays : GoodIn wsX3_listPlays (wsV RX3 113 RX3 yX3_addPlays wsX3_addPlays) := goodIn_app (goodIn_of _ (by decide +kernel)) ggX3_listPlays_X3_addPlays
set_option maxRecDepth 20000 in
theorem ggX3_listPlays_X4_dropNumber : GoodIn wsX3_listPlays wsX4_dropNumber := goodIn_r _ [17] (by decide +kernel) (by decide +kernel)
set_option maxRecDepth 20000 in
theorem gX3_listPlays_X4_dropNumber_n117 : GoodIn wsX3_listPlays (wsX4_dropNumber) := ggX3_listPlays_X4_dropNumber
theorem dX3_listPlays_0 : decode cX3_listPlays 0 = .ok (.aload_n 0, 1) := by decide +kernel
theorem dX3_listPlays_1 : decode cX3_listPlays 1 = .ok (.iconst 0, 1) := by decide +kernel
theorem dX3_listPlays_2 : decode cX3_listPlays 2 = .ok (.putfield 24, 3) := by decide +kernel
theorem dX3_listPlays_5 : decode cX3_listPlays 5 = .ok (.iconst 0, 1) := by decide +kernel
theorem dX3_listPlays_6 : decode cX3_listPlays 6 = .ok (.istore_n 1, 1) := by decide +kernel
theorem dX3_listPlays_7 : decode cX3_listPlays 7 = .ok (.iload_n 1, 1) := by decide +kernel
theorem dX3_listPlays_8 : decode cX3_listPlays 8 = .ok (.bipush 25, 2) := by decide +kernel
theorem dX3_listPlays_10 : decode cX3_listPlays 10 = .ok (.if_icmp .ge 25, 3) := by decide +kernel
theorem dX3_listPlays_13 : decode cX3_listPlays 13 = .ok (.aload_n 0, 1) := by decide +kernel
theorem dX3_listPlays_14 : decode cX3_listPlays 14 = .ok (.aload_n 0, 1) := by decide +kernel
theorem dX3_listPlays_15 : decode cX3_listPlays 15 = .ok (.getfield 9, 3) := by decide +kernel
theorem dX3_listPlays_18 : decode cX3_listPlays 18 = .ok (.iload_n 1, 1) := by decide +kernel
theorem dX3_listPlays_19 : decode cX3_listPlays 19 = .ok (.iaload, 1) := by decide +kernel
theorem dX3_listPlays_20 : decode cX3_listPlays 20 = .ok (.iload_n 1, 1) := by decide +kernel
theorem dX3_listPlays_21 : decode cX3_listPlays 21 = .ok (.iconst 0, 1) := by decide +kernel
theorem dX3_listPlays_22 : decode cX3_listPlays 22 = .ok (.iconst 0, 1) := by decide +kernel
theorem dX3_listPlays_23 : decode cX3_listPlays 23 = .ok (.invokestatic 110, 3) := by decide +kernel
theorem dX3_listPlays_26 : decode cX3_listPlays 26 = .ok (.invokevirtual 113, 3) := by decide +kernel
theorem dX3_listPlays_29 : decode cX3_listPlays 29 = .ok (.iinc 1 1, 3) := by decide +kernel
theorem dX3_listPlays_32 : decode cX3_listPlays 32 = .ok (.goto (-25), 3) := by decide +kernel
theorem dX3_listPlays_35 : decode cX3_listPlays 35 = .ok (.iconst 0, 1) := by decide +kernel
theorem dX3_listPlays_36 : decode cX3_listPlays 36 = .ok (.istore_n 1, 1) := by decide +kernel
theorem dX3_listPlays_37 : decode cX3_listPlays 37 = .ok (.iload_n 1, 1) := by decide +kernel
theorem dX3_listPlays_38 : decode cX3_listPlays 38 = .ok (.bipush 25, 2) := by decide +kernel
theorem dX3_listPlays_40 : decode cX3_listPlays 40 = .ok (.if_icmp .ge 25, 3) := by decide +kernel
theorem dX3_listPlays_43 : decode cX3_listPlays 43 = .ok (.aload_n 0, 1) := by decide +kernel
theorem dX3_listPlays_44 : decode cX3_listPlays 44 = .ok (.aload_n 0, 1) := by decide +kernel
theorem dX3_listPlays_45 : decode cX3_listPlays 45 = .ok (.getfield 15, 3) := by decide +kernel
theorem dX3_listPlays_48 : decode cX3_listPlays 48 = .ok (.iload_n 1, 1) := by decide +kernel
theorem dX3_listPlays_49 : decode cX3_listPlays 49 = .ok (.iaload, 1) := by decide +kernel
theorem dX3_listPlays_50 : decode cX3_listPlays 50 = .ok (.iload_n 1, 1) := by decide +kernel
theorem dX3_listPlays_51 : decode cX3_listPlays 51 = .ok (.iconst 0, 1) := by decide +kernel
theorem dX3_listPlays_52 : decode cX3_listPlays 52 = .ok (.iconst 1, 1) := by decide +kernel
theorem dX3_listPlays_53 : decode cX3_listPlays 53 = .ok (.invokestatic 110, 3) := by decide +kernel
theorem dX3_listPlays_56 : decode cX3_listPlays 56 = .ok (.invokevirtual 113, 3) := by decide +kernel
theorem dX3_listPlays_59 : decode cX3_listPlays 59 = .ok (.iinc 1 1, 3) := by decide +kernel
theorem dX3_listPlays_62 : decode cX3_listPlays 62 = .ok (.goto (-25), 3) := by decide +kernel
theorem dX3_listPlays_65 : decode cX3_listPlays 65 = .ok (.iconst 1, 1) := by decide +kernel
theorem dX3_listPlays_66 : decode cX3_listPlays 66 = .ok (.istore_n 1, 1) := by decide +kernel
theorem dX3_listPlays_67 : decode cX3_listPlays 67 = .ok (.iload_n 1, 1) := by decide +kernel
theorem dX3_listPlays_68 : decode cX3_listPlays 68 = .ok (.iconst 5, 1) := by decide +kernel
theorem dX3_listPlays_69 : decode cX3_listPlays 69 = .ok (.if_icmp .gt 24, 3) := by decide +kernel
theorem dX3_listPlays_72 : decode cX3_listPlays 72 = .ok (.aload_n 0, 1) := by decide +kernel
theorem dX3_listPlays_73 : decode cX3_listPlays 73 = .ok (.aload_n 0, 1) := by decide +kernel
theorem dX3_listPlays_74 : decode cX3_listPlays 74 = .ok (.getfield 18, 3) := by decide +kernel
theorem dX3_listPlays_77 : decode cX3_listPlays 77 = .ok (.iload_n 1, 1) := by decide +kernel
theorem dX3_listPlays_78 : decode cX3_listPlays 78 = .ok (.iaload, 1) := by decide +kernel
theorem dX3_listPlays_79 : decode cX3_listPlays 79 = .ok (.iload_n 1, 1) := by decide +kernel
theorem dX3_listPlays_80 : decode cX3_listPlays 80 = .ok (.iconst 0, 1) := by decide +kernel
theorem dX3_listPlays_81 : decode cX3_listPlays 81 = .ok (.invokestatic 117, 3) := by decide +kernel
theorem dX3_listPlays_84 : decode cX3_listPlays 84 = .ok (.invokevirtual 113, 3) := by decide +kernel
theorem dX3_listPlays_87 : decode cX3_listPlays 87 = .ok (.iinc 1 1, 3) := by decide +kernel
theorem dX3_listPlays_90 : decode cX3_listPlays 90 = .ok (.goto (-23), 3) := by decide +kernel
theorem dX3_listPlays_93 : decode cX3_listPlays 93 = .ok (.aload_n 0, 1) := by decide +kernel
theorem dX3_listPlays_94 : decode cX3_listPlays 94 = .ok (.getfield 24, 3) := by decide +kernel
theorem dX3_listPlays_97 : decode cX3_listPlays 97 = .ok (.ireturn, 1) := by decide +kernel
theorem dX3_listed_0 : decode cX3_listed 0 = .ok (.iload_n 1, 1) := by decide +kernel
theorem dX3_listed_1 : decode cX3_listed 1 = .ok (.ifCond .lt 29, 3) := by decide +kernel
theorem dX3_listed_4 : decode cX3_listed 4 = .ok (.iload_n 1, 1) := by decide +kernel
theorem dX3_listed_5 : decode cX3_listed 5 = .ok (.aload_n 0, 1) := by decide +kernel
theorem dX3_listed_6 : decode cX3_listed 6 = .ok (.getfield 24, 3) := by decide +kernel
theorem dX3_listed_9 : decode cX3_listed 9 = .ok (.if_icmp .ge 21, 3) := by decide +kernel
theorem dX3_listed_12 : decode cX3_listed 12 = .ok (.iload_n 1, 1) := by decide +kernel
theorem dX3_listed_13 : decode cX3_listed 13 = .ok (.aload_n 0, 1) := by decide +kernel
theorem dX3_listed_14 : decode cX3_listed 14 = .ok (.getfield 21, 3) := by decide +kernel
theorem dX3_listed_17 : decode cX3_listed 17 = .ok (.arraylength, 1) := by decide +kernel
theorem dX3_listed_18 : decode cX3_listed 18 = .ok (.if_icmp .ge 12, 3) := by decide +kernel
theorem dX3_listed_21 : decode cX3_listed 21 = .ok (.aload_n 0, 1) := by decide +kernel
theorem dX3_listed_22 : decode cX3_listed 22 = .ok (.getfield 21, 3) := by decide +kernel
theorem dX3_listed_25 : decode cX3_listed 25 = .ok (.iload_n 1, 1) := by decide +kernel
theorem dX3_listed_26 : decode cX3_listed 26 = .ok (.iaload, 1) := by decide +kernel
theorem dX3_listed_27 : decode cX3_listed 27 = .ok (.goto 6, 3) := by decide +kernel
theorem dX3_listed_30 : decode cX3_listed 30 = .ok (.sipush (-1005), 3) := by decide +kernel
theorem dX3_listed_33 : decode cX3_listed 33 = .ok (.ireturn, 1) := by decide +kernel
set_option maxRecDepth 20000 in
theorem ggX3_addPlays_X4_has : GoodIn wsX3_addPlays wsX4_has := goodIn_r _ [5] (by decide +kernel) (by decide +kernel)
set_option maxRecDepth 20000 in
theorem gX3_addPlays_X4_has_n76 : GoodIn wsX3_addPlays (wsX4_has) := ggX3_addPlays_X4_has
theorem dX3_addPlays_0 : decode cX3_addPlays 0 = .ok (.iconst 0, 1) := by decide +kernel
theorem dX3_addPlays_1 : decode cX3_addPlays 1 = .ok (.istore_n 3, 1) := by decide +kernel
theorem dX3_addPlays_2 : decode cX3_addPlays 2 = .ok (.iload_n 3, 1) := by decide +kernel
theorem dX3_addPlays_3 : decode cX3_addPlays 3 = .ok (.bipush 25, 2) := by decide +kernel
theorem dX3_addPlays_5 : decode cX3_addPlays 5 = .ok (.if_icmp .ge 58, 3) := by decide +kernel
theorem dX3_addPlays_8 : decode cX3_addPlays 8 = .ok (.iload_n 1, 1) := by decide +kernel
theorem dX3_addPlays_9 : decode cX3_addPlays 9 = .ok (.iload_n 3, 1) := by decide +kernel
theorem dX3_addPlays_10 : decode cX3_addPlays 10 = .ok (.invokestatic 76, 3) := by decide +kernel
theorem dX3_addPlays_13 : decode cX3_addPlays 13 = .ok (.ifCond .eq 44, 3) := by decide +kernel
theorem dX3_addPlays_16 : decode cX3_addPlays 16 = .ok (.aload_n 0, 1) := by decide +kernel
theorem dX3_addPlays_17 : decode cX3_addPlays 17 = .ok (.getfield 24, 3) := by decide +kernel
theorem dX3_addPlays_20 : decode cX3_addPlays 20 = .ok (.ifCond .lt 37, 3) := by decide +kernel
theorem dX3_addPlays_23 : decode cX3_addPlays 23 = .ok (.aload_n 0, 1) := by decide +kernel
theorem dX3_addPlays_24 : decode cX3_addPlays 24 = .ok (.getfield 24, 3) := by decide +kernel
theorem dX3_addPlays_27 : decode cX3_addPlays 27 = .ok (.aload_n 0, 1) := by decide +kernel
theorem dX3_addPlays_28 : decode cX3_addPlays 28 = .ok (.getfield 21, 3) := by decide +kernel
theorem dX3_addPlays_31 : decode cX3_addPlays 31 = .ok (.arraylength, 1) := by decide +kernel
theorem dX3_addPlays_32 : decode cX3_addPlays 32 = .ok (.if_icmp .ge 25, 3) := by decide +kernel
theorem dX3_addPlays_35 : decode cX3_addPlays 35 = .ok (.aload_n 0, 1) := by decide +kernel
theorem dX3_addPlays_36 : decode cX3_addPlays 36 = .ok (.getfield 21, 3) := by decide +kernel
theorem dX3_addPlays_39 : decode cX3_addPlays 39 = .ok (.aload_n 0, 1) := by decide +kernel
theorem dX3_addPlays_40 : decode cX3_addPlays 40 = .ok (.getfield 24, 3) := by decide +kernel
theorem dX3_addPlays_43 : decode cX3_addPlays 43 = .ok (.iload_n 2, 1) := by decide +kernel
theorem dX3_addPlays_44 : decode cX3_addPlays 44 = .ok (.iload_n 3, 1) := by decide +kernel
theorem dX3_addPlays_45 : decode cX3_addPlays 45 = .ok (.iadd, 1) := by decide +kernel
theorem dX3_addPlays_46 : decode cX3_addPlays 46 = .ok (.iastore, 1) := by decide +kernel
theorem dX3_addPlays_47 : decode cX3_addPlays 47 = .ok (.aload_n 0, 1) := by decide +kernel
theorem dX3_addPlays_48 : decode cX3_addPlays 48 = .ok (.dup, 1) := by decide +kernel
theorem dX3_addPlays_49 : decode cX3_addPlays 49 = .ok (.getfield 24, 3) := by decide +kernel
theorem dX3_addPlays_52 : decode cX3_addPlays 52 = .ok (.iconst 1, 1) := by decide +kernel
theorem dX3_addPlays_53 : decode cX3_addPlays 53 = .ok (.iadd, 1) := by decide +kernel
theorem dX3_addPlays_54 : decode cX3_addPlays 54 = .ok (.putfield 24, 3) := by decide +kernel
theorem dX3_addPlays_57 : decode cX3_addPlays 57 = .ok (.iinc 3 1, 3) := by decide +kernel
theorem dX3_addPlays_60 : decode cX3_addPlays 60 = .ok (.goto (-58), 3) := by decide +kernel
theorem dX3_addPlays_63 : decode cX3_addPlays 63 = .ok (.return_, 1) := by decide +kernel
set_option maxRecDepth 20000 in
theorem ggX3_findPlays_X2_sideToPlay : GoodIn wsX3_findPlays wsX2_sideToPlay := goodIn_r _ [9, 10, 140, 141] (by decide +kernel) (by decide +kernel)
set_option maxRecDepth 20000 in
theorem gX3_findPlays_X2_sideToPlay : GoodIn wsX3_findPlays (wsV RX3 32 RX2 yX2_sideToPlay wsX2_sideToPlay) := goodIn_app (goodIn_of _ (by decide +kernel)) ggX3_findPlays_X2_sideToPlay
set_option maxRecDepth 20000 in
theorem ggX3_findPlays_X2_manOn : GoodIn wsX3_findPlays wsX2_manOn := goodIn_r _ [14, 10, 140, 141] (by decide +kernel) (by decide +kernel)
set_option maxRecDepth 20000 in
theorem gX3_findPlays_X2_manOn : GoodIn wsX3_findPlays (wsV RX3 67 RX2 yX2_manOn wsX2_manOn) := goodIn_app (goodIn_of _ (by decide +kernel)) ggX3_findPlays_X2_manOn
set_option maxRecDepth 20000 in
theorem ggX3_findPlays_X4_sideOf : GoodIn wsX3_findPlays wsX4_sideOf := goodIn_r _ [17] (by decide +kernel) (by decide +kernel)
set_option maxRecDepth 20000 in
theorem gX3_findPlays_X4_sideOf_n70 : GoodIn wsX3_findPlays (wsX4_sideOf) := ggX3_findPlays_X4_sideOf
set_option maxRecDepth 20000 in
theorem ggX3_findPlays_X3_safeTargets : GoodIn wsX3_findPlays wsX3_safeTargets := goodIn_r _ [22, 1, 11, 12, 13, 8, 14, 10, 15, 16, 17, 23, 24, 25, 26, 27, 28, 29, 30, 31, 32, 33, 21, 34, 35, 36, 37, 38, 39, 40, 41, 42, 43, 44, 45, 46, 47, 48, 49, 50, 51, 52, 53, 54, 55, 56, 134, 135, 136, 137, 138, 139, 140, 141] (by decide +kernel) (by decide +kernel)
set_option maxRecDepth 20000 in
theorem gX3_findPlays_X3_safeTargets : GoodIn wsX3_findPlays (wsV RX3 89 RX3 yX3_safeTargets wsX3_safeTargets) := goodIn_app (goodIn_of _ (by decide +kernel)) ggX3_findPlays_X3_safeTargets
set_option maxRecDepth 20000 in
theorem ggX3_findPlays_X3_forcingSquares : GoodIn wsX3_findPlays wsX3_forcingSquares := goodIn_r _ [60, 1, 11, 12, 13, 8, 14, 10, 35, 16, 36, 15, 17, 61, 62, 63, 134, 135, 136, 137, 138, 139, 140, 141] (by decide +kernel) (by decide +kernel)
set_option maxRecDepth 20000 in
theorem gX3_findPlays_X3_forcingSquares : GoodIn wsX3_findPlays (wsV RX3 86 RX3 yX3_forcingSquares wsX3_forcingSquares) := goodIn_app (goodIn_of _ (by decide +kernel)) ggX3_findPlays_X3_forcingSquares
set_option maxRecDepth 20000 in
theorem ggX3_findPlays_X3_promotingSquares : GoodIn wsX3_findPlays wsX3_promotingSquares := goodIn_r _ [67, 1, 68, 11, 12, 13, 8, 14, 10, 35, 16, 36, 15, 17, 61, 62, 63, 29, 30, 134, 135, 136, 137, 138, 139, 140, 141] (by decide +kernel) (by decide +kernel)
set_option maxRecDepth 20000 in
theorem gX3_findPlays_X3_promotingSquares : GoodIn wsX3_findPlays (wsV RX3 83 RX3 yX3_promotingSquares wsX3_promotingSquares) := goodIn_app (goodIn_of _ (by decide +kernel)) ggX3_findPlays_X3_promotingSquares
set_option maxRecDepth 20000 in
theorem ggX3_findPlays_J6_bitCount_0f7a4 : GoodIn wsX3_findPlays wsJ6_bitCount_0f7a4 := goodIn_r _ [72, 73, 74, 75] (by decide +kernel) (by decide +kernel)
set_option maxRecDepth 20000 in
theorem gX3_findPlays_J6_bitCount_0f7a4 : GoodIn wsX3_findPlays (va_wsS RX3 120 yJ6_bitCount_0f7a4 wsJ6_bitCount_0f7a4) := goodIn_app (goodIn_of _ (by decide +kernel)) ggX3_findPlays_J6_bitCount_0f7a4
set_option maxRecDepth 20000 in
theorem ggX3_findPlays_X3_safeDrops : GoodIn wsX3_findPlays wsX3_safeDrops := goodIn_r _ [79, 1, 5, 6, 7, 8, 9, 10, 45, 46, 47, 48, 49, 16, 50, 51, 52, 53, 54, 27, 11, 12, 13, 14, 80, 81, 37, 38, 39, 40, 41, 42, 43, 44, 35, 36, 15, 17, 55, 56, 134, 135, 136, 137, 138, 139, 140, 141] (by decide +kernel) (by decide +kernel)
set_option maxRecDepth 20000 in
theorem gX3_findPlays_X3_safeDrops : GoodIn wsX3_findPlays (wsV RX3 101 RX3 yX3_safeDrops wsX3_safeDrops) := goodIn_app (goodIn_of _ (by decide +kernel)) ggX3_findPlays_X3_safeDrops
set_option maxRecDepth 20000 in
theorem ggX3_findPlays_X3_openToDrops : GoodIn wsX3_findPlays wsX3_openToDrops := goodIn_r _ [85, 1, 5, 6, 7, 8, 9, 10, 86, 87, 88, 89, 49, 16, 50, 90, 91, 61, 62, 63, 92, 93, 94, 21, 95, 96, 11, 12, 13, 14, 80, 81, 134, 135, 136, 137, 138, 139, 140, 141] (by decide +kernel) (by decide +kernel)
set_option maxRecDepth 20000 in
theorem gX3_findPlays_X3_openToDrops : GoodIn wsX3_findPlays (wsV RX3 125 RX3 yX3_openToDrops wsX3_openToDrops) := goodIn_app (goodIn_of _ (by decide +kernel)) ggX3_findPlays_X3_openToDrops
set_option maxRecDepth 20000 in
theorem ggX3_findPlays_X3_withoutMates : GoodIn wsX3_findPlays wsX3_withoutMates := goodIn_r _ [100, 1, 29, 16, 30, 101, 102, 103, 104, 105, 8, 106, 107, 6, 7, 9, 10, 108, 109, 110, 111, 112, 87, 88, 89, 49, 50, 90, 91, 113, 114, 115, 116, 80, 81, 117, 38, 39, 40, 41, 42, 43, 44, 35, 36, 15, 17, 28, 12, 13, 14, 118, 119, 120, 121, 122, 123, 124, 21, 125, 5, 45, 46, 47, 48, 51, 52, 53, 54, 27, 126, 127, 128, 129, 11, 18, 19, 20, 22, 23, 24, 25, 26, 31, 32, 33, 34, 37, 55, 56, 76, 77, 78, 79, 82, 83, 84, 85, 86, 61, 62, 63, 92, 93, 94, 95, 96, 130, 131, 132, 133, 134, 135, 136, 137, 138, 139, 140, 141] (by decide +kernel) (by decide +kernel)
set_option maxRecDepth 20000 in
theorem gX3_findPlays_X3_withoutMates : GoodIn wsX3_findPlays (wsV RX3 107 RX3 yX3_withoutMates wsX3_withoutMates) := goodIn_app (goodIn_of _ (by decide +kernel)) ggX3_findPlays_X3_withoutMates
theorem dX3_findPlays_0 : decode cX3_findPlays 0 = .ok (.aload_n 0, 1) := by decide +kernel
theorem dX3_findPlays_1 : decode cX3_findPlays 1 = .ok (.getfield 28, 3) := by decide +kernel
theorem dX3_findPlays_4 : decode cX3_findPlays 4 = .ok (.invokevirtual 32, 3) := by decide +kernel
theorem dX3_findPlays_7 : decode cX3_findPlays 7 = .ok (.istore_n 1, 1) := by decide +kernel
theorem dX3_findPlays_8 : decode cX3_findPlays 8 = .ok (.iconst 0, 1) := by decide +kernel
theorem dX3_findPlays_9 : decode cX3_findPlays 9 = .ok (.istore_n 2, 1) := by decide +kernel
theorem dX3_findPlays_10 : decode cX3_findPlays 10 = .ok (.iconst 0, 1) := by decide +kernel
theorem dX3_findPlays_11 : decode cX3_findPlays 11 = .ok (.istore_n 3, 1) := by decide +kernel
theorem dX3_findPlays_12 : decode cX3_findPlays 12 = .ok (.iload_n 3, 1) := by decide +kernel
theorem dX3_findPlays_13 : decode cX3_findPlays 13 = .ok (.bipush 25, 2) := by decide +kernel
theorem dX3_findPlays_15 : decode cX3_findPlays 15 = .ok (.if_icmp .ge 99, 3) := by decide +kernel
theorem dX3_findPlays_18 : decode cX3_findPlays 18 = .ok (.aload_n 0, 1) := by decide +kernel
theorem dX3_findPlays_19 : decode cX3_findPlays 19 = .ok (.getfield 28, 3) := by decide +kernel
theorem dX3_findPlays_22 : decode cX3_findPlays 22 = .ok (.iload_n 3, 1) := by decide +kernel
theorem dX3_findPlays_23 : decode cX3_findPlays 23 = .ok (.invokevirtual 67, 3) := by decide +kernel
theorem dX3_findPlays_26 : decode cX3_findPlays 26 = .ok (.invokestatic 70, 3) := by decide +kernel
theorem dX3_findPlays_29 : decode cX3_findPlays 29 = .ok (.iload_n 1, 1) := by decide +kernel
theorem dX3_findPlays_30 : decode cX3_findPlays 30 = .ok (.if_icmp .ne 7, 3) := by decide +kernel
theorem dX3_findPlays_33 : decode cX3_findPlays 33 = .ok (.iconst 1, 1) := by decide +kernel
theorem dX3_findPlays_34 : decode cX3_findPlays 34 = .ok (.goto 4, 3) := by decide +kernel
theorem dX3_findPlays_37 : decode cX3_findPlays 37 = .ok (.iconst 0, 1) := by decide +kernel
theorem dX3_findPlays_38 : decode cX3_findPlays 38 = .ok (.istore 4, 2) := by decide +kernel
theorem dX3_findPlays_40 : decode cX3_findPlays 40 = .ok (.iload 4, 2) := by decide +kernel
theorem dX3_findPlays_42 : decode cX3_findPlays 42 = .ok (.ifCond .eq 11, 3) := by decide +kernel
theorem dX3_findPlays_45 : decode cX3_findPlays 45 = .ok (.aload_n 0, 1) := by decide +kernel
theorem dX3_findPlays_46 : decode cX3_findPlays 46 = .ok (.iload_n 3, 1) := by decide +kernel
theorem dX3_findPlays_47 : decode cX3_findPlays 47 = .ok (.invokevirtual 89, 3) := by decide +kernel
theorem dX3_findPlays_50 : decode cX3_findPlays 50 = .ok (.goto 4, 3) := by decide +kernel
theorem dX3_findPlays_53 : decode cX3_findPlays 53 = .ok (.iconst 0, 1) := by decide +kernel
theorem dX3_findPlays_54 : decode cX3_findPlays 54 = .ok (.istore 5, 2) := by decide +kernel
theorem dX3_findPlays_56 : decode cX3_findPlays 56 = .ok (.aload_n 0, 1) := by decide +kernel
theorem dX3_findPlays_57 : decode cX3_findPlays 57 = .ok (.getfield 9, 3) := by decide +kernel
theorem dX3_findPlays_60 : decode cX3_findPlays 60 = .ok (.iload_n 3, 1) := by decide +kernel
theorem dX3_findPlays_61 : decode cX3_findPlays 61 = .ok (.iload 5, 2) := by decide +kernel
theorem dX3_findPlays_63 : decode cX3_findPlays 63 = .ok (.aload_n 0, 1) := by decide +kernel
theorem dX3_findPlays_64 : decode cX3_findPlays 64 = .ok (.iload_n 3, 1) := by decide +kernel
theorem dX3_findPlays_65 : decode cX3_findPlays 65 = .ok (.invokevirtual 86, 3) := by decide +kernel
theorem dX3_findPlays_68 : decode cX3_findPlays 68 = .ok (.iconst (-1), 1) := by decide +kernel
theorem dX3_findPlays_69 : decode cX3_findPlays 69 = .ok (.ixor, 1) := by decide +kernel
theorem dX3_findPlays_70 : decode cX3_findPlays 70 = .ok (.iand, 1) := by decide +kernel
theorem dX3_findPlays_71 : decode cX3_findPlays 71 = .ok (.iastore, 1) := by decide +kernel
theorem dX3_findPlays_72 : decode cX3_findPlays 72 = .ok (.aload_n 0, 1) := by decide +kernel
theorem dX3_findPlays_73 : decode cX3_findPlays 73 = .ok (.getfield 15, 3) := by decide +kernel
theorem dX3_findPlays_76 : decode cX3_findPlays 76 = .ok (.iload_n 3, 1) := by decide +kernel
theorem dX3_findPlays_77 : decode cX3_findPlays 77 = .ok (.iload 5, 2) := by decide +kernel
theorem dX3_findPlays_79 : decode cX3_findPlays 79 = .ok (.aload_n 0, 1) := by decide +kernel
theorem dX3_findPlays_80 : decode cX3_findPlays 80 = .ok (.iload_n 3, 1) := by decide +kernel
theorem dX3_findPlays_81 : decode cX3_findPlays 81 = .ok (.invokevirtual 83, 3) := by decide +kernel
theorem dX3_findPlays_84 : decode cX3_findPlays 84 = .ok (.iand, 1) := by decide +kernel
theorem dX3_findPlays_85 : decode cX3_findPlays 85 = .ok (.iastore, 1) := by decide +kernel
theorem dX3_findPlays_86 : decode cX3_findPlays 86 = .ok (.iload_n 2, 1) := by decide +kernel
theorem dX3_findPlays_87 : decode cX3_findPlays 87 = .ok (.aload_n 0, 1) := by decide +kernel
theorem dX3_findPlays_88 : decode cX3_findPlays 88 = .ok (.getfield 9, 3) := by decide +kernel
theorem dX3_findPlays_91 : decode cX3_findPlays 91 = .ok (.iload_n 3, 1) := by decide +kernel
theorem dX3_findPlays_92 : decode cX3_findPlays 92 = .ok (.iaload, 1) := by decide +kernel
theorem dX3_findPlays_93 : decode cX3_findPlays 93 = .ok (.invokestatic 120, 3) := by decide +kernel
theorem dX3_findPlays_96 : decode cX3_findPlays 96 = .ok (.aload_n 0, 1) := by decide +kernel
theorem dX3_findPlays_97 : decode cX3_findPlays 97 = .ok (.getfield 15, 3) := by decide +kernel
theorem dX3_findPlays_100 : decode cX3_findPlays 100 = .ok (.iload_n 3, 1) := by decide +kernel
theorem dX3_findPlays_101 : decode cX3_findPlays 101 = .ok (.iaload, 1) := by decide +kernel
theorem dX3_findPlays_102 : decode cX3_findPlays 102 = .ok (.invokestatic 120, 3) := by decide +kernel
theorem dX3_findPlays_105 : decode cX3_findPlays 105 = .ok (.iadd, 1) := by decide +kernel
theorem dX3_findPlays_106 : decode cX3_findPlays 106 = .ok (.iadd, 1) := by decide +kernel
theorem dX3_findPlays_107 : decode cX3_findPlays 107 = .ok (.istore_n 2, 1) := by decide +kernel
theorem dX3_findPlays_108 : decode cX3_findPlays 108 = .ok (.iinc 3 1, 3) := by decide +kernel
theorem dX3_findPlays_111 : decode cX3_findPlays 111 = .ok (.goto (-99), 3) := by decide +kernel
theorem dX3_findPlays_114 : decode cX3_findPlays 114 = .ok (.aload_n 0, 1) := by decide +kernel
theorem dX3_findPlays_115 : decode cX3_findPlays 115 = .ok (.invokevirtual 101, 3) := by decide +kernel
theorem dX3_findPlays_118 : decode cX3_findPlays 118 = .ok (.istore_n 3, 1) := by decide +kernel
theorem dX3_findPlays_119 : decode cX3_findPlays 119 = .ok (.iconst 1, 1) := by decide +kernel
theorem dX3_findPlays_120 : decode cX3_findPlays 120 = .ok (.istore 4, 2) := by decide +kernel
theorem dX3_findPlays_122 : decode cX3_findPlays 122 = .ok (.iload 4, 2) := by decide +kernel
theorem dX3_findPlays_124 : decode cX3_findPlays 124 = .ok (.iconst 5, 1) := by decide +kernel
theorem dX3_findPlays_125 : decode cX3_findPlays 125 = .ok (.if_icmp .gt 55, 3) := by decide +kernel
theorem dX3_findPlays_128 : decode cX3_findPlays 128 = .ok (.aload_n 0, 1) := by decide +kernel
theorem dX3_findPlays_129 : decode cX3_findPlays 129 = .ok (.iload 4, 2) := by decide +kernel
theorem dX3_findPlays_131 : decode cX3_findPlays 131 = .ok (.iload_n 3, 1) := by decide +kernel
theorem dX3_findPlays_132 : decode cX3_findPlays 132 = .ok (.invokevirtual 125, 3) := by decide +kernel
theorem dX3_findPlays_135 : decode cX3_findPlays 135 = .ok (.istore 5, 2) := by decide +kernel
theorem dX3_findPlays_137 : decode cX3_findPlays 137 = .ok (.aload_n 0, 1) := by decide +kernel
theorem dX3_findPlays_138 : decode cX3_findPlays 138 = .ok (.getfield 18, 3) := by decide +kernel
theorem dX3_findPlays_141 : decode cX3_findPlays 141 = .ok (.iload 4, 2) := by decide +kernel
theorem dX3_findPlays_143 : decode cX3_findPlays 143 = .ok (.iload 4, 2) := by decide +kernel
theorem dX3_findPlays_145 : decode cX3_findPlays 145 = .ok (.iconst 5, 1) := by decide +kernel
theorem dX3_findPlays_146 : decode cX3_findPlays 146 = .ok (.if_icmp .ne 12, 3) := by decide +kernel
theorem dX3_findPlays_149 : decode cX3_findPlays 149 = .ok (.aload_n 0, 1) := by decide +kernel
theorem dX3_findPlays_150 : decode cX3_findPlays 150 = .ok (.iload 5, 2) := by decide +kernel
theorem dX3_findPlays_152 : decode cX3_findPlays 152 = .ok (.invokevirtual 107, 3) := by decide +kernel
theorem dX3_findPlays_155 : decode cX3_findPlays 155 = .ok (.goto 5, 3) := by decide +kernel
theorem dX3_findPlays_158 : decode cX3_findPlays 158 = .ok (.iload 5, 2) := by decide +kernel
theorem dX3_findPlays_160 : decode cX3_findPlays 160 = .ok (.iastore, 1) := by decide +kernel
theorem dX3_findPlays_161 : decode cX3_findPlays 161 = .ok (.iload_n 2, 1) := by decide +kernel
theorem dX3_findPlays_162 : decode cX3_findPlays 162 = .ok (.aload_n 0, 1) := by decide +kernel
theorem dX3_findPlays_163 : decode cX3_findPlays 163 = .ok (.getfield 18, 3) := by decide +kernel
theorem dX3_findPlays_166 : decode cX3_findPlays 166 = .ok (.iload 4, 2) := by decide +kernel
theorem dX3_findPlays_168 : decode cX3_findPlays 168 = .ok (.iaload, 1) := by decide +kernel
theorem dX3_findPlays_169 : decode cX3_findPlays 169 = .ok (.invokestatic 120, 3) := by decide +kernel
theorem dX3_findPlays_172 : decode cX3_findPlays 172 = .ok (.iadd, 1) := by decide +kernel
theorem dX3_findPlays_173 : decode cX3_findPlays 173 = .ok (.istore_n 2, 1) := by decide +kernel
theorem dX3_findPlays_174 : decode cX3_findPlays 174 = .ok (.iinc 4 1, 3) := by decide +kernel
theorem dX3_findPlays_177 : decode cX3_findPlays 177 = .ok (.goto (-55), 3) := by decide +kernel
theorem dX3_findPlays_180 : decode cX3_findPlays 180 = .ok (.iload_n 2, 1) := by decide +kernel
theorem dX3_findPlays_181 : decode cX3_findPlays 181 = .ok (.ireturn, 1) := by decide +kernel
theorem dX3_dropSquares_0 : decode cX3_dropSquares 0 = .ok (.iload_n 1, 1) := by decide +kernel
theorem dX3_dropSquares_1 : decode cX3_dropSquares 1 = .ok (.ifCond .lt 21, 3) := by decide +kernel
theorem dX3_dropSquares_4 : decode cX3_dropSquares 4 = .ok (.iload_n 1, 1) := by decide +kernel
theorem dX3_dropSquares_5 : decode cX3_dropSquares 5 = .ok (.aload_n 0, 1) := by decide +kernel
theorem dX3_dropSquares_6 : decode cX3_dropSquares 6 = .ok (.getfield 18, 3) := by decide +kernel
theorem dX3_dropSquares_9 : decode cX3_dropSquares 9 = .ok (.arraylength, 1) := by decide +kernel
theorem dX3_dropSquares_10 : decode cX3_dropSquares 10 = .ok (.if_icmp .ge 12, 3) := by decide +kernel
theorem dX3_dropSquares_13 : decode cX3_dropSquares 13 = .ok (.aload_n 0, 1) := by decide +kernel
theorem dX3_dropSquares_14 : decode cX3_dropSquares 14 = .ok (.getfield 18, 3) := by decide +kernel
theorem dX3_dropSquares_17 : decode cX3_dropSquares 17 = .ok (.iload_n 1, 1) := by decide +kernel
theorem dX3_dropSquares_18 : decode cX3_dropSquares 18 = .ok (.iaload, 1) := by decide +kernel
theorem dX3_dropSquares_19 : decode cX3_dropSquares 19 = .ok (.goto 4, 3) := by decide +kernel
theorem dX3_dropSquares_22 : decode cX3_dropSquares 22 = .ok (.iconst 0, 1) := by decide +kernel
theorem dX3_dropSquares_23 : decode cX3_dropSquares 23 = .ok (.ireturn, 1) := by decide +kernel
set_option maxRecDepth 20000 in
theorem ggX3_canEnter_X2_manOn : GoodIn wsX3_canEnter wsX2_manOn := goodIn_r _ [6, 7, 19, 20] (by decide +kernel) (by decide +kernel)
set_option maxRecDepth 20000 in
theorem gX3_canEnter_X2_manOn : GoodIn wsX3_canEnter (wsV RX3 67 RX2 yX2_manOn wsX2_manOn) := goodIn_app (goodIn_of _ (by decide +kernel)) ggX3_canEnter_X2_manOn
set_option maxRecDepth 20000 in
theorem ggX3_canEnter_X4_sideOf : GoodIn wsX3_canEnter wsX4_sideOf := goodIn_r _ [10] (by decide +kernel) (by decide +kernel)
set_option maxRecDepth 20000 in
theorem gX3_canEnter_X4_sideOf_n70 : GoodIn wsX3_canEnter (wsX4_sideOf) := ggX3_canEnter_X4_sideOf
set_option maxRecDepth 20000 in
theorem ggX3_canEnter_X4_kindOf : GoodIn wsX3_canEnter wsX4_kindOf := goodIn_r _ [12] (by decide +kernel) (by decide +kernel)
set_option maxRecDepth 20000 in
theorem gX3_canEnter_X4_kindOf_n128 : GoodIn wsX3_canEnter (wsX4_kindOf) := ggX3_canEnter_X4_kindOf
theorem dX3_canEnter_0 : decode cX3_canEnter 0 = .ok (.aload_n 0, 1) := by decide +kernel
theorem dX3_canEnter_1 : decode cX3_canEnter 1 = .ok (.getfield 28, 3) := by decide +kernel
theorem dX3_canEnter_4 : decode cX3_canEnter 4 = .ok (.iload_n 2, 1) := by decide +kernel
theorem dX3_canEnter_5 : decode cX3_canEnter 5 = .ok (.invokevirtual 67, 3) := by decide +kernel
theorem dX3_canEnter_8 : decode cX3_canEnter 8 = .ok (.istore_n 3, 1) := by decide +kernel
theorem dX3_canEnter_9 : decode cX3_canEnter 9 = .ok (.iload_n 3, 1) := by decide +kernel
theorem dX3_canEnter_10 : decode cX3_canEnter 10 = .ok (.bipush 99, 2) := by decide +kernel
theorem dX3_canEnter_12 : decode cX3_canEnter 12 = .ok (.if_icmp .eq 18, 3) := by decide +kernel
theorem dX3_canEnter_15 : decode cX3_canEnter 15 = .ok (.iload_n 3, 1) := by decide +kernel
theorem dX3_canEnter_16 : decode cX3_canEnter 16 = .ok (.invokestatic 70, 3) := by decide +kernel
theorem dX3_canEnter_19 : decode cX3_canEnter 19 = .ok (.iload_n 1, 1) := by decide +kernel
theorem dX3_canEnter_20 : decode cX3_canEnter 20 = .ok (.if_icmp .eq 14, 3) := by decide +kernel
theorem dX3_canEnter_23 : decode cX3_canEnter 23 = .ok (.iload_n 3, 1) := by decide +kernel
theorem dX3_canEnter_24 : decode cX3_canEnter 24 = .ok (.invokestatic 128, 3) := by decide +kernel
theorem dX3_canEnter_27 : decode cX3_canEnter 27 = .ok (.ifCond .eq 7, 3) := by decide +kernel
theorem dX3_canEnter_30 : decode cX3_canEnter 30 = .ok (.iconst 1, 1) := by decide +kernel
theorem dX3_canEnter_31 : decode cX3_canEnter 31 = .ok (.goto 4, 3) := by decide +kernel
theorem dX3_canEnter_34 : decode cX3_canEnter 34 = .ok (.iconst 0, 1) := by decide +kernel
theorem dX3_canEnter_35 : decode cX3_canEnter 35 = .ok (.ireturn, 1) := by decide +kernel
set_option maxRecDepth 20000 in
theorem ggX3_promotingSquares_X2_manOn : GoodIn wsX3_promotingSquares wsX2_manOn := goodIn_r _ [7, 8, 25, 26] (by decide +kernel) (by decide +kernel)
set_option maxRecDepth 20000 in
theorem gX3_promotingSquares_X2_manOn : GoodIn wsX3_promotingSquares (wsV RX3 67 RX2 yX2_manOn wsX2_manOn) := goodIn_app (goodIn_of _ (by decide +kernel)) ggX3_promotingSquares_X2_manOn
set_option maxRecDepth 20000 in
theorem ggX3_promotingSquares_X4_kindOf : GoodIn wsX3_promotingSquares wsX4_kindOf := goodIn_r _ [11] (by decide +kernel) (by decide +kernel)
set_option maxRecDepth 20000 in
theorem gX3_promotingSquares_X4_kindOf_n128 : GoodIn wsX3_promotingSquares (wsX4_kindOf) := ggX3_promotingSquares_X4_kindOf
set_option maxRecDepth 20000 in
theorem ggX3_promotingSquares_X4_sideOf : GoodIn wsX3_promotingSquares wsX4_sideOf := goodIn_r _ [13] (by decide +kernel) (by decide +kernel)
set_option maxRecDepth 20000 in
theorem gX3_promotingSquares_X4_sideOf_n70 : GoodIn wsX3_promotingSquares (wsX4_sideOf) := ggX3_promotingSquares_X4_sideOf
set_option maxRecDepth 20000 in
theorem ggX3_promotingSquares_X4_lastRow : GoodIn wsX3_promotingSquares wsX4_lastRow := goodIn_r _ [15, 16] (by decide +kernel) (by decide +kernel)
set_option maxRecDepth 20000 in
theorem gX3_promotingSquares_X4_lastRow_n95 : GoodIn wsX3_promotingSquares (wsX4_lastRow) := ggX3_promotingSquares_X4_lastRow
set_option maxRecDepth 20000 in
theorem ggX3_promotingSquares_X4_has : GoodIn wsX3_promotingSquares wsX4_has := goodIn_r _ [18] (by decide +kernel) (by decide +kernel)
set_option maxRecDepth 20000 in
theorem gX3_promotingSquares_X4_has_n76 : GoodIn wsX3_promotingSquares (wsX4_has) := ggX3_promotingSquares_X4_has
theorem dX3_promotingSquares_0 : decode cX3_promotingSquares 0 = .ok (.aload_n 0, 1) := by decide +kernel
theorem dX3_promotingSquares_1 : decode cX3_promotingSquares 1 = .ok (.getfield 28, 3) := by decide +kernel
theorem dX3_promotingSquares_4 : decode cX3_promotingSquares 4 = .ok (.iload_n 1, 1) := by decide +kernel
theorem dX3_promotingSquares_5 : decode cX3_promotingSquares 5 = .ok (.invokevirtual 67, 3) := by decide +kernel
theorem dX3_promotingSquares_8 : decode cX3_promotingSquares 8 = .ok (.istore_n 2, 1) := by decide +kernel
theorem dX3_promotingSquares_9 : decode cX3_promotingSquares 9 = .ok (.iload_n 2, 1) := by decide +kernel
theorem dX3_promotingSquares_10 : decode cX3_promotingSquares 10 = .ok (.bipush 99, 2) := by decide +kernel
theorem dX3_promotingSquares_12 : decode cX3_promotingSquares 12 = .ok (.if_icmp .eq 19, 3) := by decide +kernel
theorem dX3_promotingSquares_15 : decode cX3_promotingSquares 15 = .ok (.iload_n 2, 1) := by decide +kernel
theorem dX3_promotingSquares_16 : decode cX3_promotingSquares 16 = .ok (.invokestatic 128, 3) := by decide +kernel
theorem dX3_promotingSquares_19 : decode cX3_promotingSquares 19 = .ok (.iconst 2, 1) := by decide +kernel
theorem dX3_promotingSquares_20 : decode cX3_promotingSquares 20 = .ok (.if_icmp .lt 11, 3) := by decide +kernel
theorem dX3_promotingSquares_23 : decode cX3_promotingSquares 23 = .ok (.iload_n 2, 1) := by decide +kernel
theorem dX3_promotingSquares_24 : decode cX3_promotingSquares 24 = .ok (.invokestatic 128, 3) := by decide +kernel
theorem dX3_promotingSquares_27 : decode cX3_promotingSquares 27 = .ok (.iconst 5, 1) := by decide +kernel
theorem dX3_promotingSquares_28 : decode cX3_promotingSquares 28 = .ok (.if_icmp .le 5, 3) := by decide +kernel
theorem dX3_promotingSquares_31 : decode cX3_promotingSquares 31 = .ok (.iconst 0, 1) := by decide +kernel
theorem dX3_promotingSquares_32 : decode cX3_promotingSquares 32 = .ok (.ireturn, 1) := by decide +kernel
theorem dX3_promotingSquares_33 : decode cX3_promotingSquares 33 = .ok (.iload_n 2, 1) := by decide +kernel
theorem dX3_promotingSquares_34 : decode cX3_promotingSquares 34 = .ok (.invokestatic 70, 3) := by decide +kernel
theorem dX3_promotingSquares_37 : decode cX3_promotingSquares 37 = .ok (.invokestatic 95, 3) := by decide +kernel
theorem dX3_promotingSquares_40 : decode cX3_promotingSquares 40 = .ok (.istore_n 3, 1) := by decide +kernel
theorem dX3_promotingSquares_41 : decode cX3_promotingSquares 41 = .ok (.iload_n 3, 1) := by decide +kernel
theorem dX3_promotingSquares_42 : decode cX3_promotingSquares 42 = .ok (.iload_n 1, 1) := by decide +kernel
theorem dX3_promotingSquares_43 : decode cX3_promotingSquares 43 = .ok (.invokestatic 76, 3) := by decide +kernel
theorem dX3_promotingSquares_46 : decode cX3_promotingSquares 46 = .ok (.ifCond .eq 8, 3) := by decide +kernel
theorem dX3_promotingSquares_49 : decode cX3_promotingSquares 49 = .ok (.ldc 131, 2) := by decide +kernel
theorem dX3_promotingSquares_51 : decode cX3_promotingSquares 51 = .ok (.goto 4, 3) := by decide +kernel
theorem dX3_promotingSquares_54 : decode cX3_promotingSquares 54 = .ok (.iload_n 3, 1) := by decide +kernel
theorem dX3_promotingSquares_55 : decode cX3_promotingSquares 55 = .ok (.ireturn, 1) := by decide +kernel
set_option maxRecDepth 20000 in
theorem ggX3_forcingSquares_X2_manOn : GoodIn wsX3_forcingSquares wsX2_manOn := goodIn_r _ [6, 7, 22, 23] (by decide +kernel) (by decide +kernel)
set_option maxRecDepth 20000 in
theorem gX3_forcingSquares_X2_manOn : GoodIn wsX3_forcingSquares (wsV RX3 67 RX2 yX2_manOn wsX2_manOn) := goodIn_app (goodIn_of _ (by decide +kernel)) ggX3_forcingSquares_X2_manOn
set_option maxRecDepth 20000 in
theorem ggX3_forcingSquares_X4_kindOf : GoodIn wsX3_forcingSquares wsX4_kindOf := goodIn_r _ [10] (by decide +kernel) (by decide +kernel)
set_option maxRecDepth 20000 in
theorem gX3_forcingSquares_X4_kindOf_n128 : GoodIn wsX3_forcingSquares (wsX4_kindOf) := ggX3_forcingSquares_X4_kindOf
set_option maxRecDepth 20000 in
theorem ggX3_forcingSquares_X4_sideOf : GoodIn wsX3_forcingSquares wsX4_sideOf := goodIn_r _ [12] (by decide +kernel) (by decide +kernel)
set_option maxRecDepth 20000 in
theorem gX3_forcingSquares_X4_sideOf_n70 : GoodIn wsX3_forcingSquares (wsX4_sideOf) := ggX3_forcingSquares_X4_sideOf
set_option maxRecDepth 20000 in
theorem ggX3_forcingSquares_X4_lastRow : GoodIn wsX3_forcingSquares wsX4_lastRow := goodIn_r _ [14, 15] (by decide +kernel) (by decide +kernel)
set_option maxRecDepth 20000 in
theorem gX3_forcingSquares_X4_lastRow_n95 : GoodIn wsX3_forcingSquares (wsX4_lastRow) := ggX3_forcingSquares_X4_lastRow
theorem dX3_forcingSquares_0 : decode cX3_forcingSquares 0 = .ok (.aload_n 0, 1) := by decide +kernel
theorem dX3_forcingSquares_1 : decode cX3_forcingSquares 1 = .ok (.getfield 28, 3) := by decide +kernel
theorem dX3_forcingSquares_4 : decode cX3_forcingSquares 4 = .ok (.iload_n 1, 1) := by decide +kernel
theorem dX3_forcingSquares_5 : decode cX3_forcingSquares 5 = .ok (.invokevirtual 67, 3) := by decide +kernel
theorem dX3_forcingSquares_8 : decode cX3_forcingSquares 8 = .ok (.istore_n 2, 1) := by decide +kernel
theorem dX3_forcingSquares_9 : decode cX3_forcingSquares 9 = .ok (.iload_n 2, 1) := by decide +kernel
theorem dX3_forcingSquares_10 : decode cX3_forcingSquares 10 = .ok (.bipush 99, 2) := by decide +kernel
theorem dX3_forcingSquares_12 : decode cX3_forcingSquares 12 = .ok (.if_icmp .eq 21, 3) := by decide +kernel
theorem dX3_forcingSquares_15 : decode cX3_forcingSquares 15 = .ok (.iload_n 2, 1) := by decide +kernel
theorem dX3_forcingSquares_16 : decode cX3_forcingSquares 16 = .ok (.invokestatic 128, 3) := by decide +kernel
theorem dX3_forcingSquares_19 : decode cX3_forcingSquares 19 = .ok (.iconst 5, 1) := by decide +kernel
theorem dX3_forcingSquares_20 : decode cX3_forcingSquares 20 = .ok (.if_icmp .ne 13, 3) := by decide +kernel
theorem dX3_forcingSquares_23 : decode cX3_forcingSquares 23 = .ok (.iload_n 2, 1) := by decide +kernel
theorem dX3_forcingSquares_24 : decode cX3_forcingSquares 24 = .ok (.invokestatic 70, 3) := by decide +kernel
theorem dX3_forcingSquares_27 : decode cX3_forcingSquares 27 = .ok (.invokestatic 95, 3) := by decide +kernel
theorem dX3_forcingSquares_30 : decode cX3_forcingSquares 30 = .ok (.goto 4, 3) := by decide +kernel
theorem dX3_forcingSquares_33 : decode cX3_forcingSquares 33 = .ok (.iconst 0, 1) := by decide +kernel
theorem dX3_forcingSquares_34 : decode cX3_forcingSquares 34 = .ok (.ireturn, 1) := by decide +kernel
set_option maxRecDepth 20000 in
theorem ggX3_safeTargets_X2_manOn : GoodIn wsX3_safeTargets wsX2_manOn := goodIn_r _ [6, 7, 52, 53] (by decide +kernel) (by decide +kernel)
set_option maxRecDepth 20000 in
theorem gX3_safeTargets_X2_manOn : GoodIn wsX3_safeTargets (wsV RX3 67 RX2 yX2_manOn wsX2_manOn) := goodIn_app (goodIn_of _ (by decide +kernel)) ggX3_safeTargets_X2_manOn
set_option maxRecDepth 20000 in
theorem ggX3_safeTargets_X4_sideOf : GoodIn wsX3_safeTargets wsX4_sideOf := goodIn_r _ [10] (by decide +kernel) (by decide +kernel)
set_option maxRecDepth 20000 in
theorem gX3_safeTargets_X4_sideOf_n70 : GoodIn wsX3_safeTargets (wsX4_sideOf) := ggX3_safeTargets_X4_sideOf
set_option maxRecDepth 20000 in
theorem ggX3_safeTargets_X2_attackedFrom : GoodIn wsX3_safeTargets wsX2_attackedFrom := goodIn_r _ [14, 15, 7, 16, 3, 4, 5, 6, 52, 53] (by decide +kernel) (by decide +kernel)
set_option maxRecDepth 20000 in
theorem gX3_safeTargets_X2_attackedFrom : GoodIn wsX3_safeTargets (wsV RX3 73 RX2 yX2_attackedFrom wsX2_attackedFrom) := goodIn_app (goodIn_of _ (by decide +kernel)) ggX3_safeTargets_X2_attackedFrom
set_option maxRecDepth 20000 in
theorem ggX3_safeTargets_X4_has : GoodIn wsX3_safeTargets wsX4_has := goodIn_r _ [18] (by decide +kernel) (by decide +kernel)
set_option maxRecDepth 20000 in
theorem gX3_safeTargets_X4_has_n76 : GoodIn wsX3_safeTargets (wsX4_has) := ggX3_safeTargets_X4_has
set_option maxRecDepth 20000 in
theorem ggX3_safeTargets_X3_canEnter : GoodIn wsX3_safeTargets wsX3_canEnter := goodIn_r _ [23, 1, 2, 3, 4, 5, 6, 7, 8, 9, 10, 24, 25, 46, 47, 48, 49, 50, 51, 52, 53] (by decide +kernel) (by decide +kernel)
set_option maxRecDepth 20000 in
theorem gX3_safeTargets_X3_canEnter : GoodIn wsX3_safeTargets (wsV RX3 80 RX3 yX3_canEnter wsX3_canEnter) := goodIn_app (goodIn_of _ (by decide +kernel)) ggX3_safeTargets_X3_canEnter
set_option maxRecDepth 20000 in
theorem ggX3_safeTargets_X2_place : GoodIn wsX3_safeTargets wsX2_place := goodIn_r _ [29, 7, 30, 9, 31, 32, 33, 24, 25, 8, 10, 52, 53] (by decide +kernel) (by decide +kernel)
set_option maxRecDepth 20000 in
theorem gX3_safeTargets_X2_place : GoodIn wsX3_safeTargets (wsV RX3 132 RX2 yX2_place wsX2_place) := goodIn_app (goodIn_of _ (by decide +kernel)) ggX3_safeTargets_X2_place
set_option maxRecDepth 20000 in
theorem ggX3_safeTargets_X2_kingOf : GoodIn wsX3_safeTargets wsX2_kingOf := goodIn_r _ [37, 7, 38, 9, 39, 52, 53] (by decide +kernel) (by decide +kernel)
set_option maxRecDepth 20000 in
theorem gX3_safeTargets_X2_kingOf : GoodIn wsX3_safeTargets (wsV RX3 38 RX2 yX2_kingOf wsX2_kingOf) := goodIn_app (goodIn_of _ (by decide +kernel)) ggX3_safeTargets_X2_kingOf
set_option maxRecDepth 20000 in
theorem ggX3_safeTargets_X2_countAttackers : GoodIn wsX3_safeTargets wsX2_countAttackers := goodIn_r _ [43, 15, 7, 52, 53] (by decide +kernel) (by decide +kernel)
set_option maxRecDepth 20000 in
theorem gX3_safeTargets_X2_countAttackers : GoodIn wsX3_safeTargets (wsV RX3 42 RX2 yX2_countAttackers wsX2_countAttackers) := goodIn_app (goodIn_of _ (by decide +kernel)) ggX3_safeTargets_X2_countAttackers
set_option maxRecDepth 20000 in
theorem ggX3_safeTargets_X4_bit : GoodIn wsX3_safeTargets wsX4_bit := goodIn_r _ [45] (by decide +kernel) (by decide +kernel)
set_option maxRecDepth 20000 in
theorem gX3_safeTargets_X4_bit_n104 : GoodIn wsX3_safeTargets (wsX4_bit) := ggX3_safeTargets_X4_bit
theorem dX3_safeTargets_0 : decode cX3_safeTargets 0 = .ok (.aload_n 0, 1) := by decide +kernel
theorem dX3_safeTargets_1 : decode cX3_safeTargets 1 = .ok (.getfield 28, 3) := by decide +kernel
theorem dX3_safeTargets_4 : decode cX3_safeTargets 4 = .ok (.iload_n 1, 1) := by decide +kernel
theorem dX3_safeTargets_5 : decode cX3_safeTargets 5 = .ok (.invokevirtual 67, 3) := by decide +kernel
theorem dX3_safeTargets_8 : decode cX3_safeTargets 8 = .ok (.istore_n 2, 1) := by decide +kernel
theorem dX3_safeTargets_9 : decode cX3_safeTargets 9 = .ok (.iload_n 2, 1) := by decide +kernel
theorem dX3_safeTargets_10 : decode cX3_safeTargets 10 = .ok (.invokestatic 70, 3) := by decide +kernel
theorem dX3_safeTargets_13 : decode cX3_safeTargets 13 = .ok (.istore_n 3, 1) := by decide +kernel
theorem dX3_safeTargets_14 : decode cX3_safeTargets 14 = .ok (.aload_n 0, 1) := by decide +kernel
theorem dX3_safeTargets_15 : decode cX3_safeTargets 15 = .ok (.getfield 28, 3) := by decide +kernel
theorem dX3_safeTargets_18 : decode cX3_safeTargets 18 = .ok (.iload_n 1, 1) := by decide +kernel
theorem dX3_safeTargets_19 : decode cX3_safeTargets 19 = .ok (.invokevirtual 73, 3) := by decide +kernel
theorem dX3_safeTargets_22 : decode cX3_safeTargets 22 = .ok (.istore 4, 2) := by decide +kernel
theorem dX3_safeTargets_24 : decode cX3_safeTargets 24 = .ok (.iconst 0, 1) := by decide +kernel
theorem dX3_safeTargets_25 : decode cX3_safeTargets 25 = .ok (.istore 5, 2) := by decide +kernel
theorem dX3_safeTargets_27 : decode cX3_safeTargets 27 = .ok (.iconst 0, 1) := by decide +kernel
theorem dX3_safeTargets_28 : decode cX3_safeTargets 28 = .ok (.istore 6, 2) := by decide +kernel
theorem dX3_safeTargets_30 : decode cX3_safeTargets 30 = .ok (.iload 6, 2) := by decide +kernel
theorem dX3_safeTargets_32 : decode cX3_safeTargets 32 = .ok (.bipush 25, 2) := by decide +kernel
theorem dX3_safeTargets_34 : decode cX3_safeTargets 34 = .ok (.if_icmp .ge 114, 3) := by decide +kernel
theorem dX3_safeTargets_37 : decode cX3_safeTargets 37 = .ok (.iload 4, 2) := by decide +kernel
theorem dX3_safeTargets_39 : decode cX3_safeTargets 39 = .ok (.iload 6, 2) := by decide +kernel
theorem dX3_safeTargets_41 : decode cX3_safeTargets 41 = .ok (.invokestatic 76, 3) := by decide +kernel
theorem dX3_safeTargets_44 : decode cX3_safeTargets 44 = .ok (.ifCond .eq 98, 3) := by decide +kernel
theorem dX3_safeTargets_47 : decode cX3_safeTargets 47 = .ok (.aload_n 0, 1) := by decide +kernel
theorem dX3_safeTargets_48 : decode cX3_safeTargets 48 = .ok (.iload_n 3, 1) := by decide +kernel
theorem dX3_safeTargets_49 : decode cX3_safeTargets 49 = .ok (.iload 6, 2) := by decide +kernel
theorem dX3_safeTargets_51 : decode cX3_safeTargets 51 = .ok (.invokevirtual 80, 3) := by decide +kernel
theorem dX3_safeTargets_54 : decode cX3_safeTargets 54 = .ok (.ifCond .ne 6, 3) := by decide +kernel
theorem dX3_safeTargets_57 : decode cX3_safeTargets 57 = .ok (.goto 85, 3) := by decide +kernel
theorem dX3_safeTargets_60 : decode cX3_safeTargets 60 = .ok (.aload_n 0, 1) := by decide +kernel
theorem dX3_safeTargets_61 : decode cX3_safeTargets 61 = .ok (.getfield 28, 3) := by decide +kernel
theorem dX3_safeTargets_64 : decode cX3_safeTargets 64 = .ok (.iload 6, 2) := by decide +kernel
theorem dX3_safeTargets_66 : decode cX3_safeTargets 66 = .ok (.invokevirtual 67, 3) := by decide +kernel
theorem dX3_safeTargets_69 : decode cX3_safeTargets 69 = .ok (.istore 7, 2) := by decide +kernel
theorem dX3_safeTargets_71 : decode cX3_safeTargets 71 = .ok (.aload_n 0, 1) := by decide +kernel
theorem dX3_safeTargets_72 : decode cX3_safeTargets 72 = .ok (.getfield 28, 3) := by decide +kernel
theorem dX3_safeTargets_75 : decode cX3_safeTargets 75 = .ok (.iload_n 1, 1) := by decide +kernel
theorem dX3_safeTargets_76 : decode cX3_safeTargets 76 = .ok (.bipush 99, 2) := by decide +kernel
theorem dX3_safeTargets_78 : decode cX3_safeTargets 78 = .ok (.invokevirtual 132, 3) := by decide +kernel
theorem dX3_safeTargets_81 : decode cX3_safeTargets 81 = .ok (.aload_n 0, 1) := by decide +kernel
theorem dX3_safeTargets_82 : decode cX3_safeTargets 82 = .ok (.getfield 28, 3) := by decide +kernel
theorem dX3_safeTargets_85 : decode cX3_safeTargets 85 = .ok (.iload 6, 2) := by decide +kernel
theorem dX3_safeTargets_87 : decode cX3_safeTargets 87 = .ok (.iload_n 2, 1) := by decide +kernel
theorem dX3_safeTargets_88 : decode cX3_safeTargets 88 = .ok (.invokevirtual 132, 3) := by decide +kernel
theorem dX3_safeTargets_91 : decode cX3_safeTargets 91 = .ok (.aload_n 0, 1) := by decide +kernel
theorem dX3_safeTargets_92 : decode cX3_safeTargets 92 = .ok (.getfield 28, 3) := by decide +kernel
theorem dX3_safeTargets_95 : decode cX3_safeTargets 95 = .ok (.iconst 1, 1) := by decide +kernel
theorem dX3_safeTargets_96 : decode cX3_safeTargets 96 = .ok (.iload_n 3, 1) := by decide +kernel
theorem dX3_safeTargets_97 : decode cX3_safeTargets 97 = .ok (.isub, 1) := by decide +kernel
theorem dX3_safeTargets_98 : decode cX3_safeTargets 98 = .ok (.aload_n 0, 1) := by decide +kernel
theorem dX3_safeTargets_99 : decode cX3_safeTargets 99 = .ok (.getfield 28, 3) := by decide +kernel
theorem dX3_safeTargets_102 : decode cX3_safeTargets 102 = .ok (.iload_n 3, 1) := by decide +kernel
theorem dX3_safeTargets_103 : decode cX3_safeTargets 103 = .ok (.invokevirtual 38, 3) := by decide +kernel
theorem dX3_safeTargets_106 : decode cX3_safeTargets 106 = .ok (.invokevirtual 42, 3) := by decide +kernel
theorem dX3_safeTargets_109 : decode cX3_safeTargets 109 = .ok (.ifCond .ne 13, 3) := by decide +kernel
theorem dX3_safeTargets_112 : decode cX3_safeTargets 112 = .ok (.iload 5, 2) := by decide +kernel
theorem dX3_safeTargets_114 : decode cX3_safeTargets 114 = .ok (.iload 6, 2) := by decide +kernel
theorem dX3_safeTargets_116 : decode cX3_safeTargets 116 = .ok (.invokestatic 104, 3) := by decide +kernel
theorem dX3_safeTargets_119 : decode cX3_safeTargets 119 = .ok (.ior, 1) := by decide +kernel
theorem dX3_safeTargets_120 : decode cX3_safeTargets 120 = .ok (.istore 5, 2) := by decide +kernel
theorem dX3_safeTargets_122 : decode cX3_safeTargets 122 = .ok (.aload_n 0, 1) := by decide +kernel
theorem dX3_safeTargets_123 : decode cX3_safeTargets 123 = .ok (.getfield 28, 3) := by decide +kernel
theorem dX3_safeTargets_126 : decode cX3_safeTargets 126 = .ok (.iload 6, 2) := by decide +kernel
theorem dX3_safeTargets_128 : decode cX3_safeTargets 128 = .ok (.iload 7, 2) := by decide +kernel
theorem dX3_safeTargets_130 : decode cX3_safeTargets 130 = .ok (.invokevirtual 132, 3) := by decide +kernel
theorem dX3_safeTargets_133 : decode cX3_safeTargets 133 = .ok (.aload_n 0, 1) := by decide +kernel
theorem dX3_safeTargets_134 : decode cX3_safeTargets 134 = .ok (.getfield 28, 3) := by decide +kernel
theorem dX3_safeTargets_137 : decode cX3_safeTargets 137 = .ok (.iload_n 1, 1) := by decide +kernel
theorem dX3_safeTargets_138 : decode cX3_safeTargets 138 = .ok (.iload_n 2, 1) := by decide +kernel
theorem dX3_safeTargets_139 : decode cX3_safeTargets 139 = .ok (.invokevirtual 132, 3) := by decide +kernel
theorem dX3_safeTargets_142 : decode cX3_safeTargets 142 = .ok (.iinc 6 1, 3) := by decide +kernel
theorem dX3_safeTargets_145 : decode cX3_safeTargets 145 = .ok (.goto (-115), 3) := by decide +kernel
theorem dX3_safeTargets_148 : decode cX3_safeTargets 148 = .ok (.iload 5, 2) := by decide +kernel
theorem dX3_safeTargets_150 : decode cX3_safeTargets 150 = .ok (.ireturn, 1) := by decide +kernel
set_option maxRecDepth 20000 in
theorem ggX3_safeDrops_X2_sideToPlay : GoodIn wsX3_safeDrops wsX2_sideToPlay := goodIn_r _ [6, 7, 46, 47] (by decide +kernel) (by decide +kernel)
set_option maxRecDepth 20000 in
theorem gX3_safeDrops_X2_sideToPlay : GoodIn wsX3_safeDrops (wsV RX3 32 RX2 yX2_sideToPlay wsX2_sideToPlay) := goodIn_app (goodIn_of _ (by decide +kernel)) ggX3_safeDrops_X2_sideToPlay
set_option maxRecDepth 20000 in
theorem ggX3_safeDrops_X2_kingOf : GoodIn wsX3_safeDrops wsX2_kingOf := goodIn_r _ [11, 7, 12, 13, 14, 46, 47] (by decide +kernel) (by decide +kernel)
set_option maxRecDepth 20000 in
theorem gX3_safeDrops_X2_kingOf : GoodIn wsX3_safeDrops (wsV RX3 38 RX2 yX2_kingOf wsX2_kingOf) := goodIn_app (goodIn_of _ (by decide +kernel)) ggX3_safeDrops_X2_kingOf
set_option maxRecDepth 20000 in
theorem ggX3_safeDrops_X2_countAttackers : GoodIn wsX3_safeDrops wsX2_countAttackers := goodIn_r _ [18, 19, 7, 46, 47] (by decide +kernel) (by decide +kernel)
set_option maxRecDepth 20000 in
theorem gX3_safeDrops_X2_countAttackers : GoodIn wsX3_safeDrops (wsV RX3 42 RX2 yX2_countAttackers wsX2_countAttackers) := goodIn_app (goodIn_of _ (by decide +kernel)) ggX3_safeDrops_X2_countAttackers
set_option maxRecDepth 20000 in
theorem ggX3_safeDrops_X2_manOn : GoodIn wsX3_safeDrops wsX2_manOn := goodIn_r _ [23, 7, 46, 47] (by decide +kernel) (by decide +kernel)
set_option maxRecDepth 20000 in
theorem gX3_safeDrops_X2_manOn : GoodIn wsX3_safeDrops (wsV RX3 67 RX2 yX2_manOn wsX2_manOn) := goodIn_app (goodIn_of _ (by decide +kernel)) ggX3_safeDrops_X2_manOn
set_option maxRecDepth 20000 in
theorem ggX3_safeDrops_X4_manOf : GoodIn wsX3_safeDrops wsX4_manOf := goodIn_r _ [25] (by decide +kernel) (by decide +kernel)
set_option maxRecDepth 20000 in
theorem gX3_safeDrops_X4_manOf_n135 : GoodIn wsX3_safeDrops (wsX4_manOf) := ggX3_safeDrops_X4_manOf
set_option maxRecDepth 20000 in
theorem ggX3_safeDrops_X2_place : GoodIn wsX3_safeDrops wsX2_place := goodIn_r _ [29, 7, 30, 13, 31, 32, 33, 34, 35, 36, 37, 46, 47] (by decide +kernel) (by decide +kernel)
set_option maxRecDepth 20000 in
theorem gX3_safeDrops_X2_place : GoodIn wsX3_safeDrops (wsV RX3 132 RX2 yX2_place wsX2_place) := goodIn_app (goodIn_of _ (by decide +kernel)) ggX3_safeDrops_X2_place
set_option maxRecDepth 20000 in
theorem ggX3_safeDrops_X4_bit : GoodIn wsX3_safeDrops wsX4_bit := goodIn_r _ [39] (by decide +kernel) (by decide +kernel)
set_option maxRecDepth 20000 in
theorem gX3_safeDrops_X4_bit_n104 : GoodIn wsX3_safeDrops (wsX4_bit) := ggX3_safeDrops_X4_bit
theorem dX3_safeDrops_0 : decode cX3_safeDrops 0 = .ok (.aload_n 0, 1) := by decide +kernel
theorem dX3_safeDrops_1 : decode cX3_safeDrops 1 = .ok (.getfield 28, 3) := by decide +kernel
theorem dX3_safeDrops_4 : decode cX3_safeDrops 4 = .ok (.invokevirtual 32, 3) := by decide +kernel
theorem dX3_safeDrops_7 : decode cX3_safeDrops 7 = .ok (.istore_n 1, 1) := by decide +kernel
theorem dX3_safeDrops_8 : decode cX3_safeDrops 8 = .ok (.aload_n 0, 1) := by decide +kernel
theorem dX3_safeDrops_9 : decode cX3_safeDrops 9 = .ok (.getfield 28, 3) := by decide +kernel
theorem dX3_safeDrops_12 : decode cX3_safeDrops 12 = .ok (.iload_n 1, 1) := by decide +kernel
theorem dX3_safeDrops_13 : decode cX3_safeDrops 13 = .ok (.invokevirtual 38, 3) := by decide +kernel
theorem dX3_safeDrops_16 : decode cX3_safeDrops 16 = .ok (.istore_n 2, 1) := by decide +kernel
theorem dX3_safeDrops_17 : decode cX3_safeDrops 17 = .ok (.aload_n 0, 1) := by decide +kernel
theorem dX3_safeDrops_18 : decode cX3_safeDrops 18 = .ok (.getfield 28, 3) := by decide +kernel
theorem dX3_safeDrops_21 : decode cX3_safeDrops 21 = .ok (.iconst 1, 1) := by decide +kernel
theorem dX3_safeDrops_22 : decode cX3_safeDrops 22 = .ok (.iload_n 1, 1) := by decide +kernel
theorem dX3_safeDrops_23 : decode cX3_safeDrops 23 = .ok (.isub, 1) := by decide +kernel
theorem dX3_safeDrops_24 : decode cX3_safeDrops 24 = .ok (.iload_n 2, 1) := by decide +kernel
theorem dX3_safeDrops_25 : decode cX3_safeDrops 25 = .ok (.invokevirtual 42, 3) := by decide +kernel
theorem dX3_safeDrops_28 : decode cX3_safeDrops 28 = .ok (.ifCond .ne 7, 3) := by decide +kernel
theorem dX3_safeDrops_31 : decode cX3_safeDrops 31 = .ok (.iconst 1, 1) := by decide +kernel
theorem dX3_safeDrops_32 : decode cX3_safeDrops 32 = .ok (.goto 4, 3) := by decide +kernel
theorem dX3_safeDrops_35 : decode cX3_safeDrops 35 = .ok (.iconst 0, 1) := by decide +kernel
theorem dX3_safeDrops_36 : decode cX3_safeDrops 36 = .ok (.istore_n 3, 1) := by decide +kernel
theorem dX3_safeDrops_37 : decode cX3_safeDrops 37 = .ok (.iconst 0, 1) := by decide +kernel
theorem dX3_safeDrops_38 : decode cX3_safeDrops 38 = .ok (.istore 4, 2) := by decide +kernel
theorem dX3_safeDrops_40 : decode cX3_safeDrops 40 = .ok (.iconst 0, 1) := by decide +kernel
theorem dX3_safeDrops_41 : decode cX3_safeDrops 41 = .ok (.istore 5, 2) := by decide +kernel
theorem dX3_safeDrops_43 : decode cX3_safeDrops 43 = .ok (.iload 5, 2) := by decide +kernel
theorem dX3_safeDrops_45 : decode cX3_safeDrops 45 = .ok (.bipush 25, 2) := by decide +kernel
theorem dX3_safeDrops_47 : decode cX3_safeDrops 47 = .ok (.if_icmp .ge 79, 3) := by decide +kernel
theorem dX3_safeDrops_50 : decode cX3_safeDrops 50 = .ok (.aload_n 0, 1) := by decide +kernel
theorem dX3_safeDrops_51 : decode cX3_safeDrops 51 = .ok (.getfield 28, 3) := by decide +kernel
theorem dX3_safeDrops_54 : decode cX3_safeDrops 54 = .ok (.iload 5, 2) := by decide +kernel
theorem dX3_safeDrops_56 : decode cX3_safeDrops 56 = .ok (.invokevirtual 67, 3) := by decide +kernel
theorem dX3_safeDrops_59 : decode cX3_safeDrops 59 = .ok (.bipush 99, 2) := by decide +kernel
theorem dX3_safeDrops_61 : decode cX3_safeDrops 61 = .ok (.if_icmp .eq 6, 3) := by decide +kernel
theorem dX3_safeDrops_64 : decode cX3_safeDrops 64 = .ok (.goto 56, 3) := by decide +kernel
theorem dX3_safeDrops_67 : decode cX3_safeDrops 67 = .ok (.aload_n 0, 1) := by decide +kernel
theorem dX3_safeDrops_68 : decode cX3_safeDrops 68 = .ok (.getfield 28, 3) := by decide +kernel
theorem dX3_safeDrops_71 : decode cX3_safeDrops 71 = .ok (.iload 5, 2) := by decide +kernel
theorem dX3_safeDrops_73 : decode cX3_safeDrops 73 = .ok (.iload_n 1, 1) := by decide +kernel
theorem dX3_safeDrops_74 : decode cX3_safeDrops 74 = .ok (.iconst 1, 1) := by decide +kernel
theorem dX3_safeDrops_75 : decode cX3_safeDrops 75 = .ok (.invokestatic 135, 3) := by decide +kernel
theorem dX3_safeDrops_78 : decode cX3_safeDrops 78 = .ok (.invokevirtual 132, 3) := by decide +kernel
theorem dX3_safeDrops_81 : decode cX3_safeDrops 81 = .ok (.iload_n 3, 1) := by decide +kernel
theorem dX3_safeDrops_82 : decode cX3_safeDrops 82 = .ok (.ifCond .ne 17, 3) := by decide +kernel
theorem dX3_safeDrops_85 : decode cX3_safeDrops 85 = .ok (.aload_n 0, 1) := by decide +kernel
theorem dX3_safeDrops_86 : decode cX3_safeDrops 86 = .ok (.getfield 28, 3) := by decide +kernel
theorem dX3_safeDrops_89 : decode cX3_safeDrops 89 = .ok (.iconst 1, 1) := by decide +kernel
theorem dX3_safeDrops_90 : decode cX3_safeDrops 90 = .ok (.iload_n 1, 1) := by decide +kernel
theorem dX3_safeDrops_91 : decode cX3_safeDrops 91 = .ok (.isub, 1) := by decide +kernel
theorem dX3_safeDrops_92 : decode cX3_safeDrops 92 = .ok (.iload_n 2, 1) := by decide +kernel
theorem dX3_safeDrops_93 : decode cX3_safeDrops 93 = .ok (.invokevirtual 42, 3) := by decide +kernel
theorem dX3_safeDrops_96 : decode cX3_safeDrops 96 = .ok (.ifCond .ne 13, 3) := by decide +kernel
theorem dX3_safeDrops_99 : decode cX3_safeDrops 99 = .ok (.iload 4, 2) := by decide +kernel
theorem dX3_safeDrops_101 : decode cX3_safeDrops 101 = .ok (.iload 5, 2) := by decide +kernel
theorem dX3_safeDrops_103 : decode cX3_safeDrops 103 = .ok (.invokestatic 104, 3) := by decide +kernel
theorem dX3_safeDrops_106 : decode cX3_safeDrops 106 = .ok (.ior, 1) := by decide +kernel
theorem dX3_safeDrops_107 : decode cX3_safeDrops 107 = .ok (.istore 4, 2) := by decide +kernel
theorem dX3_safeDrops_109 : decode cX3_safeDrops 109 = .ok (.aload_n 0, 1) := by decide +kernel
theorem dX3_safeDrops_110 : decode cX3_safeDrops 110 = .ok (.getfield 28, 3) := by decide +kernel
theorem dX3_safeDrops_113 : decode cX3_safeDrops 113 = .ok (.iload 5, 2) := by decide +kernel
theorem dX3_safeDrops_115 : decode cX3_safeDrops 115 = .ok (.bipush 99, 2) := by decide +kernel
theorem dX3_safeDrops_117 : decode cX3_safeDrops 117 = .ok (.invokevirtual 132, 3) := by decide +kernel
theorem dX3_safeDrops_120 : decode cX3_safeDrops 120 = .ok (.iinc 5 1, 3) := by decide +kernel
theorem dX3_safeDrops_123 : decode cX3_safeDrops 123 = .ok (.goto (-80), 3) := by decide +kernel
theorem dX3_safeDrops_126 : decode cX3_safeDrops 126 = .ok (.iload 4, 2) := by decide +kernel
theorem dX3_safeDrops_128 : decode cX3_safeDrops 128 = .ok (.ireturn, 1) := by decide +kernel
set_option maxRecDepth 20000 in
theorem ggX3_openToDrops_X2_sideToPlay : GoodIn wsX3_openToDrops wsX2_sideToPlay := goodIn_r _ [6, 7, 38, 39] (by decide +kernel) (by decide +kernel)
set_option maxRecDepth 20000 in
theorem gX3_openToDrops_X2_sideToPlay : GoodIn wsX3_openToDrops (wsV RX3 32 RX2 yX2_sideToPlay wsX2_sideToPlay) := goodIn_app (goodIn_of _ (by decide +kernel)) ggX3_openToDrops_X2_sideToPlay
set_option maxRecDepth 20000 in
theorem ggX3_openToDrops_X2_inHand : GoodIn wsX3_openToDrops wsX2_inHand := goodIn_r _ [11, 7, 12, 13, 14, 15, 16, 38, 39] (by decide +kernel) (by decide +kernel)
set_option maxRecDepth 20000 in
theorem gX3_openToDrops_X2_inHand : GoodIn wsX3_openToDrops (wsV RX3 92 RX2 yX2_inHand wsX2_inHand) := goodIn_app (goodIn_of _ (by decide +kernel)) ggX3_openToDrops_X2_inHand
set_option maxRecDepth 20000 in
theorem ggX3_openToDrops_X4_lastRow : GoodIn wsX3_openToDrops wsX4_lastRow := goodIn_r _ [18, 19] (by decide +kernel) (by decide +kernel)
set_option maxRecDepth 20000 in
theorem gX3_openToDrops_X4_lastRow_n95 : GoodIn wsX3_openToDrops (wsX4_lastRow) := ggX3_openToDrops_X4_lastRow
set_option maxRecDepth 20000 in
theorem ggX3_openToDrops_X3_pawnColumns : GoodIn wsX3_openToDrops wsX3_pawnColumns := goodIn_r _ [24, 1, 25, 26, 27, 28, 5, 29, 7, 30, 13, 31, 32, 33, 34, 35, 36, 37, 38, 39] (by decide +kernel) (by decide +kernel)
set_option maxRecDepth 20000 in
theorem gX3_openToDrops_X3_pawnColumns : GoodIn wsX3_openToDrops (wsV RX3 98 RX3 yX3_pawnColumns wsX3_pawnColumns) := goodIn_app (goodIn_of _ (by decide +kernel)) ggX3_openToDrops_X3_pawnColumns
theorem dX3_openToDrops_0 : decode cX3_openToDrops 0 = .ok (.aload_n 0, 1) := by decide +kernel
theorem dX3_openToDrops_1 : decode cX3_openToDrops 1 = .ok (.getfield 28, 3) := by decide +kernel
theorem dX3_openToDrops_4 : decode cX3_openToDrops 4 = .ok (.invokevirtual 32, 3) := by decide +kernel
theorem dX3_openToDrops_7 : decode cX3_openToDrops 7 = .ok (.istore_n 3, 1) := by decide +kernel
theorem dX3_openToDrops_8 : decode cX3_openToDrops 8 = .ok (.aload_n 0, 1) := by decide +kernel
theorem dX3_openToDrops_9 : decode cX3_openToDrops 9 = .ok (.getfield 28, 3) := by decide +kernel
theorem dX3_openToDrops_12 : decode cX3_openToDrops 12 = .ok (.iload_n 3, 1) := by decide +kernel
theorem dX3_openToDrops_13 : decode cX3_openToDrops 13 = .ok (.iload_n 1, 1) := by decide +kernel
theorem dX3_openToDrops_14 : decode cX3_openToDrops 14 = .ok (.invokevirtual 92, 3) := by decide +kernel
theorem dX3_openToDrops_17 : decode cX3_openToDrops 17 = .ok (.ifCond .ne 5, 3) := by decide +kernel
theorem dX3_openToDrops_20 : decode cX3_openToDrops 20 = .ok (.iconst 0, 1) := by decide +kernel
theorem dX3_openToDrops_21 : decode cX3_openToDrops 21 = .ok (.ireturn, 1) := by decide +kernel
theorem dX3_openToDrops_22 : decode cX3_openToDrops 22 = .ok (.iload_n 1, 1) := by decide +kernel
theorem dX3_openToDrops_23 : decode cX3_openToDrops 23 = .ok (.iconst 5, 1) := by decide +kernel
theorem dX3_openToDrops_24 : decode cX3_openToDrops 24 = .ok (.if_icmp .ne 22, 3) := by decide +kernel
theorem dX3_openToDrops_27 : decode cX3_openToDrops 27 = .ok (.iload_n 2, 1) := by decide +kernel
theorem dX3_openToDrops_28 : decode cX3_openToDrops 28 = .ok (.iload_n 3, 1) := by decide +kernel
theorem dX3_openToDrops_29 : decode cX3_openToDrops 29 = .ok (.invokestatic 95, 3) := by decide +kernel
theorem dX3_openToDrops_32 : decode cX3_openToDrops 32 = .ok (.iconst (-1), 1) := by decide +kernel
theorem dX3_openToDrops_33 : decode cX3_openToDrops 33 = .ok (.ixor, 1) := by decide +kernel
theorem dX3_openToDrops_34 : decode cX3_openToDrops 34 = .ok (.iand, 1) := by decide +kernel
theorem dX3_openToDrops_35 : decode cX3_openToDrops 35 = .ok (.aload_n 0, 1) := by decide +kernel
theorem dX3_openToDrops_36 : decode cX3_openToDrops 36 = .ok (.iload_n 3, 1) := by decide +kernel
theorem dX3_openToDrops_37 : decode cX3_openToDrops 37 = .ok (.invokevirtual 98, 3) := by decide +kernel
theorem dX3_openToDrops_40 : decode cX3_openToDrops 40 = .ok (.iconst (-1), 1) := by decide +kernel
theorem dX3_openToDrops_41 : decode cX3_openToDrops 41 = .ok (.ixor, 1) := by decide +kernel
theorem dX3_openToDrops_42 : decode cX3_openToDrops 42 = .ok (.iand, 1) := by decide +kernel
theorem dX3_openToDrops_43 : decode cX3_openToDrops 43 = .ok (.goto 4, 3) := by decide +kernel
theorem dX3_openToDrops_46 : decode cX3_openToDrops 46 = .ok (.iload_n 2, 1) := by decide +kernel
theorem dX3_openToDrops_47 : decode cX3_openToDrops 47 = .ok (.ireturn, 1) := by decide +kernel
set_option maxRecDepth 20000 in
theorem ggX3_pawnColumns_X2_manOn : GoodIn wsX3_pawnColumns wsX2_manOn := goodIn_r _ [7, 8, 18, 19] (by decide +kernel) (by decide +kernel)
set_option maxRecDepth 20000 in
theorem gX3_pawnColumns_X2_manOn : GoodIn wsX3_pawnColumns (wsV RX3 67 RX2 yX2_manOn wsX2_manOn) := goodIn_app (goodIn_of _ (by decide +kernel)) ggX3_pawnColumns_X2_manOn
set_option maxRecDepth 20000 in
theorem ggX3_pawnColumns_X4_manOf : GoodIn wsX3_pawnColumns wsX4_manOf := goodIn_r _ [11] (by decide +kernel) (by decide +kernel)
set_option maxRecDepth 20000 in
theorem gX3_pawnColumns_X4_manOf_n135 : GoodIn wsX3_pawnColumns (wsX4_manOf) := ggX3_pawnColumns_X4_manOf
theorem dX3_pawnColumns_0 : decode cX3_pawnColumns 0 = .ok (.iconst 0, 1) := by decide +kernel
theorem dX3_pawnColumns_1 : decode cX3_pawnColumns 1 = .ok (.istore_n 2, 1) := by decide +kernel
theorem dX3_pawnColumns_2 : decode cX3_pawnColumns 2 = .ok (.iconst 0, 1) := by decide +kernel
theorem dX3_pawnColumns_3 : decode cX3_pawnColumns 3 = .ok (.istore_n 3, 1) := by decide +kernel
theorem dX3_pawnColumns_4 : decode cX3_pawnColumns 4 = .ok (.iload_n 3, 1) := by decide +kernel
theorem dX3_pawnColumns_5 : decode cX3_pawnColumns 5 = .ok (.bipush 25, 2) := by decide +kernel
theorem dX3_pawnColumns_7 : decode cX3_pawnColumns 7 = .ok (.if_icmp .ge 34, 3) := by decide +kernel
theorem dX3_pawnColumns_10 : decode cX3_pawnColumns 10 = .ok (.aload_n 0, 1) := by decide +kernel
theorem dX3_pawnColumns_11 : decode cX3_pawnColumns 11 = .ok (.getfield 28, 3) := by decide +kernel
theorem dX3_pawnColumns_14 : decode cX3_pawnColumns 14 = .ok (.iload_n 3, 1) := by decide +kernel
theorem dX3_pawnColumns_15 : decode cX3_pawnColumns 15 = .ok (.invokevirtual 67, 3) := by decide +kernel
theorem dX3_pawnColumns_18 : decode cX3_pawnColumns 18 = .ok (.iload_n 1, 1) := by decide +kernel
theorem dX3_pawnColumns_19 : decode cX3_pawnColumns 19 = .ok (.iconst 5, 1) := by decide +kernel
theorem dX3_pawnColumns_20 : decode cX3_pawnColumns 20 = .ok (.invokestatic 135, 3) := by decide +kernel
theorem dX3_pawnColumns_23 : decode cX3_pawnColumns 23 = .ok (.if_icmp .ne 12, 3) := by decide +kernel
theorem dX3_pawnColumns_26 : decode cX3_pawnColumns 26 = .ok (.iload_n 2, 1) := by decide +kernel
theorem dX3_pawnColumns_27 : decode cX3_pawnColumns 27 = .ok (.ldc 138, 2) := by decide +kernel
theorem dX3_pawnColumns_29 : decode cX3_pawnColumns 29 = .ok (.iload_n 3, 1) := by decide +kernel
theorem dX3_pawnColumns_30 : decode cX3_pawnColumns 30 = .ok (.iconst 5, 1) := by decide +kernel
theorem dX3_pawnColumns_31 : decode cX3_pawnColumns 31 = .ok (.irem, 1) := by decide +kernel
theorem dX3_pawnColumns_32 : decode cX3_pawnColumns 32 = .ok (.ishl, 1) := by decide +kernel
theorem dX3_pawnColumns_33 : decode cX3_pawnColumns 33 = .ok (.ior, 1) := by decide +kernel
theorem dX3_pawnColumns_34 : decode cX3_pawnColumns 34 = .ok (.istore_n 2, 1) := by decide +kernel
theorem dX3_pawnColumns_35 : decode cX3_pawnColumns 35 = .ok (.iinc 3 1, 3) := by decide +kernel
theorem dX3_pawnColumns_38 : decode cX3_pawnColumns 38 = .ok (.goto (-34), 3) := by decide +kernel
theorem dX3_pawnColumns_41 : decode cX3_pawnColumns 41 = .ok (.iload_n 2, 1) := by decide +kernel
theorem dX3_pawnColumns_42 : decode cX3_pawnColumns 42 = .ok (.ireturn, 1) := by decide +kernel
set_option maxRecDepth 20000 in
theorem ggX3_withoutMates_X4_has : GoodIn wsX3_withoutMates wsX4_has := goodIn_r _ [4] (by decide +kernel) (by decide +kernel)
set_option maxRecDepth 20000 in
theorem gX3_withoutMates_X4_has_n76 : GoodIn wsX3_withoutMates (wsX4_has) := ggX3_withoutMates_X4_has
set_option maxRecDepth 20000 in
theorem ggX3_withoutMates_X4_dropNumber : GoodIn wsX3_withoutMates wsX4_dropNumber := goodIn_r _ [6] (by decide +kernel) (by decide +kernel)
set_option maxRecDepth 20000 in
theorem gX3_withoutMates_X4_dropNumber_n117 : GoodIn wsX3_withoutMates (wsX4_dropNumber) := ggX3_withoutMates_X4_dropNumber
set_option maxRecDepth 20000 in
theorem ggX3_withoutMates_X2_apply : GoodIn wsX3_withoutMates wsX2_apply := goodIn_r _ [11, 12, 13, 14, 10, 15, 16, 17, 18, 19, 20, 21, 22, 23, 24, 25, 3, 26, 27, 28, 29, 30, 31, 32, 33, 34, 35, 36, 37, 38, 39, 40, 41, 42, 43, 44, 45, 46, 47, 48, 49, 50, 51, 52, 53, 54, 117, 118] (by decide +kernel) (by decide +kernel)
set_option maxRecDepth 20000 in
theorem gX3_withoutMates_X2_apply : GoodIn wsX3_withoutMates (wsV RX3 139 RX2 yX2_apply wsX2_apply) := goodIn_app (goodIn_of _ (by decide +kernel)) ggX3_withoutMates_X2_apply
set_option maxRecDepth 20000 in
theorem ggX3_withoutMates_X3_isInCheck : GoodIn wsX3_withoutMates wsX3_isInCheck := goodIn_r _ [59, 1, 60, 13, 14, 10, 15, 16, 61, 62, 63, 64, 25, 3, 26, 65, 66, 67, 68, 69, 111, 112, 113, 114, 115, 116, 117, 118] (by decide +kernel) (by decide +kernel)
set_option maxRecDepth 20000 in
theorem gX3_withoutMates_X3_isInCheck : GoodIn wsX3_withoutMates (wsV RX3 46 RX3 yX3_isInCheck wsX3_isInCheck) := goodIn_app (goodIn_of _ (by decide +kernel)) ggX3_withoutMates_X3_isInCheck
set_option maxRecDepth 20000 in
theorem ggX3_withoutMates_X3_canReply : GoodIn wsX3_withoutMates wsX3_canReply := goodIn_r _ [73, 1, 60, 13, 14, 10, 15, 16, 74, 48, 49, 50, 45, 3, 46, 75, 76, 77, 58, 78, 79, 80, 81, 82, 69, 47, 2, 4, 83, 84, 85, 86, 43, 44, 87, 36, 37, 38, 39, 40, 41, 42, 61, 62, 63, 64, 25, 26, 65, 66, 67, 68, 88, 89, 90, 91, 92, 93, 33, 34, 94, 95, 96, 97, 98, 22, 23, 24, 27, 28, 99, 100, 101, 102, 103, 104, 105, 106, 111, 112, 113, 114, 115, 116, 117, 118] (by decide +kernel) (by decide +kernel)
set_option maxRecDepth 20000 in
theorem gX3_withoutMates_X3_canReply : GoodIn wsX3_withoutMates (wsV RX3 142 RX3 yX3_canReply wsX3_canReply) := goodIn_app (goodIn_of _ (by decide +kernel)) ggX3_withoutMates_X3_canReply
set_option maxRecDepth 20000 in
theorem ggX3_withoutMates_X4_bit : GoodIn wsX3_withoutMates wsX4_bit := goodIn_r _ [89] (by decide +kernel) (by decide +kernel)
set_option maxRecDepth 20000 in
theorem gX3_withoutMates_X4_bit_n104 : GoodIn wsX3_withoutMates (wsX4_bit) := ggX3_withoutMates_X4_bit
set_option maxRecDepth 20000 in
theorem ggX3_withoutMates_X2_takeBack : GoodIn wsX3_withoutMates wsX2_takeBack := goodIn_r _ [110, 12, 13, 14, 10, 15, 16, 17, 18, 19, 20, 35, 36, 37, 38, 39, 3, 40, 41, 42, 43, 44, 45, 46, 21, 22, 23, 24, 25, 26, 27, 28, 29, 30, 31, 32, 47, 48, 49, 50, 51, 52, 53, 54, 117, 118] (by decide +kernel) (by decide +kernel)
set_option maxRecDepth 20000 in
theorem gX3_withoutMates_X2_takeBack : GoodIn wsX3_withoutMates (wsV RX3 145 RX2 yX2_takeBack wsX2_takeBack) := goodIn_app (goodIn_of _ (by decide +kernel)) ggX3_withoutMates_X2_takeBack
theorem dX3_withoutMates_0 : decode cX3_withoutMates 0 = .ok (.iload_n 1, 1) := by decide +kernel
theorem dX3_withoutMates_1 : decode cX3_withoutMates 1 = .ok (.istore_n 2, 1) := by decide +kernel
theorem dX3_withoutMates_2 : decode cX3_withoutMates 2 = .ok (.iconst 0, 1) := by decide +kernel
theorem dX3_withoutMates_3 : decode cX3_withoutMates 3 = .ok (.istore_n 3, 1) := by decide +kernel
theorem dX3_withoutMates_4 : decode cX3_withoutMates 4 = .ok (.iload_n 3, 1) := by decide +kernel
theorem dX3_withoutMates_5 : decode cX3_withoutMates 5 = .ok (.bipush 25, 2) := by decide +kernel
theorem dX3_withoutMates_7 : decode cX3_withoutMates 7 = .ok (.if_icmp .ge 72, 3) := by decide +kernel
theorem dX3_withoutMates_10 : decode cX3_withoutMates 10 = .ok (.iload_n 1, 1) := by decide +kernel
theorem dX3_withoutMates_11 : decode cX3_withoutMates 11 = .ok (.iload_n 3, 1) := by decide +kernel
theorem dX3_withoutMates_12 : decode cX3_withoutMates 12 = .ok (.invokestatic 76, 3) := by decide +kernel
theorem dX3_withoutMates_15 : decode cX3_withoutMates 15 = .ok (.ifCond .ne 6, 3) := by decide +kernel
theorem dX3_withoutMates_18 : decode cX3_withoutMates 18 = .ok (.goto 55, 3) := by decide +kernel
theorem dX3_withoutMates_21 : decode cX3_withoutMates 21 = .ok (.iconst 5, 1) := by decide +kernel
theorem dX3_withoutMates_22 : decode cX3_withoutMates 22 = .ok (.iload_n 3, 1) := by decide +kernel
theorem dX3_withoutMates_23 : decode cX3_withoutMates 23 = .ok (.invokestatic 117, 3) := by decide +kernel
theorem dX3_withoutMates_26 : decode cX3_withoutMates 26 = .ok (.istore 4, 2) := by decide +kernel
theorem dX3_withoutMates_28 : decode cX3_withoutMates 28 = .ok (.aload_n 0, 1) := by decide +kernel
theorem dX3_withoutMates_29 : decode cX3_withoutMates 29 = .ok (.getfield 28, 3) := by decide +kernel
theorem dX3_withoutMates_32 : decode cX3_withoutMates 32 = .ok (.iload 4, 2) := by decide +kernel
theorem dX3_withoutMates_34 : decode cX3_withoutMates 34 = .ok (.invokevirtual 139, 3) := by decide +kernel
theorem dX3_withoutMates_37 : decode cX3_withoutMates 37 = .ok (.istore 5, 2) := by decide +kernel
theorem dX3_withoutMates_39 : decode cX3_withoutMates 39 = .ok (.aload_n 0, 1) := by decide +kernel
theorem dX3_withoutMates_40 : decode cX3_withoutMates 40 = .ok (.invokevirtual 46, 3) := by decide +kernel
theorem dX3_withoutMates_43 : decode cX3_withoutMates 43 = .ok (.ifCond .eq 19, 3) := by decide +kernel
theorem dX3_withoutMates_46 : decode cX3_withoutMates 46 = .ok (.aload_n 0, 1) := by decide +kernel
theorem dX3_withoutMates_47 : decode cX3_withoutMates 47 = .ok (.invokevirtual 142, 3) := by decide +kernel
theorem dX3_withoutMates_50 : decode cX3_withoutMates 50 = .ok (.ifCond .ne 12, 3) := by decide +kernel
theorem dX3_withoutMates_53 : decode cX3_withoutMates 53 = .ok (.iload_n 2, 1) := by decide +kernel
theorem dX3_withoutMates_54 : decode cX3_withoutMates 54 = .ok (.iload_n 3, 1) := by decide +kernel
theorem dX3_withoutMates_55 : decode cX3_withoutMates 55 = .ok (.invokestatic 104, 3) := by decide +kernel
theorem dX3_withoutMates_58 : decode cX3_withoutMates 58 = .ok (.iconst (-1), 1) := by decide +kernel
theorem dX3_withoutMates_59 : decode cX3_withoutMates 59 = .ok (.ixor, 1) := by decide +kernel
theorem dX3_withoutMates_60 : decode cX3_withoutMates 60 = .ok (.iand, 1) := by decide +kernel
theorem dX3_withoutMates_61 : decode cX3_withoutMates 61 = .ok (.istore_n 2, 1) := by decide +kernel
theorem dX3_withoutMates_62 : decode cX3_withoutMates 62 = .ok (.aload_n 0, 1) := by decide +kernel
theorem dX3_withoutMates_63 : decode cX3_withoutMates 63 = .ok (.getfield 28, 3) := by decide +kernel
theorem dX3_withoutMates_66 : decode cX3_withoutMates 66 = .ok (.iload 4, 2) := by decide +kernel
theorem dX3_withoutMates_68 : decode cX3_withoutMates 68 = .ok (.iload 5, 2) := by decide +kernel
theorem dX3_withoutMates_70 : decode cX3_withoutMates 70 = .ok (.invokevirtual 145, 3) := by decide +kernel
theorem dX3_withoutMates_73 : decode cX3_withoutMates 73 = .ok (.iinc 3 1, 3) := by decide +kernel
theorem dX3_withoutMates_76 : decode cX3_withoutMates 76 = .ok (.goto (-72), 3) := by decide +kernel
theorem dX3_withoutMates_79 : decode cX3_withoutMates 79 = .ok (.iload_n 2, 1) := by decide +kernel
theorem dX3_withoutMates_80 : decode cX3_withoutMates 80 = .ok (.ireturn, 1) := by decide +kernel
set_option maxRecDepth 20000 in
theorem ggX3_canReply_X2_sideToPlay : GoodIn wsX3_canReply wsX2_sideToPlay := goodIn_r _ [6, 7, 84, 85] (by decide +kernel) (by decide +kernel)
set_option maxRecDepth 20000 in
theorem gX3_canReply_X2_sideToPlay : GoodIn wsX3_canReply (wsV RX3 32 RX2 yX2_sideToPlay wsX2_sideToPlay) := goodIn_app (goodIn_of _ (by decide +kernel)) ggX3_canReply_X2_sideToPlay
set_option maxRecDepth 20000 in
theorem ggX3_canReply_X2_manOn : GoodIn wsX3_canReply wsX2_manOn := goodIn_r _ [11, 7, 84, 85] (by decide +kernel) (by decide +kernel)
set_option maxRecDepth 20000 in
theorem gX3_canReply_X2_manOn : GoodIn wsX3_canReply (wsV RX3 67 RX2 yX2_manOn wsX2_manOn) := goodIn_app (goodIn_of _ (by decide +kernel)) ggX3_canReply_X2_manOn
set_option maxRecDepth 20000 in
theorem ggX3_canReply_X4_sideOf : GoodIn wsX3_canReply wsX4_sideOf := goodIn_r _ [14] (by decide +kernel) (by decide +kernel)
set_option maxRecDepth 20000 in
theorem gX3_canReply_X4_sideOf_n70 : GoodIn wsX3_canReply (wsX4_sideOf) := ggX3_canReply_X4_sideOf
set_option maxRecDepth 20000 in
theorem ggX3_canReply_X3_safeTargets : GoodIn wsX3_canReply wsX3_safeTargets := goodIn_r _ [19, 1, 8, 9, 10, 5, 11, 7, 12, 13, 14, 20, 21, 22, 23, 24, 25, 26, 27, 28, 29, 30, 18, 31, 32, 33, 34, 35, 36, 37, 38, 39, 40, 41, 42, 43, 44, 45, 46, 47, 48, 49, 50, 51, 52, 53, 78, 79, 80, 81, 82, 83, 84, 85] (by decide +kernel) (by decide +kernel)
set_option maxRecDepth 20000 in
theorem gX3_canReply_X3_safeTargets : GoodIn wsX3_canReply (wsV RX3 89 RX3 yX3_safeTargets wsX3_safeTargets) := goodIn_app (goodIn_of _ (by decide +kernel)) ggX3_canReply_X3_safeTargets
set_option maxRecDepth 20000 in
theorem ggX3_canReply_X3_safeDrops : GoodIn wsX3_canReply wsX3_safeDrops := goodIn_r _ [57, 1, 2, 3, 4, 5, 6, 7, 42, 43, 44, 45, 46, 13, 47, 48, 49, 50, 51, 24, 8, 9, 10, 11, 58, 59, 34, 35, 36, 37, 38, 39, 40, 41, 32, 33, 12, 14, 52, 53, 78, 79, 80, 81, 82, 83, 84, 85] (by decide +kernel) (by decide +kernel)
set_option maxRecDepth 20000 in
theorem gX3_canReply_X3_safeDrops : GoodIn wsX3_canReply (wsV RX3 101 RX3 yX3_safeDrops wsX3_safeDrops) := goodIn_app (goodIn_of _ (by decide +kernel)) ggX3_canReply_X3_safeDrops
set_option maxRecDepth 20000 in
theorem ggX3_canReply_X3_openToDrops : GoodIn wsX3_canReply wsX3_openToDrops := goodIn_r _ [63, 1, 2, 3, 4, 5, 6, 7, 64, 65, 66, 67, 46, 13, 47, 68, 69, 70, 71, 72, 73, 74, 75, 18, 76, 77, 8, 9, 10, 11, 58, 59, 78, 79, 80, 81, 82, 83, 84, 85] (by decide +kernel) (by decide +kernel)
set_option maxRecDepth 20000 in
theorem gX3_canReply_X3_openToDrops : GoodIn wsX3_canReply (wsV RX3 125 RX3 yX3_openToDrops wsX3_openToDrops) := goodIn_app (goodIn_of _ (by decide +kernel)) ggX3_canReply_X3_openToDrops
theorem dX3_canReply_0 : decode cX3_canReply 0 = .ok (.aload_n 0, 1) := by decide +kernel
theorem dX3_canReply_1 : decode cX3_canReply 1 = .ok (.getfield 28, 3) := by decide +kernel
theorem dX3_canReply_4 : decode cX3_canReply 4 = .ok (.invokevirtual 32, 3) := by decide +kernel
theorem dX3_canReply_7 : decode cX3_canReply 7 = .ok (.istore_n 1, 1) := by decide +kernel
theorem dX3_canReply_8 : decode cX3_canReply 8 = .ok (.iconst 0, 1) := by decide +kernel
theorem dX3_canReply_9 : decode cX3_canReply 9 = .ok (.istore_n 2, 1) := by decide +kernel
theorem dX3_canReply_10 : decode cX3_canReply 10 = .ok (.iload_n 2, 1) := by decide +kernel
theorem dX3_canReply_11 : decode cX3_canReply 11 = .ok (.bipush 25, 2) := by decide +kernel
theorem dX3_canReply_13 : decode cX3_canReply 13 = .ok (.if_icmp .ge 34, 3) := by decide +kernel
theorem dX3_canReply_16 : decode cX3_canReply 16 = .ok (.aload_n 0, 1) := by decide +kernel
theorem dX3_canReply_17 : decode cX3_canReply 17 = .ok (.getfield 28, 3) := by decide +kernel
theorem dX3_canReply_20 : decode cX3_canReply 20 = .ok (.iload_n 2, 1) := by decide +kernel
theorem dX3_canReply_21 : decode cX3_canReply 21 = .ok (.invokevirtual 67, 3) := by decide +kernel
theorem dX3_canReply_24 : decode cX3_canReply 24 = .ok (.invokestatic 70, 3) := by decide +kernel
theorem dX3_canReply_27 : decode cX3_canReply 27 = .ok (.iload_n 1, 1) := by decide +kernel
theorem dX3_canReply_28 : decode cX3_canReply 28 = .ok (.if_icmp .ne 13, 3) := by decide +kernel
theorem dX3_canReply_31 : decode cX3_canReply 31 = .ok (.aload_n 0, 1) := by decide +kernel
theorem dX3_canReply_32 : decode cX3_canReply 32 = .ok (.iload_n 2, 1) := by decide +kernel
theorem dX3_canReply_33 : decode cX3_canReply 33 = .ok (.invokevirtual 89, 3) := by decide +kernel
theorem dX3_canReply_36 : decode cX3_canReply 36 = .ok (.ifCond .eq 5, 3) := by decide +kernel
theorem dX3_canReply_39 : decode cX3_canReply 39 = .ok (.iconst 1, 1) := by decide +kernel
theorem dX3_canReply_40 : decode cX3_canReply 40 = .ok (.ireturn, 1) := by decide +kernel
theorem dX3_canReply_41 : decode cX3_canReply 41 = .ok (.iinc 2 1, 3) := by decide +kernel
theorem dX3_canReply_44 : decode cX3_canReply 44 = .ok (.goto (-34), 3) := by decide +kernel
theorem dX3_canReply_47 : decode cX3_canReply 47 = .ok (.aload_n 0, 1) := by decide +kernel
theorem dX3_canReply_48 : decode cX3_canReply 48 = .ok (.invokevirtual 101, 3) := by decide +kernel
theorem dX3_canReply_51 : decode cX3_canReply 51 = .ok (.istore_n 2, 1) := by decide +kernel
theorem dX3_canReply_52 : decode cX3_canReply 52 = .ok (.iconst 1, 1) := by decide +kernel
theorem dX3_canReply_53 : decode cX3_canReply 53 = .ok (.istore_n 3, 1) := by decide +kernel
theorem dX3_canReply_54 : decode cX3_canReply 54 = .ok (.iload_n 3, 1) := by decide +kernel
theorem dX3_canReply_55 : decode cX3_canReply 55 = .ok (.iconst 5, 1) := by decide +kernel
theorem dX3_canReply_56 : decode cX3_canReply 56 = .ok (.if_icmp .gt 20, 3) := by decide +kernel
theorem dX3_canReply_59 : decode cX3_canReply 59 = .ok (.aload_n 0, 1) := by decide +kernel
theorem dX3_canReply_60 : decode cX3_canReply 60 = .ok (.iload_n 3, 1) := by decide +kernel
theorem dX3_canReply_61 : decode cX3_canReply 61 = .ok (.iload_n 2, 1) := by decide +kernel
theorem dX3_canReply_62 : decode cX3_canReply 62 = .ok (.invokevirtual 125, 3) := by decide +kernel
theorem dX3_canReply_65 : decode cX3_canReply 65 = .ok (.ifCond .eq 5, 3) := by decide +kernel
theorem dX3_canReply_68 : decode cX3_canReply 68 = .ok (.iconst 1, 1) := by decide +kernel
theorem dX3_canReply_69 : decode cX3_canReply 69 = .ok (.ireturn, 1) := by decide +kernel
theorem dX3_canReply_70 : decode cX3_canReply 70 = .ok (.iinc 3 1, 3) := by decide +kernel
theorem dX3_canReply_73 : decode cX3_canReply 73 = .ok (.goto (-19), 3) := by decide +kernel
theorem dX3_canReply_76 : decode cX3_canReply 76 = .ok (.iconst 0, 1) := by decide +kernel
theorem dX3_canReply_77 : decode cX3_canReply 77 = .ok (.ireturn, 1) := by decide +kernel
end
section
set_option maxRecDepth 20000 in
theorem ggX4_init_X2_init : GoodIn wsX4_init wsX2_init := goodIn_r _ [26, 27, 2, 3, 20, 28, 29, 30, 31, 32, 33, 34, 35, 36, 37, 38, 39, 40, 6, 41, 42, 43, 44, 45, 46, 47, 48, 49, 50, 51, 76, 77] (by decide +kernel) (by decide +kernel)
set_option maxRecDepth 20000 in
theorem gX4_init_X2_init : GoodIn wsX4_init (wsX2_init) := ggX4_init_X2_init
set_option maxRecDepth 20000 in
theorem ggX4_init_X3_init : GoodIn wsX4_init wsX3_init := goodIn_r _ [54, 55, 2, 3, 20, 56, 57, 58, 59, 60, 61, 85, 86, 87, 88, 89, 90] (by decide +kernel) (by decide +kernel)
set_option maxRecDepth 20000 in
theorem gX4_init_X3_init : GoodIn wsX4_init (wsX3_init) := ggX4_init_X3_init
set_option maxRecDepth 20000 in
theorem ggX4_init_X0_init : GoodIn wsX4_init wsX0_init := goodIn_r _ [63, 64, 2, 3, 20, 65, 66, 91, 92] (by decide +kernel) (by decide +kernel)
set_option maxRecDepth 20000 in
theorem gX4_init_X0_init_n27 : GoodIn wsX4_init (wsX0_init) := ggX4_init_X0_init
set_option maxRecDepth 20000 in
theorem ggX4_init_X1_init : GoodIn wsX4_init wsX1_init := goodIn_r _ [68, 69, 2, 3, 70, 71, 72, 20, 73, 74, 75, 93, 94, 95, 96, 97] (by decide +kernel) (by decide +kernel)
set_option maxRecDepth 20000 in
theorem gX4_init_X1_init_n34 : GoodIn wsX4_init (wsX1_init) := ggX4_init_X1_init
theorem dX4_init_0 : decode cX4_init 0 = .ok (.aload_n 0, 1) := by decide +kernel
theorem dX4_init_1 : decode cX4_init 1 = .ok (.invokespecial 3, 3) := by decide +kernel
theorem dX4_init_4 : decode cX4_init 4 = .ok (.aload_n 0, 1) := by decide +kernel
theorem dX4_init_5 : decode cX4_init 5 = .ok (.new 9, 3) := by decide +kernel
theorem dX4_init_8 : decode cX4_init 8 = .ok (.dup, 1) := by decide +kernel
theorem dX4_init_9 : decode cX4_init 9 = .ok (.invokespecial 11, 3) := by decide +kernel
theorem dX4_init_12 : decode cX4_init 12 = .ok (.putfield 12, 3) := by decide +kernel
theorem dX4_init_15 : decode cX4_init 15 = .ok (.aload_n 0, 1) := by decide +kernel
theorem dX4_init_16 : decode cX4_init 16 = .ok (.new 16, 3) := by decide +kernel
theorem dX4_init_19 : decode cX4_init 19 = .ok (.dup, 1) := by decide +kernel
theorem dX4_init_20 : decode cX4_init 20 = .ok (.aload_n 0, 1) := by decide +kernel
theorem dX4_init_21 : decode cX4_init 21 = .ok (.getfield 12, 3) := by decide +kernel
theorem dX4_init_24 : decode cX4_init 24 = .ok (.invokespecial 18, 3) := by decide +kernel
theorem dX4_init_27 : decode cX4_init 27 = .ok (.putfield 21, 3) := by decide +kernel
theorem dX4_init_30 : decode cX4_init 30 = .ok (.aload_n 0, 1) := by decide +kernel
theorem dX4_init_31 : decode cX4_init 31 = .ok (.new 25, 3) := by decide +kernel
theorem dX4_init_34 : decode cX4_init 34 = .ok (.dup, 1) := by decide +kernel
theorem dX4_init_35 : decode cX4_init 35 = .ok (.invokespecial 27, 3) := by decide +kernel
theorem dX4_init_38 : decode cX4_init 38 = .ok (.putfield 28, 3) := by decide +kernel
theorem dX4_init_41 : decode cX4_init 41 = .ok (.aload_n 0, 1) := by decide +kernel
theorem dX4_init_42 : decode cX4_init 42 = .ok (.new 32, 3) := by decide +kernel
theorem dX4_init_45 : decode cX4_init 45 = .ok (.dup, 1) := by decide +kernel
theorem dX4_init_46 : decode cX4_init 46 = .ok (.invokespecial 34, 3) := by decide +kernel
theorem dX4_init_49 : decode cX4_init 49 = .ok (.putfield 35, 3) := by decide +kernel
theorem dX4_init_52 : decode cX4_init 52 = .ok (.aload_n 0, 1) := by decide +kernel
theorem dX4_init_53 : decode cX4_init 53 = .ok (.bipush 44, 2) := by decide +kernel
theorem dX4_init_55 : decode cX4_init 55 = .ok (.newarray .int, 2) := by decide +kernel
theorem dX4_init_57 : decode cX4_init 57 = .ok (.putfield 39, 3) := by decide +kernel
theorem dX4_init_60 : decode cX4_init 60 = .ok (.aload_n 0, 1) := by decide +kernel
theorem dX4_init_61 : decode cX4_init 61 = .ok (.bipush 44, 2) := by decide +kernel
theorem dX4_init_63 : decode cX4_init 63 = .ok (.newarray .int, 2) := by decide +kernel
theorem dX4_init_65 : decode cX4_init 65 = .ok (.putfield 43, 3) := by decide +kernel
theorem dX4_init_68 : decode cX4_init 68 = .ok (.aload_n 0, 1) := by decide +kernel
theorem dX4_init_69 : decode cX4_init 69 = .ok (.iconst 0, 1) := by decide +kernel
theorem dX4_init_70 : decode cX4_init 70 = .ok (.putfield 46, 3) := by decide +kernel
theorem dX4_init_73 : decode cX4_init 73 = .ok (.return_, 1) := by decide +kernel
set_option maxRecDepth 20000 in
theorem ggX4_make_X3_allows : GoodIn wsX4_make wsX3_allows := goodIn_r _ [7, 8, 9, 10, 11, 12, 13, 14, 15, 6, 16, 17, 18, 19, 20, 21, 22, 23, 24, 25, 26, 27, 28, 29, 30, 31, 32, 33, 34, 35, 36, 37, 38, 39, 40, 41, 42, 43, 44, 45, 46, 47, 48, 49, 50, 51, 52, 53, 54, 55, 56, 57, 58, 59, 60, 61, 62, 63, 64, 65, 66, 67, 68, 69, 70, 71, 72, 73, 74, 75, 76, 77, 78, 79, 80, 81, 82, 83, 84, 85, 86, 87, 88, 89, 90, 91, 92, 93, 94, 95, 96, 97, 98, 99, 100, 101, 102, 103, 104, 105, 106, 107, 108, 109, 110, 111, 112, 113, 114, 115, 116, 117, 118, 119, 120, 121, 122, 123, 124, 125, 126, 127, 128, 129, 130, 131, 132, 133, 134, 135, 136, 137, 176, 177, 178, 179, 180, 181, 182, 183] (by decide +kernel) (by decide +kernel)
set_option maxRecDepth 20000 in
theorem gX4_make_X3_allows : GoodIn wsX4_make (wsV RX4 85 RX3 yX3_allows wsX3_allows) := goodIn_app (goodIn_of _ (by decide +kernel)) ggX4_make_X3_allows
set_option maxRecDepth 20000 in
theorem ggX4_make_X4_recordChange : GoodIn wsX4_make wsX4_recordChange := goodIn_r _ [141, 2, 142, 143, 144, 145, 146, 21, 147, 23, 148, 149, 150, 151, 152, 153, 154, 155, 156, 157, 158, 159, 169, 170, 171, 172, 173, 174, 175, 182, 183, 184, 185] (by decide +kernel) (by decide +kernel)
set_option maxRecDepth 20000 in
theorem gX4_make_X4_recordChange : GoodIn wsX4_make (wsV RX4 58 RX4 yX4_recordChange wsX4_recordChange) := goodIn_app (goodIn_of _ (by decide +kernel)) ggX4_make_X4_recordChange
set_option maxRecDepth 20000 in
theorem ggX4_make_X2_play : GoodIn wsX4_make wsX2_play := goodIn_r _ [163, 23, 164, 78, 79, 21, 80, 81, 19, 20, 22, 82, 83, 84, 85, 86, 25, 26, 27, 28, 9, 29, 11, 12, 87, 88, 89, 90, 44, 45, 91, 60, 61, 62, 8, 10, 63, 64, 65, 66, 67, 68, 92, 31, 32, 33, 93, 94, 95, 96, 182, 183] (by decide +kernel) (by decide +kernel)
set_option maxRecDepth 20000 in
theorem gX4_make_X2_play : GoodIn wsX4_make (wsV RX4 64 RX2 yX2_play wsX2_play) := goodIn_app (goodIn_of _ (by decide +kernel)) ggX4_make_X2_play
set_option maxRecDepth 20000 in
theorem ggX4_make_X3_isInCheck : GoodIn wsX4_make wsX3_isInCheck := goodIn_r _ [100, 17, 18, 19, 20, 21, 22, 23, 50, 51, 52, 53, 28, 9, 29, 54, 55, 56, 57, 58, 176, 177, 178, 179, 180, 181, 182, 183] (by decide +kernel) (by decide +kernel)
set_option maxRecDepth 20000 in
theorem gX4_make_X3_isInCheck : GoodIn wsX4_make (wsV RX4 88 RX3 yX3_isInCheck wsX3_isInCheck) := goodIn_app (goodIn_of _ (by decide +kernel)) ggX4_make_X3_isInCheck
set_option maxRecDepth 20000 in
theorem ggX4_make_X4_asNumber : GoodIn wsX4_make wsX4_asNumber := goodIn_r _ [168] (by decide +kernel) (by decide +kernel)
set_option maxRecDepth 20000 in
theorem gX4_make_X4_asNumber : GoodIn wsX4_make (va_wsS RX4 92 yX4_asNumber wsX4_asNumber) := goodIn_app (goodIn_of _ (by decide +kernel)) ggX4_make_X4_asNumber
theorem dX4_make_0 : decode cX4_make 0 = .ok (.aload_n 0, 1) := by decide +kernel
theorem dX4_make_1 : decode cX4_make 1 = .ok (.getfield 21, 3) := by decide +kernel
theorem dX4_make_4 : decode cX4_make 4 = .ok (.iload_n 1, 1) := by decide +kernel
theorem dX4_make_5 : decode cX4_make 5 = .ok (.invokevirtual 85, 3) := by decide +kernel
theorem dX4_make_8 : decode cX4_make 8 = .ok (.ifCond .ne 7, 3) := by decide +kernel
theorem dX4_make_11 : decode cX4_make 11 = .ok (.sipush (-1004), 3) := by decide +kernel
theorem dX4_make_14 : decode cX4_make 14 = .ok (.ireturn, 1) := by decide +kernel
theorem dX4_make_15 : decode cX4_make 15 = .ok (.aload_n 0, 1) := by decide +kernel
theorem dX4_make_16 : decode cX4_make 16 = .ok (.invokevirtual 58, 3) := by decide +kernel
theorem dX4_make_19 : decode cX4_make 19 = .ok (.aload_n 0, 1) := by decide +kernel
theorem dX4_make_20 : decode cX4_make 20 = .ok (.getfield 12, 3) := by decide +kernel
theorem dX4_make_23 : decode cX4_make 23 = .ok (.iload_n 1, 1) := by decide +kernel
theorem dX4_make_24 : decode cX4_make 24 = .ok (.invokevirtual 64, 3) := by decide +kernel
theorem dX4_make_27 : decode cX4_make 27 = .ok (.pop, 1) := by decide +kernel
theorem dX4_make_28 : decode cX4_make 28 = .ok (.aload_n 0, 1) := by decide +kernel
theorem dX4_make_29 : decode cX4_make 29 = .ok (.getfield 21, 3) := by decide +kernel
theorem dX4_make_32 : decode cX4_make 32 = .ok (.invokevirtual 88, 3) := by decide +kernel
theorem dX4_make_35 : decode cX4_make 35 = .ok (.invokestatic 92, 3) := by decide +kernel
theorem dX4_make_38 : decode cX4_make 38 = .ok (.ireturn, 1) := by decide +kernel
set_option maxRecDepth 20000 in
theorem ggX4_put_X4_isSquare : GoodIn wsX4_put wsX4_isSquare := goodIn_r _ [5] (by decide +kernel) (by decide +kernel)
set_option maxRecDepth 20000 in
theorem gX4_put_X4_isSquare : GoodIn wsX4_put (va_wsS RX4 50 yX4_isSquare wsX4_isSquare) := goodIn_app (goodIn_of _ (by decide +kernel)) ggX4_put_X4_isSquare
set_option maxRecDepth 20000 in
theorem ggX4_put_X4_isMan : GoodIn wsX4_put wsX4_isMan := goodIn_r _ [8] (by decide +kernel) (by decide +kernel)
set_option maxRecDepth 20000 in
theorem gX4_put_X4_isMan : GoodIn wsX4_put (va_wsS RX4 96 yX4_isMan wsX4_isMan) := goodIn_app (goodIn_of _ (by decide +kernel)) ggX4_put_X4_isMan
set_option maxRecDepth 20000 in
theorem ggX4_put_X4_sideOf : GoodIn wsX4_put wsX4_sideOf := goodIn_r _ [11] (by decide +kernel) (by decide +kernel)
set_option maxRecDepth 20000 in
theorem gX4_put_X4_sideOf : GoodIn wsX4_put (va_wsS RX4 99 yX4_sideOf wsX4_sideOf) := goodIn_app (goodIn_of _ (by decide +kernel)) ggX4_put_X4_sideOf
set_option maxRecDepth 20000 in
theorem ggX4_put_X2_kingOf : GoodIn wsX4_put wsX2_kingOf := goodIn_r _ [16, 17, 18, 4, 19, 64, 65] (by decide +kernel) (by decide +kernel)
set_option maxRecDepth 20000 in
theorem gX4_put_X2_kingOf : GoodIn wsX4_put (wsV RX4 102 RX2 yX2_kingOf wsX2_kingOf) := goodIn_app (goodIn_of _ (by decide +kernel)) ggX4_put_X2_kingOf
set_option maxRecDepth 20000 in
theorem ggX4_put_X4_kindOf : GoodIn wsX4_put wsX4_kindOf := goodIn_r _ [22] (by decide +kernel) (by decide +kernel)
set_option maxRecDepth 20000 in
theorem gX4_put_X4_kindOf : GoodIn wsX4_put (va_wsS RX4 105 yX4_kindOf wsX4_kindOf) := goodIn_app (goodIn_of _ (by decide +kernel)) ggX4_put_X4_kindOf
set_option maxRecDepth 20000 in
theorem ggX4_put_X2_manOn : GoodIn wsX4_put wsX2_manOn := goodIn_r _ [26, 17, 64, 65] (by decide +kernel) (by decide +kernel)
set_option maxRecDepth 20000 in
theorem gX4_put_X2_manOn : GoodIn wsX4_put (wsV RX4 108 RX2 yX2_manOn wsX2_manOn) := goodIn_app (goodIn_of _ (by decide +kernel)) ggX4_put_X2_manOn
set_option maxRecDepth 20000 in
theorem ggX4_put_X4_recordChange : GoodIn wsX4_put wsX4_recordChange := goodIn_r _ [30, 1, 31, 32, 33, 34, 35, 15, 36, 17, 37, 38, 39, 40, 41, 42, 43, 44, 45, 46, 47, 48, 57, 58, 59, 60, 61, 62, 63, 64, 65, 66, 67] (by decide +kernel) (by decide +kernel)
set_option maxRecDepth 20000 in
theorem gX4_put_X4_recordChange : GoodIn wsX4_put (wsV RX4 58 RX4 yX4_recordChange wsX4_recordChange) := goodIn_app (goodIn_of _ (by decide +kernel)) ggX4_put_X4_recordChange
set_option maxRecDepth 20000 in
theorem ggX4_put_X2_place : GoodIn wsX4_put wsX2_place := goodIn_r _ [52, 17, 3, 4, 5, 7, 8, 21, 22, 10, 11, 64, 65] (by decide +kernel) (by decide +kernel)
set_option maxRecDepth 20000 in
theorem gX4_put_X2_place : GoodIn wsX4_put (wsV RX4 111 RX2 yX2_place wsX2_place) := goodIn_app (goodIn_of _ (by decide +kernel)) ggX4_put_X2_place
set_option maxRecDepth 20000 in
theorem ggX4_put_X2_menOnBoard : GoodIn wsX4_put wsX2_menOnBoard := goodIn_r _ [56, 17, 64, 65] (by decide +kernel) (by decide +kernel)
set_option maxRecDepth 20000 in
theorem gX4_put_X2_menOnBoard : GoodIn wsX4_put (wsV RX4 115 RX2 yX2_menOnBoard wsX2_menOnBoard) := goodIn_app (goodIn_of _ (by decide +kernel)) ggX4_put_X2_menOnBoard
theorem dX4_put_0 : decode cX4_put 0 = .ok (.iload_n 1, 1) := by decide +kernel
theorem dX4_put_1 : decode cX4_put 1 = .ok (.invokestatic 50, 3) := by decide +kernel
theorem dX4_put_4 : decode cX4_put 4 = .ok (.ifCond .eq 10, 3) := by decide +kernel
theorem dX4_put_7 : decode cX4_put 7 = .ok (.iload_n 2, 1) := by decide +kernel
theorem dX4_put_8 : decode cX4_put 8 = .ok (.invokestatic 96, 3) := by decide +kernel
theorem dX4_put_11 : decode cX4_put 11 = .ok (.ifCond .ne 7, 3) := by decide +kernel
theorem dX4_put_14 : decode cX4_put 14 = .ok (.sipush (-1001), 3) := by decide +kernel
theorem dX4_put_17 : decode cX4_put 17 = .ok (.ireturn, 1) := by decide +kernel
theorem dX4_put_18 : decode cX4_put 18 = .ok (.aload_n 0, 1) := by decide +kernel
theorem dX4_put_19 : decode cX4_put 19 = .ok (.getfield 12, 3) := by decide +kernel
theorem dX4_put_22 : decode cX4_put 22 = .ok (.iload_n 2, 1) := by decide +kernel
theorem dX4_put_23 : decode cX4_put 23 = .ok (.invokestatic 99, 3) := by decide +kernel
theorem dX4_put_26 : decode cX4_put 26 = .ok (.invokevirtual 102, 3) := by decide +kernel
theorem dX4_put_29 : decode cX4_put 29 = .ok (.istore_n 3, 1) := by decide +kernel
theorem dX4_put_30 : decode cX4_put 30 = .ok (.iload_n 2, 1) := by decide +kernel
theorem dX4_put_31 : decode cX4_put 31 = .ok (.invokestatic 105, 3) := by decide +kernel
theorem dX4_put_34 : decode cX4_put 34 = .ok (.ifCond .ne 17, 3) := by decide +kernel
theorem dX4_put_37 : decode cX4_put 37 = .ok (.iload_n 3, 1) := by decide +kernel
theorem dX4_put_38 : decode cX4_put 38 = .ok (.iconst (-1), 1) := by decide +kernel
theorem dX4_put_39 : decode cX4_put 39 = .ok (.if_icmp .eq 12, 3) := by decide +kernel
theorem dX4_put_42 : decode cX4_put 42 = .ok (.iload_n 3, 1) := by decide +kernel
theorem dX4_put_43 : decode cX4_put 43 = .ok (.iload_n 1, 1) := by decide +kernel
theorem dX4_put_44 : decode cX4_put 44 = .ok (.if_icmp .eq 7, 3) := by decide +kernel
theorem dX4_put_47 : decode cX4_put 47 = .ok (.sipush (-1004), 3) := by decide +kernel
theorem dX4_put_50 : decode cX4_put 50 = .ok (.ireturn, 1) := by decide +kernel
theorem dX4_put_51 : decode cX4_put 51 = .ok (.aload_n 0, 1) := by decide +kernel
theorem dX4_put_52 : decode cX4_put 52 = .ok (.getfield 12, 3) := by decide +kernel
theorem dX4_put_55 : decode cX4_put 55 = .ok (.iload_n 1, 1) := by decide +kernel
theorem dX4_put_56 : decode cX4_put 56 = .ok (.invokevirtual 108, 3) := by decide +kernel
theorem dX4_put_59 : decode cX4_put 59 = .ok (.iload_n 2, 1) := by decide +kernel
theorem dX4_put_60 : decode cX4_put 60 = .ok (.if_icmp .ne 7, 3) := by decide +kernel
theorem dX4_put_63 : decode cX4_put 63 = .ok (.sipush (-1005), 3) := by decide +kernel
theorem dX4_put_66 : decode cX4_put 66 = .ok (.ireturn, 1) := by decide +kernel
theorem dX4_put_67 : decode cX4_put 67 = .ok (.aload_n 0, 1) := by decide +kernel
theorem dX4_put_68 : decode cX4_put 68 = .ok (.invokevirtual 58, 3) := by decide +kernel
theorem dX4_put_71 : decode cX4_put 71 = .ok (.aload_n 0, 1) := by decide +kernel
theorem dX4_put_72 : decode cX4_put 72 = .ok (.getfield 12, 3) := by decide +kernel
theorem dX4_put_75 : decode cX4_put 75 = .ok (.iload_n 1, 1) := by decide +kernel
theorem dX4_put_76 : decode cX4_put 76 = .ok (.iload_n 2, 1) := by decide +kernel
theorem dX4_put_77 : decode cX4_put 77 = .ok (.invokevirtual 111, 3) := by decide +kernel
theorem dX4_put_80 : decode cX4_put 80 = .ok (.aload_n 0, 1) := by decide +kernel
theorem dX4_put_81 : decode cX4_put 81 = .ok (.getfield 12, 3) := by decide +kernel
theorem dX4_put_84 : decode cX4_put 84 = .ok (.invokevirtual 115, 3) := by decide +kernel
theorem dX4_put_87 : decode cX4_put 87 = .ok (.ireturn, 1) := by decide +kernel
set_option maxRecDepth 20000 in
theorem ggX4_takeOff_X4_isSquare : GoodIn wsX4_takeOff wsX4_isSquare := goodIn_r _ [5] (by decide +kernel) (by decide +kernel)
set_option maxRecDepth 20000 in
theorem gX4_takeOff_X4_isSquare : GoodIn wsX4_takeOff (va_wsS RX4 50 yX4_isSquare wsX4_isSquare) := goodIn_app (goodIn_of _ (by decide +kernel)) ggX4_takeOff_X4_isSquare
set_option maxRecDepth 20000 in
theorem ggX4_takeOff_X2_manOn : GoodIn wsX4_takeOff wsX2_manOn := goodIn_r _ [10, 11, 51, 52] (by decide +kernel) (by decide +kernel)
set_option maxRecDepth 20000 in
theorem gX4_takeOff_X2_manOn : GoodIn wsX4_takeOff (wsV RX4 108 RX2 yX2_manOn wsX2_manOn) := goodIn_app (goodIn_of _ (by decide +kernel)) ggX4_takeOff_X2_manOn
set_option maxRecDepth 20000 in
theorem ggX4_takeOff_X4_recordChange : GoodIn wsX4_takeOff wsX4_recordChange := goodIn_r _ [15, 1, 16, 17, 18, 19, 20, 9, 21, 11, 22, 23, 24, 25, 26, 27, 28, 29, 30, 31, 32, 33, 44, 45, 46, 47, 48, 49, 50, 51, 52, 53, 54] (by decide +kernel) (by decide +kernel)
set_option maxRecDepth 20000 in
theorem gX4_takeOff_X4_recordChange : GoodIn wsX4_takeOff (wsV RX4 58 RX4 yX4_recordChange wsX4_recordChange) := goodIn_app (goodIn_of _ (by decide +kernel)) ggX4_takeOff_X4_recordChange
set_option maxRecDepth 20000 in
theorem ggX4_takeOff_X2_place : GoodIn wsX4_takeOff wsX2_place := goodIn_r _ [37, 11, 3, 4, 5, 38, 39, 40, 41, 42, 43, 51, 52] (by decide +kernel) (by decide +kernel)
set_option maxRecDepth 20000 in
theorem gX4_takeOff_X2_place : GoodIn wsX4_takeOff (wsV RX4 111 RX2 yX2_place wsX2_place) := goodIn_app (goodIn_of _ (by decide +kernel)) ggX4_takeOff_X2_place
theorem dX4_takeOff_0 : decode cX4_takeOff 0 = .ok (.iload_n 1, 1) := by decide +kernel
theorem dX4_takeOff_1 : decode cX4_takeOff 1 = .ok (.invokestatic 50, 3) := by decide +kernel
theorem dX4_takeOff_4 : decode cX4_takeOff 4 = .ok (.ifCond .ne 7, 3) := by decide +kernel
theorem dX4_takeOff_7 : decode cX4_takeOff 7 = .ok (.sipush (-1001), 3) := by decide +kernel
theorem dX4_takeOff_10 : decode cX4_takeOff 10 = .ok (.ireturn, 1) := by decide +kernel
theorem dX4_takeOff_11 : decode cX4_takeOff 11 = .ok (.aload_n 0, 1) := by decide +kernel
theorem dX4_takeOff_12 : decode cX4_takeOff 12 = .ok (.getfield 12, 3) := by decide +kernel
theorem dX4_takeOff_15 : decode cX4_takeOff 15 = .ok (.iload_n 1, 1) := by decide +kernel
theorem dX4_takeOff_16 : decode cX4_takeOff 16 = .ok (.invokevirtual 108, 3) := by decide +kernel
theorem dX4_takeOff_19 : decode cX4_takeOff 19 = .ok (.istore_n 2, 1) := by decide +kernel
theorem dX4_takeOff_20 : decode cX4_takeOff 20 = .ok (.iload_n 2, 1) := by decide +kernel
theorem dX4_takeOff_21 : decode cX4_takeOff 21 = .ok (.bipush 99, 2) := by decide +kernel
theorem dX4_takeOff_23 : decode cX4_takeOff 23 = .ok (.if_icmp .ne 7, 3) := by decide +kernel
theorem dX4_takeOff_26 : decode cX4_takeOff 26 = .ok (.sipush (-1005), 3) := by decide +kernel
theorem dX4_takeOff_29 : decode cX4_takeOff 29 = .ok (.ireturn, 1) := by decide +kernel
theorem dX4_takeOff_30 : decode cX4_takeOff 30 = .ok (.aload_n 0, 1) := by decide +kernel
theorem dX4_takeOff_31 : decode cX4_takeOff 31 = .ok (.invokevirtual 58, 3) := by decide +kernel
theorem dX4_takeOff_34 : decode cX4_takeOff 34 = .ok (.aload_n 0, 1) := by decide +kernel
theorem dX4_takeOff_35 : decode cX4_takeOff 35 = .ok (.getfield 12, 3) := by decide +kernel
theorem dX4_takeOff_38 : decode cX4_takeOff 38 = .ok (.iload_n 1, 1) := by decide +kernel
theorem dX4_takeOff_39 : decode cX4_takeOff 39 = .ok (.bipush 99, 2) := by decide +kernel
theorem dX4_takeOff_41 : decode cX4_takeOff 41 = .ok (.invokevirtual 111, 3) := by decide +kernel
theorem dX4_takeOff_44 : decode cX4_takeOff 44 = .ok (.iload_n 2, 1) := by decide +kernel
theorem dX4_takeOff_45 : decode cX4_takeOff 45 = .ok (.ireturn, 1) := by decide +kernel
set_option maxRecDepth 20000 in
theorem ggX4_setHand_X4_isSide : GoodIn wsX4_setHand wsX4_isSide := goodIn_r _ [5] (by decide +kernel) (by decide +kernel)
set_option maxRecDepth 20000 in
theorem gX4_setHand_X4_isSide : GoodIn wsX4_setHand (va_wsS RX4 118 yX4_isSide wsX4_isSide) := goodIn_app (goodIn_of _ (by decide +kernel)) ggX4_setHand_X4_isSide
set_option maxRecDepth 20000 in
theorem ggX4_setHand_X4_isHandKind : GoodIn wsX4_setHand wsX4_isHandKind := goodIn_r _ [8] (by decide +kernel) (by decide +kernel)
set_option maxRecDepth 20000 in
theorem gX4_setHand_X4_isHandKind : GoodIn wsX4_setHand (va_wsS RX4 68 yX4_isHandKind wsX4_isHandKind) := goodIn_app (goodIn_of _ (by decide +kernel)) ggX4_setHand_X4_isHandKind
set_option maxRecDepth 20000 in
theorem ggX4_setHand_X2_inHand : GoodIn wsX4_setHand wsX2_inHand := goodIn_r _ [13, 14, 3, 4, 5, 7, 8, 48, 49] (by decide +kernel) (by decide +kernel)
set_option maxRecDepth 20000 in
theorem gX4_setHand_X2_inHand : GoodIn wsX4_setHand (wsV RX4 82 RX2 yX2_inHand wsX2_inHand) := goodIn_app (goodIn_of _ (by decide +kernel)) ggX4_setHand_X2_inHand
set_option maxRecDepth 20000 in
theorem ggX4_setHand_X4_recordChange : GoodIn wsX4_setHand wsX4_recordChange := goodIn_r _ [18, 1, 19, 20, 21, 22, 23, 12, 24, 14, 25, 26, 27, 28, 29, 30, 31, 32, 33, 34, 35, 36, 41, 42, 43, 44, 45, 46, 47, 48, 49, 50, 51] (by decide +kernel) (by decide +kernel)
set_option maxRecDepth 20000 in
theorem gX4_setHand_X4_recordChange : GoodIn wsX4_setHand (wsV RX4 58 RX4 yX4_recordChange wsX4_recordChange) := goodIn_app (goodIn_of _ (by decide +kernel)) ggX4_setHand_X4_recordChange
set_option maxRecDepth 20000 in
theorem ggX4_setHand_X2_setInHand : GoodIn wsX4_setHand wsX2_setInHand := goodIn_r _ [40, 14, 3, 4, 5, 7, 8, 48, 49] (by decide +kernel) (by decide +kernel)
set_option maxRecDepth 20000 in
theorem gX4_setHand_X2_setInHand : GoodIn wsX4_setHand (wsV RX4 121 RX2 yX2_setInHand wsX2_setInHand) := goodIn_app (goodIn_of _ (by decide +kernel)) ggX4_setHand_X2_setInHand
theorem dX4_setHand_0 : decode cX4_setHand 0 = .ok (.iload_n 1, 1) := by decide +kernel
theorem dX4_setHand_1 : decode cX4_setHand 1 = .ok (.invokestatic 118, 3) := by decide +kernel
theorem dX4_setHand_4 : decode cX4_setHand 4 = .ok (.ifCond .eq 10, 3) := by decide +kernel
theorem dX4_setHand_7 : decode cX4_setHand 7 = .ok (.iload_n 2, 1) := by decide +kernel
theorem dX4_setHand_8 : decode cX4_setHand 8 = .ok (.invokestatic 68, 3) := by decide +kernel
theorem dX4_setHand_11 : decode cX4_setHand 11 = .ok (.ifCond .ne 7, 3) := by decide +kernel
theorem dX4_setHand_14 : decode cX4_setHand 14 = .ok (.sipush (-1001), 3) := by decide +kernel
theorem dX4_setHand_17 : decode cX4_setHand 17 = .ok (.ireturn, 1) := by decide +kernel
theorem dX4_setHand_18 : decode cX4_setHand 18 = .ok (.iload_n 3, 1) := by decide +kernel
theorem dX4_setHand_19 : decode cX4_setHand 19 = .ok (.ifCond .lt 8, 3) := by decide +kernel
theorem dX4_setHand_22 : decode cX4_setHand 22 = .ok (.iload_n 3, 1) := by decide +kernel
theorem dX4_setHand_23 : decode cX4_setHand 23 = .ok (.iconst 4, 1) := by decide +kernel
theorem dX4_setHand_24 : decode cX4_setHand 24 = .ok (.if_icmp .le 7, 3) := by decide +kernel
theorem dX4_setHand_27 : decode cX4_setHand 27 = .ok (.sipush (-1002), 3) := by decide +kernel
theorem dX4_setHand_30 : decode cX4_setHand 30 = .ok (.ireturn, 1) := by decide +kernel
theorem dX4_setHand_31 : decode cX4_setHand 31 = .ok (.aload_n 0, 1) := by decide +kernel
theorem dX4_setHand_32 : decode cX4_setHand 32 = .ok (.getfield 12, 3) := by decide +kernel
theorem dX4_setHand_35 : decode cX4_setHand 35 = .ok (.iload_n 1, 1) := by decide +kernel
theorem dX4_setHand_36 : decode cX4_setHand 36 = .ok (.iload_n 2, 1) := by decide +kernel
theorem dX4_setHand_37 : decode cX4_setHand 37 = .ok (.invokevirtual 82, 3) := by decide +kernel
theorem dX4_setHand_40 : decode cX4_setHand 40 = .ok (.istore 4, 2) := by decide +kernel
theorem dX4_setHand_42 : decode cX4_setHand 42 = .ok (.iload 4, 2) := by decide +kernel
theorem dX4_setHand_44 : decode cX4_setHand 44 = .ok (.iload_n 3, 1) := by decide +kernel
theorem dX4_setHand_45 : decode cX4_setHand 45 = .ok (.if_icmp .ne 7, 3) := by decide +kernel
theorem dX4_setHand_48 : decode cX4_setHand 48 = .ok (.sipush (-1005), 3) := by decide +kernel
theorem dX4_setHand_51 : decode cX4_setHand 51 = .ok (.ireturn, 1) := by decide +kernel
theorem dX4_setHand_52 : decode cX4_setHand 52 = .ok (.aload_n 0, 1) := by decide +kernel
theorem dX4_setHand_53 : decode cX4_setHand 53 = .ok (.invokevirtual 58, 3) := by decide +kernel
theorem dX4_setHand_56 : decode cX4_setHand 56 = .ok (.aload_n 0, 1) := by decide +kernel
theorem dX4_setHand_57 : decode cX4_setHand 57 = .ok (.getfield 12, 3) := by decide +kernel
theorem dX4_setHand_60 : decode cX4_setHand 60 = .ok (.iload_n 1, 1) := by decide +kernel
theorem dX4_setHand_61 : decode cX4_setHand 61 = .ok (.iload_n 2, 1) := by decide +kernel
theorem dX4_setHand_62 : decode cX4_setHand 62 = .ok (.iload_n 3, 1) := by decide +kernel
theorem dX4_setHand_63 : decode cX4_setHand 63 = .ok (.invokevirtual 121, 3) := by decide +kernel
theorem dX4_setHand_66 : decode cX4_setHand 66 = .ok (.iload 4, 2) := by decide +kernel
theorem dX4_setHand_68 : decode cX4_setHand 68 = .ok (.ireturn, 1) := by decide +kernel
set_option maxRecDepth 20000 in
theorem ggX4_setSide_X4_isSide : GoodIn wsX4_setSide wsX4_isSide := goodIn_r _ [6] (by decide +kernel) (by decide +kernel)
set_option maxRecDepth 20000 in
theorem gX4_setSide_X4_isSide : GoodIn wsX4_setSide (va_wsS RX4 118 yX4_isSide wsX4_isSide) := goodIn_app (goodIn_of _ (by decide +kernel)) ggX4_setSide_X4_isSide
set_option maxRecDepth 20000 in
theorem ggX4_setSide_X2_sideToPlay : GoodIn wsX4_setSide wsX2_sideToPlay := goodIn_r _ [11, 12, 172, 173] (by decide +kernel) (by decide +kernel)
set_option maxRecDepth 20000 in
theorem gX4_setSide_X2_sideToPlay : GoodIn wsX4_setSide (wsV RX4 75 RX2 yX2_sideToPlay wsX2_sideToPlay) := goodIn_app (goodIn_of _ (by decide +kernel)) ggX4_setSide_X2_sideToPlay
set_option maxRecDepth 20000 in
theorem ggX4_setSide_X4_recordChange : GoodIn wsX4_setSide wsX4_recordChange := goodIn_r _ [16, 1, 17, 18, 19, 20, 21, 10, 22, 12, 23, 24, 25, 26, 27, 28, 29, 30, 31, 32, 33, 34, 165, 166, 167, 168, 169, 170, 171, 172, 173, 174, 175] (by decide +kernel) (by decide +kernel)
set_option maxRecDepth 20000 in
theorem gX4_setSide_X4_recordChange : GoodIn wsX4_setSide (wsV RX4 58 RX4 yX4_recordChange wsX4_recordChange) := goodIn_app (goodIn_of _ (by decide +kernel)) ggX4_setSide_X4_recordChange
set_option maxRecDepth 20000 in
theorem ggX4_setSide_X2_setSideToPlay : GoodIn wsX4_setSide wsX2_setSideToPlay := goodIn_r _ [38, 12, 172, 173] (by decide +kernel) (by decide +kernel)
set_option maxRecDepth 20000 in
theorem gX4_setSide_X2_setSideToPlay : GoodIn wsX4_setSide (wsV RX4 131 RX2 yX2_setSideToPlay wsX2_setSideToPlay) := goodIn_app (goodIn_of _ (by decide +kernel)) ggX4_setSide_X2_setSideToPlay
set_option maxRecDepth 20000 in
theorem ggX4_setSide_X3_findPlays : GoodIn wsX4_setSide wsX3_findPlays := goodIn_r _ [43, 44, 45, 46, 47, 48, 8, 9, 10, 11, 12, 49, 50, 51, 52, 53, 5, 54, 55, 56, 57, 42, 58, 59, 60, 61, 62, 63, 64, 65, 66, 67, 68, 69, 70, 71, 72, 73, 74, 75, 76, 77, 78, 79, 80, 81, 82, 83, 84, 4, 6, 85, 86, 87, 88, 89, 90, 91, 92, 93, 94, 95, 96, 97, 98, 99, 100, 101, 102, 103, 104, 105, 106, 107, 108, 109, 110, 111, 112, 113, 114, 115, 116, 117, 118, 119, 120, 121, 122, 123, 124, 125, 126, 127, 128, 129, 130, 131, 132, 133, 134, 135, 136, 137, 138, 139, 140, 141, 142, 36, 37, 38, 143, 144, 145, 146, 147, 148, 149, 150, 151, 152, 153, 154, 155, 156, 157, 158, 159, 160, 161, 162, 163, 164, 176, 177, 178, 179, 180, 181, 172, 173] (by decide +kernel) (by decide +kernel)
set_option maxRecDepth 20000 in
theorem gX4_setSide_X3_findPlays : GoodIn wsX4_setSide (wsV RX4 135 RX3 yX3_findPlays wsX3_findPlays) := goodIn_app (goodIn_of _ (by decide +kernel)) ggX4_setSide_X3_findPlays
theorem dX4_setSide_0 : decode cX4_setSide 0 = .ok (.iload_n 1, 1) := by decide +kernel
theorem dX4_setSide_1 : decode cX4_setSide 1 = .ok (.invokestatic 118, 3) := by decide +kernel
theorem dX4_setSide_4 : decode cX4_setSide 4 = .ok (.ifCond .ne 7, 3) := by decide +kernel
theorem dX4_setSide_7 : decode cX4_setSide 7 = .ok (.sipush (-1001), 3) := by decide +kernel
theorem dX4_setSide_10 : decode cX4_setSide 10 = .ok (.ireturn, 1) := by decide +kernel
theorem dX4_setSide_11 : decode cX4_setSide 11 = .ok (.aload_n 0, 1) := by decide +kernel
theorem dX4_setSide_12 : decode cX4_setSide 12 = .ok (.getfield 12, 3) := by decide +kernel
theorem dX4_setSide_15 : decode cX4_setSide 15 = .ok (.invokevirtual 75, 3) := by decide +kernel
theorem dX4_setSide_18 : decode cX4_setSide 18 = .ok (.iload_n 1, 1) := by decide +kernel
theorem dX4_setSide_19 : decode cX4_setSide 19 = .ok (.if_icmp .ne 7, 3) := by decide +kernel
theorem dX4_setSide_22 : decode cX4_setSide 22 = .ok (.sipush (-1005), 3) := by decide +kernel
theorem dX4_setSide_25 : decode cX4_setSide 25 = .ok (.ireturn, 1) := by decide +kernel
theorem dX4_setSide_26 : decode cX4_setSide 26 = .ok (.aload_n 0, 1) := by decide +kernel
theorem dX4_setSide_27 : decode cX4_setSide 27 = .ok (.invokevirtual 58, 3) := by decide +kernel
theorem dX4_setSide_30 : decode cX4_setSide 30 = .ok (.aload_n 0, 1) := by decide +kernel
theorem dX4_setSide_31 : decode cX4_setSide 31 = .ok (.getfield 12, 3) := by decide +kernel
theorem dX4_setSide_34 : decode cX4_setSide 34 = .ok (.iload_n 1, 1) := by decide +kernel
theorem dX4_setSide_35 : decode cX4_setSide 35 = .ok (.invokevirtual 131, 3) := by decide +kernel
theorem dX4_setSide_38 : decode cX4_setSide 38 = .ok (.aload_n 0, 1) := by decide +kernel
theorem dX4_setSide_39 : decode cX4_setSide 39 = .ok (.getfield 21, 3) := by decide +kernel
theorem dX4_setSide_42 : decode cX4_setSide 42 = .ok (.invokevirtual 135, 3) := by decide +kernel
theorem dX4_setSide_45 : decode cX4_setSide 45 = .ok (.ireturn, 1) := by decide +kernel
set_option maxRecDepth 20000 in
theorem ggX4_undo_X0_size : GoodIn wsX4_undo wsX0_size := goodIn_r _ [7, 8, 31, 32] (by decide +kernel) (by decide +kernel)
set_option maxRecDepth 20000 in
theorem gX4_undo_X0_size : GoodIn wsX4_undo (wsV RX4 171 RX0 yX0_size wsX0_size) := goodIn_app (goodIn_of _ (by decide +kernel)) ggX4_undo_X0_size
set_option maxRecDepth 20000 in
theorem ggX4_undo_X0_popInto : GoodIn wsX4_undo wsX0_popInto := goodIn_r _ [12, 8, 13, 14, 15, 16, 17, 18, 19, 20, 21, 22, 23, 31, 32, 33, 34] (by decide +kernel) (by decide +kernel)
set_option maxRecDepth 20000 in
theorem gX4_undo_X0_popInto : GoodIn wsX4_undo (wsV RX4 172 RX0 yX0_popInto wsX0_popInto) := goodIn_app (goodIn_of _ (by decide +kernel)) ggX4_undo_X0_popInto
theorem dX4_undo_0 : decode cX4_undo 0 = .ok (.aload_n 0, 1) := by decide +kernel
theorem dX4_undo_1 : decode cX4_undo 1 = .ok (.getfield 28, 3) := by decide +kernel
theorem dX4_undo_4 : decode cX4_undo 4 = .ok (.invokevirtual 171, 3) := by decide +kernel
theorem dX4_undo_7 : decode cX4_undo 7 = .ok (.ifCond .ne 7, 3) := by decide +kernel
theorem dX4_undo_10 : decode cX4_undo 10 = .ok (.sipush (-1005), 3) := by decide +kernel
theorem dX4_undo_13 : decode cX4_undo 13 = .ok (.ireturn, 1) := by decide +kernel
theorem dX4_undo_14 : decode cX4_undo 14 = .ok (.aload_n 0, 1) := by decide +kernel
theorem dX4_undo_15 : decode cX4_undo 15 = .ok (.getfield 28, 3) := by decide +kernel
theorem dX4_undo_18 : decode cX4_undo 18 = .ok (.aload_n 0, 1) := by decide +kernel
theorem dX4_undo_19 : decode cX4_undo 19 = .ok (.getfield 12, 3) := by decide +kernel
theorem dX4_undo_22 : decode cX4_undo 22 = .ok (.invokevirtual 172, 3) := by decide +kernel
theorem dX4_undo_25 : decode cX4_undo 25 = .ok (.aload_n 0, 1) := by decide +kernel
theorem dX4_undo_26 : decode cX4_undo 26 = .ok (.getfield 28, 3) := by decide +kernel
theorem dX4_undo_29 : decode cX4_undo 29 = .ok (.invokevirtual 171, 3) := by decide +kernel
theorem dX4_undo_32 : decode cX4_undo 32 = .ok (.ireturn, 1) := by decide +kernel
set_option maxRecDepth 20000 in
theorem ggX4_restore_X4_recordChange : GoodIn wsX4_restore wsX4_recordChange := goodIn_r _ [8, 2, 9, 10, 11, 12, 13, 14, 15, 16, 17, 18, 19, 20, 21, 22, 23, 24, 25, 26, 27, 28, 37, 38, 39, 40, 41, 42, 43, 44, 45, 46, 47] (by decide +kernel) (by decide +kernel)
set_option maxRecDepth 20000 in
theorem gX4_restore_X4_recordChange : GoodIn wsX4_restore (wsV RX4 58 RX4 yX4_recordChange wsX4_recordChange) := goodIn_app (goodIn_of _ (by decide +kernel)) ggX4_restore_X4_recordChange
set_option maxRecDepth 20000 in
theorem ggX4_restore_X2_copyFrom : GoodIn wsX4_restore wsX2_copyFrom := goodIn_r _ [32, 16, 17, 18, 19, 20, 44, 45] (by decide +kernel) (by decide +kernel)
set_option maxRecDepth 20000 in
theorem gX4_restore_X2_copyFrom : GoodIn wsX4_restore (wsV RX4 164 RX2 yX2_copyFrom wsX2_copyFrom) := goodIn_app (goodIn_of _ (by decide +kernel)) ggX4_restore_X2_copyFrom
set_option maxRecDepth 20000 in
theorem ggX4_restore_X2_menOnBoard : GoodIn wsX4_restore wsX2_menOnBoard := goodIn_r _ [36, 16, 44, 45] (by decide +kernel) (by decide +kernel)
set_option maxRecDepth 20000 in
theorem gX4_restore_X2_menOnBoard : GoodIn wsX4_restore (wsV RX4 115 RX2 yX2_menOnBoard wsX2_menOnBoard) := goodIn_app (goodIn_of _ (by decide +kernel)) ggX4_restore_X2_menOnBoard
theorem dX4_restore_0 : decode cX4_restore 0 = .ok (.aload_n 0, 1) := by decide +kernel
theorem dX4_restore_1 : decode cX4_restore 1 = .ok (.getfield 46, 3) := by decide +kernel
theorem dX4_restore_4 : decode cX4_restore 4 = .ok (.ifCond .ne 7, 3) := by decide +kernel
theorem dX4_restore_7 : decode cX4_restore 7 = .ok (.sipush (-1005), 3) := by decide +kernel
theorem dX4_restore_10 : decode cX4_restore 10 = .ok (.ireturn, 1) := by decide +kernel
theorem dX4_restore_11 : decode cX4_restore 11 = .ok (.aload_n 0, 1) := by decide +kernel
theorem dX4_restore_12 : decode cX4_restore 12 = .ok (.invokevirtual 58, 3) := by decide +kernel
theorem dX4_restore_15 : decode cX4_restore 15 = .ok (.aload_n 0, 1) := by decide +kernel
theorem dX4_restore_16 : decode cX4_restore 16 = .ok (.getfield 12, 3) := by decide +kernel
theorem dX4_restore_19 : decode cX4_restore 19 = .ok (.aload_n 0, 1) := by decide +kernel
theorem dX4_restore_20 : decode cX4_restore 20 = .ok (.getfield 43, 3) := by decide +kernel
theorem dX4_restore_23 : decode cX4_restore 23 = .ok (.iconst 0, 1) := by decide +kernel
theorem dX4_restore_24 : decode cX4_restore 24 = .ok (.invokevirtual 164, 3) := by decide +kernel
theorem dX4_restore_27 : decode cX4_restore 27 = .ok (.aload_n 0, 1) := by decide +kernel
theorem dX4_restore_28 : decode cX4_restore 28 = .ok (.getfield 12, 3) := by decide +kernel
theorem dX4_restore_31 : decode cX4_restore 31 = .ok (.invokevirtual 115, 3) := by decide +kernel
theorem dX4_restore_34 : decode cX4_restore 34 = .ok (.ireturn, 1) := by decide +kernel
set_option maxRecDepth 20000 in
theorem ggX4_man_X4_isSquare : GoodIn wsX4_man wsX4_isSquare := goodIn_r _ [5] (by decide +kernel) (by decide +kernel)
set_option maxRecDepth 20000 in
theorem gX4_man_X4_isSquare : GoodIn wsX4_man (va_wsS RX4 50 yX4_isSquare wsX4_isSquare) := goodIn_app (goodIn_of _ (by decide +kernel)) ggX4_man_X4_isSquare
set_option maxRecDepth 20000 in
theorem ggX4_man_X2_manOn : GoodIn wsX4_man wsX2_manOn := goodIn_r _ [10, 11, 19, 20] (by decide +kernel) (by decide +kernel)
set_option maxRecDepth 20000 in
theorem gX4_man_X2_manOn : GoodIn wsX4_man (wsV RX4 108 RX2 yX2_manOn wsX2_manOn) := goodIn_app (goodIn_of _ (by decide +kernel)) ggX4_man_X2_manOn
theorem dX4_man_0 : decode cX4_man 0 = .ok (.iload_n 1, 1) := by decide +kernel
theorem dX4_man_1 : decode cX4_man 1 = .ok (.invokestatic 50, 3) := by decide +kernel
theorem dX4_man_4 : decode cX4_man 4 = .ok (.ifCond .ne 7, 3) := by decide +kernel
theorem dX4_man_7 : decode cX4_man 7 = .ok (.sipush (-1001), 3) := by decide +kernel
theorem dX4_man_10 : decode cX4_man 10 = .ok (.ireturn, 1) := by decide +kernel
theorem dX4_man_11 : decode cX4_man 11 = .ok (.aload_n 0, 1) := by decide +kernel
theorem dX4_man_12 : decode cX4_man 12 = .ok (.getfield 12, 3) := by decide +kernel
theorem dX4_man_15 : decode cX4_man 15 = .ok (.iload_n 1, 1) := by decide +kernel
theorem dX4_man_16 : decode cX4_man 16 = .ok (.invokevirtual 108, 3) := by decide +kernel
theorem dX4_man_19 : decode cX4_man 19 = .ok (.istore_n 2, 1) := by decide +kernel
theorem dX4_man_20 : decode cX4_man 20 = .ok (.iload_n 2, 1) := by decide +kernel
theorem dX4_man_21 : decode cX4_man 21 = .ok (.bipush 99, 2) := by decide +kernel
theorem dX4_man_23 : decode cX4_man 23 = .ok (.if_icmp .ne 9, 3) := by decide +kernel
theorem dX4_man_26 : decode cX4_man 26 = .ok (.sipush (-1005), 3) := by decide +kernel
theorem dX4_man_29 : decode cX4_man 29 = .ok (.goto 4, 3) := by decide +kernel
theorem dX4_man_32 : decode cX4_man 32 = .ok (.iload_n 2, 1) := by decide +kernel
theorem dX4_man_33 : decode cX4_man 33 = .ok (.ireturn, 1) := by decide +kernel
set_option maxRecDepth 20000 in
theorem ggX4_hand_X4_isSide : GoodIn wsX4_hand wsX4_isSide := goodIn_r _ [5] (by decide +kernel) (by decide +kernel)
set_option maxRecDepth 20000 in
theorem gX4_hand_X4_isSide : GoodIn wsX4_hand (va_wsS RX4 118 yX4_isSide wsX4_isSide) := goodIn_app (goodIn_of _ (by decide +kernel)) ggX4_hand_X4_isSide
set_option maxRecDepth 20000 in
theorem ggX4_hand_X4_isHandKind : GoodIn wsX4_hand wsX4_isHandKind := goodIn_r _ [8] (by decide +kernel) (by decide +kernel)
set_option maxRecDepth 20000 in
theorem gX4_hand_X4_isHandKind : GoodIn wsX4_hand (va_wsS RX4 68 yX4_isHandKind wsX4_isHandKind) := goodIn_app (goodIn_of _ (by decide +kernel)) ggX4_hand_X4_isHandKind
set_option maxRecDepth 20000 in
theorem ggX4_hand_X2_inHand : GoodIn wsX4_hand wsX2_inHand := goodIn_r _ [13, 14, 3, 4, 5, 7, 8, 22, 23] (by decide +kernel) (by decide +kernel)
set_option maxRecDepth 20000 in
theorem gX4_hand_X2_inHand : GoodIn wsX4_hand (wsV RX4 82 RX2 yX2_inHand wsX2_inHand) := goodIn_app (goodIn_of _ (by decide +kernel)) ggX4_hand_X2_inHand
theorem dX4_hand_0 : decode cX4_hand 0 = .ok (.iload_n 1, 1) := by decide +kernel
theorem dX4_hand_1 : decode cX4_hand 1 = .ok (.invokestatic 118, 3) := by decide +kernel
theorem dX4_hand_4 : decode cX4_hand 4 = .ok (.ifCond .eq 10, 3) := by decide +kernel
theorem dX4_hand_7 : decode cX4_hand 7 = .ok (.iload_n 2, 1) := by decide +kernel
theorem dX4_hand_8 : decode cX4_hand 8 = .ok (.invokestatic 68, 3) := by decide +kernel
theorem dX4_hand_11 : decode cX4_hand 11 = .ok (.ifCond .ne 7, 3) := by decide +kernel
theorem dX4_hand_14 : decode cX4_hand 14 = .ok (.sipush (-1001), 3) := by decide +kernel
theorem dX4_hand_17 : decode cX4_hand 17 = .ok (.ireturn, 1) := by decide +kernel
theorem dX4_hand_18 : decode cX4_hand 18 = .ok (.aload_n 0, 1) := by decide +kernel
theorem dX4_hand_19 : decode cX4_hand 19 = .ok (.getfield 12, 3) := by decide +kernel
theorem dX4_hand_22 : decode cX4_hand 22 = .ok (.iload_n 1, 1) := by decide +kernel
theorem dX4_hand_23 : decode cX4_hand 23 = .ok (.iload_n 2, 1) := by decide +kernel
theorem dX4_hand_24 : decode cX4_hand 24 = .ok (.invokevirtual 82, 3) := by decide +kernel
theorem dX4_hand_27 : decode cX4_hand 27 = .ok (.ireturn, 1) := by decide +kernel
set_option maxRecDepth 20000 in
theorem ggX4_attackers_X4_isSide : GoodIn wsX4_attackers wsX4_isSide := goodIn_r _ [5] (by decide +kernel) (by decide +kernel)
set_option maxRecDepth 20000 in
theorem gX4_attackers_X4_isSide : GoodIn wsX4_attackers (va_wsS RX4 118 yX4_isSide wsX4_isSide) := goodIn_app (goodIn_of _ (by decide +kernel)) ggX4_attackers_X4_isSide
set_option maxRecDepth 20000 in
theorem ggX4_attackers_X4_isSquare : GoodIn wsX4_attackers wsX4_isSquare := goodIn_r _ [8] (by decide +kernel) (by decide +kernel)
set_option maxRecDepth 20000 in
theorem gX4_attackers_X4_isSquare : GoodIn wsX4_attackers (va_wsS RX4 50 yX4_isSquare wsX4_isSquare) := goodIn_app (goodIn_of _ (by decide +kernel)) ggX4_attackers_X4_isSquare
set_option maxRecDepth 20000 in
theorem ggX4_attackers_X2_countAttackers : GoodIn wsX4_attackers wsX2_countAttackers := goodIn_r _ [13, 14, 15, 23, 24] (by decide +kernel) (by decide +kernel)
set_option maxRecDepth 20000 in
theorem gX4_attackers_X2_countAttackers : GoodIn wsX4_attackers (wsV RX4 175 RX2 yX2_countAttackers wsX2_countAttackers) := goodIn_app (goodIn_of _ (by decide +kernel)) ggX4_attackers_X2_countAttackers
theorem dX4_attackers_0 : decode cX4_attackers 0 = .ok (.iload_n 1, 1) := by decide +kernel
theorem dX4_attackers_1 : decode cX4_attackers 1 = .ok (.invokestatic 118, 3) := by decide +kernel
theorem dX4_attackers_4 : decode cX4_attackers 4 = .ok (.ifCond .eq 10, 3) := by decide +kernel
theorem dX4_attackers_7 : decode cX4_attackers 7 = .ok (.iload_n 2, 1) := by decide +kernel
theorem dX4_attackers_8 : decode cX4_attackers 8 = .ok (.invokestatic 50, 3) := by decide +kernel
theorem dX4_attackers_11 : decode cX4_attackers 11 = .ok (.ifCond .ne 7, 3) := by decide +kernel
theorem dX4_attackers_14 : decode cX4_attackers 14 = .ok (.sipush (-1001), 3) := by decide +kernel
theorem dX4_attackers_17 : decode cX4_attackers 17 = .ok (.ireturn, 1) := by decide +kernel
theorem dX4_attackers_18 : decode cX4_attackers 18 = .ok (.aload_n 0, 1) := by decide +kernel
theorem dX4_attackers_19 : decode cX4_attackers 19 = .ok (.getfield 12, 3) := by decide +kernel
theorem dX4_attackers_22 : decode cX4_attackers 22 = .ok (.iload_n 1, 1) := by decide +kernel
theorem dX4_attackers_23 : decode cX4_attackers 23 = .ok (.iload_n 2, 1) := by decide +kernel
theorem dX4_attackers_24 : decode cX4_attackers 24 = .ok (.invokevirtual 175, 3) := by decide +kernel
theorem dX4_attackers_27 : decode cX4_attackers 27 = .ok (.ireturn, 1) := by decide +kernel
set_option maxRecDepth 20000 in
theorem ggX4_attacked_X4_isSquare : GoodIn wsX4_attacked wsX4_isSquare := goodIn_r _ [5] (by decide +kernel) (by decide +kernel)
set_option maxRecDepth 20000 in
theorem gX4_attacked_X4_isSquare : GoodIn wsX4_attacked (va_wsS RX4 50 yX4_isSquare wsX4_isSquare) := goodIn_app (goodIn_of _ (by decide +kernel)) ggX4_attacked_X4_isSquare
set_option maxRecDepth 20000 in
theorem ggX4_attacked_X2_manOn : GoodIn wsX4_attacked wsX2_manOn := goodIn_r _ [10, 11, 25, 26] (by decide +kernel) (by decide +kernel)
set_option maxRecDepth 20000 in
theorem gX4_attacked_X2_manOn : GoodIn wsX4_attacked (wsV RX4 108 RX2 yX2_manOn wsX2_manOn) := goodIn_app (goodIn_of _ (by decide +kernel)) ggX4_attacked_X2_manOn
set_option maxRecDepth 20000 in
theorem ggX4_attacked_X2_attackedFrom : GoodIn wsX4_attacked wsX2_attackedFrom := goodIn_r _ [15, 16, 11, 17, 7, 8, 9, 10, 25, 26] (by decide +kernel) (by decide +kernel)
set_option maxRecDepth 20000 in
theorem gX4_attacked_X2_attackedFrom : GoodIn wsX4_attacked (wsV RX4 178 RX2 yX2_attackedFrom wsX2_attackedFrom) := goodIn_app (goodIn_of _ (by decide +kernel)) ggX4_attacked_X2_attackedFrom
theorem dX4_attacked_0 : decode cX4_attacked 0 = .ok (.iload_n 1, 1) := by decide +kernel
theorem dX4_attacked_1 : decode cX4_attacked 1 = .ok (.invokestatic 50, 3) := by decide +kernel
theorem dX4_attacked_4 : decode cX4_attacked 4 = .ok (.ifCond .ne 7, 3) := by decide +kernel
theorem dX4_attacked_7 : decode cX4_attacked 7 = .ok (.sipush (-1001), 3) := by decide +kernel
theorem dX4_attacked_10 : decode cX4_attacked 10 = .ok (.ireturn, 1) := by decide +kernel
theorem dX4_attacked_11 : decode cX4_attacked 11 = .ok (.aload_n 0, 1) := by decide +kernel
theorem dX4_attacked_12 : decode cX4_attacked 12 = .ok (.getfield 12, 3) := by decide +kernel
theorem dX4_attacked_15 : decode cX4_attacked 15 = .ok (.iload_n 1, 1) := by decide +kernel
theorem dX4_attacked_16 : decode cX4_attacked 16 = .ok (.invokevirtual 108, 3) := by decide +kernel
theorem dX4_attacked_19 : decode cX4_attacked 19 = .ok (.bipush 99, 2) := by decide +kernel
theorem dX4_attacked_21 : decode cX4_attacked 21 = .ok (.if_icmp .ne 9, 3) := by decide +kernel
theorem dX4_attacked_24 : decode cX4_attacked 24 = .ok (.sipush (-1005), 3) := by decide +kernel
theorem dX4_attacked_27 : decode cX4_attacked 27 = .ok (.goto 11, 3) := by decide +kernel
theorem dX4_attacked_30 : decode cX4_attacked 30 = .ok (.aload_n 0, 1) := by decide +kernel
theorem dX4_attacked_31 : decode cX4_attacked 31 = .ok (.getfield 12, 3) := by decide +kernel
theorem dX4_attacked_34 : decode cX4_attacked 34 = .ok (.iload_n 1, 1) := by decide +kernel
theorem dX4_attacked_35 : decode cX4_attacked 35 = .ok (.invokevirtual 178, 3) := by decide +kernel
theorem dX4_attacked_38 : decode cX4_attacked 38 = .ok (.ireturn, 1) := by decide +kernel
set_option maxRecDepth 20000 in
theorem ggX4_total_X2_sideToPlay : GoodIn wsX4_total wsX2_sideToPlay := goodIn_r _ [9, 10, 195, 196] (by decide +kernel) (by decide +kernel)
set_option maxRecDepth 20000 in
theorem gX4_total_X2_sideToPlay : GoodIn wsX4_total (wsV RX4 75 RX2 yX2_sideToPlay wsX2_sideToPlay) := goodIn_app (goodIn_of _ (by decide +kernel)) ggX4_total_X2_sideToPlay
set_option maxRecDepth 20000 in
theorem ggX4_total_X2_menOnBoard : GoodIn wsX4_total wsX2_menOnBoard := goodIn_r _ [14, 10, 195, 196] (by decide +kernel) (by decide +kernel)
set_option maxRecDepth 20000 in
theorem gX4_total_X2_menOnBoard : GoodIn wsX4_total (wsV RX4 115 RX2 yX2_menOnBoard wsX2_menOnBoard) := goodIn_app (goodIn_of _ (by decide +kernel)) ggX4_total_X2_menOnBoard
set_option maxRecDepth 20000 in
theorem ggX4_total_X2_menInHand : GoodIn wsX4_total wsX2_menInHand := goodIn_r _ [18, 19, 20, 21, 8, 22, 10, 23, 24, 25, 26, 27, 195, 196] (by decide +kernel) (by decide +kernel)
set_option maxRecDepth 20000 in
theorem gX4_total_X2_menInHand : GoodIn wsX4_total (wsV RX4 125 RX2 yX2_menInHand wsX2_menInHand) := goodIn_app (goodIn_of _ (by decide +kernel)) ggX4_total_X2_menInHand
set_option maxRecDepth 20000 in
theorem ggX4_total_X3_isInCheck : GoodIn wsX4_total wsX3_isInCheck := goodIn_r _ [32, 33, 34, 6, 7, 8, 9, 10, 35, 36, 37, 38, 23, 24, 25, 39, 40, 41, 42, 43, 197, 198, 199, 200, 201, 202, 195, 196] (by decide +kernel) (by decide +kernel)
set_option maxRecDepth 20000 in
theorem gX4_total_X3_isInCheck : GoodIn wsX4_total (wsV RX4 88 RX3 yX3_isInCheck wsX3_isInCheck) := goodIn_app (goodIn_of _ (by decide +kernel)) ggX4_total_X3_isInCheck
set_option maxRecDepth 20000 in
theorem ggX4_total_X4_asNumber : GoodIn wsX4_total wsX4_asNumber := goodIn_r _ [46] (by decide +kernel) (by decide +kernel)
set_option maxRecDepth 20000 in
theorem gX4_total_X4_asNumber : GoodIn wsX4_total (va_wsS RX4 92 yX4_asNumber wsX4_asNumber) := goodIn_app (goodIn_of _ (by decide +kernel)) ggX4_total_X4_asNumber
set_option maxRecDepth 20000 in
theorem ggX4_total_X3_isMated : GoodIn wsX4_total wsX3_isMated := goodIn_r _ [50, 51, 29, 30, 31, 32, 33, 34, 6, 7, 8, 9, 10, 35, 36, 37, 38, 23, 24, 25, 39, 40, 41, 42, 43, 52, 53, 54, 55, 56, 57, 58, 59, 60, 61, 62, 63, 64, 65, 66, 67, 68, 69, 70, 71, 72, 73, 74, 75, 76, 77, 78, 79, 80, 81, 82, 83, 84, 85, 86, 87, 88, 89, 90, 91, 92, 93, 94, 95, 96, 97, 98, 99, 100, 101, 102, 103, 104, 105, 106, 107, 108, 109, 110, 111, 112, 113, 114, 115, 116, 117, 118, 119, 120, 121, 20, 21, 22, 26, 27, 122, 123, 124, 125, 126, 127, 128, 129, 130, 131, 132, 133, 134, 135, 136, 137, 138, 139, 140, 141, 19, 142, 143, 144, 145, 146, 147, 148, 149, 150, 151, 152, 153, 154, 155, 156, 157, 158, 197, 198, 199, 200, 201, 202, 195, 196] (by decide +kernel) (by decide +kernel)
set_option maxRecDepth 20000 in
theorem gX4_total_X3_isMated : GoodIn wsX4_total (wsV RX4 181 RX3 yX3_isMated wsX3_isMated) := goodIn_app (goodIn_of _ (by decide +kernel)) ggX4_total_X3_isMated
set_option maxRecDepth 20000 in
theorem ggX4_total_X3_findPlays : GoodIn wsX4_total wsX3_findPlays := goodIn_r _ [55, 33, 56, 57, 58, 34, 6, 7, 8, 9, 10, 59, 60, 61, 62, 63, 24, 64, 65, 66, 67, 31, 68, 69, 70, 71, 72, 43, 73, 74, 75, 76, 77, 78, 79, 80, 81, 82, 83, 84, 85, 86, 87, 88, 89, 35, 36, 37, 38, 23, 25, 39, 40, 41, 42, 90, 91, 92, 93, 94, 95, 96, 97, 98, 99, 100, 101, 102, 103, 104, 105, 106, 107, 108, 109, 110, 111, 112, 113, 114, 115, 116, 117, 118, 119, 120, 121, 20, 21, 22, 26, 27, 122, 123, 124, 125, 126, 127, 128, 129, 130, 131, 132, 133, 134, 135, 136, 137, 138, 139, 140, 141, 19, 142, 143, 144, 145, 146, 147, 148, 149, 150, 51, 29, 30, 32, 151, 152, 153, 154, 155, 156, 157, 158, 197, 198, 199, 200, 201, 202, 195, 196] (by decide +kernel) (by decide +kernel)
set_option maxRecDepth 20000 in
theorem gX4_total_X3_findPlays : GoodIn wsX4_total (wsV RX4 135 RX3 yX3_findPlays wsX3_findPlays) := goodIn_app (goodIn_of _ (by decide +kernel)) ggX4_total_X3_findPlays
set_option maxRecDepth 20000 in
theorem ggX4_total_X2_playsMade : GoodIn wsX4_total wsX2_playsMade := goodIn_r _ [163, 10, 195, 196] (by decide +kernel) (by decide +kernel)
set_option maxRecDepth 20000 in
theorem gX4_total_X2_playsMade : GoodIn wsX4_total (wsV RX4 184 RX2 yX2_playsMade wsX2_playsMade) := goodIn_app (goodIn_of _ (by decide +kernel)) ggX4_total_X2_playsMade
set_option maxRecDepth 20000 in
theorem ggX4_total_X2_menTaken : GoodIn wsX4_total wsX2_menTaken := goodIn_r _ [167, 10, 195, 196] (by decide +kernel) (by decide +kernel)
set_option maxRecDepth 20000 in
theorem gX4_total_X2_menTaken : GoodIn wsX4_total (wsV RX4 187 RX2 yX2_menTaken wsX2_menTaken) := goodIn_app (goodIn_of _ (by decide +kernel)) ggX4_total_X2_menTaken
set_option maxRecDepth 20000 in
theorem ggX4_total_X2_menPromoted : GoodIn wsX4_total wsX2_menPromoted := goodIn_r _ [171, 10, 195, 196] (by decide +kernel) (by decide +kernel)
set_option maxRecDepth 20000 in
theorem gX4_total_X2_menPromoted : GoodIn wsX4_total (wsV RX4 190 RX2 yX2_menPromoted wsX2_menPromoted) := goodIn_app (goodIn_of _ (by decide +kernel)) ggX4_total_X2_menPromoted
set_option maxRecDepth 20000 in
theorem ggX4_total_X2_menDropped : GoodIn wsX4_total wsX2_menDropped := goodIn_r _ [175, 10, 195, 196] (by decide +kernel) (by decide +kernel)
set_option maxRecDepth 20000 in
theorem gX4_total_X2_menDropped : GoodIn wsX4_total (wsV RX4 193 RX2 yX2_menDropped wsX2_menDropped) := goodIn_app (goodIn_of _ (by decide +kernel)) ggX4_total_X2_menDropped
set_option maxRecDepth 20000 in
theorem ggX4_total_X0_size : GoodIn wsX4_total wsX0_size := goodIn_r _ [180, 181, 203, 204] (by decide +kernel) (by decide +kernel)
set_option maxRecDepth 20000 in
theorem gX4_total_X0_size : GoodIn wsX4_total (wsV RX4 171 RX0 yX0_size wsX0_size) := goodIn_app (goodIn_of _ (by decide +kernel)) ggX4_total_X0_size
set_option maxRecDepth 20000 in
theorem ggX4_total_X1_size : GoodIn wsX4_total wsX1_size := goodIn_r _ [186, 187, 205, 206, 207, 208, 209] (by decide +kernel) (by decide +kernel)
set_option maxRecDepth 20000 in
theorem gX4_total_X1_size : GoodIn wsX4_total (wsV RX4 145 RX1 yX1_size wsX1_size) := goodIn_app (goodIn_of _ (by decide +kernel)) ggX4_total_X1_size
theorem dX4_total_0 : decode cX4_total 0 = .ok (.iload_n 1, 1) := by decide +kernel
theorem dX4_total_1 : decode cX4_total 1 = .ok (.tableswitch 202 0 13 #[71, 79, 87, 96, 105, 116, 127, 146, 154, 162, 170, 178, 186, 194], 71) := by decide +kernel
theorem dX4_total_72 : decode cX4_total 72 = .ok (.aload_n 0, 1) := by decide +kernel
theorem dX4_total_73 : decode cX4_total 73 = .ok (.getfield 12, 3) := by decide +kernel
theorem dX4_total_76 : decode cX4_total 76 = .ok (.invokevirtual 75, 3) := by decide +kernel
theorem dX4_total_79 : decode cX4_total 79 = .ok (.ireturn, 1) := by decide +kernel
theorem dX4_total_80 : decode cX4_total 80 = .ok (.aload_n 0, 1) := by decide +kernel
theorem dX4_total_81 : decode cX4_total 81 = .ok (.getfield 12, 3) := by decide +kernel
theorem dX4_total_84 : decode cX4_total 84 = .ok (.invokevirtual 115, 3) := by decide +kernel
theorem dX4_total_87 : decode cX4_total 87 = .ok (.ireturn, 1) := by decide +kernel
theorem dX4_total_88 : decode cX4_total 88 = .ok (.aload_n 0, 1) := by decide +kernel
theorem dX4_total_89 : decode cX4_total 89 = .ok (.getfield 12, 3) := by decide +kernel
theorem dX4_total_92 : decode cX4_total 92 = .ok (.iconst 0, 1) := by decide +kernel
theorem dX4_total_93 : decode cX4_total 93 = .ok (.invokevirtual 125, 3) := by decide +kernel
theorem dX4_total_96 : decode cX4_total 96 = .ok (.ireturn, 1) := by decide +kernel
theorem dX4_total_97 : decode cX4_total 97 = .ok (.aload_n 0, 1) := by decide +kernel
theorem dX4_total_98 : decode cX4_total 98 = .ok (.getfield 12, 3) := by decide +kernel
theorem dX4_total_101 : decode cX4_total 101 = .ok (.iconst 1, 1) := by decide +kernel
theorem dX4_total_102 : decode cX4_total 102 = .ok (.invokevirtual 125, 3) := by decide +kernel
theorem dX4_total_105 : decode cX4_total 105 = .ok (.ireturn, 1) := by decide +kernel
theorem dX4_total_106 : decode cX4_total 106 = .ok (.aload_n 0, 1) := by decide +kernel
theorem dX4_total_107 : decode cX4_total 107 = .ok (.getfield 21, 3) := by decide +kernel
theorem dX4_total_110 : decode cX4_total 110 = .ok (.invokevirtual 88, 3) := by decide +kernel
theorem dX4_total_113 : decode cX4_total 113 = .ok (.invokestatic 92, 3) := by decide +kernel
theorem dX4_total_116 : decode cX4_total 116 = .ok (.ireturn, 1) := by decide +kernel
theorem dX4_total_117 : decode cX4_total 117 = .ok (.aload_n 0, 1) := by decide +kernel
theorem dX4_total_118 : decode cX4_total 118 = .ok (.getfield 21, 3) := by decide +kernel
theorem dX4_total_121 : decode cX4_total 121 = .ok (.invokevirtual 181, 3) := by decide +kernel
theorem dX4_total_124 : decode cX4_total 124 = .ok (.invokestatic 92, 3) := by decide +kernel
theorem dX4_total_127 : decode cX4_total 127 = .ok (.ireturn, 1) := by decide +kernel
theorem dX4_total_128 : decode cX4_total 128 = .ok (.aload_n 0, 1) := by decide +kernel
theorem dX4_total_129 : decode cX4_total 129 = .ok (.getfield 21, 3) := by decide +kernel
theorem dX4_total_132 : decode cX4_total 132 = .ok (.invokevirtual 135, 3) := by decide +kernel
theorem dX4_total_135 : decode cX4_total 135 = .ok (.ifCond .ne 7, 3) := by decide +kernel
theorem dX4_total_138 : decode cX4_total 138 = .ok (.iconst 1, 1) := by decide +kernel
theorem dX4_total_139 : decode cX4_total 139 = .ok (.goto 4, 3) := by decide +kernel
theorem dX4_total_142 : decode cX4_total 142 = .ok (.iconst 0, 1) := by decide +kernel
theorem dX4_total_143 : decode cX4_total 143 = .ok (.invokestatic 92, 3) := by decide +kernel
theorem dX4_total_146 : decode cX4_total 146 = .ok (.ireturn, 1) := by decide +kernel
theorem dX4_total_147 : decode cX4_total 147 = .ok (.aload_n 0, 1) := by decide +kernel
theorem dX4_total_148 : decode cX4_total 148 = .ok (.getfield 21, 3) := by decide +kernel
theorem dX4_total_151 : decode cX4_total 151 = .ok (.invokevirtual 135, 3) := by decide +kernel
theorem dX4_total_154 : decode cX4_total 154 = .ok (.ireturn, 1) := by decide +kernel
theorem dX4_total_155 : decode cX4_total 155 = .ok (.aload_n 0, 1) := by decide +kernel
theorem dX4_total_156 : decode cX4_total 156 = .ok (.getfield 12, 3) := by decide +kernel
theorem dX4_total_159 : decode cX4_total 159 = .ok (.invokevirtual 184, 3) := by decide +kernel
theorem dX4_total_162 : decode cX4_total 162 = .ok (.ireturn, 1) := by decide +kernel
theorem dX4_total_163 : decode cX4_total 163 = .ok (.aload_n 0, 1) := by decide +kernel
theorem dX4_total_164 : decode cX4_total 164 = .ok (.getfield 12, 3) := by decide +kernel
theorem dX4_total_167 : decode cX4_total 167 = .ok (.invokevirtual 187, 3) := by decide +kernel
theorem dX4_total_170 : decode cX4_total 170 = .ok (.ireturn, 1) := by decide +kernel
theorem dX4_total_171 : decode cX4_total 171 = .ok (.aload_n 0, 1) := by decide +kernel
theorem dX4_total_172 : decode cX4_total 172 = .ok (.getfield 12, 3) := by decide +kernel
theorem dX4_total_175 : decode cX4_total 175 = .ok (.invokevirtual 190, 3) := by decide +kernel
theorem dX4_total_178 : decode cX4_total 178 = .ok (.ireturn, 1) := by decide +kernel
theorem dX4_total_179 : decode cX4_total 179 = .ok (.aload_n 0, 1) := by decide +kernel
theorem dX4_total_180 : decode cX4_total 180 = .ok (.getfield 12, 3) := by decide +kernel
theorem dX4_total_183 : decode cX4_total 183 = .ok (.invokevirtual 193, 3) := by decide +kernel
theorem dX4_total_186 : decode cX4_total 186 = .ok (.ireturn, 1) := by decide +kernel
theorem dX4_total_187 : decode cX4_total 187 = .ok (.aload_n 0, 1) := by decide +kernel
theorem dX4_total_188 : decode cX4_total 188 = .ok (.getfield 28, 3) := by decide +kernel
theorem dX4_total_191 : decode cX4_total 191 = .ok (.invokevirtual 171, 3) := by decide +kernel
theorem dX4_total_194 : decode cX4_total 194 = .ok (.ireturn, 1) := by decide +kernel
theorem dX4_total_195 : decode cX4_total 195 = .ok (.aload_n 0, 1) := by decide +kernel
theorem dX4_total_196 : decode cX4_total 196 = .ok (.getfield 35, 3) := by decide +kernel
theorem dX4_total_199 : decode cX4_total 199 = .ok (.invokevirtual 145, 3) := by decide +kernel
theorem dX4_total_202 : decode cX4_total 202 = .ok (.ireturn, 1) := by decide +kernel
theorem dX4_total_203 : decode cX4_total 203 = .ok (.sipush (-1002), 3) := by decide +kernel
theorem dX4_total_206 : decode cX4_total 206 = .ok (.ireturn, 1) := by decide +kernel
set_option maxRecDepth 20000 in
theorem ggX4_worth_X4_isSide : GoodIn wsX4_worth wsX4_isSide := goodIn_r _ [5] (by decide +kernel) (by decide +kernel)
set_option maxRecDepth 20000 in
theorem gX4_worth_X4_isSide : GoodIn wsX4_worth (va_wsS RX4 118 yX4_isSide wsX4_isSide) := goodIn_app (goodIn_of _ (by decide +kernel)) ggX4_worth_X4_isSide
set_option maxRecDepth 20000 in
theorem ggX4_worth_X2_worthFor : GoodIn wsX4_worth wsX2_worthFor := goodIn_r _ [10, 11, 12, 4, 13, 14, 15, 16, 17, 18, 9, 19, 3, 5, 20, 21, 29, 30] (by decide +kernel) (by decide +kernel)
set_option maxRecDepth 20000 in
theorem gX4_worth_X2_worthFor : GoodIn wsX4_worth (wsV RX4 196 RX2 yX2_worthFor wsX2_worthFor) := goodIn_app (goodIn_of _ (by decide +kernel)) ggX4_worth_X2_worthFor
theorem dX4_worth_0 : decode cX4_worth 0 = .ok (.iload_n 1, 1) := by decide +kernel
theorem dX4_worth_1 : decode cX4_worth 1 = .ok (.invokestatic 118, 3) := by decide +kernel
theorem dX4_worth_4 : decode cX4_worth 4 = .ok (.ifCond .ne 7, 3) := by decide +kernel
theorem dX4_worth_7 : decode cX4_worth 7 = .ok (.sipush (-1001), 3) := by decide +kernel
theorem dX4_worth_10 : decode cX4_worth 10 = .ok (.ireturn, 1) := by decide +kernel
theorem dX4_worth_11 : decode cX4_worth 11 = .ok (.aload_n 0, 1) := by decide +kernel
theorem dX4_worth_12 : decode cX4_worth 12 = .ok (.getfield 12, 3) := by decide +kernel
theorem dX4_worth_15 : decode cX4_worth 15 = .ok (.iload_n 1, 1) := by decide +kernel
theorem dX4_worth_16 : decode cX4_worth 16 = .ok (.invokevirtual 196, 3) := by decide +kernel
theorem dX4_worth_19 : decode cX4_worth 19 = .ok (.ireturn, 1) := by decide +kernel
set_option maxRecDepth 20000 in
theorem ggX4_dropReason_X4_isHandKind : GoodIn wsX4_dropReason wsX4_isHandKind := goodIn_r _ [5] (by decide +kernel) (by decide +kernel)
set_option maxRecDepth 20000 in
theorem gX4_dropReason_X4_isHandKind : GoodIn wsX4_dropReason (va_wsS RX4 68 yX4_isHandKind wsX4_isHandKind) := goodIn_app (goodIn_of _ (by decide +kernel)) ggX4_dropReason_X4_isHandKind
set_option maxRecDepth 20000 in
theorem ggX4_dropReason_X4_isSquare : GoodIn wsX4_dropReason wsX4_isSquare := goodIn_r _ [8] (by decide +kernel) (by decide +kernel)
set_option maxRecDepth 20000 in
theorem gX4_dropReason_X4_isSquare : GoodIn wsX4_dropReason (va_wsS RX4 50 yX4_isSquare wsX4_isSquare) := goodIn_app (goodIn_of _ (by decide +kernel)) ggX4_dropReason_X4_isSquare
set_option maxRecDepth 20000 in
theorem ggX4_dropReason_X3_whyNoDrop : GoodIn wsX4_dropReason wsX3_whyNoDrop := goodIn_r _ [13, 14, 15, 16, 17, 18, 19, 20, 21, 22, 23, 24, 25, 4, 26, 3, 5, 27, 28, 29, 30, 31, 32, 33, 34, 35, 36, 37, 38, 12, 39, 40, 41, 42, 43, 44, 45, 46, 47, 48, 49, 50, 51, 52, 53, 54, 55, 56, 57, 58, 59, 7, 8, 60, 61, 62, 63, 64, 65, 66, 67, 68, 69, 70, 71, 72, 73, 74, 75, 76, 77, 78, 79, 80, 81, 82, 83, 84, 85, 86, 87, 88, 89, 90, 91, 92, 93, 94, 95, 96, 97, 98, 99, 100, 101, 102, 103, 104, 105, 106, 107, 108, 109, 110, 111, 112, 113, 114, 115, 116, 117, 118, 119, 120, 121, 129, 130, 131, 132, 133, 134, 135, 136] (by decide +kernel) (by decide +kernel)
set_option maxRecDepth 20000 in
theorem gX4_dropReason_X3_whyNoDrop : GoodIn wsX4_dropReason (wsV RX4 71 RX3 yX3_whyNoDrop wsX3_whyNoDrop) := goodIn_app (goodIn_of _ (by decide +kernel)) ggX4_dropReason_X3_whyNoDrop
theorem dX4_dropReason_0 : decode cX4_dropReason 0 = .ok (.iload_n 1, 1) := by decide +kernel
theorem dX4_dropReason_1 : decode cX4_dropReason 1 = .ok (.invokestatic 68, 3) := by decide +kernel
theorem dX4_dropReason_4 : decode cX4_dropReason 4 = .ok (.ifCond .eq 10, 3) := by decide +kernel
theorem dX4_dropReason_7 : decode cX4_dropReason 7 = .ok (.iload_n 2, 1) := by decide +kernel
theorem dX4_dropReason_8 : decode cX4_dropReason 8 = .ok (.invokestatic 50, 3) := by decide +kernel
theorem dX4_dropReason_11 : decode cX4_dropReason 11 = .ok (.ifCond .ne 7, 3) := by decide +kernel
theorem dX4_dropReason_14 : decode cX4_dropReason 14 = .ok (.sipush (-1001), 3) := by decide +kernel
theorem dX4_dropReason_17 : decode cX4_dropReason 17 = .ok (.ireturn, 1) := by decide +kernel
theorem dX4_dropReason_18 : decode cX4_dropReason 18 = .ok (.aload_n 0, 1) := by decide +kernel
theorem dX4_dropReason_19 : decode cX4_dropReason 19 = .ok (.getfield 21, 3) := by decide +kernel
theorem dX4_dropReason_22 : decode cX4_dropReason 22 = .ok (.iload_n 1, 1) := by decide +kernel
theorem dX4_dropReason_23 : decode cX4_dropReason 23 = .ok (.iload_n 2, 1) := by decide +kernel
theorem dX4_dropReason_24 : decode cX4_dropReason 24 = .ok (.invokevirtual 71, 3) := by decide +kernel
theorem dX4_dropReason_27 : decode cX4_dropReason 27 = .ok (.ireturn, 1) := by decide +kernel
set_option maxRecDepth 20000 in
theorem ggX4_playAt_X3_findPlays : GoodIn wsX4_playAt wsX3_findPlays := goodIn_r _ [6, 7, 8, 9, 10, 11, 12, 13, 14, 15, 16, 17, 18, 19, 20, 21, 22, 23, 24, 25, 26, 5, 27, 28, 29, 30, 31, 32, 33, 34, 35, 36, 37, 38, 39, 40, 41, 42, 43, 44, 45, 46, 47, 48, 49, 50, 51, 52, 53, 54, 55, 56, 57, 58, 59, 60, 61, 62, 63, 64, 65, 66, 67, 68, 69, 70, 71, 72, 73, 74, 75, 76, 77, 78, 79, 80, 81, 82, 83, 84, 85, 86, 87, 88, 89, 90, 91, 92, 93, 94, 95, 96, 97, 98, 99, 100, 101, 102, 103, 104, 105, 106, 107, 108, 109, 110, 111, 112, 113, 114, 115, 116, 117, 118, 119, 120, 121, 122, 123, 124, 125, 126, 127, 128, 129, 130, 131, 132, 133, 134, 135, 136, 137, 138, 162, 163, 164, 165, 166, 167, 168, 169] (by decide +kernel) (by decide +kernel)
set_option maxRecDepth 20000 in
theorem gX4_playAt_X3_findPlays : GoodIn wsX4_playAt (wsV RX4 135 RX3 yX3_findPlays wsX3_findPlays) := goodIn_app (goodIn_of _ (by decide +kernel)) ggX4_playAt_X3_findPlays
set_option maxRecDepth 20000 in
theorem ggX4_playAt_X3_listPlays : GoodIn wsX4_playAt wsX3_listPlays := goodIn_r _ [142, 143, 8, 9, 10, 144, 22, 145, 146, 147, 148, 5, 149, 150, 34, 35, 106, 107, 162, 163, 164, 165, 166, 167] (by decide +kernel) (by decide +kernel)
set_option maxRecDepth 20000 in
theorem gX4_playAt_X3_listPlays : GoodIn wsX4_playAt (wsV RX4 199 RX3 yX3_listPlays wsX3_listPlays) := goodIn_app (goodIn_of _ (by decide +kernel)) ggX4_playAt_X3_listPlays
set_option maxRecDepth 20000 in
theorem ggX4_playAt_X3_listed : GoodIn wsX4_playAt wsX3_listed := goodIn_r _ [154, 143, 150, 162, 163, 164, 165, 166, 167] (by decide +kernel) (by decide +kernel)
set_option maxRecDepth 20000 in
theorem gX4_playAt_X3_listed : GoodIn wsX4_playAt (wsV RX4 202 RX3 yX3_listed wsX3_listed) := goodIn_app (goodIn_of _ (by decide +kernel)) ggX4_playAt_X3_listed
theorem dX4_playAt_0 : decode cX4_playAt 0 = .ok (.iload_n 1, 1) := by decide +kernel
theorem dX4_playAt_1 : decode cX4_playAt 1 = .ok (.ifCond .ge 7, 3) := by decide +kernel
theorem dX4_playAt_4 : decode cX4_playAt 4 = .ok (.sipush (-1002), 3) := by decide +kernel
theorem dX4_playAt_7 : decode cX4_playAt 7 = .ok (.ireturn, 1) := by decide +kernel
theorem dX4_playAt_8 : decode cX4_playAt 8 = .ok (.aload_n 0, 1) := by decide +kernel
theorem dX4_playAt_9 : decode cX4_playAt 9 = .ok (.getfield 21, 3) := by decide +kernel
theorem dX4_playAt_12 : decode cX4_playAt 12 = .ok (.invokevirtual 135, 3) := by decide +kernel
theorem dX4_playAt_15 : decode cX4_playAt 15 = .ok (.pop, 1) := by decide +kernel
theorem dX4_playAt_16 : decode cX4_playAt 16 = .ok (.iload_n 1, 1) := by decide +kernel
theorem dX4_playAt_17 : decode cX4_playAt 17 = .ok (.aload_n 0, 1) := by decide +kernel
theorem dX4_playAt_18 : decode cX4_playAt 18 = .ok (.getfield 21, 3) := by decide +kernel
theorem dX4_playAt_21 : decode cX4_playAt 21 = .ok (.invokevirtual 199, 3) := by decide +kernel
theorem dX4_playAt_24 : decode cX4_playAt 24 = .ok (.if_icmp .ge 14, 3) := by decide +kernel
theorem dX4_playAt_27 : decode cX4_playAt 27 = .ok (.aload_n 0, 1) := by decide +kernel
theorem dX4_playAt_28 : decode cX4_playAt 28 = .ok (.getfield 21, 3) := by decide +kernel
theorem dX4_playAt_31 : decode cX4_playAt 31 = .ok (.iload_n 1, 1) := by decide +kernel
theorem dX4_playAt_32 : decode cX4_playAt 32 = .ok (.invokevirtual 202, 3) := by decide +kernel
theorem dX4_playAt_35 : decode cX4_playAt 35 = .ok (.goto 6, 3) := by decide +kernel
theorem dX4_playAt_38 : decode cX4_playAt 38 = .ok (.sipush (-1005), 3) := by decide +kernel
theorem dX4_playAt_41 : decode cX4_playAt 41 = .ok (.ireturn, 1) := by decide +kernel
set_option maxRecDepth 20000 in
theorem ggX4_drops_X4_isHandKind : GoodIn wsX4_drops wsX4_isHandKind := goodIn_r _ [5] (by decide +kernel) (by decide +kernel)
set_option maxRecDepth 20000 in
theorem gX4_drops_X4_isHandKind : GoodIn wsX4_drops (va_wsS RX4 68 yX4_isHandKind wsX4_isHandKind) := goodIn_app (goodIn_of _ (by decide +kernel)) ggX4_drops_X4_isHandKind
set_option maxRecDepth 20000 in
theorem ggX4_drops_X3_findPlays : GoodIn wsX4_drops wsX3_findPlays := goodIn_r _ [10, 11, 12, 13, 14, 15, 16, 17, 18, 19, 20, 21, 22, 23, 24, 25, 4, 26, 27, 28, 29, 9, 30, 31, 32, 33, 34, 35, 36, 37, 38, 39, 40, 41, 42, 43, 44, 45, 46, 47, 48, 49, 50, 51, 52, 53, 54, 55, 56, 57, 58, 59, 60, 61, 62, 63, 64, 65, 66, 67, 68, 69, 70, 71, 72, 73, 74, 75, 76, 77, 78, 79, 80, 81, 82, 83, 84, 85, 86, 87, 88, 89, 90, 91, 92, 93, 94, 95, 96, 97, 3, 5, 98, 99, 100, 101, 102, 103, 104, 105, 106, 107, 108, 109, 110, 111, 112, 113, 114, 115, 116, 117, 118, 119, 120, 121, 122, 123, 124, 125, 126, 127, 128, 129, 130, 131, 132, 133, 134, 135, 136, 137, 138, 139, 151, 152, 153, 154, 155, 156, 157, 158] (by decide +kernel) (by decide +kernel)
set_option maxRecDepth 20000 in
theorem gX4_drops_X3_findPlays : GoodIn wsX4_drops (wsV RX4 135 RX3 yX3_findPlays wsX3_findPlays) := goodIn_app (goodIn_of _ (by decide +kernel)) ggX4_drops_X3_findPlays
set_option maxRecDepth 20000 in
theorem ggX4_drops_X3_dropSquares : GoodIn wsX4_drops wsX3_dropSquares := goodIn_r _ [143, 14, 151, 152, 153, 154, 155, 156] (by decide +kernel) (by decide +kernel)
set_option maxRecDepth 20000 in
theorem gX4_drops_X3_dropSquares : GoodIn wsX4_drops (wsV RX4 205 RX3 yX3_dropSquares wsX3_dropSquares) := goodIn_app (goodIn_of _ (by decide +kernel)) ggX4_drops_X3_dropSquares
theorem dX4_drops_0 : decode cX4_drops 0 = .ok (.iload_n 1, 1) := by decide +kernel
theorem dX4_drops_1 : decode cX4_drops 1 = .ok (.invokestatic 68, 3) := by decide +kernel
theorem dX4_drops_4 : decode cX4_drops 4 = .ok (.ifCond .ne 7, 3) := by decide +kernel
theorem dX4_drops_7 : decode cX4_drops 7 = .ok (.sipush (-1001), 3) := by decide +kernel
theorem dX4_drops_10 : decode cX4_drops 10 = .ok (.ireturn, 1) := by decide +kernel
theorem dX4_drops_11 : decode cX4_drops 11 = .ok (.aload_n 0, 1) := by decide +kernel
theorem dX4_drops_12 : decode cX4_drops 12 = .ok (.getfield 21, 3) := by decide +kernel
theorem dX4_drops_15 : decode cX4_drops 15 = .ok (.invokevirtual 135, 3) := by decide +kernel
theorem dX4_drops_18 : decode cX4_drops 18 = .ok (.pop, 1) := by decide +kernel
theorem dX4_drops_19 : decode cX4_drops 19 = .ok (.aload_n 0, 1) := by decide +kernel
theorem dX4_drops_20 : decode cX4_drops 20 = .ok (.getfield 21, 3) := by decide +kernel
theorem dX4_drops_23 : decode cX4_drops 23 = .ok (.iload_n 1, 1) := by decide +kernel
theorem dX4_drops_24 : decode cX4_drops 24 = .ok (.invokevirtual 205, 3) := by decide +kernel
theorem dX4_drops_27 : decode cX4_drops 27 = .ok (.ireturn, 1) := by decide +kernel
set_option maxRecDepth 20000 in
theorem ggX4_mate_X3_findPlays : GoodIn wsX4_mate wsX3_findPlays := goodIn_r _ [7, 8, 9, 10, 11, 12, 13, 14, 15, 16, 17, 18, 19, 20, 21, 22, 23, 24, 25, 26, 27, 6, 28, 29, 30, 31, 32, 33, 34, 35, 36, 37, 38, 39, 40, 41, 42, 43, 44, 45, 46, 47, 48, 49, 50, 51, 52, 53, 54, 55, 56, 57, 58, 59, 60, 61, 62, 63, 64, 65, 66, 67, 68, 69, 70, 71, 72, 73, 74, 75, 76, 77, 78, 79, 80, 81, 82, 83, 84, 85, 86, 87, 88, 89, 90, 91, 92, 93, 94, 95, 96, 97, 98, 99, 100, 101, 102, 103, 104, 105, 106, 107, 108, 109, 110, 111, 112, 113, 114, 115, 116, 117, 118, 119, 120, 121, 122, 123, 124, 125, 126, 127, 128, 129, 130, 131, 132, 133, 134, 135, 136, 137, 138, 139, 170, 171, 172, 173, 174, 175, 176, 177] (by decide +kernel) (by decide +kernel)
set_option maxRecDepth 20000 in
theorem gX4_mate_X3_findPlays : GoodIn wsX4_mate (wsV RX4 135 RX3 yX3_findPlays wsX3_findPlays) := goodIn_app (goodIn_of _ (by decide +kernel)) ggX4_mate_X3_findPlays
set_option maxRecDepth 20000 in
theorem ggX4_mate_X3_listPlays : GoodIn wsX4_mate wsX3_listPlays := goodIn_r _ [143, 144, 9, 10, 11, 145, 23, 146, 147, 148, 149, 6, 150, 151, 35, 36, 107, 108, 170, 171, 172, 173, 174, 175] (by decide +kernel) (by decide +kernel)
set_option maxRecDepth 20000 in
theorem gX4_mate_X3_listPlays : GoodIn wsX4_mate (wsV RX4 199 RX3 yX3_listPlays wsX3_listPlays) := goodIn_app (goodIn_of _ (by decide +kernel)) ggX4_mate_X3_listPlays
set_option maxRecDepth 20000 in
theorem ggX4_mate_X3_listed : GoodIn wsX4_mate wsX3_listed := goodIn_r _ [155, 144, 151, 170, 171, 172, 173, 174, 175] (by decide +kernel) (by decide +kernel)
set_option maxRecDepth 20000 in
theorem gX4_mate_X3_listed : GoodIn wsX4_mate (wsV RX4 202 RX3 yX3_listed wsX3_listed) := goodIn_app (goodIn_of _ (by decide +kernel)) ggX4_mate_X3_listed
set_option maxRecDepth 20000 in
theorem ggX4_mate_X2_apply : GoodIn wsX4_mate wsX2_apply := goodIn_r _ [112, 113, 13, 14, 15, 16, 17, 114, 115, 116, 117, 118, 93, 94, 95, 55, 23, 56, 96, 97, 119, 120, 121, 122, 86, 87, 123, 44, 45, 46, 47, 48, 49, 50, 41, 42, 22, 24, 34, 19, 20, 21, 124, 125, 126, 127, 176, 177] (by decide +kernel) (by decide +kernel)
set_option maxRecDepth 20000 in
theorem gX4_mate_X2_apply : GoodIn wsX4_mate (wsV RX4 208 RX2 yX2_apply wsX2_apply) := goodIn_app (goodIn_of _ (by decide +kernel)) ggX4_mate_X2_apply
set_option maxRecDepth 20000 in
theorem ggX4_mate_X3_isMated : GoodIn wsX4_mate wsX3_isMated := goodIn_r _ [160, 128, 129, 130, 6, 131, 8, 12, 13, 14, 15, 16, 17, 51, 52, 53, 54, 55, 23, 56, 57, 58, 59, 60, 33, 161, 4, 5, 7, 9, 10, 11, 18, 19, 20, 21, 22, 24, 25, 26, 27, 28, 29, 30, 31, 32, 34, 35, 36, 37, 38, 39, 40, 41, 42, 43, 44, 45, 46, 47, 48, 49, 50, 61, 62, 63, 64, 65, 66, 67, 68, 69, 70, 71, 72, 73, 74, 75, 76, 77, 78, 79, 80, 81, 82, 83, 84, 85, 86, 87, 88, 89, 90, 91, 92, 93, 94, 95, 96, 97, 98, 99, 100, 101, 102, 103, 104, 105, 106, 107, 108, 109, 110, 111, 112, 113, 114, 115, 116, 117, 118, 119, 120, 121, 122, 123, 124, 125, 126, 127, 132, 133, 134, 135, 136, 137, 138, 139, 170, 171, 172, 173, 174, 175, 176, 177] (by decide +kernel) (by decide +kernel)
set_option maxRecDepth 20000 in
theorem gX4_mate_X3_isMated : GoodIn wsX4_mate (wsV RX4 181 RX3 yX3_isMated wsX3_isMated) := goodIn_app (goodIn_of _ (by decide +kernel)) ggX4_mate_X3_isMated
set_option maxRecDepth 20000 in
theorem ggX4_mate_X2_takeBack : GoodIn wsX4_mate wsX2_takeBack := goodIn_r _ [139, 113, 13, 14, 15, 16, 17, 114, 115, 116, 117, 123, 44, 45, 46, 47, 23, 48, 49, 50, 41, 42, 22, 24, 118, 93, 94, 95, 55, 56, 96, 97, 119, 120, 121, 122, 34, 19, 20, 21, 124, 125, 126, 127, 176, 177] (by decide +kernel) (by decide +kernel)
set_option maxRecDepth 20000 in
theorem gX4_mate_X2_takeBack : GoodIn wsX4_mate (wsV RX4 211 RX2 yX2_takeBack wsX2_takeBack) := goodIn_app (goodIn_of _ (by decide +kernel)) ggX4_mate_X2_takeBack
theorem dX4_mate_0 : decode cX4_mate 0 = .ok (.aload_n 0, 1) := by decide +kernel
theorem dX4_mate_1 : decode cX4_mate 1 = .ok (.getfield 21, 3) := by decide +kernel
theorem dX4_mate_4 : decode cX4_mate 4 = .ok (.invokevirtual 135, 3) := by decide +kernel
theorem dX4_mate_7 : decode cX4_mate 7 = .ok (.pop, 1) := by decide +kernel
theorem dX4_mate_8 : decode cX4_mate 8 = .ok (.aload_n 0, 1) := by decide +kernel
theorem dX4_mate_9 : decode cX4_mate 9 = .ok (.getfield 21, 3) := by decide +kernel
theorem dX4_mate_12 : decode cX4_mate 12 = .ok (.invokevirtual 199, 3) := by decide +kernel
theorem dX4_mate_15 : decode cX4_mate 15 = .ok (.istore_n 1, 1) := by decide +kernel
theorem dX4_mate_16 : decode cX4_mate 16 = .ok (.iconst 0, 1) := by decide +kernel
theorem dX4_mate_17 : decode cX4_mate 17 = .ok (.istore_n 2, 1) := by decide +kernel
theorem dX4_mate_18 : decode cX4_mate 18 = .ok (.iload_n 2, 1) := by decide +kernel
theorem dX4_mate_19 : decode cX4_mate 19 = .ok (.iload_n 1, 1) := by decide +kernel
theorem dX4_mate_20 : decode cX4_mate 20 = .ok (.if_icmp .ge 54, 3) := by decide +kernel
theorem dX4_mate_23 : decode cX4_mate 23 = .ok (.aload_n 0, 1) := by decide +kernel
theorem dX4_mate_24 : decode cX4_mate 24 = .ok (.getfield 21, 3) := by decide +kernel
theorem dX4_mate_27 : decode cX4_mate 27 = .ok (.iload_n 2, 1) := by decide +kernel
theorem dX4_mate_28 : decode cX4_mate 28 = .ok (.invokevirtual 202, 3) := by decide +kernel
theorem dX4_mate_31 : decode cX4_mate 31 = .ok (.istore_n 3, 1) := by decide +kernel
theorem dX4_mate_32 : decode cX4_mate 32 = .ok (.aload_n 0, 1) := by decide +kernel
theorem dX4_mate_33 : decode cX4_mate 33 = .ok (.getfield 12, 3) := by decide +kernel
theorem dX4_mate_36 : decode cX4_mate 36 = .ok (.iload_n 3, 1) := by decide +kernel
theorem dX4_mate_37 : decode cX4_mate 37 = .ok (.invokevirtual 208, 3) := by decide +kernel
theorem dX4_mate_40 : decode cX4_mate 40 = .ok (.istore 4, 2) := by decide +kernel
theorem dX4_mate_42 : decode cX4_mate 42 = .ok (.aload_n 0, 1) := by decide +kernel
theorem dX4_mate_43 : decode cX4_mate 43 = .ok (.getfield 21, 3) := by decide +kernel
theorem dX4_mate_46 : decode cX4_mate 46 = .ok (.invokevirtual 181, 3) := by decide +kernel
theorem dX4_mate_49 : decode cX4_mate 49 = .ok (.istore 5, 2) := by decide +kernel
theorem dX4_mate_51 : decode cX4_mate 51 = .ok (.aload_n 0, 1) := by decide +kernel
theorem dX4_mate_52 : decode cX4_mate 52 = .ok (.getfield 12, 3) := by decide +kernel
theorem dX4_mate_55 : decode cX4_mate 55 = .ok (.iload_n 3, 1) := by decide +kernel
theorem dX4_mate_56 : decode cX4_mate 56 = .ok (.iload 4, 2) := by decide +kernel
theorem dX4_mate_58 : decode cX4_mate 58 = .ok (.invokevirtual 211, 3) := by decide +kernel
theorem dX4_mate_61 : decode cX4_mate 61 = .ok (.iload 5, 2) := by decide +kernel
theorem dX4_mate_63 : decode cX4_mate 63 = .ok (.ifCond .eq 5, 3) := by decide +kernel
theorem dX4_mate_66 : decode cX4_mate 66 = .ok (.iload_n 3, 1) := by decide +kernel
theorem dX4_mate_67 : decode cX4_mate 67 = .ok (.ireturn, 1) := by decide +kernel
theorem dX4_mate_68 : decode cX4_mate 68 = .ok (.iinc 2 1, 3) := by decide +kernel
theorem dX4_mate_71 : decode cX4_mate 71 = .ok (.goto (-53), 3) := by decide +kernel
theorem dX4_mate_74 : decode cX4_mate 74 = .ok (.sipush (-1005), 3) := by decide +kernel
theorem dX4_mate_77 : decode cX4_mate 77 = .ok (.ireturn, 1) := by decide +kernel
set_option maxRecDepth 20000 in
theorem ggX4_tightest_X3_findPlays : GoodIn wsX4_tightest wsX3_findPlays := goodIn_r _ [7, 8, 9, 10, 11, 12, 13, 14, 15, 16, 17, 18, 19, 20, 21, 22, 23, 24, 25, 26, 27, 6, 28, 29, 30, 31, 32, 33, 34, 35, 36, 37, 38, 39, 40, 41, 42, 43, 44, 45, 46, 47, 48, 49, 50, 51, 52, 53, 54, 55, 56, 57, 58, 59, 60, 61, 62, 63, 64, 65, 66, 67, 68, 69, 70, 71, 72, 73, 74, 75, 76, 77, 78, 79, 80, 81, 82, 83, 84, 85, 86, 87, 88, 89, 90, 91, 92, 93, 94, 95, 96, 97, 98, 99, 100, 101, 102, 103, 104, 105, 106, 107, 108, 109, 110, 111, 112, 113, 114, 115, 116, 117, 118, 119, 120, 121, 122, 123, 124, 125, 126, 127, 128, 129, 130, 131, 132, 133, 134, 135, 136, 137, 138, 139, 170, 171, 172, 173, 174, 175, 176, 177] (by decide +kernel) (by decide +kernel)
set_option maxRecDepth 20000 in
theorem gX4_tightest_X3_findPlays : GoodIn wsX4_tightest (wsV RX4 135 RX3 yX3_findPlays wsX3_findPlays) := goodIn_app (goodIn_of _ (by decide +kernel)) ggX4_tightest_X3_findPlays
set_option maxRecDepth 20000 in
theorem ggX4_tightest_X3_listPlays : GoodIn wsX4_tightest wsX3_listPlays := goodIn_r _ [143, 144, 9, 10, 11, 145, 23, 146, 147, 148, 149, 6, 150, 151, 35, 36, 107, 108, 170, 171, 172, 173, 174, 175] (by decide +kernel) (by decide +kernel)
set_option maxRecDepth 20000 in
theorem gX4_tightest_X3_listPlays : GoodIn wsX4_tightest (wsV RX4 199 RX3 yX3_listPlays wsX3_listPlays) := goodIn_app (goodIn_of _ (by decide +kernel)) ggX4_tightest_X3_listPlays
set_option maxRecDepth 20000 in
theorem ggX4_tightest_X2_sideToPlay : GoodIn wsX4_tightest wsX2_sideToPlay := goodIn_r _ [16, 17, 176, 177] (by decide +kernel) (by decide +kernel)
set_option maxRecDepth 20000 in
theorem gX4_tightest_X2_sideToPlay : GoodIn wsX4_tightest (wsV RX4 75 RX2 yX2_sideToPlay wsX2_sideToPlay) := goodIn_app (goodIn_of _ (by decide +kernel)) ggX4_tightest_X2_sideToPlay
set_option maxRecDepth 20000 in
theorem ggX4_tightest_X3_listed : GoodIn wsX4_tightest wsX3_listed := goodIn_r _ [156, 144, 151, 170, 171, 172, 173, 174, 175] (by decide +kernel) (by decide +kernel)
set_option maxRecDepth 20000 in
theorem gX4_tightest_X3_listed : GoodIn wsX4_tightest (wsV RX4 202 RX3 yX3_listed wsX3_listed) := goodIn_app (goodIn_of _ (by decide +kernel)) ggX4_tightest_X3_listed
set_option maxRecDepth 20000 in
theorem ggX4_tightest_X2_apply : GoodIn wsX4_tightest wsX2_apply := goodIn_r _ [112, 113, 13, 14, 15, 16, 17, 114, 115, 116, 117, 118, 93, 94, 95, 55, 23, 56, 96, 97, 119, 120, 121, 122, 86, 87, 123, 44, 45, 46, 47, 48, 49, 50, 41, 42, 22, 24, 34, 19, 20, 21, 124, 125, 126, 127, 176, 177] (by decide +kernel) (by decide +kernel)
set_option maxRecDepth 20000 in
theorem gX4_tightest_X2_apply : GoodIn wsX4_tightest (wsV RX4 208 RX2 yX2_apply wsX2_apply) := goodIn_app (goodIn_of _ (by decide +kernel)) ggX4_tightest_X2_apply
set_option maxRecDepth 20000 in
theorem ggX4_tightest_X2_worthFor : GoodIn wsX4_tightest wsX2_worthFor := goodIn_r _ [161, 17, 41, 23, 42, 22, 24, 118, 93, 94, 15, 95, 55, 56, 96, 97, 176, 177] (by decide +kernel) (by decide +kernel)
set_option maxRecDepth 20000 in
theorem gX4_tightest_X2_worthFor : GoodIn wsX4_tightest (wsV RX4 196 RX2 yX2_worthFor wsX2_worthFor) := goodIn_app (goodIn_of _ (by decide +kernel)) ggX4_tightest_X2_worthFor
set_option maxRecDepth 20000 in
theorem ggX4_tightest_X2_takeBack : GoodIn wsX4_tightest wsX2_takeBack := goodIn_r _ [139, 113, 13, 14, 15, 16, 17, 114, 115, 116, 117, 123, 44, 45, 46, 47, 23, 48, 49, 50, 41, 42, 22, 24, 118, 93, 94, 95, 55, 56, 96, 97, 119, 120, 121, 122, 34, 19, 20, 21, 124, 125, 126, 127, 176, 177] (by decide +kernel) (by decide +kernel)
set_option maxRecDepth 20000 in
theorem gX4_tightest_X2_takeBack : GoodIn wsX4_tightest (wsV RX4 211 RX2 yX2_takeBack wsX2_takeBack) := goodIn_app (goodIn_of _ (by decide +kernel)) ggX4_tightest_X2_takeBack
theorem dX4_tightest_0 : decode cX4_tightest 0 = .ok (.aload_n 0, 1) := by decide +kernel
theorem dX4_tightest_1 : decode cX4_tightest 1 = .ok (.getfield 21, 3) := by decide +kernel
theorem dX4_tightest_4 : decode cX4_tightest 4 = .ok (.invokevirtual 135, 3) := by decide +kernel
theorem dX4_tightest_7 : decode cX4_tightest 7 = .ok (.pop, 1) := by decide +kernel
theorem dX4_tightest_8 : decode cX4_tightest 8 = .ok (.aload_n 0, 1) := by decide +kernel
theorem dX4_tightest_9 : decode cX4_tightest 9 = .ok (.getfield 21, 3) := by decide +kernel
theorem dX4_tightest_12 : decode cX4_tightest 12 = .ok (.invokevirtual 199, 3) := by decide +kernel
theorem dX4_tightest_15 : decode cX4_tightest 15 = .ok (.istore_n 1, 1) := by decide +kernel
theorem dX4_tightest_16 : decode cX4_tightest 16 = .ok (.aload_n 0, 1) := by decide +kernel
theorem dX4_tightest_17 : decode cX4_tightest 17 = .ok (.getfield 12, 3) := by decide +kernel
theorem dX4_tightest_20 : decode cX4_tightest 20 = .ok (.invokevirtual 75, 3) := by decide +kernel
theorem dX4_tightest_23 : decode cX4_tightest 23 = .ok (.istore_n 2, 1) := by decide +kernel
theorem dX4_tightest_24 : decode cX4_tightest 24 = .ok (.sipush (-1005), 3) := by decide +kernel
theorem dX4_tightest_27 : decode cX4_tightest 27 = .ok (.istore_n 3, 1) := by decide +kernel
theorem dX4_tightest_28 : decode cX4_tightest 28 = .ok (.iconst 0, 1) := by decide +kernel
theorem dX4_tightest_29 : decode cX4_tightest 29 = .ok (.istore 4, 2) := by decide +kernel
theorem dX4_tightest_31 : decode cX4_tightest 31 = .ok (.iconst 0, 1) := by decide +kernel
theorem dX4_tightest_32 : decode cX4_tightest 32 = .ok (.istore 5, 2) := by decide +kernel
theorem dX4_tightest_34 : decode cX4_tightest 34 = .ok (.iconst 0, 1) := by decide +kernel
theorem dX4_tightest_35 : decode cX4_tightest 35 = .ok (.istore 6, 2) := by decide +kernel
theorem dX4_tightest_37 : decode cX4_tightest 37 = .ok (.iload 6, 2) := by decide +kernel
theorem dX4_tightest_39 : decode cX4_tightest 39 = .ok (.iload_n 1, 1) := by decide +kernel
theorem dX4_tightest_40 : decode cX4_tightest 40 = .ok (.if_icmp .ge 100, 3) := by decide +kernel
theorem dX4_tightest_43 : decode cX4_tightest 43 = .ok (.aload_n 0, 1) := by decide +kernel
theorem dX4_tightest_44 : decode cX4_tightest 44 = .ok (.getfield 21, 3) := by decide +kernel
theorem dX4_tightest_47 : decode cX4_tightest 47 = .ok (.iload 6, 2) := by decide +kernel
theorem dX4_tightest_49 : decode cX4_tightest 49 = .ok (.invokevirtual 202, 3) := by decide +kernel
theorem dX4_tightest_52 : decode cX4_tightest 52 = .ok (.istore 7, 2) := by decide +kernel
theorem dX4_tightest_54 : decode cX4_tightest 54 = .ok (.aload_n 0, 1) := by decide +kernel
theorem dX4_tightest_55 : decode cX4_tightest 55 = .ok (.getfield 12, 3) := by decide +kernel
theorem dX4_tightest_58 : decode cX4_tightest 58 = .ok (.iload 7, 2) := by decide +kernel
theorem dX4_tightest_60 : decode cX4_tightest 60 = .ok (.invokevirtual 208, 3) := by decide +kernel
theorem dX4_tightest_63 : decode cX4_tightest 63 = .ok (.istore 8, 2) := by decide +kernel
theorem dX4_tightest_65 : decode cX4_tightest 65 = .ok (.aload_n 0, 1) := by decide +kernel
theorem dX4_tightest_66 : decode cX4_tightest 66 = .ok (.getfield 21, 3) := by decide +kernel
theorem dX4_tightest_69 : decode cX4_tightest 69 = .ok (.invokevirtual 135, 3) := by decide +kernel
theorem dX4_tightest_72 : decode cX4_tightest 72 = .ok (.istore 9, 2) := by decide +kernel
theorem dX4_tightest_74 : decode cX4_tightest 74 = .ok (.aload_n 0, 1) := by decide +kernel
theorem dX4_tightest_75 : decode cX4_tightest 75 = .ok (.getfield 12, 3) := by decide +kernel
theorem dX4_tightest_78 : decode cX4_tightest 78 = .ok (.iload_n 2, 1) := by decide +kernel
theorem dX4_tightest_79 : decode cX4_tightest 79 = .ok (.invokevirtual 196, 3) := by decide +kernel
theorem dX4_tightest_82 : decode cX4_tightest 82 = .ok (.istore 10, 2) := by decide +kernel
theorem dX4_tightest_84 : decode cX4_tightest 84 = .ok (.aload_n 0, 1) := by decide +kernel
theorem dX4_tightest_85 : decode cX4_tightest 85 = .ok (.getfield 12, 3) := by decide +kernel
theorem dX4_tightest_88 : decode cX4_tightest 88 = .ok (.iload 7, 2) := by decide +kernel
theorem dX4_tightest_90 : decode cX4_tightest 90 = .ok (.iload 8, 2) := by decide +kernel
theorem dX4_tightest_92 : decode cX4_tightest 92 = .ok (.invokevirtual 211, 3) := by decide +kernel
theorem dX4_tightest_95 : decode cX4_tightest 95 = .ok (.iload_n 3, 1) := by decide +kernel
theorem dX4_tightest_96 : decode cX4_tightest 96 = .ok (.sipush (-1005), 3) := by decide +kernel
theorem dX4_tightest_99 : decode cX4_tightest 99 = .ok (.if_icmp .eq 24, 3) := by decide +kernel
theorem dX4_tightest_102 : decode cX4_tightest 102 = .ok (.iload 9, 2) := by decide +kernel
theorem dX4_tightest_104 : decode cX4_tightest 104 = .ok (.iload 4, 2) := by decide +kernel
theorem dX4_tightest_106 : decode cX4_tightest 106 = .ok (.if_icmp .lt 17, 3) := by decide +kernel
theorem dX4_tightest_109 : decode cX4_tightest 109 = .ok (.iload 9, 2) := by decide +kernel
theorem dX4_tightest_111 : decode cX4_tightest 111 = .ok (.iload 4, 2) := by decide +kernel
theorem dX4_tightest_113 : decode cX4_tightest 113 = .ok (.if_icmp .ne 21, 3) := by decide +kernel
theorem dX4_tightest_116 : decode cX4_tightest 116 = .ok (.iload 10, 2) := by decide +kernel
theorem dX4_tightest_118 : decode cX4_tightest 118 = .ok (.iload 5, 2) := by decide +kernel
theorem dX4_tightest_120 : decode cX4_tightest 120 = .ok (.if_icmp .le 14, 3) := by decide +kernel
theorem dX4_tightest_123 : decode cX4_tightest 123 = .ok (.iload 7, 2) := by decide +kernel
theorem dX4_tightest_125 : decode cX4_tightest 125 = .ok (.istore_n 3, 1) := by decide +kernel
theorem dX4_tightest_126 : decode cX4_tightest 126 = .ok (.iload 9, 2) := by decide +kernel
theorem dX4_tightest_128 : decode cX4_tightest 128 = .ok (.istore 4, 2) := by decide +kernel
theorem dX4_tightest_130 : decode cX4_tightest 130 = .ok (.iload 10, 2) := by decide +kernel
theorem dX4_tightest_132 : decode cX4_tightest 132 = .ok (.istore 5, 2) := by decide +kernel
theorem dX4_tightest_134 : decode cX4_tightest 134 = .ok (.iinc 6 1, 3) := by decide +kernel
theorem dX4_tightest_137 : decode cX4_tightest 137 = .ok (.goto (-100), 3) := by decide +kernel
theorem dX4_tightest_140 : decode cX4_tightest 140 = .ok (.iload_n 3, 1) := by decide +kernel
theorem dX4_tightest_141 : decode cX4_tightest 141 = .ok (.ireturn, 1) := by decide +kernel
set_option maxRecDepth 20000 in
theorem ggX4_recordChange_X2_copyTo : GoodIn wsX4_recordChange wsX2_copyTo := goodIn_r _ [8, 9, 10, 11, 12, 13, 29, 30] (by decide +kernel) (by decide +kernel)
set_option maxRecDepth 20000 in
theorem gX4_recordChange_X2_copyTo : GoodIn wsX4_recordChange (wsV RX4 154 RX2 yX2_copyTo wsX2_copyTo) := goodIn_app (goodIn_of _ (by decide +kernel)) ggX4_recordChange_X2_copyTo
set_option maxRecDepth 20000 in
theorem ggX4_recordChange_X0_push : GoodIn wsX4_recordChange wsX0_push := goodIn_r _ [18, 19, 20, 21, 11, 12, 13, 31, 32] (by decide +kernel) (by decide +kernel)
set_option maxRecDepth 20000 in
theorem gX4_recordChange_X0_push : GoodIn wsX4_recordChange (wsV RX4 167 RX0 yX0_push wsX0_push) := goodIn_app (goodIn_of _ (by decide +kernel)) ggX4_recordChange_X0_push
theorem dX4_recordChange_0 : decode cX4_recordChange 0 = .ok (.aload_n 0, 1) := by decide +kernel
theorem dX4_recordChange_1 : decode cX4_recordChange 1 = .ok (.getfield 12, 3) := by decide +kernel
theorem dX4_recordChange_4 : decode cX4_recordChange 4 = .ok (.aload_n 0, 1) := by decide +kernel
theorem dX4_recordChange_5 : decode cX4_recordChange 5 = .ok (.getfield 39, 3) := by decide +kernel
theorem dX4_recordChange_8 : decode cX4_recordChange 8 = .ok (.iconst 0, 1) := by decide +kernel
theorem dX4_recordChange_9 : decode cX4_recordChange 9 = .ok (.invokevirtual 154, 3) := by decide +kernel
theorem dX4_recordChange_12 : decode cX4_recordChange 12 = .ok (.aload_n 0, 1) := by decide +kernel
theorem dX4_recordChange_13 : decode cX4_recordChange 13 = .ok (.getfield 28, 3) := by decide +kernel
theorem dX4_recordChange_16 : decode cX4_recordChange 16 = .ok (.aload_n 0, 1) := by decide +kernel
theorem dX4_recordChange_17 : decode cX4_recordChange 17 = .ok (.getfield 39, 3) := by decide +kernel
theorem dX4_recordChange_20 : decode cX4_recordChange 20 = .ok (.invokevirtual 167, 3) := by decide +kernel
theorem dX4_recordChange_23 : decode cX4_recordChange 23 = .ok (.return_, 1) := by decide +kernel
theorem dX4_asNumber_0 : decode cX4_asNumber 0 = .ok (.iload_n 0, 1) := by decide +kernel
theorem dX4_asNumber_1 : decode cX4_asNumber 1 = .ok (.ifCond .eq 7, 3) := by decide +kernel
theorem dX4_asNumber_4 : decode cX4_asNumber 4 = .ok (.iconst 1, 1) := by decide +kernel
theorem dX4_asNumber_5 : decode cX4_asNumber 5 = .ok (.goto 4, 3) := by decide +kernel
theorem dX4_asNumber_8 : decode cX4_asNumber 8 = .ok (.iconst 0, 1) := by decide +kernel
theorem dX4_asNumber_9 : decode cX4_asNumber 9 = .ok (.ireturn, 1) := by decide +kernel
theorem dX4_isSquare_0 : decode cX4_isSquare 0 = .ok (.iload_n 0, 1) := by decide +kernel
theorem dX4_isSquare_1 : decode cX4_isSquare 1 = .ok (.ifCond .lt 13, 3) := by decide +kernel
theorem dX4_isSquare_4 : decode cX4_isSquare 4 = .ok (.iload_n 0, 1) := by decide +kernel
theorem dX4_isSquare_5 : decode cX4_isSquare 5 = .ok (.bipush 25, 2) := by decide +kernel
theorem dX4_isSquare_7 : decode cX4_isSquare 7 = .ok (.if_icmp .ge 7, 3) := by decide +kernel
theorem dX4_isSquare_10 : decode cX4_isSquare 10 = .ok (.iconst 1, 1) := by decide +kernel
theorem dX4_isSquare_11 : decode cX4_isSquare 11 = .ok (.goto 4, 3) := by decide +kernel
theorem dX4_isSquare_14 : decode cX4_isSquare 14 = .ok (.iconst 0, 1) := by decide +kernel
theorem dX4_isSquare_15 : decode cX4_isSquare 15 = .ok (.ireturn, 1) := by decide +kernel
theorem dX4_isSide_0 : decode cX4_isSide 0 = .ok (.iload_n 0, 1) := by decide +kernel
theorem dX4_isSide_1 : decode cX4_isSide 1 = .ok (.ifCond .lt 12, 3) := by decide +kernel
theorem dX4_isSide_4 : decode cX4_isSide 4 = .ok (.iload_n 0, 1) := by decide +kernel
theorem dX4_isSide_5 : decode cX4_isSide 5 = .ok (.iconst 2, 1) := by decide +kernel
theorem dX4_isSide_6 : decode cX4_isSide 6 = .ok (.if_icmp .ge 7, 3) := by decide +kernel
theorem dX4_isSide_9 : decode cX4_isSide 9 = .ok (.iconst 1, 1) := by decide +kernel
theorem dX4_isSide_10 : decode cX4_isSide 10 = .ok (.goto 4, 3) := by decide +kernel
theorem dX4_isSide_13 : decode cX4_isSide 13 = .ok (.iconst 0, 1) := by decide +kernel
theorem dX4_isSide_14 : decode cX4_isSide 14 = .ok (.ireturn, 1) := by decide +kernel
theorem dX4_isMan_0 : decode cX4_isMan 0 = .ok (.iload_n 0, 1) := by decide +kernel
theorem dX4_isMan_1 : decode cX4_isMan 1 = .ok (.ifCond .lt 13, 3) := by decide +kernel
theorem dX4_isMan_4 : decode cX4_isMan 4 = .ok (.iload_n 0, 1) := by decide +kernel
theorem dX4_isMan_5 : decode cX4_isMan 5 = .ok (.bipush 20, 2) := by decide +kernel
theorem dX4_isMan_7 : decode cX4_isMan 7 = .ok (.if_icmp .ge 7, 3) := by decide +kernel
theorem dX4_isMan_10 : decode cX4_isMan 10 = .ok (.iconst 1, 1) := by decide +kernel
theorem dX4_isMan_11 : decode cX4_isMan 11 = .ok (.goto 4, 3) := by decide +kernel
theorem dX4_isMan_14 : decode cX4_isMan 14 = .ok (.iconst 0, 1) := by decide +kernel
theorem dX4_isMan_15 : decode cX4_isMan 15 = .ok (.ireturn, 1) := by decide +kernel
theorem dX4_isHandKind_0 : decode cX4_isHandKind 0 = .ok (.iload_n 0, 1) := by decide +kernel
theorem dX4_isHandKind_1 : decode cX4_isHandKind 1 = .ok (.iconst 1, 1) := by decide +kernel
theorem dX4_isHandKind_2 : decode cX4_isHandKind 2 = .ok (.if_icmp .lt 12, 3) := by decide +kernel
theorem dX4_isHandKind_5 : decode cX4_isHandKind 5 = .ok (.iload_n 0, 1) := by decide +kernel
theorem dX4_isHandKind_6 : decode cX4_isHandKind 6 = .ok (.iconst 5, 1) := by decide +kernel
theorem dX4_isHandKind_7 : decode cX4_isHandKind 7 = .ok (.if_icmp .gt 7, 3) := by decide +kernel
theorem dX4_isHandKind_10 : decode cX4_isHandKind 10 = .ok (.iconst 1, 1) := by decide +kernel
theorem dX4_isHandKind_11 : decode cX4_isHandKind 11 = .ok (.goto 4, 3) := by decide +kernel
theorem dX4_isHandKind_14 : decode cX4_isHandKind 14 = .ok (.iconst 0, 1) := by decide +kernel
theorem dX4_isHandKind_15 : decode cX4_isHandKind 15 = .ok (.ireturn, 1) := by decide +kernel
theorem dX4_sideOf_0 : decode cX4_sideOf 0 = .ok (.iload_n 0, 1) := by decide +kernel
theorem dX4_sideOf_1 : decode cX4_sideOf 1 = .ok (.bipush 10, 2) := by decide +kernel
theorem dX4_sideOf_3 : decode cX4_sideOf 3 = .ok (.idiv, 1) := by decide +kernel
theorem dX4_sideOf_4 : decode cX4_sideOf 4 = .ok (.ireturn, 1) := by decide +kernel
theorem dX4_kindOf_0 : decode cX4_kindOf 0 = .ok (.iload_n 0, 1) := by decide +kernel
theorem dX4_kindOf_1 : decode cX4_kindOf 1 = .ok (.bipush 10, 2) := by decide +kernel
theorem dX4_kindOf_3 : decode cX4_kindOf 3 = .ok (.irem, 1) := by decide +kernel
theorem dX4_kindOf_4 : decode cX4_kindOf 4 = .ok (.ireturn, 1) := by decide +kernel
theorem dX4_manOf_0 : decode cX4_manOf 0 = .ok (.iload_n 0, 1) := by decide +kernel
theorem dX4_manOf_1 : decode cX4_manOf 1 = .ok (.bipush 10, 2) := by decide +kernel
theorem dX4_manOf_3 : decode cX4_manOf 3 = .ok (.imul, 1) := by decide +kernel
theorem dX4_manOf_4 : decode cX4_manOf 4 = .ok (.iload_n 1, 1) := by decide +kernel
theorem dX4_manOf_5 : decode cX4_manOf 5 = .ok (.iadd, 1) := by decide +kernel
theorem dX4_manOf_6 : decode cX4_manOf 6 = .ok (.ireturn, 1) := by decide +kernel
theorem dX4_bit_0 : decode cX4_bit 0 = .ok (.iconst 1, 1) := by decide +kernel
theorem dX4_bit_1 : decode cX4_bit 1 = .ok (.iload_n 0, 1) := by decide +kernel
theorem dX4_bit_2 : decode cX4_bit 2 = .ok (.ishl, 1) := by decide +kernel
theorem dX4_bit_3 : decode cX4_bit 3 = .ok (.ireturn, 1) := by decide +kernel
theorem dX4_has_0 : decode cX4_has 0 = .ok (.iload_n 0, 1) := by decide +kernel
theorem dX4_has_1 : decode cX4_has 1 = .ok (.iload_n 1, 1) := by decide +kernel
theorem dX4_has_2 : decode cX4_has 2 = .ok (.ishr, 1) := by decide +kernel
theorem dX4_has_3 : decode cX4_has 3 = .ok (.iconst 1, 1) := by decide +kernel
theorem dX4_has_4 : decode cX4_has 4 = .ok (.iand, 1) := by decide +kernel
theorem dX4_has_5 : decode cX4_has 5 = .ok (.ifCond .eq 7, 3) := by decide +kernel
theorem dX4_has_8 : decode cX4_has 8 = .ok (.iconst 1, 1) := by decide +kernel
theorem dX4_has_9 : decode cX4_has 9 = .ok (.goto 4, 3) := by decide +kernel
theorem dX4_has_12 : decode cX4_has 12 = .ok (.iconst 0, 1) := by decide +kernel
theorem dX4_has_13 : decode cX4_has 13 = .ok (.ireturn, 1) := by decide +kernel
theorem dX4_lastRow_0 : decode cX4_lastRow 0 = .ok (.iload_n 0, 1) := by decide +kernel
theorem dX4_lastRow_1 : decode cX4_lastRow 1 = .ok (.ifCond .ne 8, 3) := by decide +kernel
theorem dX4_lastRow_4 : decode cX4_lastRow 4 = .ok (.bipush 31, 2) := by decide +kernel
theorem dX4_lastRow_6 : decode cX4_lastRow 6 = .ok (.goto 5, 3) := by decide +kernel
theorem dX4_lastRow_9 : decode cX4_lastRow 9 = .ok (.ldc 214, 2) := by decide +kernel
theorem dX4_lastRow_11 : decode cX4_lastRow 11 = .ok (.ireturn, 1) := by decide +kernel
theorem dX4_moveNumber_0 : decode cX4_moveNumber 0 = .ok (.bipush 100, 2) := by decide +kernel
theorem dX4_moveNumber_2 : decode cX4_moveNumber 2 = .ok (.iload_n 0, 1) := by decide +kernel
theorem dX4_moveNumber_3 : decode cX4_moveNumber 3 = .ok (.imul, 1) := by decide +kernel
theorem dX4_moveNumber_4 : decode cX4_moveNumber 4 = .ok (.iload_n 1, 1) := by decide +kernel
theorem dX4_moveNumber_5 : decode cX4_moveNumber 5 = .ok (.iadd, 1) := by decide +kernel
theorem dX4_moveNumber_6 : decode cX4_moveNumber 6 = .ok (.iload_n 2, 1) := by decide +kernel
theorem dX4_moveNumber_7 : decode cX4_moveNumber 7 = .ok (.ifCond .eq 9, 3) := by decide +kernel
theorem dX4_moveNumber_10 : decode cX4_moveNumber 10 = .ok (.sipush 10000, 3) := by decide +kernel
theorem dX4_moveNumber_13 : decode cX4_moveNumber 13 = .ok (.goto 4, 3) := by decide +kernel
theorem dX4_moveNumber_16 : decode cX4_moveNumber 16 = .ok (.iconst 0, 1) := by decide +kernel
theorem dX4_moveNumber_17 : decode cX4_moveNumber 17 = .ok (.iadd, 1) := by decide +kernel
theorem dX4_moveNumber_18 : decode cX4_moveNumber 18 = .ok (.ireturn, 1) := by decide +kernel
theorem dX4_dropNumber_0 : decode cX4_dropNumber 0 = .ok (.sipush 20000, 3) := by decide +kernel
theorem dX4_dropNumber_3 : decode cX4_dropNumber 3 = .ok (.bipush 100, 2) := by decide +kernel
theorem dX4_dropNumber_5 : decode cX4_dropNumber 5 = .ok (.iload_n 0, 1) := by decide +kernel
theorem dX4_dropNumber_6 : decode cX4_dropNumber 6 = .ok (.imul, 1) := by decide +kernel
theorem dX4_dropNumber_7 : decode cX4_dropNumber 7 = .ok (.iadd, 1) := by decide +kernel
theorem dX4_dropNumber_8 : decode cX4_dropNumber 8 = .ok (.iload_n 1, 1) := by decide +kernel
theorem dX4_dropNumber_9 : decode cX4_dropNumber 9 = .ok (.iadd, 1) := by decide +kernel
theorem dX4_dropNumber_10 : decode cX4_dropNumber 10 = .ok (.ireturn, 1) := by decide +kernel
set_option maxRecDepth 20000 in
theorem ggX4_squareBeside_X4_isSquare : GoodIn wsX4_squareBeside wsX4_isSquare := goodIn_r _ [6] (by decide +kernel) (by decide +kernel)
set_option maxRecDepth 20000 in
theorem gX4_squareBeside_X4_isSquare : GoodIn wsX4_squareBeside (va_wsS RX4 50 yX4_isSquare wsX4_isSquare) := goodIn_app (goodIn_of _ (by decide +kernel)) ggX4_squareBeside_X4_isSquare
theorem dX4_squareBeside_0 : decode cX4_squareBeside 0 = .ok (.iload_n 0, 1) := by decide +kernel
theorem dX4_squareBeside_1 : decode cX4_squareBeside 1 = .ok (.invokestatic 50, 3) := by decide +kernel
theorem dX4_squareBeside_4 : decode cX4_squareBeside 4 = .ok (.ifCond .eq 23, 3) := by decide +kernel
theorem dX4_squareBeside_7 : decode cX4_squareBeside 7 = .ok (.iload_n 1, 1) := by decide +kernel
theorem dX4_squareBeside_8 : decode cX4_squareBeside 8 = .ok (.ifCond .lt 19, 3) := by decide +kernel
theorem dX4_squareBeside_11 : decode cX4_squareBeside 11 = .ok (.iload_n 1, 1) := by decide +kernel
theorem dX4_squareBeside_12 : decode cX4_squareBeside 12 = .ok (.getstatic 215, 3) := by decide +kernel
theorem dX4_squareBeside_15 : decode cX4_squareBeside 15 = .ok (.arraylength, 1) := by decide +kernel
theorem dX4_squareBeside_16 : decode cX4_squareBeside 16 = .ok (.if_icmp .ge 11, 3) := by decide +kernel
theorem dX4_squareBeside_19 : decode cX4_squareBeside 19 = .ok (.iload_n 1, 1) := by decide +kernel
theorem dX4_squareBeside_20 : decode cX4_squareBeside 20 = .ok (.getstatic 218, 3) := by decide +kernel
theorem dX4_squareBeside_23 : decode cX4_squareBeside 23 = .ok (.arraylength, 1) := by decide +kernel
theorem dX4_squareBeside_24 : decode cX4_squareBeside 24 = .ok (.if_icmp .lt 5, 3) := by decide +kernel
theorem dX4_squareBeside_27 : decode cX4_squareBeside 27 = .ok (.iconst (-1), 1) := by decide +kernel
theorem dX4_squareBeside_28 : decode cX4_squareBeside 28 = .ok (.ireturn, 1) := by decide +kernel
theorem dX4_squareBeside_29 : decode cX4_squareBeside 29 = .ok (.iload_n 0, 1) := by decide +kernel
theorem dX4_squareBeside_30 : decode cX4_squareBeside 30 = .ok (.iconst 5, 1) := by decide +kernel
theorem dX4_squareBeside_31 : decode cX4_squareBeside 31 = .ok (.idiv, 1) := by decide +kernel
theorem dX4_squareBeside_32 : decode cX4_squareBeside 32 = .ok (.getstatic 215, 3) := by decide +kernel
theorem dX4_squareBeside_35 : decode cX4_squareBeside 35 = .ok (.iload_n 1, 1) := by decide +kernel
theorem dX4_squareBeside_36 : decode cX4_squareBeside 36 = .ok (.iaload, 1) := by decide +kernel
theorem dX4_squareBeside_37 : decode cX4_squareBeside 37 = .ok (.iadd, 1) := by decide +kernel
theorem dX4_squareBeside_38 : decode cX4_squareBeside 38 = .ok (.istore_n 2, 1) := by decide +kernel
theorem dX4_squareBeside_39 : decode cX4_squareBeside 39 = .ok (.iload_n 0, 1) := by decide +kernel
theorem dX4_squareBeside_40 : decode cX4_squareBeside 40 = .ok (.iconst 5, 1) := by decide +kernel
theorem dX4_squareBeside_41 : decode cX4_squareBeside 41 = .ok (.irem, 1) := by decide +kernel
theorem dX4_squareBeside_42 : decode cX4_squareBeside 42 = .ok (.getstatic 218, 3) := by decide +kernel
theorem dX4_squareBeside_45 : decode cX4_squareBeside 45 = .ok (.iload_n 1, 1) := by decide +kernel
theorem dX4_squareBeside_46 : decode cX4_squareBeside 46 = .ok (.iaload, 1) := by decide +kernel
theorem dX4_squareBeside_47 : decode cX4_squareBeside 47 = .ok (.iadd, 1) := by decide +kernel
theorem dX4_squareBeside_48 : decode cX4_squareBeside 48 = .ok (.istore_n 3, 1) := by decide +kernel
theorem dX4_squareBeside_49 : decode cX4_squareBeside 49 = .ok (.iload_n 2, 1) := by decide +kernel
theorem dX4_squareBeside_50 : decode cX4_squareBeside 50 = .ok (.ifCond .lt 21, 3) := by decide +kernel
theorem dX4_squareBeside_53 : decode cX4_squareBeside 53 = .ok (.iload_n 2, 1) := by decide +kernel
theorem dX4_squareBeside_54 : decode cX4_squareBeside 54 = .ok (.iconst 5, 1) := by decide +kernel
theorem dX4_squareBeside_55 : decode cX4_squareBeside 55 = .ok (.if_icmp .ge 16, 3) := by decide +kernel
theorem dX4_squareBeside_58 : decode cX4_squareBeside 58 = .ok (.iload_n 3, 1) := by decide +kernel
theorem dX4_squareBeside_59 : decode cX4_squareBeside 59 = .ok (.ifCond .lt 12, 3) := by decide +kernel
theorem dX4_squareBeside_62 : decode cX4_squareBeside 62 = .ok (.iload_n 3, 1) := by decide +kernel
theorem dX4_squareBeside_63 : decode cX4_squareBeside 63 = .ok (.iconst 5, 1) := by decide +kernel
theorem dX4_squareBeside_64 : decode cX4_squareBeside 64 = .ok (.if_icmp .ge 7, 3) := by decide +kernel
theorem dX4_squareBeside_67 : decode cX4_squareBeside 67 = .ok (.iconst 1, 1) := by decide +kernel
theorem dX4_squareBeside_68 : decode cX4_squareBeside 68 = .ok (.goto 4, 3) := by decide +kernel
theorem dX4_squareBeside_71 : decode cX4_squareBeside 71 = .ok (.iconst 0, 1) := by decide +kernel
theorem dX4_squareBeside_72 : decode cX4_squareBeside 72 = .ok (.istore 4, 2) := by decide +kernel
theorem dX4_squareBeside_74 : decode cX4_squareBeside 74 = .ok (.iload 4, 2) := by decide +kernel
theorem dX4_squareBeside_76 : decode cX4_squareBeside 76 = .ok (.ifCond .eq 11, 3) := by decide +kernel
theorem dX4_squareBeside_79 : decode cX4_squareBeside 79 = .ok (.iload_n 2, 1) := by decide +kernel
theorem dX4_squareBeside_80 : decode cX4_squareBeside 80 = .ok (.iconst 5, 1) := by decide +kernel
theorem dX4_squareBeside_81 : decode cX4_squareBeside 81 = .ok (.imul, 1) := by decide +kernel
theorem dX4_squareBeside_82 : decode cX4_squareBeside 82 = .ok (.iload_n 3, 1) := by decide +kernel
theorem dX4_squareBeside_83 : decode cX4_squareBeside 83 = .ok (.iadd, 1) := by decide +kernel
theorem dX4_squareBeside_84 : decode cX4_squareBeside 84 = .ok (.goto 4, 3) := by decide +kernel
theorem dX4_squareBeside_87 : decode cX4_squareBeside 87 = .ok (.iconst (-1), 1) := by decide +kernel
theorem dX4_squareBeside_88 : decode cX4_squareBeside 88 = .ok (.ireturn, 1) := by decide +kernel
end
section
theorem dJ6_bitCount_0f7a4_0 : decode cJ6_bitCount_0f7a4 0 = .ok (.iload_n 0, 1) := by decide +kernel
theorem dJ6_bitCount_0f7a4_1 : decode cJ6_bitCount_0f7a4 1 = .ok (.iload_n 0, 1) := by decide +kernel
theorem dJ6_bitCount_0f7a4_2 : decode cJ6_bitCount_0f7a4 2 = .ok (.iconst 1, 1) := by decide +kernel
theorem dJ6_bitCount_0f7a4_3 : decode cJ6_bitCount_0f7a4 3 = .ok (.iushr, 1) := by decide +kernel
theorem dJ6_bitCount_0f7a4_4 : decode cJ6_bitCount_0f7a4 4 = .ok (.ldc_w 265, 3) := by decide +kernel
theorem dJ6_bitCount_0f7a4_7 : decode cJ6_bitCount_0f7a4 7 = .ok (.iand, 1) := by decide +kernel
theorem dJ6_bitCount_0f7a4_8 : decode cJ6_bitCount_0f7a4 8 = .ok (.isub, 1) := by decide +kernel
theorem dJ6_bitCount_0f7a4_9 : decode cJ6_bitCount_0f7a4 9 = .ok (.istore_n 0, 1) := by decide +kernel
theorem dJ6_bitCount_0f7a4_10 : decode cJ6_bitCount_0f7a4 10 = .ok (.iload_n 0, 1) := by decide +kernel
theorem dJ6_bitCount_0f7a4_11 : decode cJ6_bitCount_0f7a4 11 = .ok (.ldc_w 266, 3) := by decide +kernel
theorem dJ6_bitCount_0f7a4_14 : decode cJ6_bitCount_0f7a4 14 = .ok (.iand, 1) := by decide +kernel
theorem dJ6_bitCount_0f7a4_15 : decode cJ6_bitCount_0f7a4 15 = .ok (.iload_n 0, 1) := by decide +kernel
theorem dJ6_bitCount_0f7a4_16 : decode cJ6_bitCount_0f7a4 16 = .ok (.iconst 2, 1) := by decide +kernel
theorem dJ6_bitCount_0f7a4_17 : decode cJ6_bitCount_0f7a4 17 = .ok (.iushr, 1) := by decide +kernel
theorem dJ6_bitCount_0f7a4_18 : decode cJ6_bitCount_0f7a4 18 = .ok (.ldc_w 266, 3) := by decide +kernel
theorem dJ6_bitCount_0f7a4_21 : decode cJ6_bitCount_0f7a4 21 = .ok (.iand, 1) := by decide +kernel
theorem dJ6_bitCount_0f7a4_22 : decode cJ6_bitCount_0f7a4 22 = .ok (.iadd, 1) := by decide +kernel
theorem dJ6_bitCount_0f7a4_23 : decode cJ6_bitCount_0f7a4 23 = .ok (.istore_n 0, 1) := by decide +kernel
theorem dJ6_bitCount_0f7a4_24 : decode cJ6_bitCount_0f7a4 24 = .ok (.iload_n 0, 1) := by decide +kernel
theorem dJ6_bitCount_0f7a4_25 : decode cJ6_bitCount_0f7a4 25 = .ok (.iload_n 0, 1) := by decide +kernel
theorem dJ6_bitCount_0f7a4_26 : decode cJ6_bitCount_0f7a4 26 = .ok (.iconst 4, 1) := by decide +kernel
theorem dJ6_bitCount_0f7a4_27 : decode cJ6_bitCount_0f7a4 27 = .ok (.iushr, 1) := by decide +kernel
theorem dJ6_bitCount_0f7a4_28 : decode cJ6_bitCount_0f7a4 28 = .ok (.iadd, 1) := by decide +kernel
theorem dJ6_bitCount_0f7a4_29 : decode cJ6_bitCount_0f7a4 29 = .ok (.ldc_w 267, 3) := by decide +kernel
theorem dJ6_bitCount_0f7a4_32 : decode cJ6_bitCount_0f7a4 32 = .ok (.iand, 1) := by decide +kernel
theorem dJ6_bitCount_0f7a4_33 : decode cJ6_bitCount_0f7a4 33 = .ok (.istore_n 0, 1) := by decide +kernel
theorem dJ6_bitCount_0f7a4_34 : decode cJ6_bitCount_0f7a4 34 = .ok (.iload_n 0, 1) := by decide +kernel
theorem dJ6_bitCount_0f7a4_35 : decode cJ6_bitCount_0f7a4 35 = .ok (.iload_n 0, 1) := by decide +kernel
theorem dJ6_bitCount_0f7a4_36 : decode cJ6_bitCount_0f7a4 36 = .ok (.bipush 8, 2) := by decide +kernel
theorem dJ6_bitCount_0f7a4_38 : decode cJ6_bitCount_0f7a4 38 = .ok (.iushr, 1) := by decide +kernel
theorem dJ6_bitCount_0f7a4_39 : decode cJ6_bitCount_0f7a4 39 = .ok (.iadd, 1) := by decide +kernel
theorem dJ6_bitCount_0f7a4_40 : decode cJ6_bitCount_0f7a4 40 = .ok (.istore_n 0, 1) := by decide +kernel
theorem dJ6_bitCount_0f7a4_41 : decode cJ6_bitCount_0f7a4 41 = .ok (.iload_n 0, 1) := by decide +kernel
theorem dJ6_bitCount_0f7a4_42 : decode cJ6_bitCount_0f7a4 42 = .ok (.iload_n 0, 1) := by decide +kernel
theorem dJ6_bitCount_0f7a4_43 : decode cJ6_bitCount_0f7a4 43 = .ok (.bipush 16, 2) := by decide +kernel
theorem dJ6_bitCount_0f7a4_45 : decode cJ6_bitCount_0f7a4 45 = .ok (.iushr, 1) := by decide +kernel
theorem dJ6_bitCount_0f7a4_46 : decode cJ6_bitCount_0f7a4 46 = .ok (.iadd, 1) := by decide +kernel
theorem dJ6_bitCount_0f7a4_47 : decode cJ6_bitCount_0f7a4 47 = .ok (.istore_n 0, 1) := by decide +kernel
theorem dJ6_bitCount_0f7a4_48 : decode cJ6_bitCount_0f7a4 48 = .ok (.iload_n 0, 1) := by decide +kernel
theorem dJ6_bitCount_0f7a4_49 : decode cJ6_bitCount_0f7a4 49 = .ok (.bipush 63, 2) := by decide +kernel
theorem dJ6_bitCount_0f7a4_51 : decode cJ6_bitCount_0f7a4 51 = .ok (.iand, 1) := by decide +kernel
theorem dJ6_bitCount_0f7a4_52 : decode cJ6_bitCount_0f7a4 52 = .ok (.ireturn, 1) := by decide +kernel
abbrev vwCl : List vw_C := [(RX0, TX0, 2), (RX1, TX1, 5), (RX2, TX2, 2), (RX3, TX3, 6), (RX4, TX4, 7)]
end
section
/-! A SMALL MACHINE over the kit: a world of cells that hold ints, at addresses ad k; locals and stack of ints and of cells by number; one judgement EV, a row an instruction; an answer 'none' asks nothing. -/
abbrev mvV : Type := Int32 ⊕ (Nat ⊕ Nat)
abbrev mvI (x : Int32) : mvV := .inl x
abbrev mvC (k : Nat) : mvV := .inr (.inl k)
abbrev mvT (k : Nat) : mvV := .inr (.inr k)
def mv_val (td : Nat → Option Nat) (ad : Nat → Nat) (v : mvV) : Value := match v with
  | .inl x => .int x
  | .inr (.inl k) => .ref (ad k)
  | .inr (.inr k) => va_rf (td k)
/-- a cell's shape: a row of ints (true: of chars) of a length; or an object of a class: a field is an int, null, or a cell -/
abbrev mvSh : Type := (Bool × Nat) ⊕ (Nat × List (Option (Option Nat)))
abbrev mvW : Type := Nat → Nat → Int32
def mv_fld (ad : Nat → Nat) (w : Nat → Int32) : Nat → List (Option (Option Nat)) → List Value
  | _, [] => []
  | i, none :: t => .int (w i) :: mv_fld ad w (i + 1) t
  | i, some none :: t => .null :: mv_fld ad w (i + 1) t
  | i, some (some j) :: t => .ref (ad j) :: mv_fld ad w (i + 1) t
def mv_ent (cI cC : ClassId) (ad : Nat → Nat) (w : Nat → Int32) (x : mvSh) : va_E := match x with
  | .inl (b, n) => .inl (if b then cC else cI, n, .inl w)
  | .inr (ci, fs) => .inr (ci, mv_fld ad w 0 fs)
def mv_wl (cI cC : ClassId) (ad : Nat → Nat) (w : mvW) : Nat → List mvSh → va_W
  | _, [] => []
  | k, x :: t => (ad k, mv_ent cI cC ad (w k) x) :: mv_wl cI cC ad w (k + 1) t
def mv_up (w : mvW) (k i : Nat) (x : Int32) : mvW := fun c => if c = k then upd (w k) i x else w c
def mv_cp (w : mvW) (k0 k1 sp dp n : Nat) : mvW := fun c => if c = k1 then va_cpy (w k0) (w k1) sp dp n else w c
theorem mv_wl_get (cI cC : ClassId) (ad : Nat → Nat) (w : mvW) : ∀ (sh : List mvSh) (n k : Nat), (mv_wl cI cC ad w n sh)[k]? = (sh[k]?).map (fun x => (ad (n + k), mv_ent cI cC ad (w (n + k)) x))
  | [], _, k => by simp [mv_wl]
  | x :: t, n, 0 => by simp [mv_wl]
  | x :: t, n, k + 1 => by
    rw [mv_wl, List.getElem?_cons_succ, mv_wl_get cI cC ad w t (n + 1) k, List.getElem?_cons_succ]
    rw [show n + 1 + k = n + (k + 1) by omega]
theorem mv_wl_at (cI cC : ClassId) (ad : Nat → Nat) (w : mvW) {sh : List mvSh} {k : Nat} {x : mvSh} (h : sh[k]? = some x) : (mv_wl cI cC ad w 0 sh)[k]? = some (ad k, mv_ent cI cC ad (w k) x) := by
  rw [mv_wl_get, h]; simp
theorem mv_wl_same (cI cC : ClassId) (ad : Nat → Nat) (w w' : mvW) : ∀ (sh : List mvSh) (n : Nat), (∀ k, n ≤ k → w' k = w k) → mv_wl cI cC ad w' n sh = mv_wl cI cC ad w n sh
  | [], _, _ => rfl
  | x :: t, n, h => by
    rw [mv_wl, mv_wl, h n (Nat.le_refl _), mv_wl_same cI cC ad w w' t (n + 1) (fun k hk => h k (by omega))]
theorem mv_wl_set (cI cC : ClassId) (ad : Nat → Nat) (w w' : mvW) {y : mvSh} : ∀ (sh : List mvSh) (n k : Nat), sh[k]? = some y → (∀ c, c ≠ n + k → w' c = w c) → (mv_wl cI cC ad w n sh).set k (ad (n + k), mv_ent cI cC ad (w' (n + k)) y) = mv_wl cI cC ad w' n sh
  | [], _, _, h, _ => by simp at h
  | x :: t, n, 0, h, hw => by
    simp only [List.getElem?_cons_zero, Option.some.injEq] at h
    subst h
    rw [mv_wl, mv_wl, List.set_cons_zero]
    rw [mv_wl_same cI cC ad w w' t (n + 1) (fun k hk => hw k (by omega))]
    rfl
  | x :: t, n, k + 1, h, hw => by
    rw [List.getElem?_cons_succ] at h
    rw [mv_wl, mv_wl, List.set_cons_succ, hw n (by omega)]
    have := mv_wl_set cI cC ad w w' t (n + 1) k h (fun c hc => hw c (by omega))
    rw [show n + 1 + k = n + (k + 1) by omega] at this
    rw [this]
theorem mv_fld_get (ad : Nat → Nat) (w : Nat → Int32) : ∀ (fs : List (Option (Option Nat))) (n k : Nat), (mv_fld ad w n fs)[k]? = (fs[k]?).map (fun o => match o with | none => Value.int (w (n + k)) | some none => .null | some (some j) => .ref (ad j))
  | [], _, k => by simp [mv_fld]
  | none :: t, n, 0 => by simp [mv_fld]
  | some none :: t, n, 0 => by simp [mv_fld]
  | some (some j) :: t, n, 0 => by simp [mv_fld]
  | none :: t, n, k + 1 => by
    rw [mv_fld, List.getElem?_cons_succ, mv_fld_get ad w t (n + 1) k, List.getElem?_cons_succ, show n + 1 + k = n + (k + 1) by omega]
  | some none :: t, n, k + 1 => by
    rw [mv_fld, List.getElem?_cons_succ, mv_fld_get ad w t (n + 1) k, List.getElem?_cons_succ, show n + 1 + k = n + (k + 1) by omega]
  | some (some j) :: t, n, k + 1 => by
    rw [mv_fld, List.getElem?_cons_succ, mv_fld_get ad w t (n + 1) k, List.getElem?_cons_succ, show n + 1 + k = n + (k + 1) by omega]
theorem mv_fld_len (ad : Nat → Nat) (w : Nat → Int32) : ∀ (fs : List (Option (Option Nat))) (n : Nat), (mv_fld ad w n fs).length = fs.length
  | [], _ => rfl
  | none :: t, n => by simp [mv_fld, mv_fld_len ad w t (n + 1)]
  | some none :: t, n => by simp [mv_fld, mv_fld_len ad w t (n + 1)]
  | some (some j) :: t, n => by simp [mv_fld, mv_fld_len ad w t (n + 1)]
theorem mv_fld_same (ad : Nat → Nat) (w w' : Nat → Int32) : ∀ (fs : List (Option (Option Nat))) (n : Nat), (∀ k, n ≤ k → w' k = w k) → mv_fld ad w' n fs = mv_fld ad w n fs
  | [], _, _ => rfl
  | none :: t, n, h => by rw [mv_fld, mv_fld, h n (Nat.le_refl _), mv_fld_same ad w w' t (n + 1) (fun k hk => h k (by omega))]
  | some none :: t, n, h => by rw [mv_fld, mv_fld, mv_fld_same ad w w' t (n + 1) (fun k hk => h k (by omega))]
  | some (some j) :: t, n, h => by rw [mv_fld, mv_fld, mv_fld_same ad w w' t (n + 1) (fun k hk => h k (by omega))]
theorem mv_fld_set (ad : Nat → Nat) (w : Nat → Int32) (x : Int32) : ∀ (fs : List (Option (Option Nat))) (n k : Nat), fs[k]? = some none → (mv_fld ad w n fs).set k (.int x) = mv_fld ad (upd w (n + k) x) n fs
  | [], _, _, h => by simp at h
  | none :: t, n, 0, _ => by
    rw [mv_fld, mv_fld, List.set_cons_zero, mv_fld_same ad w (upd w (n + 0) x) t (n + 1) (fun k hk => by simp [upd]; omega)]
    simp [upd]
  | some o :: t, n, 0, h => by simp at h
  | none :: t, n, k + 1, h => by
    rw [List.getElem?_cons_succ] at h
    have ih := mv_fld_set ad w x t (n + 1) k h
    rw [show n + 1 + k = n + (k + 1) by omega] at ih
    rw [mv_fld, mv_fld, List.set_cons_succ, ih]
    have : upd w (n + (k + 1)) x n = w n := by simp [upd]
    rw [this]
  | some none :: t, n, k + 1, h => by
    rw [List.getElem?_cons_succ] at h
    have ih := mv_fld_set ad w x t (n + 1) k h
    rw [show n + 1 + k = n + (k + 1) by omega] at ih
    rw [mv_fld, mv_fld, List.set_cons_succ, ih]
  | some (some j) :: t, n, k + 1, h => by
    rw [List.getElem?_cons_succ] at h
    have ih := mv_fld_set ad w x t (n + 1) k h
    rw [show n + 1 + k = n + (k + 1) by omega] at ih
    rw [mv_fld, mv_fld, List.set_cons_succ, ih]
/-- what nobody writes: rows of ints in statics; links to private members of nest mates; String constants; two statics of the JDK's -/
abbrev mvTb : Type := List (String × String × List Int32) × List (String × Nat × MethodName × String) × List (String × Nat × String × List Int32) × List (String × Nat × String × String × String × String)
def mv_St (tb : mvTb) (td : Nat → Option Nat) (A : Nat → Prop) (U : State) (H : Heap) : Prop :=
  (∀ (k : Nat) (x : String × String × List Int32), tb.1[k]? = some x → ∃ t : Nat, td k = some t ∧ va_Z x.1 x.2.1 "[I" (.ref t) A U H ∧ va_T .int t x.2.2.length (fun j => .int (x.2.2.getD j 0)) A U H) ∧
  (∀ q ∈ tb.2.1, va_Nw (.methodLinkNest q.1 q.2.1 q.2.2.1 q.2.2.2) U) ∧
  (∀ (k : Nat) (x : String × Nat × String × List Int32), tb.2.2.1[k]? = some x → ∃ a t : Nat, td (1000 + 2 * k) = some a ∧ td (1001 + 2 * k) = some t ∧ vk_R x.1 x.2.1 x.2.2.1 a U ∧ va_O "java/lang/String" a A U H ∧ va_OF "java/lang/String" "coder" "B" (.int 0) a A U H ∧ va_OF "java/lang/String" "value" "[B" (.ref t) a A U H ∧ va_T .byte t x.2.2.2.length (fun j => .int (x.2.2.2.getD j 0)) A U H) ∧
  True ∧ True ∧
  ∀ q ∈ tb.2.2.2, va_Nw (.fieldLinkNest q.1 q.2.1 q.2.2.1 q.2.2.2.1 q.2.2.2.2.1 q.2.2.2.2.2) U
theorem mv_St.warm {tb : mvTb} {td : Nat → Option Nat} {A : Nat → Prop} {u U : State} {H : Heap} (hW : u.WarmedH U.vm) (h : mv_St tb td A u H) : mv_St tb td A U H := by
  obtain ⟨h1, h2, h3, h4, h5, h6⟩ := h
  refine ⟨fun k x hk => ?_, fun q hq => va_Nw.warmM hW (h2 q hq), fun k x hk => ?_, h4, h5, fun q hq => va_Nw.warmF hW (h6 q hq)⟩
  · obtain ⟨t, a1, a2, a3⟩ := h1 k x hk
    exact ⟨t, a1, a2.moved hW.alike, a3.moved hW.alike⟩
  · obtain ⟨a, t, a1, a2, a3, a4, a5, a6, a7⟩ := h3 k x hk
    exact ⟨a, t, a1, a2, a3.warm hW, a4.moved hW.alike, a5.moved hW.alike, a6.moved hW.alike, a7.moved hW.alike⟩
theorem mv_St.same {tb : mvTb} {td : Nat → Option Nat} {A : Nat → Prop} {u U : State} {H : Heap} (hv : u.vm = U.vm) (h : mv_St tb td A u H) : mv_St tb td A U H := by
  have ha : u.vm.Alike U.vm := hv ▸ Vm.Alike.refl u.vm
  obtain ⟨h1, h2, h3, h4, h5, h6⟩ := h
  refine ⟨fun k x hk => ?_, fun q hq => va_Nw.same rfl hv (h2 q hq), fun k x hk => ?_, h4, h5, fun q hq => va_Nw.same rfl hv (h6 q hq)⟩
  · obtain ⟨t, a1, a2, a3⟩ := h1 k x hk
    exact ⟨t, a1, a2.moved ha, a3.moved ha⟩
  · obtain ⟨a, t, a1, a2, a3, a4, a5, a6, a7⟩ := h3 k x hk
    exact ⟨a, t, a1, a2, a3.same hv.symm, a4.moved ha, a5.moved ha, a6.moved ha, a7.moved ha⟩
theorem mv_St.kept {tb : mvTb} {td : Nat → Option Nat} {A : Nat → Prop} {U : State} {H H1 : Heap} (h : mv_St tb td A U H) (hq : ∀ a : Nat, a < H.size → ¬ A a → H1[a]? = H[a]?) : mv_St tb td A U H1 := by
  obtain ⟨h1, h2, h3, h4, h5, h6⟩ := h
  refine ⟨fun k x hk => ?_, h2, fun k x hk => ?_, h4, h5, h6⟩
  · obtain ⟨t, a1, a2, a3⟩ := h1 k x hk
    exact ⟨t, a1, a2.kept hq, a3.kept hq⟩
  · obtain ⟨a, t, a1, a2, a3, a4, a5, a6, a7⟩ := h3 k x hk
    exact ⟨a, t, a1, a2, a3, a4.kept hq, a5.kept hq, a6.kept hq, a7.kept hq⟩
theorem mv_St.narrow {tb : mvTb} {td : Nat → Option Nat} {A B : Nat → Prop} {U : State} {H : Heap} (h : mv_St tb td A U H) (hAB : ∀ q, B q → A q) : mv_St tb td B U H := by
  obtain ⟨h1, h2, h3, h4, h5, h6⟩ := h
  refine ⟨fun k x hk => ?_, h2, fun k x hk => ?_, h4, h5, h6⟩
  · obtain ⟨t, a1, a2, a3⟩ := h1 k x hk
    exact ⟨t, a1, a2.narrow hAB, a3.narrow hAB⟩
  · obtain ⟨a, t, a1, a2, a3, a4, a5, a6, a7⟩ := h3 k x hk
    exact ⟨a, t, a1, a2, a3, a4.narrow hAB, a5.narrow hAB, a6.narrow hAB, a7.narrow hAB⟩
/-- locals -/
def mv_lh (ls : Array Slot) (td : Nat → Option Nat) (ad : Nat → Nat) (L : List (Option mvV)) : Prop := ls.size = L.length ∧ lv_wf ls ∧ ∀ (i : Nat) (v : mvV), L[i]? = some (some v) → ls[i]? = some (.val (mv_val td ad v))
theorem mv_cat (td : Nat → Option Nat) (ad : Nat → Nat) (v : mvV) : (mv_val td ad v).category = 1 := by
  rcases v with x | x | x
  · rfl
  · rfl
  · simp only [mv_val]; cases td x <;> rfl
theorem mv_cats (td : Nat → Option Nat) (ad : Nat → Nat) : ∀ st : List mvV, ((st.map (mv_val td ad)).map fun v => v.category).sum = st.length
  | [] => rfl
  | v :: t => by simp only [List.map_cons, List.sum_cons, List.length_cons, mv_cat, mv_cats td ad t]; omega
def mv_la (td : Nat → Option Nat) (ad : Nat → Nat) (L : List (Option mvV)) : List (Nat × Value) := (List.range L.length).filterMap (fun i => (L[i]?).join.map (fun v => (i, mv_val td ad v)))
theorem mv_la_mem {td : Nat → Option Nat} {ad : Nat → Nat} {L : List (Option mvV)} {i : Nat} {v : mvV} (h : L[i]? = some (some v)) : (i, mv_val td ad v) ∈ mv_la td ad L := by
  refine List.mem_filterMap.mpr ⟨i, List.mem_range.mpr (List.getElem?_eq_some_iff.mp h).1, ?_⟩
  rw [h]; rfl
theorem mv_la_of {td : Nat → Option Nat} {ad : Nat → Nat} {L : List (Option mvV)} {q : Nat × Value} (h : q ∈ mv_la td ad L) : ∃ v, L[q.1]? = some (some v) ∧ q.2 = mv_val td ad v := by
  obtain ⟨i, -, h2⟩ := List.mem_filterMap.mp h
  cases hL : L[i]? with
  | none => rw [hL] at h2; simp at h2
  | some o =>
    rw [hL] at h2
    cases o with
    | none => simp at h2
    | some v => simp at h2; subst h2; exact ⟨v, hL, rfl⟩
theorem mv_lh.has {ls : Array Slot} {td : Nat → Option Nat} {ad : Nat → Nat} {L : List (Option mvV)} (h : mv_lh ls td ad L) : lv_has ls L.length (mv_la td ad L) := by
  refine ⟨h.1, h.2.1, fun q hq => ?_⟩
  obtain ⟨v, h1, h2⟩ := mv_la_of hq
  rw [h2]; exact h.2.2 _ _ h1
theorem mv_lh.set {ls' : Array Slot} {td : Nat → Option Nat} {ad : Nat → Nat} {L : List (Option mvV)} {i : Nat} {x : mvV} (hl : lv_has ls' L.length ((i, mv_val td ad x) :: (mv_la td ad L).filter (fun q => !(q.1 == i) && !(q.1 + 1 == i && q.2.category == 2)))) : mv_lh ls' td ad (L.set i (some x)) := by
  refine ⟨by rw [List.length_set]; exact hl.1, hl.2.1, fun j v hj => ?_⟩
  rw [List.getElem?_set] at hj
  by_cases e : i = j
  · subst e
    rw [if_pos rfl] at hj
    split at hj
    · cases hj
      exact hl.2.2 _ List.mem_cons_self
    · cases hj
  · rw [if_neg e] at hj
    refine hl.2.2 (j, mv_val td ad v) (List.mem_cons_of_mem _ (List.mem_filter.mpr ⟨mv_la_mem hj, ?_⟩))
    have e2 : ¬ j = i := fun q => e q.symm
    simp [e2, mv_cat]
def mv_mask : List Bool → List (Option mvV) → List (Option mvV)
  | [], _ => []
  | _, [] => []
  | b :: bs, x :: t => (if b then x else none) :: mv_mask bs t
theorem mv_mask_get : ∀ (bs : List Bool) (L : List (Option mvV)) (i : Nat) (v : mvV), (mv_mask bs L)[i]? = some (some v) → L[i]? = some (some v)
  | [], L, i, v, h => by simp [mv_mask] at h
  | b :: bs, [], i, v, h => by simp [mv_mask] at h
  | b :: bs, x :: t, 0, v, h => by
    simp only [mv_mask, List.getElem?_cons_zero, Option.some.injEq] at h ⊢
    by_cases hb : b = true
    · rw [if_pos hb] at h; exact h
    · rw [if_neg hb] at h; cases h
  | b :: bs, x :: t, i + 1, v, h => by
    rw [mv_mask, List.getElem?_cons_succ] at h
    rw [List.getElem?_cons_succ]
    exact mv_mask_get bs t i v h
theorem mv_mask_len : ∀ (bs : List Bool) (L : List (Option mvV)), bs.length = L.length → (mv_mask bs L).length = L.length
  | [], [], _ => rfl
  | b :: bs, x :: t, h => by simp only [mv_mask, List.length_cons]; rw [mv_mask_len bs t (by simpa using h)]
/-- the judgement -/
def EV (p : Program) (l : Launch) (e : Env) (R : Room) (s : State) (m : MethodId) (args : Array Value) (below : List Frame) (meth : Method) (c : Code) (D : va_G) (cl : List vw_C) (cI cC : ClassId) (td : Nat → Option Nat) (A : Nat → Prop) (G : (Nat → Nat) → Prop) {ρ : Type} (Q : ρ → State → Prop) (cells slots : Nat) (sh : List mvSh) (L : List (Option mvV)) (st : List mvV) (pc : Nat) (w : mvW) (r : Option ρ) : Prop :=
  ∀ z, r = some z → ∀ (ad : Nat → Nat) (H : Heap) (locs : List Loc) (ls : Array Slot), G ad → mv_lh ls td ad L → va_P D cl (mv_wl cI cC ad w 0 sh) H → va_D A (mv_wl cI cC ad w 0 sh) → va_S A s.heap H locs → W p l e R s m args below meth c H locs cells slots (Q z) (F0 m pc ls (st.map (mv_val td ad)))
/-- what holds through a method -/
def mv_X (p : Program) (s : State) (m : MethodId) (args : Array Value) (meth : Method) (c : Code) (D : va_G) (cl : List vw_C) (cI cC : ClassId) (tb : mvTb) (td : Nat → Option Nat) (A : Nat → Prop) (cc : ByteArray) (nL : Nat) (own : String) (Ts : List Cond) : Prop :=
  p.tables.exec = Jvm.exec ∧ c.code = cc ∧ c.maxLocals = nL ∧ s.vm.findClass own = some m.cls ∧ (∀ w ∈ Ts, w.before args s = true) ∧ (∀ q, s.heap.size ≤ q → A q) ∧ va_K D cl [(cI, .int), (cC, .char)] s ∧ mv_St tb td A s s.heap ∧ meth.locks = false
section MV
variable {p : Program} {l : Launch} {e : Env} {R : Room} {s : State} {m : MethodId} {args : Array Value} {below : List Frame} {meth : Method} {c : Code} {D : va_G} {cl : List vw_C} {cI cC : ClassId} {tb : mvTb} {td : Nat → Option Nat} {A : Nat → Prop} {G : (Nat → Nat) → Prop} {ρ : Type} {Q : ρ → State → Prop} {cells slots : Nat} {sh : List mvSh} {L : List (Option mvV)} {st : List mvV} {pc : Nat} {w : mvW} {r r1 r2 : Option ρ} {cc : ByteArray} {nL : Nat} {own : String} {Ts : List Cond}
theorem mv_X.x (h : mv_X p s m args meth c D cl cI cC tb td A cc nL own Ts) : p.tables.exec = Jvm.exec := h.1
theorem mv_X.b (h : mv_X p s m args meth c D cl cI cC tb td A cc nL own Ts) : c.code = cc := h.2.1
theorem mv_X.ml (h : mv_X p s m args meth c D cl cI cC tb td A cc nL own Ts) : c.maxLocals = nL := h.2.2.1
theorem mv_X.o (h : mv_X p s m args meth c D cl cI cC tb td A cc nL own Ts) : s.vm.findClass own = some m.cls := h.2.2.2.1
theorem mv_X.ts (h : mv_X p s m args meth c D cl cI cC tb td A cc nL own Ts) : ∀ w ∈ Ts, w.before args s = true := h.2.2.2.2.1
theorem mv_X.nw (h : mv_X p s m args meth c D cl cI cC tb td A cc nL own Ts) : ∀ q, s.heap.size ≤ q → A q := h.2.2.2.2.2.1
theorem mv_X.k (h : mv_X p s m args meth c D cl cI cC tb td A cc nL own Ts) : va_K D cl [(cI, .int), (cC, .char)] s := h.2.2.2.2.2.2.1
theorem mv_X.sta (h : mv_X p s m args meth c D cl cI cC tb td A cc nL own Ts) : mv_St tb td A s s.heap := h.2.2.2.2.2.2.2.1
theorem mv_X.lk (h : mv_X p s m args meth c D cl cI cC tb td A cc nL own Ts) : meth.locks = false := h.2.2.2.2.2.2.2.2
theorem ev_none : EV p l e R s m args below meth c D cl cI cC td A G Q cells slots sh L st pc w none := fun z h => by cases h
theorem ev_eq (h : r = r1) (k : EV p l e R s m args below meth c D cl cI cC td A G Q cells slots sh L st pc w r1) : EV p l e R s m args below meth c D cl cI cC td A G Q cells slots sh L st pc w r := h ▸ k
theorem ev_mask (bs : List Bool) {L' : List (Option mvV)} (hlen : bs.length = L.length) (hL : mv_mask bs L = L') (k : EV p l e R s m args below meth c D cl cI cC td A G Q cells slots sh L' st pc w r) : EV p l e R s m args below meth c D cl cI cC td A G Q cells slots sh L st pc w r := fun z hz ad H locs ls hG hl hP hD hS => k z hz ad H locs ls hG ⟨by rw [hl.1, ← hL, mv_mask_len bs L hlen], hl.2.1, fun i v h => hl.2.2 i v (mv_mask_get bs L i v (by rw [hL]; exact h))⟩ hP hD hS
theorem ev_iload_n (hX : mv_X p s m args meth c D cl cI cC tb td A cc nL own Ts) {i : Fin 4} {x : Int32} (hd : decode cc pc = .ok (.iload_n i, 1)) (hl0 : L[(i : Nat)]? = some (some (.inl x))) (k : EV p l e R s m args below meth c D cl cI cC td A G Q cells slots sh L (.inl x :: st) (pc + 1) w r) : EV p l e R s m args below meth c D cl cI cC td A G Q cells slots sh L st pc w r := fun z hz ad H locs ls hG hl hP hD hS => lv_iload_n hX.x hX.b hd rfl (hl.2.2 _ _ hl0) (k z hz ad H locs ls hG hl hP hD hS)
theorem ev_iload (hX : mv_X p s m args meth c D cl cI cC tb td A cc nL own Ts) {i : Nat} {x : Int32} (hd : decode cc pc = .ok (.iload i, 2)) (hl0 : L[i]? = some (some (.inl x))) (k : EV p l e R s m args below meth c D cl cI cC td A G Q cells slots sh L (.inl x :: st) (pc + 2) w r) : EV p l e R s m args below meth c D cl cI cC td A G Q cells slots sh L st pc w r := fun z hz ad H locs ls hG hl hP hD hS => lv_iload hX.x hX.b hd (hl.2.2 _ _ hl0) (k z hz ad H locs ls hG hl hP hD hS)
theorem ev_aload_n (hX : mv_X p s m args meth c D cl cI cC tb td A cc nL own Ts) {i : Fin 4} {x : Nat} (hd : decode cc pc = .ok (.aload_n i, 1)) (hl0 : L[(i : Nat)]? = some (some (.inr (.inl x)))) (k : EV p l e R s m args below meth c D cl cI cC td A G Q cells slots sh L (.inr (.inl x) :: st) (pc + 1) w r) : EV p l e R s m args below meth c D cl cI cC td A G Q cells slots sh L st pc w r := fun z hz ad H locs ls hG hl hP hD hS => by
  exact lv_aload_n hX.x hX.b hd rfl (hl.2.2 _ _ hl0) (k z hz ad H locs ls hG hl hP hD hS)
theorem ev_istore_n (hX : mv_X p s m args meth c D cl cI cC tb td A cc nL own Ts) {i : Fin 4} {x : Int32} {L' : List (Option mvV)} (hd : decode cc pc = .ok (.istore_n i, 1)) (hi : Nat.ble ((i : Nat) + 1) L.length = true) (hL : L.set (i : Nat) (some (.inl x)) = L') (k : EV p l e R s m args below meth c D cl cI cC td A G Q cells slots sh L' st (pc + 1) w r) : EV p l e R s m args below meth c D cl cI cC td A G Q cells slots sh L (.inl x :: st) pc w r := fun z hz ad H locs ls hG hl hP hD hS =>
  lv_istore_n hX.x hX.b hd rfl hl.has (Nat.le_of_ble_eq_true hi) rfl (fun ls' h => k z hz ad H locs ls' hG (hL ▸ mv_lh.set (x := .inl x) h) hP hD hS)
theorem ev_istore (hX : mv_X p s m args meth c D cl cI cC tb td A cc nL own Ts) {i : Nat} {x : Int32} {L' : List (Option mvV)} (hd : decode cc pc = .ok (.istore i, 2)) (hi : Nat.ble (i + 1) L.length = true) (hL : L.set i (some (.inl x)) = L') (k : EV p l e R s m args below meth c D cl cI cC td A G Q cells slots sh L' st (pc + 2) w r) : EV p l e R s m args below meth c D cl cI cC td A G Q cells slots sh L (.inl x :: st) pc w r := fun z hz ad H locs ls hG hl hP hD hS =>
  lv_istore hX.x hX.b hd hl.has (Nat.le_of_ble_eq_true hi) rfl (fun ls' h => k z hz ad H locs ls' hG (hL ▸ mv_lh.set (x := .inl x) h) hP hD hS)
theorem ev_iinc (hX : mv_X p s m args meth c D cl cI cC tb td A cc nL own Ts) {i : Nat} {n : Int} {x v : Int32} {L' : List (Option mvV)} (hd : decode cc pc = .ok (.iinc i n, 3)) (hl0 : L[i]? = some (some (.inl x))) (hv : Int32.ofInt n = v) (hL : L.set i (some (.inl (x + v))) = L') (k : EV p l e R s m args below meth c D cl cI cC td A G Q cells slots sh L' st (pc + 3) w r) : EV p l e R s m args below meth c D cl cI cC td A G Q cells slots sh L st pc w r := fun z hz ad H locs ls hG hl hP hD hS => by
  obtain ⟨q, hq⟩ := List.getElem?_of_mem (mv_la_mem (td := td) (ad := ad) hl0)
  exact lv_iinc hX.x hX.b hd hl.has hq (by rw [hv]) (List.getElem?_eq_some_iff.mp hl0).1 rfl (fun ls' h => k z hz ad H locs ls' hG (hL ▸ mv_lh.set (x := .inl (x + v)) h) hP hD hS)
theorem ev_iconst (hX : mv_X p s m args meth c D cl cI cC tb td A cc nL own Ts) {n : Int} {v : Int32} (hd : decode cc pc = .ok (.iconst n, 1)) (hv : Int32.ofInt n = v) (k : EV p l e R s m args below meth c D cl cI cC td A G Q cells slots sh L (.inl v :: st) (pc + 1) w r) : EV p l e R s m args below meth c D cl cI cC td A G Q cells slots sh L st pc w r := fun z hz ad H locs ls hG hl hP hD hS => lv_iconst hX.x hX.b hd hv (k z hz ad H locs ls hG hl hP hD hS)
theorem ev_bipush (hX : mv_X p s m args meth c D cl cI cC tb td A cc nL own Ts) {n : Int} {v : Int32} (hd : decode cc pc = .ok (.bipush n, 2)) (hv : (Int8.ofInt n).toInt32 = v) (k : EV p l e R s m args below meth c D cl cI cC td A G Q cells slots sh L (.inl v :: st) (pc + 2) w r) : EV p l e R s m args below meth c D cl cI cC td A G Q cells slots sh L st pc w r := fun z hz ad H locs ls hG hl hP hD hS => lv_bipush hX.x hX.b hd hv (k z hz ad H locs ls hG hl hP hD hS)
theorem ev_sipush (hX : mv_X p s m args meth c D cl cI cC tb td A cc nL own Ts) {n : Int} {v : Int32} (hd : decode cc pc = .ok (.sipush n, 3)) (hv : (Int16.ofInt n).toInt32 = v) (k : EV p l e R s m args below meth c D cl cI cC td A G Q cells slots sh L (.inl v :: st) (pc + 3) w r) : EV p l e R s m args below meth c D cl cI cC td A G Q cells slots sh L st pc w r := fun z hz ad H locs ls hG hl hP hD hS => lv_sipush hX.x hX.b hd hv (k z hz ad H locs ls hG hl hP hD hS)
theorem ev_ldc (hX : mv_X p s m args meth c D cl cI cC tb td A cc nL own Ts) {index : Nat} {v : Int32} (hd : decode cc pc = .ok (.ldc index, 2)) (hc : Cond.constant own index v ∈ Ts) (k : EV p l e R s m args below meth c D cl cI cC td A G Q cells slots sh L (.inl v :: st) (pc + 2) w r) : EV p l e R s m args below meth c D cl cI cC td A G Q cells slots sh L st pc w r := fun z hz ad H locs ls hG hl hP hD hS => lv_ldc hX.x hX.b hX.o (hX.ts _ hc) hd (k z hz ad H locs ls hG hl hP hD hS)
theorem ev_goto (hX : mv_X p s m args meth c D cl cI cC tb td A cc nL own Ts) {off : Int} {tgt : Nat} (hd : decode cc pc = .ok (.goto off, 3)) (ht : (pc : Int) + off = (tgt : Int)) (k : EV p l e R s m args below meth c D cl cI cC td A G Q cells slots sh L st tgt w r) : EV p l e R s m args below meth c D cl cI cC td A G Q cells slots sh L st pc w r := fun z hz ad H locs ls hG hl hP hD hS => lv_goto hX.x hX.b hd ht (k z hz ad H locs ls hG hl hP hD hS)
theorem ev_ifnull (hX : mv_X p s m args meth c D cl cI cC tb td A cc nL own Ts) {off : Int} {x : Nat} (hd : decode cc pc = .ok (.ifnull off, 3)) (k : EV p l e R s m args below meth c D cl cI cC td A G Q cells slots sh L st (pc + 3) w r) : EV p l e R s m args below meth c D cl cI cC td A G Q cells slots sh L (mvC x :: st) pc w r := fun z hz ad H locs ls hG hl hP hD hS => lv_ifnull hX.x hX.b hd (k z hz ad H locs ls hG hl hP hD hS)
theorem ev_pop (hX : mv_X p s m args meth c D cl cI cC tb td A cc nL own Ts) {v : mvV} (hd : decode cc pc = .ok (.pop, 1)) (k : EV p l e R s m args below meth c D cl cI cC td A G Q cells slots sh L st (pc + 1) w r) : EV p l e R s m args below meth c D cl cI cC td A G Q cells slots sh L (v :: st) pc w r := fun z hz ad H locs ls hG hl hP hD hS => lv_pop hX.x hX.b hd (mv_cat td ad v) (k z hz ad H locs ls hG hl hP hD hS)
theorem ev_dup (hX : mv_X p s m args meth c D cl cI cC tb td A cc nL own Ts) {v : mvV} (hd : decode cc pc = .ok (.dup, 1)) (k : EV p l e R s m args below meth c D cl cI cC td A G Q cells slots sh L (v :: v :: st) (pc + 1) w r) : EV p l e R s m args below meth c D cl cI cC td A G Q cells slots sh L (v :: st) pc w r := fun z hz ad H locs ls hG hl hP hD hS => lv_dup hX.x hX.b hd (mv_cat td ad v) (k z hz ad H locs ls hG hl hP hD hS)
theorem ev_dup2 (hX : mv_X p s m args meth c D cl cI cC tb td A cc nL own Ts) {v u : mvV} (hd : decode cc pc = .ok (.dup2, 1)) (k : EV p l e R s m args below meth c D cl cI cC td A G Q cells slots sh L (v :: u :: v :: u :: st) (pc + 1) w r) : EV p l e R s m args below meth c D cl cI cC td A G Q cells slots sh L (v :: u :: st) pc w r := fun z hz ad H locs ls hG hl hP hD hS => lv_dup2_11 hX.x hX.b hd (mv_cat td ad v) (mv_cat td ad u) (k z hz ad H locs ls hG hl hP hD hS)
theorem ev_iadd (hX : mv_X p s m args meth c D cl cI cC tb td A cc nL own Ts) {x y : Int32} (hd : decode cc pc = .ok (.iadd, 1)) (k : EV p l e R s m args below meth c D cl cI cC td A G Q cells slots sh L (.inl (x + y) :: st) (pc + 1) w r) : EV p l e R s m args below meth c D cl cI cC td A G Q cells slots sh L (.inl y :: .inl x :: st) pc w r := fun z hz ad H locs ls hG hl hP hD hS => lv_iadd hX.x hX.b hd (k z hz ad H locs ls hG hl hP hD hS)
theorem ev_isub (hX : mv_X p s m args meth c D cl cI cC tb td A cc nL own Ts) {x y : Int32} (hd : decode cc pc = .ok (.isub, 1)) (k : EV p l e R s m args below meth c D cl cI cC td A G Q cells slots sh L (.inl (x - y) :: st) (pc + 1) w r) : EV p l e R s m args below meth c D cl cI cC td A G Q cells slots sh L (.inl y :: .inl x :: st) pc w r := fun z hz ad H locs ls hG hl hP hD hS => lv_isub hX.x hX.b hd (k z hz ad H locs ls hG hl hP hD hS)
theorem ev_imul (hX : mv_X p s m args meth c D cl cI cC tb td A cc nL own Ts) {x y : Int32} (hd : decode cc pc = .ok (.imul, 1)) (k : EV p l e R s m args below meth c D cl cI cC td A G Q cells slots sh L (.inl (x * y) :: st) (pc + 1) w r) : EV p l e R s m args below meth c D cl cI cC td A G Q cells slots sh L (.inl y :: .inl x :: st) pc w r := fun z hz ad H locs ls hG hl hP hD hS => lv_imul hX.x hX.b hd (k z hz ad H locs ls hG hl hP hD hS)
theorem ev_iand (hX : mv_X p s m args meth c D cl cI cC tb td A cc nL own Ts) {x y : Int32} (hd : decode cc pc = .ok (.iand, 1)) (k : EV p l e R s m args below meth c D cl cI cC td A G Q cells slots sh L (.inl (x &&& y) :: st) (pc + 1) w r) : EV p l e R s m args below meth c D cl cI cC td A G Q cells slots sh L (.inl y :: .inl x :: st) pc w r := fun z hz ad H locs ls hG hl hP hD hS => lv_iand hX.x hX.b hd (k z hz ad H locs ls hG hl hP hD hS)
theorem ev_ior (hX : mv_X p s m args meth c D cl cI cC tb td A cc nL own Ts) {x y : Int32} (hd : decode cc pc = .ok (.ior, 1)) (k : EV p l e R s m args below meth c D cl cI cC td A G Q cells slots sh L (.inl (x ||| y) :: st) (pc + 1) w r) : EV p l e R s m args below meth c D cl cI cC td A G Q cells slots sh L (.inl y :: .inl x :: st) pc w r := fun z hz ad H locs ls hG hl hP hD hS => lv_ior hX.x hX.b hd (k z hz ad H locs ls hG hl hP hD hS)
theorem ev_ixor (hX : mv_X p s m args meth c D cl cI cC tb td A cc nL own Ts) {x y : Int32} (hd : decode cc pc = .ok (.ixor, 1)) (k : EV p l e R s m args below meth c D cl cI cC td A G Q cells slots sh L (.inl (x ^^^ y) :: st) (pc + 1) w r) : EV p l e R s m args below meth c D cl cI cC td A G Q cells slots sh L (.inl y :: .inl x :: st) pc w r := fun z hz ad H locs ls hG hl hP hD hS => lv_ixor hX.x hX.b hd (k z hz ad H locs ls hG hl hP hD hS)
theorem ev_ishl (hX : mv_X p s m args meth c D cl cI cC tb td A cc nL own Ts) {x y : Int32} (hd : decode cc pc = .ok (.ishl, 1)) (k : EV p l e R s m args below meth c D cl cI cC td A G Q cells slots sh L (.inl (x <<< (y &&& 31)) :: st) (pc + 1) w r) : EV p l e R s m args below meth c D cl cI cC td A G Q cells slots sh L (.inl y :: .inl x :: st) pc w r := fun z hz ad H locs ls hG hl hP hD hS => lv_ishl hX.x hX.b hd (k z hz ad H locs ls hG hl hP hD hS)
theorem ev_ishr (hX : mv_X p s m args meth c D cl cI cC tb td A cc nL own Ts) {x y : Int32} (hd : decode cc pc = .ok (.ishr, 1)) (k : EV p l e R s m args below meth c D cl cI cC td A G Q cells slots sh L (.inl (x >>> (y &&& 31)) :: st) (pc + 1) w r) : EV p l e R s m args below meth c D cl cI cC td A G Q cells slots sh L (.inl y :: .inl x :: st) pc w r := fun z hz ad H locs ls hG hl hP hD hS => lv_ishr hX.x hX.b hd (k z hz ad H locs ls hG hl hP hD hS)
theorem ev_idiv (hX : mv_X p s m args meth c D cl cI cC tb td A cc nL own Ts) {x y : Int32} (hd : decode cc pc = .ok (.idiv, 1)) (hne : ¬ y = 0) (k : EV p l e R s m args below meth c D cl cI cC td A G Q cells slots sh L (.inl (x / y) :: st) (pc + 1) w r) : EV p l e R s m args below meth c D cl cI cC td A G Q cells slots sh L (.inl y :: .inl x :: st) pc w r := fun z hz ad H locs ls hG hl hP hD hS => lv_idiv hX.x hX.b hd hne (k z hz ad H locs ls hG hl hP hD hS)
theorem ev_irem (hX : mv_X p s m args meth c D cl cI cC tb td A cc nL own Ts) {x y : Int32} (hd : decode cc pc = .ok (.irem, 1)) (hne : ¬ y = 0) (k : EV p l e R s m args below meth c D cl cI cC td A G Q cells slots sh L (.inl (x - x / y * y) :: st) (pc + 1) w r) : EV p l e R s m args below meth c D cl cI cC td A G Q cells slots sh L (.inl y :: .inl x :: st) pc w r := fun z hz ad H locs ls hG hl hP hD hS => lv_irem hX.x hX.b hd hne (k z hz ad H locs ls hG hl hP hD hS)
theorem ev_ineg (hX : mv_X p s m args meth c D cl cI cC tb td A cc nL own Ts) {x : Int32} (hd : decode cc pc = .ok (.ineg, 1)) (k : EV p l e R s m args below meth c D cl cI cC td A G Q cells slots sh L (.inl (-x) :: st) (pc + 1) w r) : EV p l e R s m args below meth c D cl cI cC td A G Q cells slots sh L (.inl x :: st) pc w r := fun z hz ad H locs ls hG hl hP hD hS => lv_ineg hX.x hX.b hd (k z hz ad H locs ls hG hl hP hD hS)
theorem ev_i2c (hX : mv_X p s m args meth c D cl cI cC tb td A cc nL own Ts) {x : Int32} (hd : decode cc pc = .ok (.i2c, 1)) (k : EV p l e R s m args below meth c D cl cI cC td A G Q cells slots sh L (.inl ((x.toUInt32 % 65536).toInt32) :: st) (pc + 1) w r) : EV p l e R s m args below meth c D cl cI cC td A G Q cells slots sh L (.inl x :: st) pc w r := fun z hz ad H locs ls hG hl hP hD hS => lv_i2c hX.x hX.b hd rfl (k z hz ad H locs ls hG hl hP hD hS)
theorem ev_if_eq (hX : mv_X p s m args meth c D cl cI cC tb td A cc nL own Ts) {x : Int32} {off : Int} {tgt : Nat} (hd : decode cc pc = .ok (.ifCond .eq off, 3)) (ht : (pc : Int) + off = (tgt : Int)) (k1 : EV p l e R s m args below meth c D cl cI cC td A G Q cells slots sh L st tgt w r1) (k2 : EV p l e R s m args below meth c D cl cI cC td A G Q cells slots sh L st (pc + 3) w r2) : EV p l e R s m args below meth c D cl cI cC td A G Q cells slots sh L (.inl x :: st) pc w (if x = 0 then r1 else r2) := fun z hz ad H locs ls hG hl hP hD hS => lv_if_eq hX.x hX.b hd ht (fun h => k1 z (by first | (rw [if_pos h] at hz; exact hz) | (rw [if_neg h] at hz; exact hz)) ad H locs ls hG hl hP hD hS) (fun h => k2 z (by first | (rw [if_neg h] at hz; exact hz) | (rw [if_pos (Decidable.not_not.mp h)] at hz; exact hz) | (rw [if_neg (not_not_intro h)] at hz; exact hz)) ad H locs ls hG hl hP hD hS)
theorem ev_icmp_eq (hX : mv_X p s m args meth c D cl cI cC tb td A cc nL own Ts) {x y : Int32} {off : Int} {tgt : Nat} (hd : decode cc pc = .ok (.if_icmp .eq off, 3)) (ht : (pc : Int) + off = (tgt : Int)) (k1 : EV p l e R s m args below meth c D cl cI cC td A G Q cells slots sh L st tgt w r1) (k2 : EV p l e R s m args below meth c D cl cI cC td A G Q cells slots sh L st (pc + 3) w r2) : EV p l e R s m args below meth c D cl cI cC td A G Q cells slots sh L (.inl y :: .inl x :: st) pc w (if x = y then r1 else r2) := fun z hz ad H locs ls hG hl hP hD hS => lv_icmp_eq hX.x hX.b hd ht (fun h => k1 z (by first | (rw [if_pos h] at hz; exact hz) | (rw [if_neg h] at hz; exact hz)) ad H locs ls hG hl hP hD hS) (fun h => k2 z (by first | (rw [if_neg h] at hz; exact hz) | (rw [if_pos (Decidable.not_not.mp h)] at hz; exact hz) | (rw [if_neg (not_not_intro h)] at hz; exact hz)) ad H locs ls hG hl hP hD hS)
theorem ev_if_ne (hX : mv_X p s m args meth c D cl cI cC tb td A cc nL own Ts) {x : Int32} {off : Int} {tgt : Nat} (hd : decode cc pc = .ok (.ifCond .ne off, 3)) (ht : (pc : Int) + off = (tgt : Int)) (k1 : EV p l e R s m args below meth c D cl cI cC td A G Q cells slots sh L st tgt w r1) (k2 : EV p l e R s m args below meth c D cl cI cC td A G Q cells slots sh L st (pc + 3) w r2) : EV p l e R s m args below meth c D cl cI cC td A G Q cells slots sh L (.inl x :: st) pc w (if ¬ x = 0 then r1 else r2) := fun z hz ad H locs ls hG hl hP hD hS => lv_if_ne hX.x hX.b hd ht (fun h => k1 z (by first | (rw [if_pos h] at hz; exact hz) | (rw [if_neg h] at hz; exact hz)) ad H locs ls hG hl hP hD hS) (fun h => k2 z (by first | (rw [if_neg h] at hz; exact hz) | (rw [if_pos (Decidable.not_not.mp h)] at hz; exact hz) | (rw [if_neg (not_not_intro h)] at hz; exact hz)) ad H locs ls hG hl hP hD hS)
theorem ev_icmp_ne (hX : mv_X p s m args meth c D cl cI cC tb td A cc nL own Ts) {x y : Int32} {off : Int} {tgt : Nat} (hd : decode cc pc = .ok (.if_icmp .ne off, 3)) (ht : (pc : Int) + off = (tgt : Int)) (k1 : EV p l e R s m args below meth c D cl cI cC td A G Q cells slots sh L st tgt w r1) (k2 : EV p l e R s m args below meth c D cl cI cC td A G Q cells slots sh L st (pc + 3) w r2) : EV p l e R s m args below meth c D cl cI cC td A G Q cells slots sh L (.inl y :: .inl x :: st) pc w (if ¬ x = y then r1 else r2) := fun z hz ad H locs ls hG hl hP hD hS => lv_icmp_ne hX.x hX.b hd ht (fun h => k1 z (by first | (rw [if_pos h] at hz; exact hz) | (rw [if_neg h] at hz; exact hz)) ad H locs ls hG hl hP hD hS) (fun h => k2 z (by first | (rw [if_neg h] at hz; exact hz) | (rw [if_pos (Decidable.not_not.mp h)] at hz; exact hz) | (rw [if_neg (not_not_intro h)] at hz; exact hz)) ad H locs ls hG hl hP hD hS)
theorem ev_if_lt (hX : mv_X p s m args meth c D cl cI cC tb td A cc nL own Ts) {x : Int32} {off : Int} {tgt : Nat} (hd : decode cc pc = .ok (.ifCond .lt off, 3)) (ht : (pc : Int) + off = (tgt : Int)) (k1 : EV p l e R s m args below meth c D cl cI cC td A G Q cells slots sh L st tgt w r1) (k2 : EV p l e R s m args below meth c D cl cI cC td A G Q cells slots sh L st (pc + 3) w r2) : EV p l e R s m args below meth c D cl cI cC td A G Q cells slots sh L (.inl x :: st) pc w (if x < 0 then r1 else r2) := fun z hz ad H locs ls hG hl hP hD hS => lv_if_lt hX.x hX.b hd ht (fun h => k1 z (by first | (rw [if_pos h] at hz; exact hz) | (rw [if_neg h] at hz; exact hz)) ad H locs ls hG hl hP hD hS) (fun h => k2 z (by first | (rw [if_neg h] at hz; exact hz) | (rw [if_pos (Decidable.not_not.mp h)] at hz; exact hz) | (rw [if_neg (not_not_intro h)] at hz; exact hz)) ad H locs ls hG hl hP hD hS)
theorem ev_icmp_lt (hX : mv_X p s m args meth c D cl cI cC tb td A cc nL own Ts) {x y : Int32} {off : Int} {tgt : Nat} (hd : decode cc pc = .ok (.if_icmp .lt off, 3)) (ht : (pc : Int) + off = (tgt : Int)) (k1 : EV p l e R s m args below meth c D cl cI cC td A G Q cells slots sh L st tgt w r1) (k2 : EV p l e R s m args below meth c D cl cI cC td A G Q cells slots sh L st (pc + 3) w r2) : EV p l e R s m args below meth c D cl cI cC td A G Q cells slots sh L (.inl y :: .inl x :: st) pc w (if x < y then r1 else r2) := fun z hz ad H locs ls hG hl hP hD hS => lv_icmp_lt hX.x hX.b hd ht (fun h => k1 z (by first | (rw [if_pos h] at hz; exact hz) | (rw [if_neg h] at hz; exact hz)) ad H locs ls hG hl hP hD hS) (fun h => k2 z (by first | (rw [if_neg h] at hz; exact hz) | (rw [if_pos (Decidable.not_not.mp h)] at hz; exact hz) | (rw [if_neg (not_not_intro h)] at hz; exact hz)) ad H locs ls hG hl hP hD hS)
theorem ev_if_ge (hX : mv_X p s m args meth c D cl cI cC tb td A cc nL own Ts) {x : Int32} {off : Int} {tgt : Nat} (hd : decode cc pc = .ok (.ifCond .ge off, 3)) (ht : (pc : Int) + off = (tgt : Int)) (k1 : EV p l e R s m args below meth c D cl cI cC td A G Q cells slots sh L st tgt w r1) (k2 : EV p l e R s m args below meth c D cl cI cC td A G Q cells slots sh L st (pc + 3) w r2) : EV p l e R s m args below meth c D cl cI cC td A G Q cells slots sh L (.inl x :: st) pc w (if 0 ≤ x then r1 else r2) := fun z hz ad H locs ls hG hl hP hD hS => lv_if_ge hX.x hX.b hd ht (fun h => k1 z (by first | (rw [if_pos h] at hz; exact hz) | (rw [if_neg h] at hz; exact hz)) ad H locs ls hG hl hP hD hS) (fun h => k2 z (by first | (rw [if_neg h] at hz; exact hz) | (rw [if_pos (Decidable.not_not.mp h)] at hz; exact hz) | (rw [if_neg (not_not_intro h)] at hz; exact hz)) ad H locs ls hG hl hP hD hS)
theorem ev_icmp_ge (hX : mv_X p s m args meth c D cl cI cC tb td A cc nL own Ts) {x y : Int32} {off : Int} {tgt : Nat} (hd : decode cc pc = .ok (.if_icmp .ge off, 3)) (ht : (pc : Int) + off = (tgt : Int)) (k1 : EV p l e R s m args below meth c D cl cI cC td A G Q cells slots sh L st tgt w r1) (k2 : EV p l e R s m args below meth c D cl cI cC td A G Q cells slots sh L st (pc + 3) w r2) : EV p l e R s m args below meth c D cl cI cC td A G Q cells slots sh L (.inl y :: .inl x :: st) pc w (if y ≤ x then r1 else r2) := fun z hz ad H locs ls hG hl hP hD hS => lv_icmp_ge hX.x hX.b hd ht (fun h => k1 z (by first | (rw [if_pos h] at hz; exact hz) | (rw [if_neg h] at hz; exact hz)) ad H locs ls hG hl hP hD hS) (fun h => k2 z (by first | (rw [if_neg h] at hz; exact hz) | (rw [if_pos (Decidable.not_not.mp h)] at hz; exact hz) | (rw [if_neg (not_not_intro h)] at hz; exact hz)) ad H locs ls hG hl hP hD hS)
theorem ev_if_gt (hX : mv_X p s m args meth c D cl cI cC tb td A cc nL own Ts) {x : Int32} {off : Int} {tgt : Nat} (hd : decode cc pc = .ok (.ifCond .gt off, 3)) (ht : (pc : Int) + off = (tgt : Int)) (k1 : EV p l e R s m args below meth c D cl cI cC td A G Q cells slots sh L st tgt w r1) (k2 : EV p l e R s m args below meth c D cl cI cC td A G Q cells slots sh L st (pc + 3) w r2) : EV p l e R s m args below meth c D cl cI cC td A G Q cells slots sh L (.inl x :: st) pc w (if 0 < x then r1 else r2) := fun z hz ad H locs ls hG hl hP hD hS => lv_if_gt hX.x hX.b hd ht (fun h => k1 z (by first | (rw [if_pos h] at hz; exact hz) | (rw [if_neg h] at hz; exact hz)) ad H locs ls hG hl hP hD hS) (fun h => k2 z (by first | (rw [if_neg h] at hz; exact hz) | (rw [if_pos (Decidable.not_not.mp h)] at hz; exact hz) | (rw [if_neg (not_not_intro h)] at hz; exact hz)) ad H locs ls hG hl hP hD hS)
theorem ev_icmp_gt (hX : mv_X p s m args meth c D cl cI cC tb td A cc nL own Ts) {x y : Int32} {off : Int} {tgt : Nat} (hd : decode cc pc = .ok (.if_icmp .gt off, 3)) (ht : (pc : Int) + off = (tgt : Int)) (k1 : EV p l e R s m args below meth c D cl cI cC td A G Q cells slots sh L st tgt w r1) (k2 : EV p l e R s m args below meth c D cl cI cC td A G Q cells slots sh L st (pc + 3) w r2) : EV p l e R s m args below meth c D cl cI cC td A G Q cells slots sh L (.inl y :: .inl x :: st) pc w (if y < x then r1 else r2) := fun z hz ad H locs ls hG hl hP hD hS => lv_icmp_gt hX.x hX.b hd ht (fun h => k1 z (by first | (rw [if_pos h] at hz; exact hz) | (rw [if_neg h] at hz; exact hz)) ad H locs ls hG hl hP hD hS) (fun h => k2 z (by first | (rw [if_neg h] at hz; exact hz) | (rw [if_pos (Decidable.not_not.mp h)] at hz; exact hz) | (rw [if_neg (not_not_intro h)] at hz; exact hz)) ad H locs ls hG hl hP hD hS)
theorem ev_if_le (hX : mv_X p s m args meth c D cl cI cC tb td A cc nL own Ts) {x : Int32} {off : Int} {tgt : Nat} (hd : decode cc pc = .ok (.ifCond .le off, 3)) (ht : (pc : Int) + off = (tgt : Int)) (k1 : EV p l e R s m args below meth c D cl cI cC td A G Q cells slots sh L st tgt w r1) (k2 : EV p l e R s m args below meth c D cl cI cC td A G Q cells slots sh L st (pc + 3) w r2) : EV p l e R s m args below meth c D cl cI cC td A G Q cells slots sh L (.inl x :: st) pc w (if x ≤ 0 then r1 else r2) := fun z hz ad H locs ls hG hl hP hD hS => lv_if_le hX.x hX.b hd ht (fun h => k1 z (by first | (rw [if_pos h] at hz; exact hz) | (rw [if_neg h] at hz; exact hz)) ad H locs ls hG hl hP hD hS) (fun h => k2 z (by first | (rw [if_neg h] at hz; exact hz) | (rw [if_pos (Decidable.not_not.mp h)] at hz; exact hz) | (rw [if_neg (not_not_intro h)] at hz; exact hz)) ad H locs ls hG hl hP hD hS)
theorem ev_icmp_le (hX : mv_X p s m args meth c D cl cI cC tb td A cc nL own Ts) {x y : Int32} {off : Int} {tgt : Nat} (hd : decode cc pc = .ok (.if_icmp .le off, 3)) (ht : (pc : Int) + off = (tgt : Int)) (k1 : EV p l e R s m args below meth c D cl cI cC td A G Q cells slots sh L st tgt w r1) (k2 : EV p l e R s m args below meth c D cl cI cC td A G Q cells slots sh L st (pc + 3) w r2) : EV p l e R s m args below meth c D cl cI cC td A G Q cells slots sh L (.inl y :: .inl x :: st) pc w (if x ≤ y then r1 else r2) := fun z hz ad H locs ls hG hl hP hD hS => lv_icmp_le hX.x hX.b hd ht (fun h => k1 z (by first | (rw [if_pos h] at hz; exact hz) | (rw [if_neg h] at hz; exact hz)) ad H locs ls hG hl hP hD hS) (fun h => k2 z (by first | (rw [if_neg h] at hz; exact hz) | (rw [if_pos (Decidable.not_not.mp h)] at hz; exact hz) | (rw [if_neg (not_not_intro h)] at hz; exact hz)) ad H locs ls hG hl hP hD hS)
theorem mv_wl_set0 (cI cC : ClassId) (ad : Nat → Nat) (w w' : mvW) {y : mvSh} {sh : List mvSh} {k : Nat} {x : va_E} (h : sh[k]? = some y) (hw : ∀ c, c ≠ k → w' c = w c) (hx : mv_ent cI cC ad (w' k) y = x) : (mv_wl cI cC ad w 0 sh).set k (ad k, x) = mv_wl cI cC ad w' 0 sh := by
  have := mv_wl_set cI cC ad w w' sh 0 k h (fun c hc => hw c (by omega))
  rw [Nat.zero_add] at this
  rw [← hx]; exact this
theorem mv_up_ne (w : mvW) (k i : Nat) (x : Int32) {c : Nat} (h : c ≠ k) : mv_up w k i x c = w c := by simp [mv_up, h]
theorem mv_up_eq (w : mvW) (k i : Nat) (x : Int32) : mv_up w k i x k = upd (w k) i x := by simp [mv_up]
theorem ev_get (hX : mv_X p s m args meth c D cl cI cC tb td A cc nL own Ts) {k0 ci k index N : Nat} {fs : List (Option (Option Nat))} {C : String} {T : u_T} (hin : ∀ w ∈ u_ws C T N, w ∈ Ts) (hs : sh[k0]? = some (.inr (ci, fs))) (hc : cl[ci]? = some (C, T, N)) (hk : Nat.ble (k + 1) N = true) (hlink : Cond.fieldLink own index (T k).1 (T k).2.1 (T k).2.2.1 ∈ Ts) (hv : fs[k]? = some none) (hd : decode cc pc = .ok (.getfield index, 3)) (kk : EV p l e R s m args below meth c D cl cI cC td A G Q cells slots sh L (.inl (w k0 k) :: st) (pc + 3) w r) : EV p l e R s m args below meth c D cl cI cC td A G Q cells slots sh L (mvC k0 :: st) pc w r := fun z hz ad H locs ls hG hl hP hD hS =>
  va_get hX.x hX.b hX.ts hin hX.o hX.k hP k0 (mv_wl_at cI cC ad w hs) hc k (Nat.le_of_ble_eq_true hk) (hX.ts _ hlink) (fun _ h9 => h9) (by rw [mv_fld_get, hv]; simp only [Option.map_some, Nat.zero_add]; rfl) hd (kk z hz ad H locs ls hG hl hP hD hS)
theorem ev_getr (hX : mv_X p s m args meth c D cl cI cC tb td A cc nL own Ts) {k0 ci k index N j : Nat} {fs : List (Option (Option Nat))} {C : String} {T : u_T} (hin : ∀ w ∈ u_ws C T N, w ∈ Ts) (hs : sh[k0]? = some (.inr (ci, fs))) (hc : cl[ci]? = some (C, T, N)) (hk : Nat.ble (k + 1) N = true) (hlink : Cond.fieldLink own index (T k).1 (T k).2.1 (T k).2.2.1 ∈ Ts) (hv : fs[k]? = some (some (some j))) (hd : decode cc pc = .ok (.getfield index, 3)) (kk : EV p l e R s m args below meth c D cl cI cC td A G Q cells slots sh L (mvC j :: st) (pc + 3) w r) : EV p l e R s m args below meth c D cl cI cC td A G Q cells slots sh L (mvC k0 :: st) pc w r := fun z hz ad H locs ls hG hl hP hD hS =>
  va_get hX.x hX.b hX.ts hin hX.o hX.k hP k0 (mv_wl_at cI cC ad w hs) hc k (Nat.le_of_ble_eq_true hk) (hX.ts _ hlink) (fun _ h9 => h9) (by rw [mv_fld_get, hv]; rfl) hd (kk z hz ad H locs ls hG hl hP hD hS)
theorem ev_put (hX : mv_X p s m args meth c D cl cI cC tb td A cc nL own Ts) {k0 ci k index N : Nat} {fs : List (Option (Option Nat))} {C : String} {T : u_T} {x : Int32} {ty : FieldType} (hin : ∀ w ∈ u_ws C T N, w ∈ Ts) (ty0 : Nat → FieldType) (hty : ∀ k, k < N → parseFieldDescriptor (T k).2.2.1 = some (ty0 k)) (hnm : ∀ a, a < N → ∀ b, b < N → a ≠ b → (T a).2.1 ≠ (T b).2.1) (hs : sh[k0]? = some (.inr (ci, fs))) (hc : cl[ci]? = some (C, T, N)) (hk : Nat.ble (k + 1) N = true) (hlink : Cond.fieldLink own index (T k).1 (T k).2.1 (T k).2.2.1 ∈ Ts) (hfin : (T k).2.2.2 = false) (hdt : parseFieldDescriptor (T k).2.2.1 = some ty) (hn : narrow ty (.int x) = .int x) (hfit : fits ty (.int x) = true) (hv : fs[k]? = some none) (hd : decode cc pc = .ok (.putfield index, 3)) (kk : EV p l e R s m args below meth c D cl cI cC td A G Q cells slots sh L st (pc + 3) (mv_up w k0 k x) r) : EV p l e R s m args below meth c D cl cI cC td A G Q cells slots sh L (.inl x :: mvC k0 :: st) pc w r := fun z hz ad H locs ls hG hl hP hD hS => by
  have e : (mv_wl cI cC ad w 0 sh).set k0 (ad k0, .inr (ci, (mv_fld ad (w k0) 0 fs).set k (.int x))) = mv_wl cI cC ad (mv_up w k0 k x) 0 sh := mv_wl_set0 cI cC ad w _ hs (fun c hc => mv_up_ne w k0 k x hc) (by
    rw [mv_up_eq]
    have h := mv_fld_set ad (w k0) x fs 0 k hv
    rw [Nat.zero_add] at h
    rw [h]; rfl)
  exact va_put hX.x hX.b hX.ts hin ty0 hty hnm hX.o hX.k hP hD hS k0 (mv_wl_at cI cC ad w hs) hc k (Nat.le_of_ble_eq_true hk) (hX.ts _ hlink) (fun _ h9 => h9) hfin hdt hn hfit (by rw [mv_fld_len]; exact (List.getElem?_eq_some_iff.mp hv).1) hd (fun H1 locs1 hP1 hD1 hS1 => kk z hz ad H1 locs1 ls hG hl (e ▸ hP1) (e ▸ hD1) hS1)
/-- a place in a row, if it is one -/
def mv_ix (n : Nat) (i : Int32) : Option Nat := if 0 ≤ i.toInt ∧ i.toInt < (n : Int) then some i.toNatClampNeg else none
theorem mv_ix_in {n j : Nat} {i : Int32} (h : mv_ix n i = some j) : vp_in i n ∧ i.toNatClampNeg = j := by
  unfold mv_ix at h
  split at h
  next hc => cases h; exact ⟨vp_in_iff.mpr hc, rfl⟩
  next => cases h
theorem ev_iald (hX : mv_X p s m args meth c D cl cI cC tb td A cc nL own Ts) {k0 n : Nat} {i : Int32} {g : Nat → Option ρ} (hs : sh[k0]? = some (.inl (false, n))) (hd : decode cc pc = .ok (.iaload, 1)) (kk : ∀ j, EV p l e R s m args below meth c D cl cI cC td A G Q cells slots sh L (.inl (w k0 j) :: st) (pc + 1) w (g j)) : EV p l e R s m args below meth c D cl cI cC td A G Q cells slots sh L (.inl i :: mvC k0 :: st) pc w ((mv_ix n i).bind g) := fun z hz ad H locs ls hG hl hP hD hS => by
  obtain ⟨j, hj, hg⟩ := Option.bind_eq_some_iff.mp hz
  obtain ⟨h1, h2⟩ := mv_ix_in hj
  subst h2
  exact va_iald hX.x hX.b hX.k hP k0 0 (mv_wl_at cI cC ad w hs) rfl h1 hd (kk _ z hg ad H locs ls hG hl hP hD hS)
theorem ev_ialdc (hX : mv_X p s m args meth c D cl cI cC tb td A cc nL own Ts) {k0 n j : Nat} {i : Int32} (hs : sh[k0]? = some (.inl (false, n))) (hj : mv_ix n i = some j) (hd : decode cc pc = .ok (.iaload, 1)) (kk : EV p l e R s m args below meth c D cl cI cC td A G Q cells slots sh L (.inl (w k0 j) :: st) (pc + 1) w r) : EV p l e R s m args below meth c D cl cI cC td A G Q cells slots sh L (.inl i :: mvC k0 :: st) pc w r := fun z hz ad H locs ls hG hl hP hD hS => by
  obtain ⟨h1, h2⟩ := mv_ix_in hj
  subst h2
  exact va_iald hX.x hX.b hX.k hP k0 0 (mv_wl_at cI cC ad w hs) rfl h1 hd (kk z hz ad H locs ls hG hl hP hD hS)
theorem ev_cald (hX : mv_X p s m args meth c D cl cI cC tb td A cc nL own Ts) {k0 n : Nat} {i : Int32} {g : Nat → Option ρ} (hs : sh[k0]? = some (.inl (true, n))) (hd : decode cc pc = .ok (.caload, 1)) (kk : ∀ j, EV p l e R s m args below meth c D cl cI cC td A G Q cells slots sh L (.inl (w k0 j) :: st) (pc + 1) w (g j)) : EV p l e R s m args below meth c D cl cI cC td A G Q cells slots sh L (.inl i :: mvC k0 :: st) pc w ((mv_ix n i).bind g) := fun z hz ad H locs ls hG hl hP hD hS => by
  obtain ⟨j, hj, hg⟩ := Option.bind_eq_some_iff.mp hz
  obtain ⟨h1, h2⟩ := mv_ix_in hj
  subst h2
  exact va_cald hX.x hX.b hX.k hP k0 1 (mv_wl_at cI cC ad w hs) rfl h1 hd (kk _ z hg ad H locs ls hG hl hP hD hS)
theorem ev_iast (hX : mv_X p s m args meth c D cl cI cC tb td A cc nL own Ts) {k0 n : Nat} {i x : Int32} {g : Nat → Option ρ} (hs : sh[k0]? = some (.inl (false, n))) (hd : decode cc pc = .ok (.iastore, 1)) (kk : ∀ j, EV p l e R s m args below meth c D cl cI cC td A G Q cells slots sh L st (pc + 1) (mv_up w k0 j x) (g j)) : EV p l e R s m args below meth c D cl cI cC td A G Q cells slots sh L (.inl x :: .inl i :: mvC k0 :: st) pc w ((mv_ix n i).bind g) := fun z hz ad H locs ls hG hl hP hD hS => by
  obtain ⟨j, hj, hg⟩ := Option.bind_eq_some_iff.mp hz
  obtain ⟨h1, h2⟩ := mv_ix_in hj
  subst h2
  have e : (mv_wl cI cC ad w 0 sh).set k0 (ad k0, .inl (cI, n, .inl (upd (w k0) i.toNatClampNeg x))) = mv_wl cI cC ad (mv_up w k0 i.toNatClampNeg x) 0 sh := mv_wl_set0 cI cC ad w _ hs (fun c hc => mv_up_ne w k0 _ x hc) (by rw [mv_up_eq]; rfl)
  exact va_iast hX.x hX.b hX.k hP hD hS k0 0 (mv_wl_at cI cC ad w hs) rfl h1 hd (fun H1 locs1 hP1 hD1 hS1 => kk _ z hg ad H1 locs1 ls hG hl (e ▸ hP1) (e ▸ hD1) hS1)
theorem ev_iastc (hX : mv_X p s m args meth c D cl cI cC tb td A cc nL own Ts) {k0 n j : Nat} {i x : Int32} (hs : sh[k0]? = some (.inl (false, n))) (hj : mv_ix n i = some j) (hd : decode cc pc = .ok (.iastore, 1)) (kk : EV p l e R s m args below meth c D cl cI cC td A G Q cells slots sh L st (pc + 1) (mv_up w k0 j x) r) : EV p l e R s m args below meth c D cl cI cC td A G Q cells slots sh L (.inl x :: .inl i :: mvC k0 :: st) pc w r := fun z hz ad H locs ls hG hl hP hD hS => by
  obtain ⟨h1, h2⟩ := mv_ix_in hj
  subst h2
  have e : (mv_wl cI cC ad w 0 sh).set k0 (ad k0, .inl (cI, n, .inl (upd (w k0) i.toNatClampNeg x))) = mv_wl cI cC ad (mv_up w k0 i.toNatClampNeg x) 0 sh := mv_wl_set0 cI cC ad w _ hs (fun c hc => mv_up_ne w k0 _ x hc) (by rw [mv_up_eq]; rfl)
  exact va_iast hX.x hX.b hX.k hP hD hS k0 0 (mv_wl_at cI cC ad w hs) rfl h1 hd (fun H1 locs1 hP1 hD1 hS1 => kk z hz ad H1 locs1 ls hG hl (e ▸ hP1) (e ▸ hD1) hS1)
theorem ev_cast (hX : mv_X p s m args meth c D cl cI cC tb td A cc nL own Ts) {k0 n : Nat} {i x : Int32} {g : Nat → Option ρ} (hs : sh[k0]? = some (.inl (true, n))) (hd : decode cc pc = .ok (.castore, 1)) (kk : ∀ j, EV p l e R s m args below meth c D cl cI cC td A G Q cells slots sh L st (pc + 1) (mv_up w k0 j (vp_nar .char x)) (g j)) : EV p l e R s m args below meth c D cl cI cC td A G Q cells slots sh L (.inl x :: .inl i :: mvC k0 :: st) pc w ((mv_ix n i).bind g) := fun z hz ad H locs ls hG hl hP hD hS => by
  obtain ⟨j, hj, hg⟩ := Option.bind_eq_some_iff.mp hz
  obtain ⟨h1, h2⟩ := mv_ix_in hj
  subst h2
  have e : (mv_wl cI cC ad w 0 sh).set k0 (ad k0, .inl (cC, n, .inl (upd (w k0) i.toNatClampNeg (vp_nar .char x)))) = mv_wl cI cC ad (mv_up w k0 i.toNatClampNeg (vp_nar .char x)) 0 sh := mv_wl_set0 cI cC ad w _ hs (fun c hc => mv_up_ne w k0 _ _ hc) (by rw [mv_up_eq]; rfl)
  exact va_cast hX.x hX.b hX.k hP hD hS k0 1 (mv_wl_at cI cC ad w hs) rfl h1 hd (fun H1 locs1 hP1 hD1 hS1 => kk _ z hg ad H1 locs1 ls hG hl (e ▸ hP1) (e ▸ hD1) hS1)
theorem ev_alen (hX : mv_X p s m args meth c D cl cI cC tb td A cc nL own Ts) {k0 n : Nat} {v : Int32} {b : Bool} (hs : sh[k0]? = some (.inl (b, n))) (hv : Int32.ofNat n = v) (hd : decode cc pc = .ok (.arraylength, 1)) (kk : EV p l e R s m args below meth c D cl cI cC td A G Q cells slots sh L (.inl v :: st) (pc + 1) w r) : EV p l e R s m args below meth c D cl cI cC td A G Q cells slots sh L (mvC k0 :: st) pc w r := fun z hz ad H locs ls hG hl hP hD hS => by
  have k1 := kk z hz ad H locs ls hG hl hP hD hS
  have h0 := mv_wl_at cI cC ad w hs
  cases b
  · exact va_alen hX.x hX.b hX.k hP k0 0 h0 rfl hv hd k1
  · exact va_alen hX.x hX.b hX.k hP k0 1 h0 rfl hv hd k1
theorem mv_valT {j t : Nat} (ad : Nat → Nat) (h : td j = some t) : mv_val td ad (mvT j) = .ref t := by simp [mv_val, mvT, h, va_rf]
theorem ev_gets (hX : mv_X p s m args meth c D cl cI cC tb td A cc nL own Ts) {j index : Nat} {C n : String} {xs : List Int32} (ht : tb.1[j]? = some (C, n, xs)) (hlink : Cond.fieldLink own index C n "[I" ∈ Ts) (hd : decode cc pc = .ok (.getstatic index, 3)) (kk : EV p l e R s m args below meth c D cl cI cC td A G Q cells slots sh L (mvT j :: st) (pc + 3) w r) : EV p l e R s m args below meth c D cl cI cC td A G Q cells slots sh L st pc w r := fun z hz ad H locs ls hG hl hP hD hS => by
  obtain ⟨t, h1, h2, h3⟩ := hX.sta.1 j _ ht
  have k1 := kk z hz ad H locs ls hG hl hP hD hS
  rw [List.map_cons, mv_valT ad h1] at k1
  exact va_gets hX.x hX.b h2 hS hX.o (hX.ts _ hlink) (fun _ h9 => h9) hd k1
theorem ev_getsN (hX : mv_X p s m args meth c D cl cI cC tb td A cc nL own Ts) {j index : Nat} {C n host : String} {xs : List Int32} (ht : tb.1[j]? = some (C, n, xs)) (hlink : (own, index, C, n, "[I", host) ∈ tb.2.2.2) (hd : decode cc pc = .ok (.getstatic index, 3)) (kk : EV p l e R s m args below meth c D cl cI cC td A G Q cells slots sh L (mvT j :: st) (pc + 3) w r) : EV p l e R s m args below meth c D cl cI cC td A G Q cells slots sh L st pc w r := fun z hz ad H locs ls hG hl hP hD hS => by
  obtain ⟨t, h1, h2, h3⟩ := hX.sta.1 j _ ht
  have k1 := kk z hz ad H locs ls hG hl hP hD hS
  rw [List.map_cons, mv_valT ad h1] at k1
  exact va_getsN hX.x hX.b h2 hS hX.o (va_Nw.use rfl (hX.sta.2.2.2.2.2 _ hlink)) (fun _ h9 => h9) hd k1
theorem ev_tald (hX : mv_X p s m args meth c D cl cI cC tb td A cc nL own Ts) {j : Nat} {C n : String} {xs : List Int32} {i : Int32} {g : Nat → Option ρ} (ht : tb.1[j]? = some (C, n, xs)) (hd : decode cc pc = .ok (.iaload, 1)) (kk : ∀ q, EV p l e R s m args below meth c D cl cI cC td A G Q cells slots sh L (.inl (xs.getD q 0) :: st) (pc + 1) w (g q)) : EV p l e R s m args below meth c D cl cI cC td A G Q cells slots sh L (.inl i :: mvT j :: st) pc w ((mv_ix xs.length i).bind g) := fun z hz ad H locs ls hG hl hP hD hS => by
  obtain ⟨q, hj, hg⟩ := Option.bind_eq_some_iff.mp hz
  obtain ⟨h1, h2⟩ := mv_ix_in hj
  subst h2
  obtain ⟨t, a1, -, a3⟩ := hX.sta.1 j _ ht
  rw [List.map_cons, List.map_cons, mv_valT ad a1]
  exact va_ti hX.x hX.b a3 hS h1 rfl hd (kk _ z hg ad H locs ls hG hl hP hD hS)
theorem ev_tlen (hX : mv_X p s m args meth c D cl cI cC tb td A cc nL own Ts) {j : Nat} {C n : String} {xs : List Int32} {v : Int32} (ht : tb.1[j]? = some (C, n, xs)) (hv : Int32.ofNat xs.length = v) (hd : decode cc pc = .ok (.arraylength, 1)) (kk : EV p l e R s m args below meth c D cl cI cC td A G Q cells slots sh L (.inl v :: st) (pc + 1) w r) : EV p l e R s m args below meth c D cl cI cC td A G Q cells slots sh L (mvT j :: st) pc w r := fun z hz ad H locs ls hG hl hP hD hS => by
  obtain ⟨t, a1, -, a3⟩ := hX.sta.1 j _ ht
  rw [List.map_cons, mv_valT ad a1]
  exact va_tlen hX.x hX.b a3 hS hv hd (kk z hz ad H locs ls hG hl hP hD hS)
theorem ev_taload_n (hX : mv_X p s m args meth c D cl cI cC tb td A cc nL own Ts) {i : Fin 4} {x : Nat} (hd : decode cc pc = .ok (.aload_n i, 1)) (hl0 : L[(i : Nat)]? = some (some (mvT x))) (htd : ∃ t, td x = some t) (k : EV p l e R s m args below meth c D cl cI cC td A G Q cells slots sh L (mvT x :: st) (pc + 1) w r) : EV p l e R s m args below meth c D cl cI cC td A G Q cells slots sh L st pc w r := fun z hz ad H locs ls hG hl hP hD hS => by
  obtain ⟨t, ht⟩ := htd
  have k1 := k z hz ad H locs ls hG hl hP hD hS
  have h1 := hl.2.2 _ _ hl0
  rw [List.map_cons, mv_valT ad ht] at k1
  rw [mv_valT ad ht] at h1
  exact lv_aload_n hX.x hX.b hd rfl h1 k1
theorem ev_ldcS (hX : mv_X p s m args meth c D cl cI cC tb td A cc nL own Ts) {k0 index : Nat} {x : String × Nat × String × List Int32} (ht : tb.2.2.1[k0]? = some x) (ho : x.1 = own) (hi : x.2.1 = index) (hd : decode cc pc = .ok (.ldc index, 2)) (kk : EV p l e R s m args below meth c D cl cI cC td A G Q cells slots sh L (mvT (1000 + 2 * k0) :: st) (pc + 2) w r) : EV p l e R s m args below meth c D cl cI cC td A G Q cells slots sh L st pc w r := fun z hz ad H locs ls hG hl hP hD hS => by
  obtain ⟨a, t, h1, -, h3, -⟩ := hX.sta.2.2.1 k0 _ ht
  subst ho; subst hi
  have k1 := kk z hz ad H locs ls hG hl hP hD hS
  rw [List.map_cons, mv_valT ad h1] at k1
  exact va_ldcS hX.x hX.b hX.o h3 hd k1
theorem ev_getV (hX : mv_X p s m args meth c D cl cI cC tb td A cc nL own Ts) {k0 index : Nat} {x : String × Nat × String × List Int32} (ht : tb.2.2.1[k0]? = some x) (hlink : Cond.fieldLink own index "java/lang/String" "value" "[B" ∈ Ts) (hd : decode cc pc = .ok (.getfield index, 3)) (kk : EV p l e R s m args below meth c D cl cI cC td A G Q cells slots sh L (mvT (1001 + 2 * k0) :: st) (pc + 3) w r) : EV p l e R s m args below meth c D cl cI cC td A G Q cells slots sh L (mvT (1000 + 2 * k0) :: st) pc w r := fun z hz ad H locs ls hG hl hP hD hS => by
  obtain ⟨a, t, h1, h2, -, -, -, h6, -⟩ := hX.sta.2.2.1 k0 _ ht
  have k1 := kk z hz ad H locs ls hG hl hP hD hS
  rw [List.map_cons, mv_valT ad h2] at k1
  rw [List.map_cons, mv_valT ad h1]
  exact vk_getf hX.x hX.b h6 hS hX.o (hX.ts _ hlink) (fun _ h9 => h9) hd k1
theorem ev_getK (hX : mv_X p s m args meth c D cl cI cC tb td A cc nL own Ts) {k0 index : Nat} {x : String × Nat × String × List Int32} (ht : tb.2.2.1[k0]? = some x) (hlink : Cond.fieldLink own index "java/lang/String" "coder" "B" ∈ Ts) (hd : decode cc pc = .ok (.getfield index, 3)) (kk : EV p l e R s m args below meth c D cl cI cC td A G Q cells slots sh L (.inl 0 :: st) (pc + 3) w r) : EV p l e R s m args below meth c D cl cI cC td A G Q cells slots sh L (mvT (1000 + 2 * k0) :: st) pc w r := fun z hz ad H locs ls hG hl hP hD hS => by
  obtain ⟨a, t, h1, h2, -, -, h5, -, -⟩ := hX.sta.2.2.1 k0 _ ht
  rw [List.map_cons, mv_valT ad h1]
  exact vk_getf hX.x hX.b h5 hS hX.o (hX.ts _ hlink) (fun _ h9 => h9) hd (kk z hz ad H locs ls hG hl hP hD hS)
theorem ev_tbald (hX : mv_X p s m args meth c D cl cI cC tb td A cc nL own Ts) {k0 : Nat} {x : String × Nat × String × List Int32} {i : Int32} {g : Nat → Option ρ} (ht : tb.2.2.1[k0]? = some x) (hd : decode cc pc = .ok (.baload, 1)) (kk : ∀ q, EV p l e R s m args below meth c D cl cI cC td A G Q cells slots sh L (.inl (x.2.2.2.getD q 0) :: st) (pc + 1) w (g q)) : EV p l e R s m args below meth c D cl cI cC td A G Q cells slots sh L (.inl i :: mvT (1001 + 2 * k0) :: st) pc w ((mv_ix x.2.2.2.length i).bind g) := fun z hz ad H locs ls hG hl hP hD hS => by
  obtain ⟨q, hj, hg⟩ := Option.bind_eq_some_iff.mp hz
  obtain ⟨h1, h2⟩ := mv_ix_in hj
  subst h2
  obtain ⟨a, t, -, a2, -, -, -, -, a7⟩ := hX.sta.2.2.1 k0 _ ht
  rw [List.map_cons, List.map_cons, mv_valT ad a2]
  exact va_tb hX.x hX.b a7 hS h1 rfl hd (kk _ z hg ad H locs ls hG hl hP hD hS)
theorem ev_tblen (hX : mv_X p s m args meth c D cl cI cC tb td A cc nL own Ts) {k0 : Nat} {x : String × Nat × String × List Int32} {v : Int32} (ht : tb.2.2.1[k0]? = some x) (hv : Int32.ofNat x.2.2.2.length = v) (hd : decode cc pc = .ok (.arraylength, 1)) (kk : EV p l e R s m args below meth c D cl cI cC td A G Q cells slots sh L (.inl v :: st) (pc + 1) w r) : EV p l e R s m args below meth c D cl cI cC td A G Q cells slots sh L (mvT (1001 + 2 * k0) :: st) pc w r := fun z hz ad H locs ls hG hl hP hD hS => by
  obtain ⟨a, t, -, a2, -, -, -, -, a7⟩ := hX.sta.2.2.1 k0 _ ht
  rw [List.map_cons, mv_valT ad a2]
  exact va_tlen hX.x hX.b a7 hS hv hd (kk z hz ad H locs ls hG hl hP hD hS)
theorem ev_iushr (hX : mv_X p s m args meth c D cl cI cC tb td A cc nL own Ts) {x y : Int32} (hd : decode cc pc = .ok (.iushr, 1)) (k : EV p l e R s m args below meth c D cl cI cC td A G Q cells slots sh L (.inl ((x.toUInt32 >>> (y.toUInt32 &&& Int32.toUInt32 31)).toInt32) :: st) (pc + 1) w r) : EV p l e R s m args below meth c D cl cI cC td A G Q cells slots sh L (.inl y :: .inl x :: st) pc w r := fun z hz ad H locs ls hG hl hP hD hS => lv_iushr hX.x hX.b hd rfl (k z hz ad H locs ls hG hl hP hD hS)
theorem ev_ldcw (hX : mv_X p s m args meth c D cl cI cC tb td A cc nL own Ts) {index : Nat} {v : Int32} (hd : decode cc pc = .ok (.ldc_w index, 3)) (hc : Cond.constant own index v ∈ Ts) (k : EV p l e R s m args below meth c D cl cI cC td A G Q cells slots sh L (.inl v :: st) (pc + 3) w r) : EV p l e R s m args below meth c D cl cI cC td A G Q cells slots sh L st pc w r := fun z hz ad H locs ls hG hl hP hD hS => lv_ldcw hX.x hX.b hX.o (hX.ts _ hc) hd (k z hz ad H locs ls hG hl hP hD hS)
def mv_cq (sp dp n : Int32) (n0 n1 : Nat) : Option (Nat × Nat × Nat) := if 0 ≤ sp.toInt ∧ 0 ≤ dp.toInt ∧ 0 ≤ n.toInt ∧ sp.toInt + n.toInt ≤ (n0 : Int) ∧ dp.toInt + n.toInt ≤ (n1 : Int) then some (sp.toNatClampNeg, dp.toNatClampNeg, n.toNatClampNeg) else none
theorem mv_nn {x : Int32} (h : 0 ≤ x.toInt) : ¬ x < 0 := by
  intro hx
  have := Int32.lt_iff_toInt_lt.mp hx
  have e : (0 : Int32).toInt = 0 := rfl
  omega
theorem ev_copy (hX : mv_X p s m args meth c D cl cI cC tb td A cc nL own Ts) {k0 k1 n0 n1 index : Nat} {sp dp n : Int32} {g : Nat × Nat × Nat → Option ρ} (hs0 : sh[k0]? = some (.inl (false, n0))) (hs1 : sh[k1]? = some (.inl (false, n1))) (hl1 : Cond.methodLink own index arraycopyName ∈ Ts) (hl2 : Cond.native arraycopyName ∈ Ts) (hl3 : Cond.static arraycopyName ∈ Ts) (hl4 : Cond.initialized "java/lang/System" ∈ Ts) (hnl : L.length = nL) (hframes : 1 ≤ R.frames) (hlocals : st.length + (nativeFrameWords "java/lang/System" "arraycopy" 5 + 11) ≤ R.locals) (hd : decode cc pc = .ok (.invokestatic index, 3))
    (kk : ∀ q, EV p l e R s m args below meth c D cl cI cC td A G Q cells slots sh L st (pc + 3) (mv_cp w k0 k1 q.1 q.2.1 q.2.2) (g q)) : EV p l e R s m args below meth c D cl cI cC td A G Q cells slots sh L (.inl n :: .inl dp :: mvC k1 :: .inl sp :: mvC k0 :: st) pc w ((mv_cq sp dp n n0 n1).bind g) := fun z hz ad H locs ls hG hl hP hD hS => by
  obtain ⟨q, hj, hg⟩ := Option.bind_eq_some_iff.mp hz
  unfold mv_cq at hj
  split at hj
  next hc =>
    cases hj
    obtain ⟨a1, a2, a3, a4, a5⟩ := hc
    have e : (mv_wl cI cC ad w 0 sh).set k1 (ad k1, .inl (cI, n1, .inl (va_cpy (w k0) (w k1) sp.toNatClampNeg dp.toNatClampNeg n.toNatClampNeg))) = mv_wl cI cC ad (mv_cp w k0 k1 sp.toNatClampNeg dp.toNatClampNeg n.toNatClampNeg) 0 sh := mv_wl_set0 cI cC ad w _ hs1 (fun c hc => by simp [mv_cp, hc]) (by simp [mv_cp, mv_ent])
    have t1 : sp.toNatClampNeg = sp.toInt.toNat := rfl
    have t2 : dp.toNatClampNeg = dp.toInt.toNat := rfl
    have t3 : n.toNatClampNeg = n.toInt.toNat := rfl
    exact va_copyi hX.x hX.b (by rw [hX.ml, hl.1, hnl]) hX.o (hX.ts _ hl1) (hX.ts _ hl2) (hX.ts _ hl3) (hX.ts _ hl4) hX.k hP hD hS k0 k1 0 0 (mv_wl_at cI cC ad w hs0) (mv_wl_at cI cC ad w hs1) rfl rfl rfl (mv_nn a1) (mv_nn a2) (mv_nn a3) (by omega) (by omega) (fun _ _ => rfl) hframes (by rw [mv_cats]; exact hlocals) hd (fun H1 locs1 hP1 hD1 hS1 => kk _ z hg ad H1 locs1 ls hG hl (e ▸ hP1) (e ▸ hD1) hS1)
  next => cases hj
theorem ev_case (v : Int32) {x : Int32} (k1 : x = v → EV p l e R s m args below meth c D cl cI cC td A G Q cells slots sh L st pc w r1) (k2 : ¬ x = v → EV p l e R s m args below meth c D cl cI cC td A G Q cells slots sh L st pc w r2) : EV p l e R s m args below meth c D cl cI cC td A G Q cells slots sh L st pc w (if x = v then r1 else r2) := by
  by_cases h : x = v
  · rw [if_pos h]; exact k1 h
  · rw [if_neg h]; exact k2 h
theorem ev_tsIn (hX : mv_X p s m args meth c D cl cI cC tb td A cc nL own Ts) {dflt lo hi off : Int} {offs : Array Int} {len tgt : Nat} {x v : Int32} (hd : decode cc pc = .ok (.tableswitch dflt lo hi offs, len)) (hx : x = v) (h1 : decide (v.toInt < lo) = false) (h2 : decide (hi < v.toInt) = false) (ho : offs[(v.toInt - lo).toNat]? = some off) (ht : (pc : Int) + off = (tgt : Int)) (k : EV p l e R s m args below meth c D cl cI cC td A G Q cells slots sh L st tgt w r) : EV p l e R s m args below meth c D cl cI cC td A G Q cells slots sh L (.inl x :: st) pc w r := fun z hz ad H locs ls hG hl hP hD hS => by
  subst hx
  exact lv_tableIn hX.x hX.b hd (of_decide_eq_false h1) (of_decide_eq_false h2) ho ht (k z hz ad H locs ls hG hl hP hD hS)
theorem ev_tsOut (hX : mv_X p s m args meth c D cl cI cC tb td A cc nL own Ts) {dflt lo hi : Int} {offs : Array Int} {len tgt : Nat} {x : Int32} (hd : decode cc pc = .ok (.tableswitch dflt lo hi offs, len)) (h : x.toInt < lo ∨ hi < x.toInt) (ht : (pc : Int) + dflt = (tgt : Int)) (k : EV p l e R s m args below meth c D cl cI cC td A G Q cells slots sh L st tgt w r) : EV p l e R s m args below meth c D cl cI cC td A G Q cells slots sh L (.inl x :: st) pc w r := fun z hz ad H locs ls hG hl hP hD hS => lv_tableOut hX.x hX.b hd h ht (k z hz ad H locs ls hG hl hP hD hS)
theorem ev_lks (hX : mv_X p s m args meth c D cl cI cC tb td A cc nL own Ts) {dflt off : Int} {ps : Array (Int × Int)} {len tgt : Nat} {x : Int32} (hd : decode cc pc = .ok (.lookupswitch dflt ps, len)) (hp : (ps.toList.zip (ps.toList.drop 1)).all (fun (a, next) => a.1 < next.1) = true) (ho : Op.lookupswitch.offset ps.toList dflt x.toInt = off) (ht : (pc : Int) + off = (tgt : Int)) (k : EV p l e R s m args below meth c D cl cI cC td A G Q cells slots sh L st tgt w r) : EV p l e R s m args below meth c D cl cI cC td A G Q cells slots sh L (.inl x :: st) pc w r := fun z hz ad H locs ls hG hl hP hD hS => lv_lookup hX.x hX.b hd hp ho ht (k z hz ad H locs ls hG hl hP hD hS)
theorem mv_swout (lo : Int) (n : Nat) {hi : Int} {x : Int32} (h : ∀ j, j < n → ¬ x = Int32.ofInt (lo + j)) (hl : -1000 ≤ lo) (hh : hi = lo + n - 1) (hb : hi ≤ 1000) : x.toInt < lo ∨ hi < x.toInt := by
  by_cases h1 : x.toInt < lo
  · exact Or.inl h1
  · by_cases h2 : hi < x.toInt
    · exact Or.inr h2
    · exfalso
      refine h (x.toInt - lo).toNat (by omega) ?_
      have e : lo + ((x.toInt - lo).toNat : Int) = x.toInt := by omega
      rw [e]
      exact (Int32.ofInt_toInt x).symm
end MV
/-! contracts -/
def mv_At (D : va_G) (cl : List vw_C) (cI cC : ClassId) (sh : List mvSh) (ad : Nat → Nat) (w : mvW) (A : Nat → Prop) (t : State) : Prop := va_P D cl (mv_wl cI cC ad w 0 sh) t.heap ∧ va_D A (mv_wl cI cC ad w 0 sh)
def mv_Pre (D : va_G) (cl : List vw_C) (cI cC : ClassId) (tb : mvTb) (td : Nat → Option Nat) (sh : List mvSh) (ad : Nat → Nat) (w : mvW) (sz : Nat) (av : List mvV) : Array Value → State → Prop := va_Pc (av.map (mv_val td ad)) (fun U => U.heap.size = sz ∧ va_P D cl (mv_wl cI cC ad w 0 sh) U.heap ∧ va_K D cl [(cI, .int), (cC, .char)] U ∧ va_D (fun _ => True) (mv_wl cI cC ad w 0 sh) ∧ mv_St tb td (va_A (mv_wl cI cC ad w 0 sh) sz) U U.heap)
theorem mv_Pre_blind (D : va_G) (cl : List vw_C) (cI cC : ClassId) (tb : mvTb) (td : Nat → Option Nat) (sh : List mvSh) (ad : Nat → Nat) (w : mvW) (sz : Nat) (av : List mvV) : FrameBlind (mv_Pre D cl cI cC tb td sh ad w sz av) := fun a U g mk q => by
  obtain ⟨q0, q1, qP, qK, qD, qS⟩ := q
  exact ⟨q0, q1, qP, va_K.moved (u := U) (U := U.calling g mk a) (Vm.Alike.refl U.vm) qK, qD, mv_St.same (u := U) (U := U.calling g mk a) rfl qS⟩
/-- an int comes back; the world's cells are the same, what they hold may not be -/
def mv_Ci (l : Launch) (D : va_G) (cl : List vw_C) (cI cC : ClassId) (tb : mvTb) (td : Nat → Option Nat) (y : MethodName) (ws : List Cond) (rm : Room) (sh : List mvSh) (w : mvW) (av : List mvV) (z : Int32 × mvW) : Prop := ∀ (ad : Nat → Nat) (sz : Nat), Met l y ws rm (mv_Pre D cl cI cC tb td sh ad w sz av) (va_Qi (fun (r : Int32) (_ : Unit) => r = z.1) (fun _ t => mv_At D cl cI cC sh ad z.2 (va_A (mv_wl cI cC ad w 0 sh) sz) t) (va_A (mv_wl cI cC ad w 0 sh) sz)) 0 0 (va_A (mv_wl cI cC ad w 0 sh) sz)
/-- nothing comes back -/
def mv_Cv (l : Launch) (D : va_G) (cl : List vw_C) (cI cC : ClassId) (tb : mvTb) (td : Nat → Option Nat) (y : MethodName) (ws : List Cond) (rm : Room) (sh : List mvSh) (w : mvW) (av : List mvV) (z : mvW) : Prop := ∀ (ad : Nat → Nat) (sz : Nat), Met l y ws rm (mv_Pre D cl cI cC tb td sh ad w sz av) (va_Qv (fun (_ : Unit) => True) (fun _ t => mv_At D cl cI cC sh ad z (va_A (mv_wl cI cC ad w 0 sh) sz) t) (va_A (mv_wl cI cC ad w 0 sh) sz)) 0 0 (va_A (mv_wl cI cC ad w 0 sh) sz)
/-- nothing comes back; new cells come -/
def mv_Cg (l : Launch) (D : va_G) (cl : List vw_C) (cI cC : ClassId) (tb : mvTb) (td : Nat → Option Nat) (y : MethodName) (ws : List Cond) (rm : Room) (sh sh' : List mvSh) (w : mvW) (av : List mvV) (mc ms : Nat) (z : mvW) : Prop := ∀ (ad : Nat → Nat) (sz : Nat), Met l y ws rm (mv_Pre D cl cI cC tb td sh ad w sz av) (va_Qv (fun (ad' : Nat → Nat) => ∀ k, k < sh.length → ad' k = ad k) (fun ad' t => mv_At D cl cI cC sh' ad' z (va_A (mv_wl cI cC ad w 0 sh) sz) t) (va_A (mv_wl cI cC ad w 0 sh) sz)) mc ms (va_A (mv_wl cI cC ad w 0 sh) sz)
abbrev mv_Qi (below : List Frame) (args : Array Value) (s : State) (D : va_G) (cl : List vw_C) (cI cC : ClassId) (sh : List mvSh) (ad : Nat → Nat) (A : Nat → Prop) (z : Int32 × mvW) : State → Prop := MQ below (va_Qi (fun (r : Int32) (_ : Unit) => r = z.1) (fun _ t => mv_At D cl cI cC sh ad z.2 A t) A) args s 0 0 A
abbrev mv_Qv (below : List Frame) (args : Array Value) (s : State) (D : va_G) (cl : List vw_C) (cI cC : ClassId) (sh : List mvSh) (ad : Nat → Nat) (A : Nat → Prop) (z : mvW) : State → Prop := MQ below (va_Qv (fun (_ : Unit) => True) (fun _ t => mv_At D cl cI cC sh ad z A t) A) args s 0 0 A
abbrev mv_Qg (below : List Frame) (args : Array Value) (s : State) (D : va_G) (cl : List vw_C) (cI cC : ClassId) (n0 : Nat) (sh' : List mvSh) (ad : Nat → Nat) (A : Nat → Prop) (mc ms : Nat) (z : mvW) : State → Prop := MQ below (va_Qv (fun (ad' : Nat → Nat) => ∀ k, k < n0 → ad' k = ad k) (fun ad' t => mv_At D cl cI cC sh' ad' z A t) A) args s mc ms A
theorem mv_entry (td : Nat → Option Nat) (ad : Nat → Nat) (m : MethodId) (av : List mvV) {maxL : Nat} (h : Nat.ble av.length maxL = true) : ∃ ls, entryFrame m (av.map (mv_val td ad)).toArray maxL = F0 m 0 ls [] ∧ mv_lh ls td ad (av.map some ++ List.replicate (maxL - av.length) none) := by
  have hlen : ∀ av : List mvV, (lg_sl (av.map (mv_val td ad))).length = av.length := by
    intro av
    induction av with
    | nil => rfl
    | cons v t ih => simp only [lg_sl, List.map_cons, List.flatMap_cons, mv_cat] at ih ⊢; simp at ih ⊢; omega
  have hargs : ∀ (av : List mvV) (n i : Nat) (v : mvV), av[i]? = some v → (n + i, mv_val td ad v) ∈ lv_args n (av.map (mv_val td ad)) := by
    intro av
    induction av with
    | nil => intro n i v h; simp at h
    | cons x t ih =>
      intro n i v h
      simp only [List.map_cons, lv_args, mv_cat]
      cases i with
      | zero => simp at h; subst h; simp
      | succ i =>
        simp at h
        have := ih (n + 1) i v h
        rw [show n + 1 + i = n + (i + 1) by omega] at this
        simp; exact this
  have h1 := lv_entry (av.map (mv_val td ad)) (n := maxL) (by rw [hlen]; exact Nat.le_of_ble_eq_true h)
  rw [lg_entry_eq]
  refine ⟨_, rfl, ?_, h1.2.1, fun i v hi => ?_⟩
  · rw [h1.1]; have := Nat.le_of_ble_eq_true h; simp; omega
  · refine h1.2.2 (i, mv_val td ad v) ?_
    have h2 : av[i]? = some v := by
      by_cases hlt : i < av.length
      · rw [List.getElem?_append_left (by simpa using hlt)] at hi
        simpa using hi
      · rw [List.getElem?_append_right (by simp; omega), List.getElem?_replicate] at hi
        split at hi <;> simp at hi
    have := hargs av 0 i v h2
    rwa [Nat.zero_add] at this
section MV2
variable {l : Launch} {D : va_G} {cl : List vw_C} {cI cC : ClassId} {tb : mvTb} {td : Nat → Option Nat} {sh : List mvSh} {w : mvW} {y : MethodName} {ws ws' : List Cond} {rm : Room} {cc : ByteArray} {maxL : Nat} {av : List mvV} {L0 : List (Option mvV)}
theorem mv_starti {ty : FieldType} {f : Option (Int32 × mvW)} {own : String} (ho : y.cls = own) (hy : plainName y.cls = true) (hw : ws = Cond.code y cc maxL (some ty) :: ws') (hav : Nat.ble av.length maxL = true) (hL0 : av.map some ++ List.replicate (maxL - av.length) none = L0)
    (body : ∀ p e s m args below meth c A ad, mv_X p s m args meth c D cl cI cC tb td A cc maxL own ws → meth.sig.returnType = some ty → EV p l e (headSpec ws rm).room s m args below meth c D cl cI cC td A (fun a => a = ad) (mv_Qi below args s D cl cI cC sh ad A) 0 0 sh L0 [] 0 w f) : ∀ z, f = some z → mv_Ci l D cl cI cC tb td y ws rm sh w av z := by
  intro z hz ad sz
  refine Met.ofW (cc := cc) (maxL := maxL) (ret := some ty) hy hw ?_
  intro p e s m args below meth c s₁ B hml hv
  obtain ⟨rfl, hsz, hP, hK, hD0, hSt⟩ := hv
  subst hsz
  have hD := hD0.self (sz := s.heap.size)
  have hA : ∀ q : Nat, s.heap.size ≤ q → va_A (mv_wl cI cC ad w 0 sh) s.heap.size q := fun q h => Or.inr h
  obtain ⟨ls, e1, e2⟩ := mv_entry td ad m av hav
  rw [e1]
  exact body p e s m _ below meth c _ ad ⟨B.exec, B.bytes, hml, ho ▸ findClass_of_methodNamed B.named, atoms_spec (ws := ws) B.pre, hA, hK, hSt, B.notSynchronized⟩ B.returns z hz ad s.heap [] ls rfl (hL0 ▸ e2) hP hD va_S.rf
theorem mv_startv {f : Option mvW} {own : String} (ho : y.cls = own) (hy : plainName y.cls = true) (hw : ws = Cond.code y cc maxL none :: ws') (hav : Nat.ble av.length maxL = true) (hL0 : av.map some ++ List.replicate (maxL - av.length) none = L0)
    (body : ∀ p e s m args below meth c A ad, mv_X p s m args meth c D cl cI cC tb td A cc maxL own ws → meth.sig.returnType = none → EV p l e (headSpec ws rm).room s m args below meth c D cl cI cC td A (fun a => a = ad) (mv_Qv below args s D cl cI cC sh ad A) 0 0 sh L0 [] 0 w f) : ∀ z, f = some z → mv_Cv l D cl cI cC tb td y ws rm sh w av z := by
  intro z hz ad sz
  refine Met.ofW (cc := cc) (maxL := maxL) (ret := none) hy hw ?_
  intro p e s m args below meth c s₁ B hml hv
  obtain ⟨rfl, hsz, hP, hK, hD0, hSt⟩ := hv
  subst hsz
  have hD := hD0.self (sz := s.heap.size)
  have hA : ∀ q : Nat, s.heap.size ≤ q → va_A (mv_wl cI cC ad w 0 sh) s.heap.size q := fun q h => Or.inr h
  obtain ⟨ls, e1, e2⟩ := mv_entry td ad m av hav
  rw [e1]
  exact body p e s m _ below meth c _ ad ⟨B.exec, B.bytes, hml, ho ▸ findClass_of_methodNamed B.named, atoms_spec (ws := ws) B.pre, hA, hK, hSt, B.notSynchronized⟩ B.returns z hz ad s.heap [] ls rfl (hL0 ▸ e2) hP hD va_S.rf
theorem mv_startg {f : Option mvW} {sh' : List mvSh} {mc ms : Nat} {own : String} (ho : y.cls = own) (hy : plainName y.cls = true) (hw : ws = Cond.code y cc maxL none :: ws') (hav : Nat.ble av.length maxL = true) (hL0 : av.map some ++ List.replicate (maxL - av.length) none = L0)
    (body : ∀ p e s m args below meth c A ad, mv_X p s m args meth c D cl cI cC tb td A cc maxL own ws → meth.sig.returnType = none → meth.name = y.name → EV p l e (headSpec ws rm).room s m args below meth c D cl cI cC td A (fun a => ∀ k, k < sh.length → a k = ad k) (mv_Qg below args s D cl cI cC sh.length sh' ad A mc ms) 0 0 sh L0 [] 0 w f) : ∀ z, f = some z → mv_Cg l D cl cI cC tb td y ws rm sh sh' w av mc ms z := by
  intro z hz ad sz
  refine Met.ofW (cc := cc) (maxL := maxL) (ret := none) hy hw ?_
  intro p e s m args below meth c s₁ B hml hv
  obtain ⟨rfl, hsz, hP, hK, hD0, hSt⟩ := hv
  subst hsz
  have hD := hD0.self (sz := s.heap.size)
  have hA : ∀ q : Nat, s.heap.size ≤ q → va_A (mv_wl cI cC ad w 0 sh) s.heap.size q := fun q h => Or.inr h
  obtain ⟨ls, e1, e2⟩ := mv_entry td ad m av hav
  rw [e1]
  exact body p e s m _ below meth c _ ad ⟨B.exec, B.bytes, hml, ho ▸ findClass_of_methodNamed B.named, atoms_spec (ws := ws) B.pre, hA, hK, hSt, B.notSynchronized⟩ B.returns (name_of_methodNamed B.named B.method).1 z hz ad s.heap [] ls (fun _ _ => rfl) (hL0 ▸ e2) hP hD va_S.rf
end MV2
section MV3
variable {p : Program} {l : Launch} {e : Env} {R : Room} {s : State} {m : MethodId} {args : Array Value} {below : List Frame} {meth : Method} {c : Code} {D : va_G} {cl : List vw_C} {cI cC : ClassId} {tb : mvTb} {td : Nat → Option Nat} {A : Nat → Prop} {G : (Nat → Nat) → Prop} {ρ : Type} {Q : ρ → State → Prop} {cells slots : Nat} {sh : List mvSh} {L : List (Option mvV)} {st : List mvV} {pc : Nat} {w : mvW} {r r1 r2 : Option ρ} {cc : ByteArray} {nL : Nat} {own : String} {Ts : List Cond} {ad0 : Nat → Nat}
theorem ev_ireti (hX : mv_X p s m args meth c D cl cI cC tb td A cc nL own Ts) (hr : meth.sig.returnType = some .int) {v : Int32} (hd : decode cc pc = .ok (.ireturn, 1)) : EV p l e R s m args below meth c D cl cI cC td A (fun a => a = ad0) (mv_Qi below args s D cl cI cC sh ad0 A) 0 0 sh L [.inl v] pc w (some (v, w)) := fun z hz ad H locs ls hG hl hP hD hS => by
  cases hz; subst hG
  exact W.iret (v := v) hX.x hX.b hr (fun t ht hW => ⟨⟨v, (), rfl, rfl, by rw [ht]; exact hP, hD⟩, hS.F ht⟩) hS.2.2 hd (hlocks := hX.lk)
def mv_bl (v : Int32) (w : mvW) : Option (Int32 × mvW) := if v = 0 ∨ v = 1 then some (v, w) else none
theorem ev_iretz (hX : mv_X p s m args meth c D cl cI cC tb td A cc nL own Ts) (hr : meth.sig.returnType = some .boolean) {v : Int32} (hd : decode cc pc = .ok (.ireturn, 1)) : EV p l e R s m args below meth c D cl cI cC td A (fun a => a = ad0) (mv_Qi below args s D cl cI cC sh ad0 A) 0 0 sh L [.inl v] pc w (mv_bl v w) := fun z hz ad H locs ls hG hl hP hD hS => by
  unfold mv_bl at hz
  split at hz
  next hv =>
    cases hz; subst hG
    exact W.zret (v := v) hX.x hX.b hr (by rcases hv with rfl | rfl <;> rfl) (fun t ht hW => ⟨⟨v, (), rfl, rfl, by rw [ht]; exact hP, hD⟩, hS.F ht⟩) hS.2.2 hd (hlocks := hX.lk)
  next => cases hz
theorem ev_iretz0 (hX : mv_X p s m args meth c D cl cI cC tb td A cc nL own Ts) (hr : meth.sig.returnType = some .boolean) (hd : decode cc pc = .ok (.ireturn, 1)) : EV p l e R s m args below meth c D cl cI cC td A (fun a => a = ad0) (mv_Qi below args s D cl cI cC sh ad0 A) 0 0 sh L [.inl 0] pc w (some (0, w)) := ev_iretz hX hr hd
theorem ev_iretz1 (hX : mv_X p s m args meth c D cl cI cC tb td A cc nL own Ts) (hr : meth.sig.returnType = some .boolean) (hd : decode cc pc = .ok (.ireturn, 1)) : EV p l e R s m args below meth c D cl cI cC td A (fun a => a = ad0) (mv_Qi below args s D cl cI cC sh ad0 A) 0 0 sh L [.inl 1] pc w (some (1, w)) := ev_iretz hX hr hd
theorem ev_vret (hX : mv_X p s m args meth c D cl cI cC tb td A cc nL own Ts) (hr : meth.sig.returnType = none) (hd : decode cc pc = .ok (.return_, 1)) : EV p l e R s m args below meth c D cl cI cC td A (fun a => a = ad0) (mv_Qv below args s D cl cI cC sh ad0 A) 0 0 sh L [] pc w (some w) := fun z hz ad H locs ls hG hl hP hD hS => by
  cases hz; subst hG
  exact W.vret hX.x hX.b hr (fun t ht hW => ⟨⟨(), rfl, trivial, by rw [ht]; exact hP, hD⟩, hS.F ht⟩) hS.2.2 hd (hlocks := hX.lk)
theorem ev_gret (hX : mv_X p s m args meth c D cl cI cC tb td A cc nL own Ts) (hr : meth.sig.returnType = none) {n0 mc ms : Nat} (hmc : Nat.ble cells mc = true) (hms : Nat.ble slots ms = true) (hd : decode cc pc = .ok (.return_, 1)) : EV p l e R s m args below meth c D cl cI cC td A (fun a => ∀ k, k < n0 → a k = ad0 k) (mv_Qg below args s D cl cI cC n0 sh ad0 A mc ms) cells slots sh L [] pc w (some w) := fun z hz ad H locs ls hG hl hP hD hS => by
  cases hz
  refine W.widen (Nat.le_of_ble_eq_true hmc) (Nat.le_of_ble_eq_true hms) ?_
  exact W.vret hX.x hX.b hr (fun t ht hW => ⟨⟨ad, rfl, hG, by rw [ht]; exact hP, hD⟩, hS.F ht⟩) hS.2.2 hd (hlocks := hX.lk)
theorem mv_hfree (hX : mv_X p s m args meth c D cl cI cC tb td A cc nL own Ts) {ad : Nat → Nat} {H : Heap} {locs : List Loc} (hD : va_D A (mv_wl cI cC ad w 0 sh)) (hS : va_S A s.heap H locs) : ∀ q, va_A (mv_wl cI cC ad w 0 sh) H.size q → A q := by
  rintro q (⟨k, e, h⟩ | h)
  · exact hD.2 k _ h
  · exact hX.nw q (Nat.le_trans hS.1 h)
theorem mv_pre (hX : mv_X p s m args meth c D cl cI cC tb td A cc nL own Ts) {ad : Nat → Nat} {H : Heap} {locs : List Loc} (hP : va_P D cl (mv_wl cI cC ad w 0 sh) H) (hD : va_D A (mv_wl cI cC ad w 0 sh)) (hS : va_S A s.heap H locs) (av : List mvV) (U : State) (hU : U.heap = H) (hW : s.WarmedH U.vm) : mv_Pre D cl cI cC tb td sh ad w H.size av (av.map (mv_val td ad)).toArray U := by
  subst hU
  exact ⟨rfl, rfl, hP, va_K.moved hW.alike hX.k, hD.weaken (fun _ _ _ _ => trivial), ((hX.sta.kept (fun a h1 h2 => hS.2.1 a h1 h2)).narrow (mv_hfree hX hD hS)).warm hW⟩
theorem ev_callVi (hX : mv_X p s m args meth c D cl cI cC tb td A cc nL own Ts) {y : MethodName} {ws : List Cond} {rm : Room} {bytes : ByteArray} {maxL n idx k0 ci : Nat} {ret : Option FieldType} {C : String} {q : vw_C} {fs : List (Option (Option Nat))} {st0 As : List mvV} {f : Option (Int32 × mvW)} {g : Int32 × mvW → Option ρ} (hM : ∀ z, f = some z → mv_Ci l D cl cI cC tb td y ws rm sh w (mvC k0 :: As) z) (cw : CallW R s args own C idx y bytes maxL ret ws rm 0 0 n) (hs : sh[k0]? = some (.inr (ci, fs))) (hc : cl[ci]? = some q) (hq : q.1 = C) (hn : As.length = n) (hnl : L.length = nL) (hst : Nat.ble st.length 8 = true) (hroom : cells ≤ R.cells ∧ slots ≤ R.slots) (hd : decode cc pc = .ok (.invokevirtual idx, 3)) (hstk : As.reverse ++ mvC k0 :: st = st0)
    (kk : ∀ z, f = some z → EV p l e R s m args below meth c D cl cI cC td A G Q cells slots sh L (.inl z.1 :: st) (pc + 3) z.2 (g z)) : EV p l e R s m args below meth c D cl cI cC td A G Q cells slots sh L st0 pc w (f.bind g) := fun z hz ad H locs ls hG hl hP hD hS => by
  obtain ⟨v, hf, hg⟩ := Option.bind_eq_some_iff.mp hz
  have hfree := mv_hfree hX hD hS
  subst hstk
  subst hq
  rw [show (As.reverse ++ mvC k0 :: st).map (mv_val td ad) = (As.map (mv_val td ad)).reverse ++ Value.ref (ad k0) :: st.map (mv_val td ad) by simp [mv_val, mvC]]
  refine va_calli (S := Unit) (va_runV (b := ad k0) (As := As.map (mv_val td ad)) (rest := st.map (mv_val td ad)) ⟨hX.x, hX.b, hX.ml, hX.o, hX.ts⟩ (hM v hf ad H.size) cw ⟨mv_Pre_blind _ _ _ _ _ _ _ _ _ _ _, va_recv hX.k hP hc (mv_wl_at cI cC ad w hs), fun U hU hW => mv_pre hX hP hD hS (mvC k0 :: As) U hU hW⟩ rfl (by rw [List.length_map]; exact hn) (hl.1.trans hnl) rfl (lv_room (by rw [mv_cats]; exact Nat.le_of_ble_eq_true hst)) hd hroom) hS (fun q _ h => hfree q h) hfree (fun r u t H1 locs1 ht hvm hpost hB hz1 hk1 hS1 => ?_)
  subst hpost
  subst ht
  exact kk v hf z hg ad t.heap locs1 ls hG hl hB.1 (hB.2.weaken (fun k q _ h => hfree q.1 h)) hS1
theorem ev_callSi (hX : mv_X p s m args meth c D cl cI cC tb td A cc nL own Ts) {y : MethodName} {ws : List Cond} {rm : Room} {bytes : ByteArray} {maxL n idx : Nat} {ret : Option FieldType} {st0 As : List mvV} {f : Option (Int32 × mvW)} {g : Int32 × mvW → Option ρ} (hM : ∀ z, f = some z → mv_Ci l D cl cI cC tb td y ws rm sh w As z) (cw : CallB R s args own idx y bytes maxL ret ws rm 0 0 n ∧ (Cond.static y).before args s = true) (hn : As.length = n) (hnl : L.length = nL) (hst : Nat.ble st.length 8 = true) (hroom : cells ≤ R.cells ∧ slots ≤ R.slots) (hd : decode cc pc = .ok (.invokestatic idx, 3)) (hstk : As.reverse ++ st = st0)
    (kk : ∀ z, f = some z → EV p l e R s m args below meth c D cl cI cC td A G Q cells slots sh L (.inl z.1 :: st) (pc + 3) z.2 (g z)) : EV p l e R s m args below meth c D cl cI cC td A G Q cells slots sh L st0 pc w (f.bind g) := fun z hz ad H locs ls hG hl hP hD hS => by
  obtain ⟨v, hf, hg⟩ := Option.bind_eq_some_iff.mp hz
  have hfree := mv_hfree hX hD hS
  subst hstk
  rw [show (As.reverse ++ st).map (mv_val td ad) = (As.map (mv_val td ad)).reverse ++ st.map (mv_val td ad) by simp]
  refine va_calli (S := Unit) (va_runS (As := As.map (mv_val td ad)) (rest := st.map (mv_val td ad)) ⟨hX.x, hX.b, hX.ml, hX.o, hX.ts⟩ (hM v hf ad H.size) cw ⟨mv_Pre_blind _ _ _ _ _ _ _ _ _ _ _, fun U hU hW => mv_pre hX hP hD hS As U hU hW⟩ rfl (by rw [List.length_map]; exact hn) (hl.1.trans hnl) rfl (lv_room (by rw [mv_cats]; exact Nat.le_of_ble_eq_true hst)) hd hroom) hS (fun q _ h => hfree q h) hfree (fun r u t H1 locs1 ht hvm hpost hB hz1 hk1 hS1 => ?_)
  subst hpost
  subst ht
  exact kk v hf z hg ad t.heap locs1 ls hG hl hB.1 (hB.2.weaken (fun k q _ h => hfree q.1 h)) hS1
theorem ev_callVv (hX : mv_X p s m args meth c D cl cI cC tb td A cc nL own Ts) {y : MethodName} {ws : List Cond} {rm : Room} {bytes : ByteArray} {maxL n idx k0 ci : Nat} {ret : Option FieldType} {C : String} {q : vw_C} {fs : List (Option (Option Nat))} {st0 As : List mvV} {f : Option mvW} {g : mvW → Option ρ} (hM : ∀ z, f = some z → mv_Cv l D cl cI cC tb td y ws rm sh w (mvC k0 :: As) z) (cw : CallW R s args own C idx y bytes maxL ret ws rm 0 0 n) (hs : sh[k0]? = some (.inr (ci, fs))) (hc : cl[ci]? = some q) (hq : q.1 = C) (hn : As.length = n) (hnl : L.length = nL) (hst : Nat.ble st.length 8 = true) (hroom : cells ≤ R.cells ∧ slots ≤ R.slots) (hd : decode cc pc = .ok (.invokevirtual idx, 3)) (hstk : As.reverse ++ mvC k0 :: st = st0)
    (kk : ∀ z, f = some z → EV p l e R s m args below meth c D cl cI cC td A G Q cells slots sh L st (pc + 3) z (g z)) : EV p l e R s m args below meth c D cl cI cC td A G Q cells slots sh L st0 pc w (f.bind g) := fun z hz ad H locs ls hG hl hP hD hS => by
  obtain ⟨v, hf, hg⟩ := Option.bind_eq_some_iff.mp hz
  have hfree := mv_hfree hX hD hS
  subst hstk
  subst hq
  rw [show (As.reverse ++ mvC k0 :: st).map (mv_val td ad) = (As.map (mv_val td ad)).reverse ++ Value.ref (ad k0) :: st.map (mv_val td ad) by simp [mv_val, mvC]]
  refine va_callv (S := Unit) (va_runV (b := ad k0) (As := As.map (mv_val td ad)) (rest := st.map (mv_val td ad)) ⟨hX.x, hX.b, hX.ml, hX.o, hX.ts⟩ (hM v hf ad H.size) cw ⟨mv_Pre_blind _ _ _ _ _ _ _ _ _ _ _, va_recv hX.k hP hc (mv_wl_at cI cC ad w hs), fun U hU hW => mv_pre hX hP hD hS (mvC k0 :: As) U hU hW⟩ rfl (by rw [List.length_map]; exact hn) (hl.1.trans hnl) rfl (lv_room (by rw [mv_cats]; exact Nat.le_of_ble_eq_true hst)) hd hroom) hS (fun q _ h => hfree q h) hfree (fun u t H1 locs1 ht hvm hpost hB hz1 hk1 hS1 => ?_)
  subst ht
  exact kk v hf z hg ad t.heap locs1 ls hG hl hB.1 (hB.2.weaken (fun k q _ h => hfree q.1 h)) hS1
/-! new cells -/
def mv_okV (n : Nat) (v : mvV) : Bool := match v with
  | .inr (.inl k) => Nat.ble (k + 1) n
  | _ => true
def mv_okO (n : Nat) (o : Option mvV) : Bool := match o with
  | none => true
  | some v => mv_okV n v
def mv_okS (n : Nat) : List mvV → Bool
  | [] => true
  | v :: t => mv_okV n v && mv_okS n t
def mv_okL (n : Nat) : List (Option mvV) → Bool
  | [] => true
  | v :: t => mv_okO n v && mv_okL n t
def mv_okF (n : Nat) : List (Option (Option Nat)) → Bool
  | [] => true
  | some (some j) :: t => Nat.ble (j + 1) n && mv_okF n t
  | _ :: t => mv_okF n t
def mv_okC (n : Nat) : List mvSh → Bool
  | [] => true
  | .inl _ :: t => mv_okC n t
  | .inr (_, fs) :: t => mv_okF n fs && mv_okC n t
theorem mv_val_ok {n : Nat} {td : Nat → Option Nat} {ad ad' : Nat → Nat} (h : ∀ k, k < n → ad' k = ad k) {v : mvV} (hv : mv_okV n v = true) : mv_val td ad' v = mv_val td ad v := by
  rcases v with x | x | x
  · rfl
  · simp only [mv_val]; rw [h x (Nat.le_of_ble_eq_true hv)]
  · rfl
theorem mv_okS_map {n : Nat} {td : Nat → Option Nat} {ad ad' : Nat → Nat} (h : ∀ k, k < n → ad' k = ad k) : ∀ {st : List mvV}, mv_okS n st = true → st.map (mv_val td ad') = st.map (mv_val td ad)
  | [], _ => rfl
  | v :: t, hs => by
    simp only [mv_okS, Bool.and_eq_true] at hs
    rw [List.map_cons, List.map_cons, mv_val_ok h hs.1, mv_okS_map h hs.2]
theorem mv_okL_get {n : Nat} : ∀ {L : List (Option mvV)} {i : Nat} {v : mvV}, mv_okL n L = true → L[i]? = some (some v) → mv_okV n v = true
  | [], i, v, _, h => by simp at h
  | x :: t, 0, v, hs, h => by
    simp only [mv_okL, Bool.and_eq_true] at hs
    simp at h; subst h; exact hs.1
  | x :: t, i + 1, v, hs, h => by
    simp only [mv_okL, Bool.and_eq_true] at hs
    rw [List.getElem?_cons_succ] at h
    exact mv_okL_get hs.2 h
theorem mv_lh.ext {n : Nat} {ls : Array Slot} {td : Nat → Option Nat} {ad ad' : Nat → Nat} {L : List (Option mvV)} (h : ∀ k, k < n → ad' k = ad k) (hL : mv_okL n L = true) (hl : mv_lh ls td ad L) : mv_lh ls td ad' L := ⟨hl.1, hl.2.1, fun i v hi => by rw [mv_val_ok h (mv_okL_get hL hi)]; exact hl.2.2 i v hi⟩
theorem mv_fld_ext {N : Nat} {ad ad' : Nat → Nat} (h : ∀ k, k < N → ad' k = ad k) (w : Nat → Int32) : ∀ (fs : List (Option (Option Nat))) (n : Nat), mv_okF N fs = true → mv_fld ad' w n fs = mv_fld ad w n fs
  | [], _, _ => rfl
  | none :: t, n, hs => by rw [mv_fld, mv_fld, mv_fld_ext h w t (n + 1) hs]
  | some none :: t, n, hs => by rw [mv_fld, mv_fld, mv_fld_ext h w t (n + 1) hs]
  | some (some j) :: t, n, hs => by
    simp only [mv_okF, Bool.and_eq_true] at hs
    rw [mv_fld, mv_fld, h j (Nat.le_of_ble_eq_true hs.1), mv_fld_ext h w t (n + 1) hs.2]
theorem mv_wl_ext {N : Nat} (cI cC : ClassId) {ad ad' : Nat → Nat} {w w' : mvW} (h : ∀ k, k < N → ad' k = ad k) (hw : ∀ k, k < N → w' k = w k) : ∀ (sh : List mvSh) (n : Nat), n + sh.length ≤ N → mv_okC N sh = true → mv_wl cI cC ad' w' n sh = mv_wl cI cC ad w n sh
  | [], _, _, _ => rfl
  | .inl a :: t, n, hn, hs => by
    simp only [List.length_cons] at hn
    rw [mv_wl, mv_wl, h n (by omega), hw n (by omega), mv_wl_ext cI cC h hw t (n + 1) (by omega) hs]; rfl
  | .inr (ci, fs) :: t, n, hn, hs => by
    simp only [List.length_cons] at hn
    simp only [mv_okC, Bool.and_eq_true] at hs
    rw [mv_wl, mv_wl, h n (by omega), hw n (by omega), mv_wl_ext cI cC h hw t (n + 1) (by omega) hs.2]
    simp only [mv_ent]
    rw [mv_fld_ext h (w n) fs 0 hs.1]
theorem mv_wl_app (cI cC : ClassId) (ad : Nat → Nat) (w : mvW) (x : mvSh) : ∀ (sh : List mvSh) (n : Nat), mv_wl cI cC ad w n (sh ++ [x]) = mv_wl cI cC ad w n sh ++ [(ad (n + sh.length), mv_ent cI cC ad (w (n + sh.length)) x)]
  | [], n => by simp [mv_wl]
  | y :: t, n => by
    rw [List.cons_append, mv_wl, mv_wl, List.cons_append, mv_wl_app cI cC ad w x t (n + 1), List.length_cons, show n + 1 + t.length = n + (t.length + 1) by omega]
/-- a new cell of zeros -/
def mv_z (w : mvW) (n : Nat) : mvW := fun c => if c = n then fun _ => 0 else w c
def mv_ad (ad : Nat → Nat) (n q : Nat) : Nat → Nat := fun k => if k = n then q else ad k
theorem mv_grow (cI cC : ClassId) {sh : List mvSh} {n : Nat} (hn : sh.length = n) (hok : mv_okC n sh = true) (ad : Nat → Nat) (w : mvW) (q : Nat) (x : mvSh) : mv_wl cI cC (mv_ad ad n q) (mv_z w n) 0 (sh ++ [x]) = mv_wl cI cC ad w 0 sh ++ [(q, mv_ent cI cC (mv_ad ad n q) (fun _ => 0) x)] := by
  subst hn
  rw [mv_wl_app, mv_wl_ext (N := sh.length) cI cC (ad := ad) (w := w) (fun k hk => by simp [mv_ad]; omega) (fun k hk => by simp [mv_z]; omega) sh 0 (by omega) hok]
  simp [mv_ad, mv_z]
theorem ev_objInit (hX : mv_X p s m args meth c D cl cI cC tb td A cc nL own Ts) {k0 idx : Nat} (hl1 : Cond.methodLink own idx Lib.objectInit ∈ Ts) (hl2 : Cond.instanceMethod Lib.objectInit ∈ Ts) (hl3 : Cond.code Lib.objectInit ⟨#[0xb1]⟩ 1 none ∈ Ts) (hnl : L.length = nL) (hf : 1 ≤ R.frames) (hlo : st.length + 12 ≤ R.locals) (hd : decode cc pc = .ok (.invokespecial idx, 3)) (kk : EV p l e R s m args below meth c D cl cI cC td A G Q cells slots sh L st (pc + 3) w r) : EV p l e R s m args below meth c D cl cI cC td A G Q cells slots sh L (mvC k0 :: st) pc w r := fun z hz ad H locs ls hG hl hP hD hS => by
  refine W.objInit hX.x hX.b hX.o (hX.ts _ hl1) (hX.ts _ hl2) (hX.ts _ hl3) rfl (by rw [hX.ml]; exact hl.1.trans hnl) rfl hd hf (by rw [mv_cats]; show 2 * 0 + _ + 12 ≤ _; omega) ?_
  exact W.eq (g2 := F0 m (pc + 3) ls (st.map (mv_val td ad))) rfl (kk z hz ad H locs ls hG hl hP hD hS)
theorem ev_new (hX : mv_X p s m args meth c D cl cI cC tb td A cc nL own Ts) {n0 n N ci index : Nat} {C : String} {T : u_T} {tm : List (Option (Option Nat))} {fs : List Value} {sh' : List mvSh} (hin : ∀ w ∈ u_ws C T N, w ∈ Ts) (ty : Nat → FieldType) (hty : ∀ k, k < N → parseFieldDescriptor (T k).2.2.1 = some (ty k)) (hcl : Cond.classLink own index C ∈ Ts) (hinst : Cond.instantiable C N ∈ Ts) (hini : Cond.initialized C ∈ Ts) (hc : cl[ci]? = some (C, T, N)) (hfs : ∀ j, j < N → defaultValue (ty j) = vp_V fs j) (htm : ∀ a, mv_fld a (fun _ => 0) 0 tm = fs) (hn : sh.length = n) (hok : mv_okC n sh = true) (hokL : mv_okL n L = true) (hokS : mv_okS n st = true) (hn0 : Nat.ble n0 n = true) (hsh : sh ++ [.inr (ci, tm)] = sh') (hr1 : cells + 1 ≤ R.cells) (hr2 : slots + N ≤ R.slots) (hd : decode cc pc = .ok (.new index, 3))
    (kk : EV p l e R s m args below meth c D cl cI cC td A (fun a => ∀ k, k < n0 → a k = ad0 k) Q (cells + 1) (slots + N) sh' L (mvC n :: st) (pc + 3) (mv_z w n) r) : EV p l e R s m args below meth c D cl cI cC td A (fun a => ∀ k, k < n0 → a k = ad0 k) Q cells slots sh L st pc w r := fun z hz ad H locs ls hG hl hP hD hS => by
  subst hsh
  refine va_new hX.x hX.b hX.ts hin ty hty hX.o (hX.ts _ hcl) (hX.ts _ hinst) (hX.ts _ hini) hX.k hP hD hS hX.nw hc hfs hr1 hr2 hd (fun q H1 hP1 hD1 hS1 => ?_)
  have e := mv_grow cI cC hn hok ad w q (.inr (ci, tm))
  simp only [mv_ent] at e
  rw [htm] at e
  rw [← e] at hP1 hD1
  have hag : ∀ k, k < n → mv_ad ad n q k = ad k := fun k hk => by simp [mv_ad]; omega
  have hn0' := Nat.le_of_ble_eq_true hn0
  have h2 := kk z hz (mv_ad ad n q) H1 locs ls (fun k hk => by rw [hag k (by omega)]; exact hG k hk) (hl.ext hag hokL) hP1 hD1 hS1
  rw [List.map_cons, mv_okS_map hag hokS] at h2
  have e3 : mv_val td (mv_ad ad n q) (mvC n) = .ref q := by simp [mv_val, mvC, mv_ad]
  rw [e3] at h2
  exact h2
theorem mv_RAi {U : State} {a b : ClassId} (h1 : va_RA U a .int) (h2 : va_RA U b .int) : a = b := by
  have h1' : U.vm.findClass ("[" ++ FieldType.int.toString) = some a := h1
  have h2' : U.vm.findClass ("[" ++ FieldType.int.toString) = some b := h2
  rw [h1'] at h2'; exact Option.some.inj h2'
theorem mv_RAc {U : State} {a b : ClassId} (h1 : va_RA U a .char) (h2 : va_RA U b .char) : a = b := by
  have h1' : U.vm.findClass ("[" ++ FieldType.char.toString) = some a := h1
  have h2' : U.vm.findClass ("[" ++ FieldType.char.toString) = some b := h2
  rw [h1'] at h2'; exact Option.some.inj h2'
theorem ev_newi (hX : mv_X p s m args meth c D cl cI cC tb td A cc nL own Ts) {n0 n N : Nat} {x : Int32} {sh' : List mvSh} (harr : Cond.arrayClass .int ∈ Ts) (hx : mv_ix (N + 1) x = some N) (hb : N * componentBytes .int ≤ 536870912) (hn : sh.length = n) (hok : mv_okC n sh = true) (hokL : mv_okL n L = true) (hokS : mv_okS n st = true) (hn0 : Nat.ble n0 n = true) (hsh : sh ++ [.inl (false, N)] = sh') (hr1 : cells + 1 ≤ R.cells) (hr2 : slots + N ≤ R.slots) (hd : decode cc pc = .ok (.newarray .int, 2))
    (kk : EV p l e R s m args below meth c D cl cI cC td A (fun a => ∀ k, k < n0 → a k = ad0 k) Q (cells + 1) (slots + N) sh' L (mvC n :: st) (pc + 2) (mv_z w n) r) : EV p l e R s m args below meth c D cl cI cC td A (fun a => ∀ k, k < n0 → a k = ad0 k) Q cells slots sh L (.inl x :: st) pc w r := fun z hz ad H locs ls hG hl hP hD hS => by
  subst hsh
  obtain ⟨hi1, hi2⟩ := mv_ix_in hx
  refine va_newa (atype := .int) hX.x hX.b (hX.ts _ harr) (ty := .int) rfl hX.k hP hD hS hX.nw (a0 := (N, .inl (fun _ => 0))) (fun _ => rfl) (fun h => hi1 (Or.inl h)) hi2 hb hr1 hr2 hd (fun q cA H1 hK1 hP1 hD1 hS1 => ?_)
  have hcA : cA = cI := mv_RAi (hK1.2 2 _ rfl).2 (hK1.2 0 _ rfl).2
  subst hcA
  have e := mv_grow cA cC hn hok ad w q (.inl (false, N))
  have e4 : mv_ent cA cC (mv_ad ad n q) (fun _ => 0) (.inl (false, N)) = .inl (cA, N, .inl (fun _ => 0)) := rfl
  rw [e4] at e
  rw [← e] at hP1 hD1
  have hag : ∀ k, k < n → mv_ad ad n q k = ad k := fun k hk => by simp [mv_ad]; omega
  have hn0' := Nat.le_of_ble_eq_true hn0
  have h2 := kk z hz (mv_ad ad n q) H1 locs ls (fun k hk => by rw [hag k (by omega)]; exact hG k hk) (hl.ext hag hokL) hP1 hD1 hS1
  rw [List.map_cons, mv_okS_map hag hokS] at h2
  have e3 : mv_val td (mv_ad ad n q) (mvC n) = .ref q := by simp [mv_val, mvC, mv_ad]
  rw [e3] at h2
  exact h2
theorem ev_newc (hX : mv_X p s m args meth c D cl cI cC tb td A cc nL own Ts) {n0 n N : Nat} {x : Int32} {sh' : List mvSh} (harr : Cond.arrayClass .char ∈ Ts) (hx : mv_ix (N + 1) x = some N) (hb : N * componentBytes .char ≤ 536870912) (hn : sh.length = n) (hok : mv_okC n sh = true) (hokL : mv_okL n L = true) (hokS : mv_okS n st = true) (hn0 : Nat.ble n0 n = true) (hsh : sh ++ [.inl (true, N)] = sh') (hr1 : cells + 1 ≤ R.cells) (hr2 : slots + N ≤ R.slots) (hd : decode cc pc = .ok (.newarray .char, 2))
    (kk : EV p l e R s m args below meth c D cl cI cC td A (fun a => ∀ k, k < n0 → a k = ad0 k) Q (cells + 1) (slots + N) sh' L (mvC n :: st) (pc + 2) (mv_z w n) r) : EV p l e R s m args below meth c D cl cI cC td A (fun a => ∀ k, k < n0 → a k = ad0 k) Q cells slots sh L (.inl x :: st) pc w r := fun z hz ad H locs ls hG hl hP hD hS => by
  subst hsh
  obtain ⟨hi1, hi2⟩ := mv_ix_in hx
  refine va_newa (atype := .char) hX.x hX.b (hX.ts _ harr) (ty := .char) rfl hX.k hP hD hS hX.nw (a0 := (N, .inl (fun _ => 0))) (fun _ => rfl) (fun h => hi1 (Or.inl h)) hi2 hb hr1 hr2 hd (fun q cA H1 hK1 hP1 hD1 hS1 => ?_)
  have hcA : cA = cC := mv_RAc (hK1.2 2 _ rfl).2 (hK1.2 1 _ rfl).2
  subst hcA
  have e := mv_grow cI cA hn hok ad w q (.inl (true, N))
  have e4 : mv_ent cI cA (mv_ad ad n q) (fun _ => 0) (.inl (true, N)) = .inl (cA, N, .inl (fun _ => 0)) := rfl
  rw [e4] at e
  rw [← e] at hP1 hD1
  have hag : ∀ k, k < n → mv_ad ad n q k = ad k := fun k hk => by simp [mv_ad]; omega
  have hn0' := Nat.le_of_ble_eq_true hn0
  have h2 := kk z hz (mv_ad ad n q) H1 locs ls (fun k hk => by rw [hag k (by omega)]; exact hG k hk) (hl.ext hag hokL) hP1 hD1 hS1
  rw [List.map_cons, mv_okS_map hag hokS] at h2
  have e3 : mv_val td (mv_ad ad n q) (mvC n) = .ref q := by simp [mv_val, mvC, mv_ad]
  rw [e3] at h2
  exact h2
theorem mv_fld_setr (ad : Nat → Nat) (w : Nat → Int32) (j : Nat) : ∀ (fs : List (Option (Option Nat))) (n k : Nat), (mv_fld ad w n fs).set k (.ref (ad j)) = mv_fld ad w n (fs.set k (some (some j)))
  | [], _, _ => by simp [mv_fld]
  | none :: t, n, 0 => by simp [mv_fld]
  | some none :: t, n, 0 => by simp [mv_fld]
  | some (some i) :: t, n, 0 => by simp [mv_fld]
  | none :: t, n, k + 1 => by simp [mv_fld, mv_fld_setr ad w j t (n + 1) k]
  | some none :: t, n, k + 1 => by simp [mv_fld, mv_fld_setr ad w j t (n + 1) k]
  | some (some i) :: t, n, k + 1 => by simp [mv_fld, mv_fld_setr ad w j t (n + 1) k]
theorem mv_wl_setr (cI cC : ClassId) (ad : Nat → Nat) (w : mvW) (y : mvSh) : ∀ (sh : List mvSh) (n k : Nat), (mv_wl cI cC ad w n sh).set k (ad (n + k), mv_ent cI cC ad (w (n + k)) y) = mv_wl cI cC ad w n (sh.set k y)
  | [], _, _ => by simp [mv_wl]
  | x :: t, n, 0 => by simp [mv_wl]
  | x :: t, n, k + 1 => by
    have := mv_wl_setr cI cC ad w y t (n + 1) k
    rw [show n + 1 + k = n + (k + 1) by omega] at this
    simp [mv_wl, this]
theorem ev_putr (hX : mv_X p s m args meth c D cl cI cC tb td A cc nL own Ts) {k0 ci k j index N : Nat} {fs : List (Option (Option Nat))} {C : String} {T : u_T} {ty : FieldType} {sh' : List mvSh} (hin : ∀ w ∈ u_ws C T N, w ∈ Ts) (ty0 : Nat → FieldType) (hty : ∀ k, k < N → parseFieldDescriptor (T k).2.2.1 = some (ty0 k)) (hnm : ∀ a, a < N → ∀ b, b < N → a ≠ b → (T a).2.1 ≠ (T b).2.1) (hs : sh[k0]? = some (.inr (ci, fs))) (hc : cl[ci]? = some (C, T, N)) (hk : Nat.ble (k + 1) N = true) (hlink : Cond.fieldLink own index (T k).1 (T k).2.1 (T k).2.2.1 ∈ Ts) (hfin : (T k).2.2.2 = true) (hin2 : meth.name = "<init>") (hdecl : (T k).1 = own) (hdt : parseFieldDescriptor (T k).2.2.1 = some ty) (hn : ∀ a, narrow ty (.ref a) = .ref a) (hfit : ∀ a, fits ty (.ref a) = true) (hv : Nat.ble (k + 1) fs.length = true) (hsh : sh.set k0 (.inr (ci, fs.set k (some (some j)))) = sh') (hd : decode cc pc = .ok (.putfield index, 3)) (kk : EV p l e R s m args below meth c D cl cI cC td A G Q cells slots sh' L st (pc + 3) w r) : EV p l e R s m args below meth c D cl cI cC td A G Q cells slots sh L (mvC j :: mvC k0 :: st) pc w r := fun z hz ad H locs ls hG hl hP hD hS => by
  subst hsh
  have e : (mv_wl cI cC ad w 0 sh).set k0 (ad k0, .inr (ci, (mv_fld ad (w k0) 0 fs).set k (.ref (ad j)))) = mv_wl cI cC ad w 0 (sh.set k0 (.inr (ci, fs.set k (some (some j))))) := by
    have h := mv_wl_setr cI cC ad w (.inr (ci, fs.set k (some (some j)))) sh 0 k0
    rw [Nat.zero_add] at h
    rw [← h, mv_fld_setr]; rfl
  exact va_putF hX.x hX.b hX.ts hin ty0 hty hnm hX.o hX.k hP hD hS k0 (mv_wl_at cI cC ad w hs) hc k (Nat.le_of_ble_eq_true hk) (hX.ts _ hlink) (fun _ h9 => h9) hfin hin2 hdecl hdt (hn _) (hfit _) (by rw [mv_fld_len]; exact Nat.le_of_ble_eq_true hv) hd (fun H1 locs1 hP1 hD1 hS1 => kk z hz ad H1 locs1 ls hG hl (e ▸ hP1) (e ▸ hD1) hS1)
theorem ev_callg (hX : mv_X p s m args meth c D cl cI cC tb td A cc nL own Ts) {y : MethodName} {ws : List Cond} {rm : Room} {bytes : ByteArray} {maxL n idx k0 n0 nn mc ms : Nat} {st0 As : List mvV} {f : Option mvW} {sh' : List mvSh} {g : mvW → Option ρ} (hM : ∀ z, f = some z → mv_Cg l D cl cI cC tb td y ws rm sh sh' w (mvC k0 :: As) mc ms z) (cw : CallB R s args own idx y bytes maxL none ws rm mc ms n ∧ y.name = "<init>" ∧ (Cond.instanceMethod y).before args s = true) (hn : As.length = n) (hnl : L.length = nL) (hst : Nat.ble st.length 8 = true) (hroom : cells + mc ≤ R.cells ∧ slots + ms ≤ R.slots) (hnn : sh.length = nn) (hokL : mv_okL nn L = true) (hokS : mv_okS nn st = true) (hn0 : Nat.ble n0 nn = true) (hd : decode cc pc = .ok (.invokespecial idx, 3)) (hstk : As.reverse ++ mvC k0 :: st = st0)
    (kk : ∀ z, f = some z → EV p l e R s m args below meth c D cl cI cC td A (fun a => ∀ k, k < n0 → a k = ad0 k) Q (cells + mc) (slots + ms) sh' L st (pc + 3) z (g z)) : EV p l e R s m args below meth c D cl cI cC td A (fun a => ∀ k, k < n0 → a k = ad0 k) Q cells slots sh L st0 pc w (f.bind g) := fun z hz ad H locs ls hG hl hP hD hS => by
  obtain ⟨v, hf, hg⟩ := Option.bind_eq_some_iff.mp hz
  have hfree := mv_hfree hX hD hS
  subst hstk
  subst hnn
  rw [show (As.reverse ++ mvC k0 :: st).map (mv_val td ad) = (As.map (mv_val td ad)).reverse ++ Value.ref (ad k0) :: st.map (mv_val td ad) by simp [mv_val, mvC]]
  refine va_callv (va_runI (b := ad k0) (As := As.map (mv_val td ad)) (rest := st.map (mv_val td ad)) ⟨hX.x, hX.b, hX.ml, hX.o, hX.ts⟩ (hM v hf ad H.size) cw ⟨mv_Pre_blind _ _ _ _ _ _ _ _ _ _ _, fun U hU hW => mv_pre hX hP hD hS (mvC k0 :: As) U hU hW⟩ rfl (by rw [List.length_map]; exact hn) (hl.1.trans hnl) rfl (lv_room (by rw [mv_cats]; exact Nat.le_of_ble_eq_true hst)) hd hroom) hS (fun q _ h => hfree q h) hfree (fun ad' t H1 locs1 ht hvm hag hB hz1 hk1 hS1 => ?_)
  subst ht
  have hn0' := Nat.le_of_ble_eq_true hn0
  have h2 := kk v hf z hg ad' t.heap locs1 ls (fun k hk => by rw [hag k (by omega)]; exact hG k hk) (hl.ext hag hokL) hB.1 (hB.2.weaken (fun k q _ h => hfree q.1 h)) hS1
  rw [mv_okS_map hag hokS] at h2
  exact h2
theorem mv_recvO {a : Nat} {H : Heap} {locs : List Loc} {C : String} (hO : va_O C a A s s.heap) (hS : va_S A s.heap H locs) : ∃ cell : Cell, H[a]? = some cell ∧ cell.vm.isStatics = false ∧ s.vm.findClass C = some cell.cls := by
  obtain ⟨cell, h1, h2, h3, h4⟩ := hO
  exact ⟨cell, by rw [hS.2.1 a (Array.getElem?_eq_some_iff.mp h1).1 h4]; exact h1, h2, h3⟩
theorem ev_callNi (hX : mv_X p s m args meth c D cl cI cC tb td A cc nL own Ts) {y : MethodName} {ws : List Cond} {rm : Room} {bytes : ByteArray} {maxL n idx : Nat} {ret : Option FieldType} {st0 As : List mvV} {f : Option (Int32 × mvW)} {g : Int32 × mvW → Option ρ} (hM : ∀ z, f = some z → mv_Ci l D cl cI cC tb td y ws rm sh w As z) {host : String} (cw : va_CN R s args own idx y host bytes maxL ret ws rm 0 0 n ∧ (Cond.static y).before args s = true ∧ True) (hn : As.length = n) (hnl : L.length = nL) (hst : Nat.ble st.length 8 = true) (hroom : cells ≤ R.cells ∧ slots ≤ R.slots) (hd : decode cc pc = .ok (.invokestatic idx, 3)) (hstk : As.reverse ++ st = st0)
    (kk : ∀ z, f = some z → EV p l e R s m args below meth c D cl cI cC td A G Q cells slots sh L (.inl z.1 :: st) (pc + 3) z.2 (g z)) : EV p l e R s m args below meth c D cl cI cC td A G Q cells slots sh L st0 pc w (f.bind g) := fun z hz ad H locs ls hG hl hP hD hS => by
  obtain ⟨v, hf, hg⟩ := Option.bind_eq_some_iff.mp hz
  have hfree := mv_hfree hX hD hS
  subst hstk
  rw [show (As.reverse ++ st).map (mv_val td ad) = (As.map (mv_val td ad)).reverse ++ st.map (mv_val td ad) by simp]
  refine va_calli (S := Unit) (va_runSN (As := As.map (mv_val td ad)) (rest := st.map (mv_val td ad)) ⟨hX.x, hX.b, hX.ml, hX.o, hX.ts⟩ (hM v hf ad H.size) cw ⟨mv_Pre_blind _ _ _ _ _ _ _ _ _ _ _, fun U hU hW => mv_pre hX hP hD hS As U hU hW⟩ rfl (by rw [List.length_map]; exact hn) (hl.1.trans hnl) rfl (lv_room (by rw [mv_cats]; exact Nat.le_of_ble_eq_true hst)) hd hroom) hS (fun q _ h => hfree q h) hfree (fun r u t H1 locs1 ht hvm hpost hB hz1 hk1 hS1 => ?_)
  subst hpost
  subst ht
  exact kk v hf z hg ad t.heap locs1 ls hG hl hB.1 (hB.2.weaken (fun k q _ h => hfree q.1 h)) hS1
theorem ev_callSv (hX : mv_X p s m args meth c D cl cI cC tb td A cc nL own Ts) {y : MethodName} {ws : List Cond} {rm : Room} {bytes : ByteArray} {maxL n idx : Nat} {ret : Option FieldType} {st0 As : List mvV} {f : Option mvW} {g : mvW → Option ρ} (hM : ∀ z, f = some z → mv_Cv l D cl cI cC tb td y ws rm sh w As z) (cw : CallB R s args own idx y bytes maxL ret ws rm 0 0 n ∧ (Cond.static y).before args s = true) (hn : As.length = n) (hnl : L.length = nL) (hst : Nat.ble st.length 8 = true) (hroom : cells ≤ R.cells ∧ slots ≤ R.slots) (hd : decode cc pc = .ok (.invokestatic idx, 3)) (hstk : As.reverse ++ st = st0)
    (kk : ∀ z, f = some z → EV p l e R s m args below meth c D cl cI cC td A G Q cells slots sh L st (pc + 3) z (g z)) : EV p l e R s m args below meth c D cl cI cC td A G Q cells slots sh L st0 pc w (f.bind g) := fun z hz ad H locs ls hG hl hP hD hS => by
  obtain ⟨v, hf, hg⟩ := Option.bind_eq_some_iff.mp hz
  have hfree := mv_hfree hX hD hS
  subst hstk
  rw [show (As.reverse ++ st).map (mv_val td ad) = (As.map (mv_val td ad)).reverse ++ st.map (mv_val td ad) by simp]
  refine va_callv (S := Unit) (va_runS (As := As.map (mv_val td ad)) (rest := st.map (mv_val td ad)) ⟨hX.x, hX.b, hX.ml, hX.o, hX.ts⟩ (hM v hf ad H.size) cw ⟨mv_Pre_blind _ _ _ _ _ _ _ _ _ _ _, fun U hU hW => mv_pre hX hP hD hS As U hU hW⟩ rfl (by rw [List.length_map]; exact hn) (hl.1.trans hnl) rfl (lv_room (by rw [mv_cats]; exact Nat.le_of_ble_eq_true hst)) hd hroom) hS (fun q _ h => hfree q h) hfree (fun u t H1 locs1 ht hvm hpost hB hz1 hk1 hS1 => ?_)
  subst ht
  exact kk v hf z hg ad t.heap locs1 ls hG hl hB.1 (hB.2.weaken (fun k q _ h => hfree q.1 h)) hS1
theorem ev_callTi (hX : mv_X p s m args meth c D cl cI cC tb td A cc nL own Ts) {y : MethodName} {ws : List Cond} {rm : Room} {bytes : ByteArray} {maxL n idx k0 : Nat} {ret : Option FieldType} {x : String × Nat × String × List Int32} {st0 As : List mvV} {f : Option (Int32 × mvW)} {g : Int32 × mvW → Option ρ} (hM : ∀ z, f = some z → mv_Ci l D cl cI cC tb td y ws rm sh w (mvT (1000 + 2 * k0) :: As) z) (cw : CallW R s args own "java/lang/String" idx y bytes maxL ret ws rm 0 0 n) (hs : tb.2.2.1[k0]? = some x) (hn : As.length = n) (hnl : L.length = nL) (hst : Nat.ble st.length 8 = true) (hroom : cells ≤ R.cells ∧ slots ≤ R.slots) (hd : decode cc pc = .ok (.invokevirtual idx, 3)) (hstk : As.reverse ++ mvT (1000 + 2 * k0) :: st = st0)
    (kk : ∀ z, f = some z → EV p l e R s m args below meth c D cl cI cC td A G Q cells slots sh L (.inl z.1 :: st) (pc + 3) z.2 (g z)) : EV p l e R s m args below meth c D cl cI cC td A G Q cells slots sh L st0 pc w (f.bind g) := fun z hz ad H locs ls hG hl hP hD hS => by
  obtain ⟨v, hf, hg⟩ := Option.bind_eq_some_iff.mp hz
  have hfree := mv_hfree hX hD hS
  subst hstk
  obtain ⟨aS, tS, hS1, -, -, hO, -⟩ := hX.sta.2.2.1 k0 _ hs
  rw [show (As.reverse ++ mvT (1000 + 2 * k0) :: st).map (mv_val td ad) = (As.map (mv_val td ad)).reverse ++ Value.ref aS :: st.map (mv_val td ad) by simp [mv_val, mvT, hS1, va_rf]]
  refine va_calli (S := Unit) (va_runV (b := aS) (As := As.map (mv_val td ad)) (rest := st.map (mv_val td ad)) ⟨hX.x, hX.b, hX.ml, hX.o, hX.ts⟩ (hM v hf ad H.size) cw ⟨mv_Pre_blind _ _ _ _ _ _ _ _ _ _ _, mv_recvO hO hS, fun U hU hW => (by have h9 := mv_pre hX hP hD hS (mvT (1000 + 2 * k0) :: As) U hU hW; rw [List.map_cons, mv_valT ad hS1] at h9; exact h9)⟩ rfl (by rw [List.length_map]; exact hn) (hl.1.trans hnl) rfl (lv_room (by rw [mv_cats]; exact Nat.le_of_ble_eq_true hst)) hd hroom) hS (fun q _ h => hfree q h) hfree (fun r u t H1 locs1 ht hvm hpost hB hz1 hk1 hS2 => ?_)
  subst hpost
  subst ht
  exact kk v hf z hg ad t.heap locs1 ls hG hl hB.1 (hB.2.weaken (fun k q _ h => hfree q.1 h)) hS2
theorem ev_callgN (hX : mv_X p s m args meth c D cl cI cC tb td A cc nL own Ts) {y : MethodName} {ws : List Cond} {rm : Room} {bytes : ByteArray} {maxL n idx k0 n0 nn mc ms : Nat} {st0 As : List mvV} {f : Option mvW} {sh' : List mvSh} {g : mvW → Option ρ} (hM : ∀ z, f = some z → mv_Cg l D cl cI cC tb td y ws rm sh sh' w (mvC k0 :: As) mc ms z) {host : String} (cw : va_CN R s args own idx y host bytes maxL none ws rm mc ms n ∧ y.name = "<init>" ∧ (Cond.instanceMethod y).before args s = true) (hn : As.length = n) (hnl : L.length = nL) (hst : Nat.ble st.length 8 = true) (hroom : cells + mc ≤ R.cells ∧ slots + ms ≤ R.slots) (hnn : sh.length = nn) (hokL : mv_okL nn L = true) (hokS : mv_okS nn st = true) (hn0 : Nat.ble n0 nn = true) (hd : decode cc pc = .ok (.invokespecial idx, 3)) (hstk : As.reverse ++ mvC k0 :: st = st0)
    (kk : ∀ z, f = some z → EV p l e R s m args below meth c D cl cI cC td A (fun a => ∀ k, k < n0 → a k = ad0 k) Q (cells + mc) (slots + ms) sh' L st (pc + 3) z (g z)) : EV p l e R s m args below meth c D cl cI cC td A (fun a => ∀ k, k < n0 → a k = ad0 k) Q cells slots sh L st0 pc w (f.bind g) := fun z hz ad H locs ls hG hl hP hD hS => by
  obtain ⟨v, hf, hg⟩ := Option.bind_eq_some_iff.mp hz
  have hfree := mv_hfree hX hD hS
  subst hstk
  subst hnn
  rw [show (As.reverse ++ mvC k0 :: st).map (mv_val td ad) = (As.map (mv_val td ad)).reverse ++ Value.ref (ad k0) :: st.map (mv_val td ad) by simp [mv_val, mvC]]
  refine va_callv (va_runIN (b := ad k0) (As := As.map (mv_val td ad)) (rest := st.map (mv_val td ad)) ⟨hX.x, hX.b, hX.ml, hX.o, hX.ts⟩ (hM v hf ad H.size) cw ⟨mv_Pre_blind _ _ _ _ _ _ _ _ _ _ _, fun U hU hW => mv_pre hX hP hD hS (mvC k0 :: As) U hU hW⟩ rfl (by rw [List.length_map]; exact hn) (hl.1.trans hnl) rfl (lv_room (by rw [mv_cats]; exact Nat.le_of_ble_eq_true hst)) hd hroom) hS (fun q _ h => hfree q h) hfree (fun ad' t H1 locs1 ht hvm hag hB hz1 hk1 hS1 => ?_)
  subst ht
  have hn0' := Nat.le_of_ble_eq_true hn0
  have h2 := kk v hf z hg ad' t.heap locs1 ls (fun k hk => by rw [hag k (by omega)]; exact hG k hk) (hl.ext hag hokL) hB.1 (hB.2.weaken (fun k q _ h => hfree q.1 h)) hS1
  rw [mv_okS_map hag hokS] at h2
  exact h2

def mv_nr (ty : FieldType) (v : Int32) (w : mvW) : Option (Int32 × mvW) := if vp_nar ty v = v then some (v, w) else none
theorem ev_iretc (hX : mv_X p s m args meth c D cl cI cC tb td A cc nL own Ts) (hr : meth.sig.returnType = some .char) {v : Int32} (hd : decode cc pc = .ok (.ireturn, 1)) : EV p l e R s m args below meth c D cl cI cC td A (fun a => a = ad0) (mv_Qi below args s D cl cI cC sh ad0 A) 0 0 sh L [.inl v] pc w (mv_nr .char v w) := fun z hz ad H locs ls hG hl hP hD hS => by
  unfold mv_nr at hz
  split at hz
  next hv =>
    cases hz; subst hG
    have hn : narrow .char (.int v) = .int v := by
      have e : narrow .char (.int v) = .int (vp_nar .char v) := rfl
      rw [e, hv]
    exact W.zret (v := v) hX.x hX.b hr hn (fun t ht hW => ⟨⟨v, (), rfl, rfl, by rw [ht]; exact hP, hD⟩, hS.F ht⟩) hS.2.2 hd (hlocks := hX.lk)
  next => cases hz
theorem ev_iretb (hX : mv_X p s m args meth c D cl cI cC tb td A cc nL own Ts) (hr : meth.sig.returnType = some .byte) {v : Int32} (hd : decode cc pc = .ok (.ireturn, 1)) : EV p l e R s m args below meth c D cl cI cC td A (fun a => a = ad0) (mv_Qi below args s D cl cI cC sh ad0 A) 0 0 sh L [.inl v] pc w (mv_nr .byte v w) := fun z hz ad H locs ls hG hl hP hD hS => by
  unfold mv_nr at hz
  split at hz
  next hv =>
    cases hz; subst hG
    have hn : narrow .byte (.int v) = .int v := by
      have e : narrow .byte (.int v) = .int (vp_nar .byte v) := rfl
      rw [e, hv]
    exact W.zret (v := v) hX.x hX.b hr hn (fun t ht hW => ⟨⟨v, (), rfl, rfl, by rw [ht]; exact hP, hD⟩, hS.F ht⟩) hS.2.2 hd (hlocks := hX.lk)
  next => cases hz
end MV3
end
