/-! ===== BEGIN printed: names, fields, word lists, decode rows ===== -/
def RX0 : String := "SnapSites$ByteFinder"
def TX0 : u_T := fun k => match k with
  | 0 => ("SnapSites$ByteFinder", "wanted", "I", false)
  | 1 => ("SnapSites$ByteFinder", "position", "I", false)
  | 2 => ("SnapSites$ByteFinder", "check", "I", false)
  | _ => ("SnapSites$ByteFinder", "found", "I", false)
def tyX0 : Nat → FieldType := fun k => match k with
  | 0 => .int
  | 1 => .int
  | 2 => .int
  | _ => .int
abbrev wsX00 : List Cond := u_ws RX0 TX0 4
theorem nmX0 : ∀ a, a < 4 → ∀ b, b < 4 → a ≠ b → (TX0 a).2.1 ≠ (TX0 b).2.1 := by decide +kernel
theorem tyX0_ok : ∀ k, k < 4 → parseFieldDescriptor (TX0 k).2.2.1 = some (tyX0 k) := by decide +kernel
abbrev cX0_init : ByteArray := prog_2_method_1_code
def yX0_init : MethodName := ⟨RX0, "<init>", "()V"⟩
abbrev cX0_lookFor : ByteArray := prog_2_method_2_code
def yX0_lookFor : MethodName := ⟨RX0, "lookFor", "(I)V"⟩
abbrev cX0_put : ByteArray := prog_2_method_3_code
def yX0_put : MethodName := ⟨RX0, "put", "(I)V"⟩
abbrev cX0_putTwo : ByteArray := prog_2_method_4_code
def yX0_putTwo : MethodName := ⟨RX0, "putTwo", "(I)V"⟩
abbrev cX0_putFour : ByteArray := prog_2_method_5_code
def yX0_putFour : MethodName := ⟨RX0, "putFour", "(I)V"⟩
abbrev cX0_putCheck : ByteArray := prog_2_method_6_code
def yX0_putCheck : MethodName := ⟨RX0, "putCheck", "()V"⟩
def RX1 : String := "SnapSites$Letter"
def TX1 : u_T := fun k => match k with
  | 0 => ("SnapSites$Letter", "kind", "I", true)
  | 1 => ("SnapSites$Letter", "from", "I", true)
  | 2 => ("SnapSites$Letter", "to", "I", true)
  | _ => ("SnapSites$Letter", "transaction", "I", true)
def tyX1 : Nat → FieldType := fun k => match k with
  | 0 => .int
  | 1 => .int
  | 2 => .int
  | _ => .int
abbrev wsX10 : List Cond := u_ws RX1 TX1 4
theorem nmX1 : ∀ a, a < 4 → ∀ b, b < 4 → a ≠ b → (TX1 a).2.1 ≠ (TX1 b).2.1 := by decide +kernel
theorem tyX1_ok : ∀ k, k < 4 → parseFieldDescriptor (TX1 k).2.2.1 = some (tyX1 k) := by decide +kernel
abbrev cX1_init : ByteArray := prog_3_method_1_code
def yX1_init : MethodName := ⟨RX1, "<init>", "(IIII)V"⟩
abbrev cX1_kind : ByteArray := prog_3_method_5_code
def yX1_kind : MethodName := ⟨RX1, "kind", "()I"⟩
abbrev cX1_from : ByteArray := prog_3_method_6_code
def yX1_from : MethodName := ⟨RX1, "from", "()I"⟩
abbrev cX1_to : ByteArray := prog_3_method_7_code
def yX1_to : MethodName := ⟨RX1, "to", "()I"⟩
abbrev cX1_transaction : ByteArray := prog_3_method_8_code
def yX1_transaction : MethodName := ⟨RX1, "transaction", "()I"⟩
def RX2 : String := "SnapSites$Site"
def TX2 : u_T := fun k => match k with
  | 0 => ("SnapSites$Site", "up", "Z", false)
  | 1 => ("SnapSites$Site", "counts", "[I", true)
  | 2 => ("SnapSites$Site", "holders", "[I", true)
  | 3 => ("SnapSites$Site", "applied", "[I", true)
  | _ => ("SnapSites$Site", "appliedCount", "I", false)
def tyX2 : Nat → FieldType := fun k => match k with
  | 0 => .boolean
  | 1 => .array .int
  | 2 => .array .int
  | 3 => .array .int
  | _ => .int
abbrev wsX20 : List Cond := u_ws RX2 TX2 5
theorem nmX2 : ∀ a, a < 5 → ∀ b, b < 5 → a ≠ b → (TX2 a).2.1 ≠ (TX2 b).2.1 := by decide +kernel
theorem tyX2_ok : ∀ k, k < 5 → parseFieldDescriptor (TX2 k).2.2.1 = some (tyX2 k) := by decide +kernel
abbrev cX2_init : ByteArray := prog_4_method_1_code
def yX2_init : MethodName := ⟨RX2, "<init>", "()V"⟩
abbrev cX2_clear : ByteArray := prog_4_method_2_code
def yX2_clear : MethodName := ⟨RX2, "clear", "()V"⟩
abbrev cX2_take : ByteArray := prog_4_method_3_code
def yX2_take : MethodName := ⟨RX2, "take", "(LSnapSites$Transaction;)V"⟩
abbrev cX2_unlock : ByteArray := prog_4_method_4_code
def yX2_unlock : MethodName := ⟨RX2, "unlock", "(I)V"⟩
abbrev cX2_isReadyFor : ByteArray := prog_4_method_5_code
def yX2_isReadyFor : MethodName := ⟨RX2, "isReadyFor", "(LSnapSites$Transaction;)Z"⟩
def RX3 : String := "SnapSites$Transaction"
def TX3 : u_T := fun k => match k with
  | 0 => ("SnapSites$Transaction", "number", "I", false)
  | 1 => ("SnapSites$Transaction", "site", "I", false)
  | 2 => ("SnapSites$Transaction", "state", "I", false)
  | 3 => ("SnapSites$Transaction", "sequence", "I", false)
  | 4 => ("SnapSites$Transaction", "start", "[I", true)
  | 5 => ("SnapSites$Transaction", "written", "I", false)
  | 6 => ("SnapSites$Transaction", "values", "[I", true)
  | 7 => ("SnapSites$Transaction", "changeCount", "I", false)
  | 8 => ("SnapSites$Transaction", "changedCells", "[I", true)
  | 9 => ("SnapSites$Transaction", "changedBy", "[I", true)
  | 10 => ("SnapSites$Transaction", "asked", "I", false)
  | 11 => ("SnapSites$Transaction", "saidYes", "I", false)
  | 12 => ("SnapSites$Transaction", "appliedAt", "I", false)
  | 13 => ("SnapSites$Transaction", "keptAt", "I", false)
  | 14 => ("SnapSites$Transaction", "freedAt", "I", false)
  | _ => ("SnapSites$Transaction", "owesFrees", "Z", false)
def tyX3 : Nat → FieldType := fun k => match k with
  | 0 => .int
  | 1 => .int
  | 2 => .int
  | 3 => .int
  | 4 => .array .int
  | 5 => .int
  | 6 => .array .int
  | 7 => .int
  | 8 => .array .int
  | 9 => .array .int
  | 10 => .int
  | 11 => .int
  | 12 => .int
  | 13 => .int
  | 14 => .int
  | _ => .boolean
abbrev wsX30 : List Cond := u_ws RX3 TX3 16
theorem nmX3 : ∀ a, a < 16 → ∀ b, b < 16 → a ≠ b → (TX3 a).2.1 ≠ (TX3 b).2.1 := by decide +kernel
theorem tyX3_ok : ∀ k, k < 16 → parseFieldDescriptor (TX3 k).2.2.1 = some (tyX3 k) := by decide +kernel
abbrev cX3_init : ByteArray := prog_5_method_1_code
def yX3_init : MethodName := ⟨RX3, "<init>", "()V"⟩
abbrev cX3_startAt : ByteArray := prog_5_method_2_code
def yX3_startAt : MethodName := ⟨RX3, "startAt", "(II[I)V"⟩
abbrev cX3_wrote : ByteArray := prog_5_method_3_code
def yX3_wrote : MethodName := ⟨RX3, "wrote", "(I)Z"⟩
abbrev cX3_writtenCount : ByteArray := prog_5_method_4_code
def yX3_writtenCount : MethodName := ⟨RX3, "writtenCount", "()I"⟩
abbrev cX3_isSeenFrom : ByteArray := prog_5_method_5_code
def yX3_isSeenFrom : MethodName := ⟨RX3, "isSeenFrom", "([I)Z"⟩
abbrev cX3_changeOf : ByteArray := prog_5_method_6_code
def yX3_changeOf : MethodName := ⟨RX3, "changeOf", "(I)I"⟩
def RX4 : String := "SnapSites"
def TX4 : u_T := fun k => match k with
  | 0 => ("SnapSites", "sites", "[LSnapSites$Site;", true)
  | 1 => ("SnapSites", "transactions", "Ljava/util/ArrayList;", true)
  | 2 => ("SnapSites", "letters", "Ljava/util/ArrayList;", true)
  | 3 => ("SnapSites", "finder", "LSnapSites$ByteFinder;", true)
  | 4 => ("SnapSites", "siteCount", "I", false)
  | 5 => ("SnapSites", "begun", "I", false)
  | _ => ("SnapSites", "sent", "I", false)
def tyX4 : Nat → FieldType := fun k => match k with
  | 0 => .array (.object "SnapSites$Site")
  | 1 => .object "java/util/ArrayList"
  | 2 => .object "java/util/ArrayList"
  | 3 => .object "SnapSites$ByteFinder"
  | 4 => .int
  | 5 => .int
  | _ => .int
abbrev wsX40 : List Cond := u_ws RX4 TX4 7
theorem nmX4 : ∀ a, a < 7 → ∀ b, b < 7 → a ≠ b → (TX4 a).2.1 ≠ (TX4 b).2.1 := by decide +kernel
theorem tyX4_ok : ∀ k, k < 7 → parseFieldDescriptor (TX4 k).2.2.1 = some (tyX4 k) := by decide +kernel
abbrev cX4_init : ByteArray := prog_1_method_1_code
def yX4_init : MethodName := ⟨RX4, "<init>", "()V"⟩
abbrev cX4_open : ByteArray := prog_1_method_2_code
def yX4_open : MethodName := ⟨RX4, "open", "(I)V"⟩
abbrev cX4_begin : ByteArray := prog_1_method_3_code
def yX4_begin : MethodName := ⟨RX4, "begin", "(I)I"⟩
abbrev cX4_read : ByteArray := prog_1_method_4_code
def yX4_read : MethodName := ⟨RX4, "read", "(II)I"⟩
abbrev cX4_write : ByteArray := prog_1_method_5_code
def yX4_write : MethodName := ⟨RX4, "write", "(III)I"⟩
abbrev cX4_change : ByteArray := prog_1_method_6_code
def yX4_change : MethodName := ⟨RX4, "change", "(IIII)I"⟩
abbrev cX4_count : ByteArray := prog_1_method_7_code
def yX4_count : MethodName := ⟨RX4, "count", "(III)I"⟩
abbrev cX4_commit : ByteArray := prog_1_method_8_code
def yX4_commit : MethodName := ⟨RX4, "commit", "(I)I"⟩
abbrev cX4_abort : ByteArray := prog_1_method_9_code
def yX4_abort : MethodName := ⟨RX4, "abort", "(I)V"⟩
abbrev cX4_again : ByteArray := prog_1_method_10_code
def yX4_again : MethodName := ⟨RX4, "again", "(I)I"⟩
abbrev cX4_deliver : ByteArray := prog_1_method_11_code
def yX4_deliver : MethodName := ⟨RX4, "deliver", "(I)I"⟩
abbrev cX4_drop : ByteArray := prog_1_method_12_code
def yX4_drop : MethodName := ⟨RX4, "drop", "(I)I"⟩
abbrev cX4_copy : ByteArray := prog_1_method_13_code
def yX4_copy : MethodName := ⟨RX4, "copy", "(I)Z"⟩
abbrev cX4_byteOf : ByteArray := prog_1_method_14_code
def yX4_byteOf : MethodName := ⟨RX4, "byteOf", "(II)I"⟩
abbrev cX4_crash : ByteArray := prog_1_method_15_code
def yX4_crash : MethodName := ⟨RX4, "crash", "(I)V"⟩
abbrev cX4_restart : ByteArray := prog_1_method_16_code
def yX4_restart : MethodName := ⟨RX4, "restart", "(I)V"⟩
abbrev cX4_about : ByteArray := prog_1_method_17_code
def yX4_about : MethodName := ⟨RX4, "about", "(II)I"⟩
abbrev cX4_vector : ByteArray := prog_1_method_18_code
def yX4_vector : MethodName := ⟨RX4, "vector", "(II)I"⟩
abbrev cX4_value : ByteArray := prog_1_method_19_code
def yX4_value : MethodName := ⟨RX4, "value", "(II)I"⟩
abbrev cX4_locked : ByteArray := prog_1_method_20_code
def yX4_locked : MethodName := ⟨RX4, "locked", "(II)I"⟩
abbrev cX4_total : ByteArray := prog_1_method_21_code
def yX4_total : MethodName := ⟨RX4, "total", "(I)I"⟩
abbrev cX4_startAfresh : ByteArray := prog_1_method_22_code
def yX4_startAfresh : MethodName := ⟨RX4, "startAfresh", "(I)V"⟩
abbrev cX4_needArgument : ByteArray := prog_1_method_23_code
def yX4_needArgument : MethodName := ⟨RX4, "needArgument", "(Z)V"⟩
abbrev cX4_needState : ByteArray := prog_1_method_24_code
def yX4_needState : MethodName := ⟨RX4, "needState", "(Z)V"⟩
abbrev cX4_needSite : ByteArray := prog_1_method_25_code
def yX4_needSite : MethodName := ⟨RX4, "needSite", "(I)V"⟩
abbrev cX4_needTransaction : ByteArray := prog_1_method_26_code
def yX4_needTransaction : MethodName := ⟨RX4, "needTransaction", "(I)V"⟩
abbrev cX4_needObject : ByteArray := prog_1_method_27_code
def yX4_needObject : MethodName := ⟨RX4, "needObject", "(I)V"⟩
abbrev cX4_needElement : ByteArray := prog_1_method_28_code
def yX4_needElement : MethodName := ⟨RX4, "needElement", "(II)V"⟩
abbrev cX4_needLetter : ByteArray := prog_1_method_29_code
def yX4_needLetter : MethodName := ⟨RX4, "needLetter", "(I)V"⟩
abbrev cX4_needGoingOn : ByteArray := prog_1_method_30_code
def yX4_needGoingOn : MethodName := ⟨RX4, "needGoingOn", "(LSnapSites$Transaction;)V"⟩
abbrev cX4_bit : ByteArray := prog_1_method_31_code
def yX4_bit : MethodName := ⟨RX4, "bit", "(I)I"⟩
abbrev cX4_has : ByteArray := prog_1_method_32_code
def yX4_has : MethodName := ⟨RX4, "has", "(II)Z"⟩
abbrev cX4_allSites : ByteArray := prog_1_method_33_code
def yX4_allSites : MethodName := ⟨RX4, "allSites", "()I"⟩
abbrev cX4_homeOf : ByteArray := prog_1_method_34_code
def yX4_homeOf : MethodName := ⟨RX4, "homeOf", "(I)I"⟩
abbrev cX4_homesOf : ByteArray := prog_1_method_35_code
def yX4_homesOf : MethodName := ⟨RX4, "homesOf", "(LSnapSites$Transaction;)I"⟩
abbrev cX4_hasWithHome : ByteArray := prog_1_method_36_code
def yX4_hasWithHome : MethodName := ⟨RX4, "hasWithHome", "(LSnapSites$Transaction;II)Z"⟩
abbrev cX4_cellOf : ByteArray := prog_1_method_37_code
def yX4_cellOf : MethodName := ⟨RX4, "cellOf", "(II)I"⟩
abbrev cX4_latestSeen : ByteArray := prog_1_method_38_code
def yX4_latestSeen : MethodName := ⟨RX4, "latestSeen", "(LSnapSites$Site;[II)I"⟩
abbrev cX4_changeSeen : ByteArray := prog_1_method_39_code
def yX4_changeSeen : MethodName := ⟨RX4, "changeSeen", "(LSnapSites$Transaction;I)I"⟩
abbrev cX4_isFitAt : ByteArray := prog_1_method_40_code
def yX4_isFitAt : MethodName := ⟨RX4, "isFitAt", "(LSnapSites$Transaction;I)Z"⟩
abbrev cX4_isObjectFit : ByteArray := prog_1_method_41_code
def yX4_isObjectFit : MethodName := ⟨RX4, "isObjectFit", "(LSnapSites$Transaction;ILSnapSites$Site;)Z"⟩
abbrev cX4_lockAt : ByteArray := prog_1_method_42_code
def yX4_lockAt : MethodName := ⟨RX4, "lockAt", "(LSnapSites$Transaction;I)V"⟩
abbrev cX4_makeWaiting : ByteArray := prog_1_method_43_code
def yX4_makeWaiting : MethodName := ⟨RX4, "makeWaiting", "(LSnapSites$Transaction;I)V"⟩
abbrev cX4_makeCommitted : ByteArray := prog_1_method_44_code
def yX4_makeCommitted : MethodName := ⟨RX4, "makeCommitted", "(LSnapSites$Transaction;)V"⟩
abbrev cX4_applyAt : ByteArray := prog_1_method_45_code
def yX4_applyAt : MethodName := ⟨RX4, "applyAt", "(LSnapSites$Transaction;I)V"⟩
abbrev cX4_giveUpLocks : ByteArray := prog_1_method_46_code
def yX4_giveUpLocks : MethodName := ⟨RX4, "giveUpLocks", "(LSnapSites$Transaction;)V"⟩
abbrev cX4_loseIfOpen : ByteArray := prog_1_method_47_code
def yX4_loseIfOpen : MethodName := ⟨RX4, "loseIfOpen", "(LSnapSites$Transaction;)V"⟩
abbrev cX4_sendToAll : ByteArray := prog_1_method_48_code
def yX4_sendToAll : MethodName := ⟨RX4, "sendToAll", "(ILSnapSites$Transaction;I)I"⟩
abbrev cX4_send : ByteArray := prog_1_method_49_code
def yX4_send : MethodName := ⟨RX4, "send", "(IIII)V"⟩
abbrev cX4_hasRoom : ByteArray := prog_1_method_50_code
def yX4_hasRoom : MethodName := ⟨RX4, "hasRoom", "()Z"⟩
abbrev cX4_handOver : ByteArray := prog_1_method_51_code
def yX4_handOver : MethodName := ⟨RX4, "handOver", "(LSnapSites$Letter;LSnapSites$Transaction;)I"⟩
abbrev cX4_takeAsk : ByteArray := prog_1_method_52_code
def yX4_takeAsk : MethodName := ⟨RX4, "takeAsk", "(LSnapSites$Transaction;I)V"⟩
abbrev cX4_takeYes : ByteArray := prog_1_method_53_code
def yX4_takeYes : MethodName := ⟨RX4, "takeYes", "(LSnapSites$Transaction;I)I"⟩
abbrev cX4_takeNo : ByteArray := prog_1_method_54_code
def yX4_takeNo : MethodName := ⟨RX4, "takeNo", "(LSnapSites$Transaction;)V"⟩
abbrev cX4_takeFree : ByteArray := prog_1_method_55_code
def yX4_takeFree : MethodName := ⟨RX4, "takeFree", "(LSnapSites$Transaction;I)V"⟩
abbrev cX4_takeTell : ByteArray := prog_1_method_56_code
def yX4_takeTell : MethodName := ⟨RX4, "takeTell", "(LSnapSites$Transaction;I)I"⟩
abbrev cX4_leastReady : ByteArray := prog_1_method_57_code
def yX4_leastReady : MethodName := ⟨RX4, "leastReady", "(I)I"⟩
abbrev cX4_keptTells : ByteArray := prog_1_method_58_code
def yX4_keptTells : MethodName := ⟨RX4, "keptTells", "()I"⟩
abbrev cX4_sitesUp : ByteArray := prog_1_method_59_code
def yX4_sitesUp : MethodName := ⟨RX4, "sitesUp", "()I"⟩
abbrev cX4_spell : ByteArray := prog_1_method_60_code
def yX4_spell : MethodName := ⟨RX4, "spell", "(LSnapSites$Letter;LSnapSites$Transaction;)V"⟩
abbrev cX4_spellStart : ByteArray := prog_1_method_61_code
def yX4_spellStart : MethodName := ⟨RX4, "spellStart", "(LSnapSites$Transaction;)V"⟩
abbrev cX4_spellAsked : ByteArray := prog_1_method_62_code
def yX4_spellAsked : MethodName := ⟨RX4, "spellAsked", "(LSnapSites$Transaction;I)V"⟩
abbrev cX4_spellWritten : ByteArray := prog_1_method_63_code
def yX4_spellWritten : MethodName := ⟨RX4, "spellWritten", "(LSnapSites$Transaction;)V"⟩
abbrev cX4_spellChanges : ByteArray := prog_1_method_64_code
def yX4_spellChanges : MethodName := ⟨RX4, "spellChanges", "(LSnapSites$Transaction;)V"⟩
def RX5 : String := "SnapSitesModel"
def TX5 : u_T := fun k => match k with
  | 0 => ("SnapSitesModel", "sites", "I", false)
  | 1 => ("SnapSitesModel", "vectors", "[I", true)
  | 2 => ("SnapSitesModel", "down", "[Z", true)
  | 3 => ("SnapSitesModel", "locks", "[I", true)
  | 4 => ("SnapSitesModel", "stamp", "I", false)
  | 5 => ("SnapSitesModel", "count", "I", false)
  | 6 => ("SnapSitesModel", "siteOf", "[I", true)
  | 7 => ("SnapSitesModel", "states", "[I", true)
  | 8 => ("SnapSitesModel", "sequences", "[I", true)
  | 9 => ("SnapSitesModel", "starts", "[I", true)
  | 10 => ("SnapSitesModel", "stamps", "[I", true)
  | 11 => ("SnapSitesModel", "kept", "[Z", true)
  | 12 => ("SnapSitesModel", "freed", "[Z", true)
  | 13 => ("SnapSitesModel", "asked", "[Z", true)
  | 14 => ("SnapSitesModel", "said", "[Z", true)
  | 15 => ("SnapSitesModel", "wrote", "[Z", true)
  | 16 => ("SnapSitesModel", "values", "[I", true)
  | 17 => ("SnapSitesModel", "changed", "[I", true)
  | 18 => ("SnapSitesModel", "by", "[I", true)
  | 19 => ("SnapSitesModel", "changes", "[I", true)
  | 20 => ("SnapSitesModel", "waited", "[Z", true)
  | 21 => ("SnapSitesModel", "owes", "[Z", true)
  | 22 => ("SnapSitesModel", "letters", "[I", true)
  | 23 => ("SnapSitesModel", "lying", "I", false)
  | 24 => ("SnapSitesModel", "sent", "I", false)
  | 25 => ("SnapSitesModel", "page", "[I", true)
  | 26 => ("SnapSitesModel", "pageSize", "I", false)
  | _ => ("SnapSitesModel", "thrown", "I", false)
def tyX5 : Nat → FieldType := fun k => match k with
  | 0 => .int
  | 1 => .array .int
  | 2 => .array .boolean
  | 3 => .array .int
  | 4 => .int
  | 5 => .int
  | 6 => .array .int
  | 7 => .array .int
  | 8 => .array .int
  | 9 => .array .int
  | 10 => .array .int
  | 11 => .array .boolean
  | 12 => .array .boolean
  | 13 => .array .boolean
  | 14 => .array .boolean
  | 15 => .array .boolean
  | 16 => .array .int
  | 17 => .array .int
  | 18 => .array .int
  | 19 => .array .int
  | 20 => .array .boolean
  | 21 => .array .boolean
  | 22 => .array .int
  | 23 => .int
  | 24 => .int
  | 25 => .array .int
  | 26 => .int
  | _ => .int
abbrev wsX50 : List Cond := u_ws RX5 TX5 28
theorem nmX5 : ∀ a, a < 28 → ∀ b, b < 28 → a ≠ b → (TX5 a).2.1 ≠ (TX5 b).2.1 := by decide +kernel
theorem tyX5_ok : ∀ k, k < 28 → parseFieldDescriptor (TX5 k).2.2.1 = some (tyX5 k) := by decide +kernel
abbrev cX5_init : ByteArray := prog_7_method_1_code
def yX5_init : MethodName := ⟨RX5, "<init>", "()V"⟩
abbrev cX5_thrown : ByteArray := prog_7_method_2_code
def yX5_thrown : MethodName := ⟨RX5, "thrown", "()I"⟩
abbrev cX5_fails : ByteArray := prog_7_method_3_code
def yX5_fails : MethodName := ⟨RX5, "fails", "(ZI)Z"⟩
abbrev cX5_begins : ByteArray := prog_7_method_4_code
def yX5_begins : MethodName := ⟨RX5, "begins", "(I)V"⟩
abbrev cX5_isSite : ByteArray := prog_7_method_5_code
def yX5_isSite : MethodName := ⟨RX5, "isSite", "(I)Z"⟩
abbrev cX5_isOne : ByteArray := prog_7_method_6_code
def yX5_isOne : MethodName := ⟨RX5, "isOne", "(I)Z"⟩
abbrev cX5_isObject : ByteArray := prog_7_method_7_code
def yX5_isObject : MethodName := ⟨RX5, "isObject", "(I)Z"⟩
abbrev cX5_open : ByteArray := prog_7_method_8_code
def yX5_open : MethodName := ⟨RX5, "open", "(I)V"⟩
abbrev cX5_begin : ByteArray := prog_7_method_9_code
def yX5_begin : MethodName := ⟨RX5, "begin", "(I)I"⟩
abbrev cX5_sees : ByteArray := prog_7_method_10_code
def yX5_sees : MethodName := ⟨RX5, "sees", "(II)Z"⟩
abbrev cX5_latest : ByteArray := prog_7_method_11_code
def yX5_latest : MethodName := ⟨RX5, "latest", "(III)I"⟩
abbrev cX5_read : ByteArray := prog_7_method_12_code
def yX5_read : MethodName := ⟨RX5, "read", "(II)I"⟩
abbrev cX5_objectsOf : ByteArray := prog_7_method_13_code
def yX5_objectsOf : MethodName := ⟨RX5, "objectsOf", "(I)I"⟩
abbrev cX5_write : ByteArray := prog_7_method_14_code
def yX5_write : MethodName := ⟨RX5, "write", "(III)I"⟩
abbrev cX5_isElement : ByteArray := prog_7_method_15_code
def yX5_isElement : MethodName := ⟨RX5, "isElement", "(II)Z"⟩
abbrev cX5_change : ByteArray := prog_7_method_16_code
def yX5_change : MethodName := ⟨RX5, "change", "(IIII)I"⟩
abbrev cX5_count : ByteArray := prog_7_method_17_code
def yX5_count : MethodName := ⟨RX5, "count", "(III)I"⟩
abbrev cX5_fits : ByteArray := prog_7_method_18_code
def yX5_fits : MethodName := ⟨RX5, "fits", "(III)Z"⟩
abbrev cX5_allFit : ByteArray := prog_7_method_19_code
def yX5_allFit : MethodName := ⟨RX5, "allFit", "(II)Z"⟩
abbrev cX5_lock : ByteArray := prog_7_method_20_code
def yX5_lock : MethodName := ⟨RX5, "lock", "(II)V"⟩
abbrev cX5_unlock : ByteArray := prog_7_method_21_code
def yX5_unlock : MethodName := ⟨RX5, "unlock", "(II)V"⟩
abbrev cX5_send : ByteArray := prog_7_method_22_code
def yX5_send : MethodName := ⟨RX5, "send", "(IIII)V"⟩
abbrev cX5_applies : ByteArray := prog_7_method_23_code
def yX5_applies : MethodName := ⟨RX5, "applies", "(II)V"⟩
abbrev cX5_commits : ByteArray := prog_7_method_24_code
def yX5_commits : MethodName := ⟨RX5, "commits", "(I)V"⟩
abbrev cX5_frees : ByteArray := prog_7_method_25_code
def yX5_frees : MethodName := ⟨RX5, "frees", "(I)V"⟩
abbrev cX5_commit : ByteArray := prog_7_method_26_code
def yX5_commit : MethodName := ⟨RX5, "commit", "(I)I"⟩
abbrev cX5_abort : ByteArray := prog_7_method_27_code
def yX5_abort : MethodName := ⟨RX5, "abort", "(I)V"⟩
abbrev cX5_again : ByteArray := prog_7_method_28_code
def yX5_again : MethodName := ⟨RX5, "again", "(I)I"⟩
abbrev cX5_isNext : ByteArray := prog_7_method_29_code
def yX5_isNext : MethodName := ⟨RX5, "isNext", "(II)Z"⟩
abbrev cX5_settles : ByteArray := prog_7_method_30_code
def yX5_settles : MethodName := ⟨RX5, "settles", "(I)I"⟩
abbrev cX5_allSaid : ByteArray := prog_7_method_31_code
def yX5_allSaid : MethodName := ⟨RX5, "allSaid", "(I)Z"⟩
abbrev cX5_takesOut : ByteArray := prog_7_method_32_code
def yX5_takesOut : MethodName := ⟨RX5, "takesOut", "(I)V"⟩
abbrev cX5_deliver : ByteArray := prog_7_method_33_code
def yX5_deliver : MethodName := ⟨RX5, "deliver", "(I)I"⟩
abbrev cX5_drop : ByteArray := prog_7_method_34_code
def yX5_drop : MethodName := ⟨RX5, "drop", "(I)I"⟩
abbrev cX5_copy : ByteArray := prog_7_method_35_code
def yX5_copy : MethodName := ⟨RX5, "copy", "(I)Z"⟩
abbrev cX5_put : ByteArray := prog_7_method_36_code
def yX5_put : MethodName := ⟨RX5, "put", "(I)V"⟩
abbrev cX5_putTwo : ByteArray := prog_7_method_37_code
def yX5_putTwo : MethodName := ⟨RX5, "putTwo", "(I)V"⟩
abbrev cX5_putStart : ByteArray := prog_7_method_38_code
def yX5_putStart : MethodName := ⟨RX5, "putStart", "(I)V"⟩
abbrev cX5_byteOf : ByteArray := prog_7_method_39_code
def yX5_byteOf : MethodName := ⟨RX5, "byteOf", "(II)I"⟩
abbrev cX5_crash : ByteArray := prog_7_method_40_code
def yX5_crash : MethodName := ⟨RX5, "crash", "(I)V"⟩
abbrev cX5_restart : ByteArray := prog_7_method_41_code
def yX5_restart : MethodName := ⟨RX5, "restart", "(I)V"⟩
abbrev cX5_about : ByteArray := prog_7_method_42_code
def yX5_about : MethodName := ⟨RX5, "about", "(II)I"⟩
abbrev cX5_vector : ByteArray := prog_7_method_43_code
def yX5_vector : MethodName := ⟨RX5, "vector", "(II)I"⟩
abbrev cX5_value : ByteArray := prog_7_method_44_code
def yX5_value : MethodName := ⟨RX5, "value", "(II)I"⟩
abbrev cX5_locked : ByteArray := prog_7_method_45_code
def yX5_locked : MethodName := ⟨RX5, "locked", "(II)I"⟩
abbrev cX5_total : ByteArray := prog_7_method_46_code
def yX5_total : MethodName := ⟨RX5, "total", "(I)I"⟩
def RJx145de : String := "java/io/Serializable"
def TJx145de : u_T := fun k => match k with
  | _ => ("", "", "", false)
def tyJx145de : Nat → FieldType := fun k => match k with
  | _ => .int
abbrev wsJx145de0 : List Cond := u_ws RJx145de TJx145de 0
theorem nmJx145de : ∀ a, a < 0 → ∀ b, b < 0 → a ≠ b → (TJx145de a).2.1 ≠ (TJx145de b).2.1 := by decide +kernel
theorem tyJx145de_ok : ∀ k, k < 0 → parseFieldDescriptor (TJx145de k).2.2.1 = some (tyJx145de k) := by decide +kernel
def RJx8e188 : String := "java/lang/Cloneable"
def TJx8e188 : u_T := fun k => match k with
  | _ => ("", "", "", false)
def tyJx8e188 : Nat → FieldType := fun k => match k with
  | _ => .int
abbrev wsJx8e1880 : List Cond := u_ws RJx8e188 TJx8e188 0
theorem nmJx8e188 : ∀ a, a < 0 → ∀ b, b < 0 → a ≠ b → (TJx8e188 a).2.1 ≠ (TJx8e188 b).2.1 := by decide +kernel
theorem tyJx8e188_ok : ∀ k, k < 0 → parseFieldDescriptor (TJx8e188 k).2.2.1 = some (tyJx8e188 k) := by decide +kernel
def RJ6 : String := "java/lang/Integer"
def TJ6 : u_T := fun k => match k with
  | _ => ("", "", "", false)
def tyJ6 : Nat → FieldType := fun k => match k with
  | _ => .int
abbrev wsJ60 : List Cond := u_ws RJ6 TJ6 0
theorem nmJ6 : ∀ a, a < 0 → ∀ b, b < 0 → a ≠ b → (TJ6 a).2.1 ≠ (TJ6 b).2.1 := by decide +kernel
theorem tyJ6_ok : ∀ k, k < 0 → parseFieldDescriptor (TJ6 k).2.2.1 = some (tyJ6 k) := by decide +kernel
abbrev cJ6_bitCount_0f7a4 : ByteArray := prog_13_method_49_code
def yJ6_bitCount_0f7a4 : MethodName := ⟨RJ6, "bitCount", "(I)I"⟩
def RJxab1ab : String := "java/lang/Iterable"
def TJxab1ab : u_T := fun k => match k with
  | _ => ("", "", "", false)
def tyJxab1ab : Nat → FieldType := fun k => match k with
  | _ => .int
abbrev wsJxab1ab0 : List Cond := u_ws RJxab1ab TJxab1ab 0
theorem nmJxab1ab : ∀ a, a < 0 → ∀ b, b < 0 → a ≠ b → (TJxab1ab a).2.1 ≠ (TJxab1ab b).2.1 := by decide +kernel
theorem tyJxab1ab_ok : ∀ k, k < 0 → parseFieldDescriptor (TJxab1ab k).2.2.1 = some (tyJxab1ab k) := by decide +kernel
def RJ9 : String := "java/lang/Math"
def TJ9 : u_T := fun k => match k with
  | _ => ("", "", "", false)
def tyJ9 : Nat → FieldType := fun k => match k with
  | _ => .int
abbrev wsJ90 : List Cond := u_ws RJ9 TJ9 0
theorem nmJ9 : ∀ a, a < 0 → ∀ b, b < 0 → a ≠ b → (TJ9 a).2.1 ≠ (TJ9 b).2.1 := by decide +kernel
theorem tyJ9_ok : ∀ k, k < 0 → parseFieldDescriptor (TJ9 k).2.2.1 = some (tyJ9 k) := by decide +kernel
abbrev cJ9_max_7cf53 : ByteArray := prog_15_method_65_code
def yJ9_max_7cf53 : MethodName := ⟨RJ9, "max", "(II)I"⟩
abbrev cJ9_min_7cf53 : ByteArray := prog_15_method_69_code
def yJ9_min_7cf53 : MethodName := ⟨RJ9, "min", "(II)I"⟩
def RJxe7f93 : String := "java/lang/Record"
def TJxe7f93 : u_T := fun k => match k with
  | _ => ("", "", "", false)
def tyJxe7f93 : Nat → FieldType := fun k => match k with
  | _ => .int
abbrev wsJxe7f930 : List Cond := u_ws RJxe7f93 TJxe7f93 0
theorem nmJxe7f93 : ∀ a, a < 0 → ∀ b, b < 0 → a ≠ b → (TJxe7f93 a).2.1 ≠ (TJxe7f93 b).2.1 := by decide +kernel
theorem tyJxe7f93_ok : ∀ k, k < 0 → parseFieldDescriptor (TJxe7f93 k).2.2.1 = some (tyJxe7f93 k) := by decide +kernel
abbrev cJxe7f93_init_da8c8 : ByteArray := prog_16_method_1_code
def yJxe7f93_init_da8c8 : MethodName := ⟨RJxe7f93, "<init>", "()V"⟩
def RJ0 : String := "java/lang/String"
def TJ0 : u_T := fun k => match k with
  | _ => ("", "", "", false)
def tyJ0 : Nat → FieldType := fun k => match k with
  | _ => .int
abbrev wsJ00 : List Cond := u_ws RJ0 TJ0 0
theorem nmJ0 : ∀ a, a < 0 → ∀ b, b < 0 → a ≠ b → (TJ0 a).2.1 ≠ (TJ0 b).2.1 := by decide +kernel
theorem tyJ0_ok : ∀ k, k < 0 → parseFieldDescriptor (TJ0 k).2.2.1 = some (tyJ0 k) := by decide +kernel
def RJ10 : String := "java/lang/System"
def TJ10 : u_T := fun k => match k with
  | _ => ("", "", "", false)
def tyJ10 : Nat → FieldType := fun k => match k with
  | _ => .int
abbrev wsJ100 : List Cond := u_ws RJ10 TJ10 0
theorem nmJ10 : ∀ a, a < 0 → ∀ b, b < 0 → a ≠ b → (TJ10 a).2.1 ≠ (TJ10 b).2.1 := by decide +kernel
theorem tyJ10_ok : ∀ k, k < 0 → parseFieldDescriptor (TJ10 k).2.2.1 = some (tyJ10 k) := by decide +kernel
def RJxa1e45 : String := "java/util/AbstractCollection"
def TJxa1e45 : u_T := fun k => match k with
  | _ => ("", "", "", false)
def tyJxa1e45 : Nat → FieldType := fun k => match k with
  | _ => .int
abbrev wsJxa1e450 : List Cond := u_ws RJxa1e45 TJxa1e45 0
theorem nmJxa1e45 : ∀ a, a < 0 → ∀ b, b < 0 → a ≠ b → (TJxa1e45 a).2.1 ≠ (TJxa1e45 b).2.1 := by decide +kernel
theorem tyJxa1e45_ok : ∀ k, k < 0 → parseFieldDescriptor (TJxa1e45 k).2.2.1 = some (tyJxa1e45 k) := by decide +kernel
abbrev cJxa1e45_init_da8c8 : ByteArray := prog_21_method_1_code
def yJxa1e45_init_da8c8 : MethodName := ⟨RJxa1e45, "<init>", "()V"⟩
def RJxc12de : String := "java/util/AbstractList"
def TJxc12de : u_T := fun k => match k with
  | _ => ("", "", "", false)
def tyJxc12de : Nat → FieldType := fun k => match k with
  | _ => .int
abbrev wsJxc12de0 : List Cond := u_ws RJxc12de TJxc12de 0
theorem nmJxc12de : ∀ a, a < 0 → ∀ b, b < 0 → a ≠ b → (TJxc12de a).2.1 ≠ (TJxc12de b).2.1 := by decide +kernel
theorem tyJxc12de_ok : ∀ k, k < 0 → parseFieldDescriptor (TJxc12de k).2.2.1 = some (tyJxc12de k) := by decide +kernel
abbrev cJxc12de_init_da8c8 : ByteArray := prog_22_method_1_code
def yJxc12de_init_da8c8 : MethodName := ⟨RJxc12de, "<init>", "()V"⟩
def RJx4a65c : String := "java/util/ArrayList"
def TJx4a65c : u_T := fun k => match k with
  | 0 => ("java/util/AbstractList", "modCount", "I", false)
  | 1 => ("java/util/ArrayList", "elementData", "[Ljava/lang/Object;", false)
  | _ => ("java/util/ArrayList", "size", "I", false)
def tyJx4a65c : Nat → FieldType := fun k => match k with
  | 0 => .int
  | 1 => .array (.object "java/lang/Object")
  | _ => .int
abbrev wsJx4a65c0 : List Cond := u_ws RJx4a65c TJx4a65c 3
theorem nmJx4a65c : ∀ a, a < 3 → ∀ b, b < 3 → a ≠ b → (TJx4a65c a).2.1 ≠ (TJx4a65c b).2.1 := by decide +kernel
theorem tyJx4a65c_ok : ∀ k, k < 3 → parseFieldDescriptor (TJx4a65c k).2.2.1 = some (tyJx4a65c k) := by decide +kernel
abbrev cJx4a65c_init_da8c8 : ByteArray := prog_23_method_2_code
def yJx4a65c_init_da8c8 : MethodName := ⟨RJx4a65c, "<init>", "()V"⟩
abbrev cJx4a65c_grow_92f84 : ByteArray := prog_23_method_6_code
def yJx4a65c_grow_92f84 : MethodName := ⟨RJx4a65c, "grow", "(I)[Ljava/lang/Object;"⟩
abbrev cJx4a65c_grow_d5877 : ByteArray := prog_23_method_7_code
def yJx4a65c_grow_d5877 : MethodName := ⟨RJx4a65c, "grow", "()[Ljava/lang/Object;"⟩
abbrev cJx4a65c_size_8abf5 : ByteArray := prog_23_method_8_code
def yJx4a65c_size_8abf5 : MethodName := ⟨RJx4a65c, "size", "()I"⟩
abbrev cJx4a65c_elementData_915e3 : ByteArray := prog_23_method_18_code
def yJx4a65c_elementData_915e3 : MethodName := ⟨RJx4a65c, "elementData", "(I)Ljava/lang/Object;"⟩
abbrev cJx4a65c_get_915e3 : ByteArray := prog_23_method_20_code
def yJx4a65c_get_915e3 : MethodName := ⟨RJx4a65c, "get", "(I)Ljava/lang/Object;"⟩
abbrev cJx4a65c_add_72be8 : ByteArray := prog_23_method_24_code
def yJx4a65c_add_72be8 : MethodName := ⟨RJx4a65c, "add", "(Ljava/lang/Object;[Ljava/lang/Object;I)V"⟩
abbrev cJx4a65c_add_9ea2d : ByteArray := prog_23_method_25_code
def yJx4a65c_add_9ea2d : MethodName := ⟨RJx4a65c, "add", "(Ljava/lang/Object;)Z"⟩
abbrev cJx4a65c_remove_915e3 : ByteArray := prog_23_method_29_code
def yJx4a65c_remove_915e3 : MethodName := ⟨RJx4a65c, "remove", "(I)Ljava/lang/Object;"⟩
abbrev cJx4a65c_fastRemove_b59b0 : ByteArray := prog_23_method_39_code
def yJx4a65c_fastRemove_b59b0 : MethodName := ⟨RJx4a65c, "fastRemove", "([Ljava/lang/Object;I)V"⟩
abbrev cJx4a65c_clear_da8c8 : ByteArray := prog_23_method_40_code
def yJx4a65c_clear_da8c8 : MethodName := ⟨RJx4a65c, "clear", "()V"⟩
def RJ7 : String := "java/util/Arrays"
def TJ7 : u_T := fun k => match k with
  | _ => ("", "", "", false)
def tyJ7 : Nat → FieldType := fun k => match k with
  | _ => .int
abbrev wsJ70 : List Cond := u_ws RJ7 TJ7 0
theorem nmJ7 : ∀ a, a < 0 → ∀ b, b < 0 → a ≠ b → (TJ7 a).2.1 ≠ (TJ7 b).2.1 := by decide +kernel
theorem tyJ7_ok : ∀ k, k < 0 → parseFieldDescriptor (TJ7 k).2.2.1 = some (tyJ7 k) := by decide +kernel
abbrev cJ7_copyOf_1904c : ByteArray := prog_24_method_119_code
def yJ7_copyOf_1904c : MethodName := ⟨RJ7, "copyOf", "([Ljava/lang/Object;I)[Ljava/lang/Object;"⟩
abbrev cJ7_copyOf_6403c : ByteArray := prog_24_method_120_code
def yJ7_copyOf_6403c : MethodName := ⟨RJ7, "copyOf", "([Ljava/lang/Object;ILjava/lang/Class;)[Ljava/lang/Object;"⟩
def RJx5ef63 : String := "java/util/Collection"
def TJx5ef63 : u_T := fun k => match k with
  | _ => ("", "", "", false)
def tyJx5ef63 : Nat → FieldType := fun k => match k with
  | _ => .int
abbrev wsJx5ef630 : List Cond := u_ws RJx5ef63 TJx5ef63 0
theorem nmJx5ef63 : ∀ a, a < 0 → ∀ b, b < 0 → a ≠ b → (TJx5ef63 a).2.1 ≠ (TJx5ef63 b).2.1 := by decide +kernel
theorem tyJx5ef63_ok : ∀ k, k < 0 → parseFieldDescriptor (TJx5ef63 k).2.2.1 = some (tyJx5ef63 k) := by decide +kernel
def RJxbd725 : String := "java/util/List"
def TJxbd725 : u_T := fun k => match k with
  | _ => ("", "", "", false)
def tyJxbd725 : Nat → FieldType := fun k => match k with
  | _ => .int
abbrev wsJxbd7250 : List Cond := u_ws RJxbd725 TJxbd725 0
theorem nmJxbd725 : ∀ a, a < 0 → ∀ b, b < 0 → a ≠ b → (TJxbd725 a).2.1 ≠ (TJxbd725 b).2.1 := by decide +kernel
theorem tyJxbd725_ok : ∀ k, k < 0 → parseFieldDescriptor (TJxbd725 k).2.2.1 = some (tyJxbd725 k) := by decide +kernel
def RJ15 : String := "java/util/Objects"
def TJ15 : u_T := fun k => match k with
  | _ => ("", "", "", false)
def tyJ15 : Nat → FieldType := fun k => match k with
  | _ => .int
abbrev wsJ150 : List Cond := u_ws RJ15 TJ15 0
theorem nmJ15 : ∀ a, a < 0 → ∀ b, b < 0 → a ≠ b → (TJ15 a).2.1 ≠ (TJ15 b).2.1 := by decide +kernel
theorem tyJ15_ok : ∀ k, k < 0 → parseFieldDescriptor (TJ15 k).2.2.1 = some (tyJ15 k) := by decide +kernel
abbrev cJ15_checkIndex_7cf53 : ByteArray := prog_27_method_17_code
def yJ15_checkIndex_7cf53 : MethodName := ⟨RJ15, "checkIndex", "(II)I"⟩
def RJxf0a74 : String := "java/util/RandomAccess"
def TJxf0a74 : u_T := fun k => match k with
  | _ => ("", "", "", false)
def tyJxf0a74 : Nat → FieldType := fun k => match k with
  | _ => .int
abbrev wsJxf0a740 : List Cond := u_ws RJxf0a74 TJxf0a74 0
theorem nmJxf0a74 : ∀ a, a < 0 → ∀ b, b < 0 → a ≠ b → (TJxf0a74 a).2.1 ≠ (TJxf0a74 b).2.1 := by decide +kernel
theorem tyJxf0a74_ok : ∀ k, k < 0 → parseFieldDescriptor (TJxf0a74 k).2.2.1 = some (tyJxf0a74 k) := by decide +kernel
def RJxa66e6 : String := "java/util/SequencedCollection"
def TJxa66e6 : u_T := fun k => match k with
  | _ => ("", "", "", false)
def tyJxa66e6 : Nat → FieldType := fun k => match k with
  | _ => .int
abbrev wsJxa66e60 : List Cond := u_ws RJxa66e6 TJxa66e6 0
theorem nmJxa66e6 : ∀ a, a < 0 → ∀ b, b < 0 → a ≠ b → (TJxa66e6 a).2.1 ≠ (TJxa66e6 b).2.1 := by decide +kernel
theorem tyJxa66e6_ok : ∀ k, k < 0 → parseFieldDescriptor (TJxa66e6 k).2.2.1 = some (tyJxa66e6 k) := by decide +kernel
def RJ8 : String := "jdk/internal/util/ArraysSupport"
def TJ8 : u_T := fun k => match k with
  | _ => ("", "", "", false)
def tyJ8 : Nat → FieldType := fun k => match k with
  | _ => .int
abbrev wsJ80 : List Cond := u_ws RJ8 TJ8 0
theorem nmJ8 : ∀ a, a < 0 → ∀ b, b < 0 → a ≠ b → (TJ8 a).2.1 ≠ (TJ8 b).2.1 := by decide +kernel
theorem tyJ8_ok : ∀ k, k < 0 → parseFieldDescriptor (TJ8 k).2.2.1 = some (tyJ8 k) := by decide +kernel
abbrev cJ8_newLength_cabcc : ByteArray := prog_30_method_27_code
def yJ8_newLength_cabcc : MethodName := ⟨RJ8, "newLength", "(III)I"⟩
abbrev cJ8_hugeLength_7cf53 : ByteArray := prog_30_method_28_code
def yJ8_hugeLength_7cf53 : MethodName := ⟨RJ8, "hugeLength", "(II)I"⟩
def RJ3 : String := "jdk/internal/util/Preconditions"
def TJ3 : u_T := fun k => match k with
  | _ => ("", "", "", false)
def tyJ3 : Nat → FieldType := fun k => match k with
  | _ => .int
abbrev wsJ30 : List Cond := u_ws RJ3 TJ3 0
theorem nmJ3 : ∀ a, a < 0 → ∀ b, b < 0 → a ≠ b → (TJ3 a).2.1 ≠ (TJ3 b).2.1 := by decide +kernel
theorem tyJ3_ok : ∀ k, k < 0 → parseFieldDescriptor (TJ3 k).2.2.1 = some (tyJ3 k) := by decide +kernel
abbrev cJ3_checkIndex_8e157 : ByteArray := prog_31_method_11_code
def yJ3_checkIndex_8e157 : MethodName := ⟨RJ3, "checkIndex", "(IILjava/util/function/BiFunction;)I"⟩
def RL : String := "SnapSitesLaw"
abbrev cL_open : ByteArray := method_3_code
def yL_open : MethodName := ⟨RL, "open", "(LSnapSites;I)I"⟩
abbrev cL_begin : ByteArray := method_4_code
def yL_begin : MethodName := ⟨RL, "begin", "(LSnapSites;I[J)I"⟩
abbrev cL_read : ByteArray := method_5_code
def yL_read : MethodName := ⟨RL, "read", "(LSnapSites;II[J)I"⟩
abbrev cL_write : ByteArray := method_6_code
def yL_write : MethodName := ⟨RL, "write", "(LSnapSites;III[J)I"⟩
abbrev cL_change : ByteArray := method_7_code
def yL_change : MethodName := ⟨RL, "change", "(LSnapSites;IIII[J)I"⟩
abbrev cL_count : ByteArray := method_8_code
def yL_count : MethodName := ⟨RL, "count", "(LSnapSites;III[J)I"⟩
abbrev cL_commit : ByteArray := method_9_code
def yL_commit : MethodName := ⟨RL, "commit", "(LSnapSites;I[J)I"⟩
abbrev cL_abort : ByteArray := method_10_code
def yL_abort : MethodName := ⟨RL, "abort", "(LSnapSites;I)I"⟩
abbrev cL_again : ByteArray := method_11_code
def yL_again : MethodName := ⟨RL, "again", "(LSnapSites;I[J)I"⟩
abbrev cL_deliver : ByteArray := method_12_code
def yL_deliver : MethodName := ⟨RL, "deliver", "(LSnapSites;I[J)I"⟩
abbrev cL_drop : ByteArray := method_13_code
def yL_drop : MethodName := ⟨RL, "drop", "(LSnapSites;I[J)I"⟩
abbrev cL_copy : ByteArray := method_14_code
def yL_copy : MethodName := ⟨RL, "copy", "(LSnapSites;I[J)I"⟩
abbrev cL_byteOf : ByteArray := method_15_code
def yL_byteOf : MethodName := ⟨RL, "byteOf", "(LSnapSites;II[J)I"⟩
abbrev cL_crash : ByteArray := method_16_code
def yL_crash : MethodName := ⟨RL, "crash", "(LSnapSites;I)I"⟩
abbrev cL_restart : ByteArray := method_17_code
def yL_restart : MethodName := ⟨RL, "restart", "(LSnapSites;I)I"⟩
abbrev cL_about : ByteArray := method_18_code
def yL_about : MethodName := ⟨RL, "about", "(LSnapSites;II[J)I"⟩
abbrev cL_vector : ByteArray := method_19_code
def yL_vector : MethodName := ⟨RL, "vector", "(LSnapSites;II[J)I"⟩
abbrev cL_value : ByteArray := method_20_code
def yL_value : MethodName := ⟨RL, "value", "(LSnapSites;II[J)I"⟩
abbrev cL_locked : ByteArray := method_21_code
def yL_locked : MethodName := ⟨RL, "locked", "(LSnapSites;II[J)I"⟩
abbrev cL_total : ByteArray := method_22_code
def yL_total : MethodName := ⟨RL, "total", "(LSnapSites;I[J)I"⟩
abbrev cL_law : ByteArray := code
def yL_law : MethodName := ⟨RL, "law", "([I)Z"⟩
def wsL_law0_r1 : List Cond := [Cond.classLink RL 8 RX4, Cond.instantiable RX4 7, Cond.initialized RX4, Cond.classLink RL 80 RX5, Cond.instantiable RX5 28, Cond.initialized RX5, Cond.arrayClass .long, Cond.methodLink RL 79 yX4_init, Cond.instanceMethod yX4_init, Cond.code yX4_init cX4_init 2 none, Cond.methodLink RX4 1 objectInit, Cond.instanceMethod objectInit, Cond.code objectInit ⟨#[0xb1]⟩ 1 none, Cond.classLink RX4 9 RX2, Cond.fieldLink RX4 11 "SnapSites" "sites" "[LSnapSites$Site;", Cond.instantiable RX2 5, Cond.initialized RX2, Cond.classLink RX4 16 RJx4a65c, Cond.instantiable RJx4a65c 3, Cond.initialized RJx4a65c, Cond.fieldLink RX4 19 "SnapSites" "transactions" "Ljava/util/ArrayList;", Cond.fieldLink RX4 23 "SnapSites" "letters" "Ljava/util/ArrayList;", Cond.classLink RX4 26 RX0, Cond.instantiable RX0 4]
def wsL_law0_r2 : List Cond := [Cond.initialized RX0, Cond.fieldLink RX4 29 "SnapSites" "finder" "LSnapSites$ByteFinder;", Cond.instanceMethod yX2_init, Cond.code yX2_init cX2_init 1 none, Cond.methodLink RX2 3 objectInit, Cond.arrayClass .int, Cond.fieldLink RX2 9 "SnapSites$Site" "counts" "[I", Cond.fieldLink RX2 15 "SnapSites$Site" "holders" "[I", Cond.fieldLink RX2 18 "SnapSites$Site" "applied" "[I", Cond.methodLink RX4 18 yJx4a65c_init_da8c8, Cond.instanceMethod yJx4a65c_init_da8c8, Cond.code yJx4a65c_init_da8c8 cJx4a65c_init_da8c8 1 none, Cond.fieldLink RJx4a65c 39 "java/util/ArrayList" "DEFAULTCAPACITY_EMPTY_ELEMENTDATA" "[Ljava/lang/Object;", Cond.fieldLink RJx4a65c 9 "java/util/ArrayList" "elementData" "[Ljava/lang/Object;", Cond.methodLink RJx4a65c 1 yJxc12de_init_da8c8, Cond.instanceMethod yJxc12de_init_da8c8, Cond.initialized RJxc12de, Cond.code yJxc12de_init_da8c8 cJxc12de_init_da8c8 1 none, Cond.fieldLink RJxc12de 7 "java/util/AbstractList" "modCount" "I", Cond.methodLink RJxc12de 1 yJxa1e45_init_da8c8, Cond.instanceMethod yJxa1e45_init_da8c8, Cond.initialized RJxa1e45, Cond.code yJxa1e45_init_da8c8 cJxa1e45_init_da8c8 1 none, Cond.methodLink RJxa1e45 1 objectInit]
def wsL_law0_r3 : List Cond := [Cond.instanceMethod yX0_init, Cond.code yX0_init cX0_init 1 none, Cond.methodLink RX0 3 objectInit, Cond.methodLink RX4 33 yX4_startAfresh, Cond.instanceMethod yX4_startAfresh, Cond.selects RX4 yX4_startAfresh yX4_startAfresh, Cond.code yX4_startAfresh cX4_startAfresh 3 none, Cond.fieldLink RX4 251 "SnapSites" "siteCount" "I", Cond.fieldLink RX4 48 "SnapSites" "begun" "I", Cond.fieldLink RX4 238 "SnapSites" "sent" "I", Cond.methodLink RX4 247 yX2_clear, Cond.instanceMethod yX2_clear, Cond.selects RX2 yX2_clear yX2_clear, Cond.code yX2_clear cX2_clear 2 none, Cond.fieldLink RX2 21 "SnapSites$Site" "up" "Z", Cond.fieldLink RX2 25 "SnapSites$Site" "appliedCount" "I", Cond.methodLink RX4 250 yJx4a65c_clear_da8c8, Cond.instanceMethod yJx4a65c_clear_da8c8, Cond.selects RJx4a65c yJx4a65c_clear_da8c8 yJx4a65c_clear_da8c8, Cond.code yJx4a65c_clear_da8c8 cJx4a65c_clear_da8c8 4 none, Cond.fieldLink RJx4a65c 63 "java/util/ArrayList" "modCount" "I", Cond.sameField "java/util/ArrayList" "java/util/AbstractList" "modCount" "I", Cond.fieldLink RJx4a65c 48 "java/util/ArrayList" "size" "I", Cond.methodLink RL 82 yX5_init]
def wsL_law0_r4 : List Cond := [Cond.instanceMethod yX5_init, Cond.code yX5_init cX5_init 1 none, Cond.methodLink RX5 1 objectInit, Cond.fieldLink RX5 7 "SnapSitesModel" "sites" "I", Cond.fieldLink RX5 13 "SnapSitesModel" "vectors" "[I", Cond.arrayClass .boolean, Cond.fieldLink RX5 17 "SnapSitesModel" "down" "[Z", Cond.fieldLink RX5 21 "SnapSitesModel" "locks" "[I", Cond.fieldLink RX5 24 "SnapSitesModel" "siteOf" "[I", Cond.fieldLink RX5 27 "SnapSitesModel" "states" "[I", Cond.fieldLink RX5 30 "SnapSitesModel" "sequences" "[I", Cond.fieldLink RX5 33 "SnapSitesModel" "starts" "[I", Cond.fieldLink RX5 36 "SnapSitesModel" "stamps" "[I", Cond.fieldLink RX5 39 "SnapSitesModel" "kept" "[Z", Cond.fieldLink RX5 42 "SnapSitesModel" "freed" "[Z", Cond.fieldLink RX5 45 "SnapSitesModel" "asked" "[Z", Cond.fieldLink RX5 48 "SnapSitesModel" "said" "[Z", Cond.fieldLink RX5 51 "SnapSitesModel" "wrote" "[Z", Cond.fieldLink RX5 54 "SnapSitesModel" "values" "[I", Cond.fieldLink RX5 57 "SnapSitesModel" "changed" "[I", Cond.fieldLink RX5 60 "SnapSitesModel" "by" "[I", Cond.fieldLink RX5 63 "SnapSitesModel" "changes" "[I", Cond.fieldLink RX5 66 "SnapSitesModel" "waited" "[Z", Cond.fieldLink RX5 69 "SnapSitesModel" "owes" "[Z"]
def wsL_law0_r5 : List Cond := [Cond.fieldLink RX5 72 "SnapSitesModel" "letters" "[I", Cond.fieldLink RX5 75 "SnapSitesModel" "page" "[I", Cond.methodLink RX5 78 yX5_begins, Cond.instanceMethod yX5_begins, Cond.selects RX5 yX5_begins yX5_begins, Cond.code yX5_begins cX5_begins 3 none, Cond.fieldLink RX5 85 "SnapSitesModel" "stamp" "I", Cond.fieldLink RX5 88 "SnapSitesModel" "count" "I", Cond.fieldLink RX5 91 "SnapSitesModel" "lying" "I", Cond.fieldLink RX5 94 "SnapSitesModel" "sent" "I", Cond.methodLink RL 83 yL_open, Cond.static yL_open, Cond.initialized RL, Cond.codeWith yL_open cL_open 3 (some .int) [(0, 5, 8, 13)], Cond.classLink RL 13 "java/lang/IllegalArgumentException", Cond.methodLink RL 7 yX4_open, Cond.instanceMethod yX4_open, Cond.selects RX4 yX4_open yX4_open, Cond.code yX4_open cX4_open 2 none, Cond.methodLink RX4 37 yX4_needArgument, Cond.static yX4_needArgument, Cond.code yX4_needArgument cX4_needArgument 1 none, Cond.classLink RX4 228 "java/lang/IllegalArgumentException", Cond.initialized "java/lang/IllegalArgumentException"]
def wsL_law0_r6 : List Cond := [Cond.methodLink RL 88 yX5_open, Cond.instanceMethod yX5_open, Cond.selects RX5 yX5_open yX5_open, Cond.code yX5_open cX5_open 2 none, Cond.methodLink RX5 97 yX5_fails, Cond.instanceMethod yX5_fails, Cond.selects RX5 yX5_fails yX5_fails, Cond.code yX5_fails cX5_fails 3 (some .boolean), Cond.fieldLink RX5 82 "SnapSitesModel" "thrown" "I", Cond.methodLink RL 89 yX5_thrown, Cond.instanceMethod yX5_thrown, Cond.selects RX5 yX5_thrown yX5_thrown, Cond.code yX5_thrown cX5_thrown 1 (some .int), Cond.methodLink RL 93 yL_begin, Cond.static yL_begin, Cond.codeWith yL_begin cL_begin 4 (some .int) [(0, 9, 12, 13), (0, 9, 15, 19)], Cond.classLink RL 19 "java/lang/IllegalStateException", Cond.methodLink RL 15 yX4_begin, Cond.instanceMethod yX4_begin, Cond.selects RX4 yX4_begin yX4_begin, Cond.code yX4_begin cX4_begin 2 (some .int), Cond.fieldLink RX4 44 "SnapSites$Site" "up" "Z", Cond.classLink RX4 59 RX3, Cond.instantiable RX3 16]
def wsL_law0_r7 : List Cond := [Cond.initialized RX3, Cond.classLink RX4 59 "SnapSites$Transaction", Cond.fieldLink RX4 70 "SnapSites$Site" "counts" "[I", Cond.methodLink RX4 41 yX4_needSite, Cond.instanceMethod yX4_needSite, Cond.selects RX4 yX4_needSite yX4_needSite, Cond.code yX4_needSite cX4_needSite 2 none, Cond.methodLink RX4 52 yX4_needState, Cond.static yX4_needState, Cond.code yX4_needState cX4_needState 1 none, Cond.classLink RX4 256 "java/lang/IllegalStateException", Cond.initialized "java/lang/IllegalStateException", Cond.methodLink RX4 55 yJx4a65c_size_8abf5, Cond.instanceMethod yJx4a65c_size_8abf5, Cond.selects RJx4a65c yJx4a65c_size_8abf5 yJx4a65c_size_8abf5, Cond.code yJx4a65c_size_8abf5 cJx4a65c_size_8abf5 1 (some .int), Cond.instanceMethod yX3_init, Cond.code yX3_init cX3_init 1 none, Cond.methodLink RX3 3 objectInit, Cond.fieldLink RX3 9 "SnapSites$Transaction" "start" "[I", Cond.fieldLink RX3 15 "SnapSites$Transaction" "values" "[I", Cond.fieldLink RX3 18 "SnapSites$Transaction" "changedCells" "[I", Cond.fieldLink RX3 21 "SnapSites$Transaction" "changedBy" "[I", Cond.methodLink RX4 62 yJx4a65c_add_9ea2d]
def wsL_law0_r8 : List Cond := [Cond.instanceMethod yJx4a65c_add_9ea2d, Cond.selects RJx4a65c yJx4a65c_add_9ea2d yJx4a65c_add_9ea2d, Cond.code yJx4a65c_add_9ea2d cJx4a65c_add_9ea2d 2 (some .boolean), Cond.methodLink RJx4a65c 131 yJx4a65c_add_72be8, Cond.instanceMethod yJx4a65c_add_72be8, Cond.selects RJx4a65c yJx4a65c_add_72be8 yJx4a65c_add_72be8, Cond.code yJx4a65c_add_72be8 cJx4a65c_add_72be8 4 none, Cond.methodLink RJx4a65c 129 yJx4a65c_grow_d5877, Cond.instanceMethod yJx4a65c_grow_d5877, Cond.selects RJx4a65c yJx4a65c_grow_d5877 yJx4a65c_grow_d5877, Cond.code yJx4a65c_grow_d5877 cJx4a65c_grow_d5877 1 (some (.array (.object "java/lang/Object"))), Cond.methodLink RJx4a65c 69 yJx4a65c_grow_92f84, Cond.instanceMethod yJx4a65c_grow_92f84, Cond.selects RJx4a65c yJx4a65c_grow_92f84 yJx4a65c_grow_92f84, Cond.code yJx4a65c_grow_92f84 cJx4a65c_grow_92f84 4 (some (.array (.object "java/lang/Object"))), Cond.methodLink RJx4a65c 79 Lib.Math.max.name, Cond.static Lib.Math.max.name, Cond.initialized "java/lang/Math", Cond.code Lib.Math.max.name Lib.Math.max.code 2 (some .int), Cond.classLink RJx4a65c 7 "java/lang/Object", Cond.methodLink RJx4a65c 73 yJ8_newLength_cabcc, Cond.static yJ8_newLength_cabcc, Cond.initialized RJ8, Cond.code yJ8_newLength_cabcc cJ8_newLength_cabcc 4 (some .int)]
def wsL_law0_r9 : List Cond := [Cond.methodLink RJ8 194 Lib.Math.max.name, Cond.constant RJ8 200 (2147483639), Cond.methodLink RJ8 201 yJ8_hugeLength_7cf53, Cond.static yJ8_hugeLength_7cf53, Cond.code yJ8_hugeLength_7cf53 cJ8_hugeLength_7cf53 3 (some .int), Cond.methodLink RJx4a65c 66 yJ7_copyOf_1904c, Cond.static yJ7_copyOf_1904c, Cond.initialized RJ7, Cond.code yJ7_copyOf_1904c cJ7_copyOf_1904c 2 (some (.array (.object "java/lang/Object"))), Cond.methodLink RJ7 86 ⟨"java/lang/Object", "getClass", "()Ljava/lang/Class;"⟩, Cond.selects "[Ljava/lang/Object;" ⟨"java/lang/Object", "getClass", "()Ljava/lang/Class;"⟩ ⟨"java/lang/Object", "getClass", "()Ljava/lang/Class;"⟩, Cond.instanceMethod ⟨"java/lang/Object", "getClass", "()Ljava/lang/Class;"⟩, Cond.native ⟨"java/lang/Object", "getClass", "()Ljava/lang/Class;"⟩, Cond.methodLink RJ7 300 yJ7_copyOf_6403c, Cond.static yJ7_copyOf_6403c, Cond.code yJ7_copyOf_6403c cJ7_copyOf_6403c 4 (some (.array (.object "java/lang/Object"))), Cond.classLink RJ7 110 "[Ljava/lang/Object;", Cond.classLink RJ7 2 "java/lang/Object", Cond.methodLink RJ7 304 Lib.Math.min.name, Cond.static Lib.Math.min.name, Cond.code Lib.Math.min.name Lib.Math.min.code 2 (some .int), Cond.methodLink RJ7 150 arraycopyName, Cond.native arraycopyName, Cond.static arraycopyName]
def wsL_law0_r10 : List Cond := [Cond.initialized "java/lang/System", Cond.methodLink RX4 66 yJx4a65c_get_915e3, Cond.instanceMethod yJx4a65c_get_915e3, Cond.selects RJx4a65c yJx4a65c_get_915e3 yJx4a65c_get_915e3, Cond.code yJx4a65c_get_915e3 cJx4a65c_get_915e3 2 (some (.object "java/lang/Object")), Cond.methodLink RJx4a65c 118 yJ15_checkIndex_7cf53, Cond.static yJ15_checkIndex_7cf53, Cond.initialized RJ15, Cond.code yJ15_checkIndex_7cf53 cJ15_checkIndex_7cf53 2 (some .int), Cond.methodLink RJ15 105 yJ3_checkIndex_8e157, Cond.static yJ3_checkIndex_8e157, Cond.initialized RJ3, Cond.code yJ3_checkIndex_8e157 cJ3_checkIndex_8e157 3 (some .int), Cond.methodLink RJx4a65c 123 yJx4a65c_elementData_915e3, Cond.instanceMethod yJx4a65c_elementData_915e3, Cond.selects RJx4a65c yJx4a65c_elementData_915e3 yJx4a65c_elementData_915e3, Cond.code yJx4a65c_elementData_915e3 cJx4a65c_elementData_915e3 2 (some (.object "java/lang/Object")), Cond.methodLink RX4 74 yX3_startAt, Cond.instanceMethod yX3_startAt, Cond.selects RX3 yX3_startAt yX3_startAt, Cond.code yX3_startAt cX3_startAt 5 none, Cond.fieldLink RX3 24 "SnapSites$Transaction" "number" "I", Cond.fieldLink RX3 28 "SnapSites$Transaction" "site" "I", Cond.fieldLink RX3 31 "SnapSites$Transaction" "state" "I"]
def wsL_law0_r11 : List Cond := [Cond.fieldLink RX3 34 "SnapSites$Transaction" "sequence" "I", Cond.fieldLink RX3 37 "SnapSites$Transaction" "written" "I", Cond.fieldLink RX3 40 "SnapSites$Transaction" "changeCount" "I", Cond.fieldLink RX3 43 "SnapSites$Transaction" "asked" "I", Cond.fieldLink RX3 46 "SnapSites$Transaction" "saidYes" "I", Cond.fieldLink RX3 49 "SnapSites$Transaction" "appliedAt" "I", Cond.fieldLink RX3 52 "SnapSites$Transaction" "keptAt" "I", Cond.fieldLink RX3 55 "SnapSites$Transaction" "freedAt" "I", Cond.fieldLink RX3 58 "SnapSites$Transaction" "owesFrees" "Z", Cond.methodLink RL 96 yX5_begin, Cond.instanceMethod yX5_begin, Cond.selects RX5 yX5_begin yX5_begin, Cond.code yX5_begin cX5_begin 4 (some .int), Cond.methodLink RX5 101 yX5_isSite, Cond.instanceMethod yX5_isSite, Cond.selects RX5 yX5_isSite yX5_isSite, Cond.code yX5_isSite cX5_isSite 2 (some .boolean), Cond.methodLink RL 97 yL_read, Cond.static yL_read, Cond.codeWith yL_read cL_read 5 (some .int) [(0, 10, 13, 13), (0, 10, 17, 19)], Cond.methodLink RL 21 yX4_read, Cond.instanceMethod yX4_read, Cond.selects RX4 yX4_read yX4_read, Cond.code yX4_read cX4_read 4 (some .int)]
def wsL_law0_r12 : List Cond := [Cond.fieldLink RX4 92 "SnapSites$Transaction" "values" "[I", Cond.fieldLink RX4 95 "SnapSites$Transaction" "site" "I", Cond.fieldLink RX4 98 "SnapSites$Transaction" "start" "[I", Cond.methodLink RX4 78 yX4_needTransaction, Cond.instanceMethod yX4_needTransaction, Cond.selects RX4 yX4_needTransaction yX4_needTransaction, Cond.code yX4_needTransaction cX4_needTransaction 2 none, Cond.methodLink RX4 81 yX4_needObject, Cond.static yX4_needObject, Cond.code yX4_needObject cX4_needObject 1 none, Cond.methodLink RX4 84 yX4_needGoingOn, Cond.static yX4_needGoingOn, Cond.code yX4_needGoingOn cX4_needGoingOn 1 none, Cond.fieldLink RX4 147 "SnapSites$Transaction" "state" "I", Cond.methodLink RX4 88 yX3_wrote, Cond.instanceMethod yX3_wrote, Cond.selects RX3 yX3_wrote yX3_wrote, Cond.code yX3_wrote cX3_wrote 2 (some .boolean), Cond.static yX4_has, Cond.code yX4_has cX4_has 2 (some .boolean), Cond.methodLink RX4 101 yX4_latestSeen, Cond.instanceMethod yX4_latestSeen, Cond.selects RX4 yX4_latestSeen yX4_latestSeen, Cond.code yX4_latestSeen cX4_latestSeen 6 (some .int)]
def wsL_law0_r13 : List Cond := [Cond.fieldLink RX4 264 "SnapSites$Site" "appliedCount" "I", Cond.fieldLink RX4 267 "SnapSites$Site" "applied" "[I", Cond.methodLink RX4 270 yX3_isSeenFrom, Cond.instanceMethod yX3_isSeenFrom, Cond.selects RX3 yX3_isSeenFrom yX3_isSeenFrom, Cond.code yX3_isSeenFrom cX3_isSeenFrom 2 (some .boolean), Cond.methodLink RL 100 yX5_read, Cond.instanceMethod yX5_read, Cond.selects RX5 yX5_read yX5_read, Cond.code yX5_read cX5_read 3 (some .int), Cond.methodLink RX5 109 yX5_isOne, Cond.instanceMethod yX5_isOne, Cond.selects RX5 yX5_isOne yX5_isOne, Cond.code yX5_isOne cX5_isOne 2 (some .boolean), Cond.methodLink RX5 112 yX5_isObject, Cond.static yX5_isObject, Cond.code yX5_isObject cX5_isObject 1 (some .boolean), Cond.methodLink RX5 115 yX5_latest, Cond.instanceMethod yX5_latest, Cond.selects RX5 yX5_latest yX5_latest, Cond.code yX5_latest cX5_latest 8 (some .int), Cond.methodLink RX5 105 yX5_sees, Cond.instanceMethod yX5_sees, Cond.selects RX5 yX5_sees yX5_sees]
def wsL_law0_r14 : List Cond := [Cond.code yX5_sees cX5_sees 3 (some .boolean), Cond.methodLink RL 101 yL_write, Cond.static yL_write, Cond.codeWith yL_write cL_write 6 (some .int) [(0, 12, 15, 13), (0, 12, 19, 19)], Cond.methodLink RL 25 yX4_write, Cond.instanceMethod yX4_write, Cond.selects RX4 yX4_write yX4_write, Cond.code yX4_write cX4_write 5 (some .int), Cond.fieldLink RX4 108 "SnapSites$Transaction" "written" "I", Cond.methodLink RX4 105 yX3_writtenCount, Cond.instanceMethod yX3_writtenCount, Cond.selects RX3 yX3_writtenCount yX3_writtenCount, Cond.code yX3_writtenCount cX3_writtenCount 1 (some .int), Cond.methodLink RX3 66 yJ6_bitCount_0f7a4, Cond.static yJ6_bitCount_0f7a4, Cond.initialized RJ6, Cond.code yJ6_bitCount_0f7a4 cJ6_bitCount_0f7a4 1 (some .int), Cond.constant RJ6 265 (1431655765), Cond.constant RJ6 266 (858993459), Cond.constant RJ6 267 (252645135), Cond.methodLink RL 104 yX5_write, Cond.instanceMethod yX5_write, Cond.selects RX5 yX5_write yX5_write, Cond.code yX5_write cX5_write 4 (some .int)]
def wsL_law0_r15 : List Cond := [Cond.methodLink RX5 119 yX5_objectsOf, Cond.instanceMethod yX5_objectsOf, Cond.selects RX5 yX5_objectsOf yX5_objectsOf, Cond.code yX5_objectsOf cX5_objectsOf 4 (some .int), Cond.methodLink RL 105 yL_change, Cond.static yL_change, Cond.codeWith yL_change cL_change 7 (some .int) [(0, 14, 17, 13), (0, 14, 21, 19)], Cond.methodLink RL 29 yX4_change, Cond.instanceMethod yX4_change, Cond.selects RX4 yX4_change yX4_change, Cond.code yX4_change cX4_change 6 (some .int), Cond.fieldLink RX4 115 "SnapSites$Transaction" "changeCount" "I", Cond.fieldLink RX4 118 "SnapSites$Transaction" "changedCells" "[I", Cond.fieldLink RX4 125 "SnapSites$Transaction" "changedBy" "[I", Cond.methodLink RX4 111 yX4_needElement, Cond.static yX4_needElement, Cond.code yX4_needElement cX4_needElement 2 none, Cond.methodLink RX4 121 yX4_cellOf, Cond.static yX4_cellOf, Cond.code yX4_cellOf cX4_cellOf 2 (some .int), Cond.methodLink RL 108 yX5_change, Cond.instanceMethod yX5_change, Cond.selects RX5 yX5_change yX5_change, Cond.code yX5_change cX5_change 5 (some .int)]
def wsL_law0_r16 : List Cond := [Cond.methodLink RX5 123 yX5_isElement, Cond.static yX5_isElement, Cond.code yX5_isElement cX5_isElement 2 (some .boolean), Cond.methodLink RL 109 yL_count, Cond.static yL_count, Cond.codeWith yL_count cL_count 6 (some .int) [(0, 12, 15, 13), (0, 12, 19, 19)], Cond.methodLink RL 33 yX4_count, Cond.instanceMethod yX4_count, Cond.selects RX4 yX4_count yX4_count, Cond.code yX4_count cX4_count 6 (some .int), Cond.methodLink RX4 128 yX3_changeOf, Cond.instanceMethod yX3_changeOf, Cond.selects RX3 yX3_changeOf yX3_changeOf, Cond.code yX3_changeOf cX3_changeOf 4 (some .int), Cond.methodLink RX4 132 yX4_changeSeen, Cond.instanceMethod yX4_changeSeen, Cond.selects RX4 yX4_changeSeen yX4_changeSeen, Cond.code yX4_changeSeen cX4_changeSeen 7 (some .int), Cond.methodLink RL 111 yX5_count, Cond.instanceMethod yX5_count, Cond.selects RX5 yX5_count yX5_count, Cond.code yX5_count cX5_count 7 (some .int), Cond.methodLink RL 112 yL_commit, Cond.static yL_commit]
def wsL_law0_r17 : List Cond := [Cond.codeWith yL_commit cL_commit 4 (some .int) [(0, 9, 12, 13), (0, 9, 15, 19)], Cond.methodLink RL 36 yX4_commit, Cond.instanceMethod yX4_commit, Cond.selects RX4 yX4_commit yX4_commit, Cond.code yX4_commit cX4_commit 4 (some .int), Cond.methodLink RX4 136 yX4_homesOf, Cond.instanceMethod yX4_homesOf, Cond.selects RX4 yX4_homesOf yX4_homesOf, Cond.code yX4_homesOf cX4_homesOf 4 (some .int), Cond.methodLink RX4 261 yX4_homeOf, Cond.instanceMethod yX4_homeOf, Cond.selects RX4 yX4_homeOf yX4_homeOf, Cond.code yX4_homeOf cX4_homeOf 2 (some .int), Cond.methodLink RX4 140 yX4_bit, Cond.static yX4_bit, Cond.code yX4_bit cX4_bit 1 (some .int), Cond.methodLink RX4 143 yX4_isFitAt, Cond.instanceMethod yX4_isFitAt, Cond.selects RX4 yX4_isFitAt yX4_isFitAt, Cond.code yX4_isFitAt cX4_isFitAt 4 (some .boolean), Cond.methodLink RX4 274 yX4_hasWithHome, Cond.instanceMethod yX4_hasWithHome, Cond.selects RX4 yX4_hasWithHome yX4_hasWithHome, Cond.code yX4_hasWithHome cX4_hasWithHome 4 (some .boolean)]
def wsL_law0_r18 : List Cond := [Cond.methodLink RX4 278 yX4_isObjectFit, Cond.instanceMethod yX4_isObjectFit, Cond.selects RX4 yX4_isObjectFit yX4_isObjectFit, Cond.code yX4_isObjectFit cX4_isObjectFit 7 (some .boolean), Cond.fieldLink RX4 235 "SnapSites$Site" "holders" "[I", Cond.fieldLink RX4 282 "SnapSites$Transaction" "number" "I", Cond.methodLink RX4 150 yX4_makeCommitted, Cond.instanceMethod yX4_makeCommitted, Cond.selects RX4 yX4_makeCommitted yX4_makeCommitted, Cond.code yX4_makeCommitted cX4_makeCommitted 2 none, Cond.fieldLink RX4 220 "SnapSites$Transaction" "sequence" "I", Cond.methodLink RX4 288 yX4_applyAt, Cond.instanceMethod yX4_applyAt, Cond.selects RX4 yX4_applyAt yX4_applyAt, Cond.code yX4_applyAt cX4_applyAt 3 none, Cond.fieldLink RX4 170 "SnapSites$Transaction" "appliedAt" "I", Cond.fieldLink RX4 208 "SnapSites$Transaction" "keptAt" "I", Cond.methodLink RX4 291 yX2_take, Cond.instanceMethod yX2_take, Cond.selects RX2 yX2_take yX2_take, Cond.code yX2_take cX2_take 2 none, Cond.fieldLink RX2 29 "SnapSites$Transaction" "number" "I", Cond.fieldLink RX2 34 "SnapSites$Transaction" "site" "I", Cond.methodLink RX2 37 yX2_unlock]
def wsL_law0_r19 : List Cond := [Cond.instanceMethod yX2_unlock, Cond.selects RX2 yX2_unlock yX2_unlock, Cond.code yX2_unlock cX2_unlock 3 none, Cond.methodLink RX4 167 yX4_allSites, Cond.instanceMethod yX4_allSites, Cond.selects RX4 yX4_allSites yX4_allSites, Cond.code yX4_allSites cX4_allSites 1 (some .int), Cond.methodLink RX4 163 yX4_sendToAll, Cond.instanceMethod yX4_sendToAll, Cond.selects RX4 yX4_sendToAll yX4_sendToAll, Cond.code yX4_sendToAll cX4_sendToAll 5 (some .int), Cond.methodLink RX4 297 yX4_has, Cond.methodLink RX4 301 yX4_send, Cond.instanceMethod yX4_send, Cond.selects RX4 yX4_send yX4_send, Cond.code yX4_send cX4_send 5 none, Cond.classLink RX4 179 RX1, Cond.instantiable RX1 4, Cond.initialized RX1, Cond.methodLink RX4 194 yX4_hasRoom, Cond.instanceMethod yX4_hasRoom, Cond.selects RX4 yX4_hasRoom yX4_hasRoom, Cond.code yX4_hasRoom cX4_hasRoom 1 (some .boolean), Cond.instanceMethod yX1_init]
def wsL_law0_r20 : List Cond := [Cond.code yX1_init cX1_init 5 none, Cond.fieldLink RX1 7 "SnapSites$Letter" "kind" "I", Cond.fieldLink RX1 13 "SnapSites$Letter" "from" "I", Cond.fieldLink RX1 16 "SnapSites$Letter" "to" "I", Cond.fieldLink RX1 19 "SnapSites$Letter" "transaction" "I", Cond.methodLink RX1 1 yJxe7f93_init_da8c8, Cond.instanceMethod yJxe7f93_init_da8c8, Cond.initialized RJxe7f93, Cond.code yJxe7f93_init_da8c8 cJxe7f93_init_da8c8 1 none, Cond.methodLink RJxe7f93 1 objectInit, Cond.methodLink RX4 223 yJ6_bitCount_0f7a4, Cond.methodLink RX4 153 yX4_makeWaiting, Cond.instanceMethod yX4_makeWaiting, Cond.selects RX4 yX4_makeWaiting yX4_makeWaiting, Cond.code yX4_makeWaiting cX4_makeWaiting 3 none, Cond.fieldLink RX4 157 "SnapSites$Transaction" "asked" "I", Cond.methodLink RX4 285 yX4_lockAt, Cond.instanceMethod yX4_lockAt, Cond.selects RX4 yX4_lockAt yX4_lockAt, Cond.code yX4_lockAt cX4_lockAt 4 none, Cond.methodLink RL 114 yX5_commit, Cond.instanceMethod yX5_commit, Cond.selects RX5 yX5_commit yX5_commit, Cond.code yX5_commit cX5_commit 5 (some .int)]
def wsL_law0_r21 : List Cond := [Cond.methodLink RX5 141 yX5_allFit, Cond.instanceMethod yX5_allFit, Cond.selects RX5 yX5_allFit yX5_allFit, Cond.code yX5_allFit cX5_allFit 5 (some .boolean), Cond.methodLink RX5 126 yX5_fits, Cond.instanceMethod yX5_fits, Cond.selects RX5 yX5_fits yX5_fits, Cond.code yX5_fits cX5_fits 7 (some .boolean), Cond.methodLink RX5 144 yX5_commits, Cond.instanceMethod yX5_commits, Cond.selects RX5 yX5_commits yX5_commits, Cond.code yX5_commits cX5_commits 4 none, Cond.methodLink RX5 134 yX5_applies, Cond.instanceMethod yX5_applies, Cond.selects RX5 yX5_applies yX5_applies, Cond.code yX5_applies cX5_applies 3 none, Cond.methodLink RX5 130 yX5_unlock, Cond.instanceMethod yX5_unlock, Cond.selects RX5 yX5_unlock yX5_unlock, Cond.code yX5_unlock cX5_unlock 4 none, Cond.methodLink RX5 137 yX5_send, Cond.instanceMethod yX5_send, Cond.selects RX5 yX5_send yX5_send, Cond.code yX5_send cX5_send 5 none]
def wsL_law0_r22 : List Cond := [Cond.methodLink RX5 147 yX5_lock, Cond.instanceMethod yX5_lock, Cond.selects RX5 yX5_lock yX5_lock, Cond.code yX5_lock cX5_lock 4 none, Cond.methodLink RL 115 yL_abort, Cond.static yL_abort, Cond.codeWith yL_abort cL_abort 3 (some .int) [(0, 5, 8, 13), (0, 5, 11, 19)], Cond.methodLink RL 39 yX4_abort, Cond.instanceMethod yX4_abort, Cond.selects RX4 yX4_abort yX4_abort, Cond.code yX4_abort cX4_abort 3 none, Cond.methodLink RL 117 yX5_abort, Cond.instanceMethod yX5_abort, Cond.selects RX5 yX5_abort yX5_abort, Cond.code yX5_abort cX5_abort 2 none, Cond.methodLink RL 118 yL_again, Cond.static yL_again, Cond.codeWith yL_again cL_again 4 (some .int) [(0, 9, 12, 13), (0, 9, 15, 19)], Cond.methodLink RL 42 yX4_again, Cond.instanceMethod yX4_again, Cond.selects RX4 yX4_again yX4_again, Cond.code yX4_again cX4_again 3 (some .int), Cond.fieldLink RX4 160 "SnapSites$Transaction" "saidYes" "I", Cond.methodLink RL 120 yX5_again]
def wsL_law0_r23 : List Cond := [Cond.instanceMethod yX5_again, Cond.selects RX5 yX5_again yX5_again, Cond.code yX5_again cX5_again 5 (some .int), Cond.methodLink RL 121 yL_deliver, Cond.static yL_deliver, Cond.codeWith yL_deliver cL_deliver 4 (some .int) [(0, 9, 12, 13)], Cond.methodLink RL 45 yX4_deliver, Cond.instanceMethod yX4_deliver, Cond.selects RX4 yX4_deliver yX4_deliver, Cond.code yX4_deliver cX4_deliver 3 (some .int), Cond.classLink RX4 179 "SnapSites$Letter", Cond.methodLink RX4 173 yX4_needLetter, Cond.instanceMethod yX4_needLetter, Cond.selects RX4 yX4_needLetter yX4_needLetter, Cond.code yX4_needLetter cX4_needLetter 2 none, Cond.methodLink RX4 176 yJx4a65c_remove_915e3, Cond.instanceMethod yJx4a65c_remove_915e3, Cond.selects RJx4a65c yJx4a65c_remove_915e3 yJx4a65c_remove_915e3, Cond.code yJx4a65c_remove_915e3 cJx4a65c_remove_915e3 4 (some (.object "java/lang/Object")), Cond.methodLink RJx4a65c 144 yJx4a65c_fastRemove_b59b0, Cond.instanceMethod yJx4a65c_fastRemove_b59b0, Cond.selects RJx4a65c yJx4a65c_fastRemove_b59b0 yJx4a65c_fastRemove_b59b0, Cond.code yJx4a65c_fastRemove_b59b0 cJx4a65c_fastRemove_b59b0 4 none, Cond.methodLink RJx4a65c 112 arraycopyName]
def wsL_law0_r24 : List Cond := [Cond.methodLink RX4 181 yX1_to, Cond.instanceMethod yX1_to, Cond.selects RX1 yX1_to yX1_to, Cond.code yX1_to cX1_to 1 (some .int), Cond.methodLink RX4 184 yX1_transaction, Cond.instanceMethod yX1_transaction, Cond.selects RX1 yX1_transaction yX1_transaction, Cond.code yX1_transaction cX1_transaction 1 (some .int), Cond.methodLink RX4 187 yX4_handOver, Cond.instanceMethod yX4_handOver, Cond.selects RX4 yX4_handOver yX4_handOver, Cond.code yX4_handOver cX4_handOver 3 (some .int), Cond.methodLink RX4 191 yX1_kind, Cond.instanceMethod yX1_kind, Cond.selects RX1 yX1_kind yX1_kind, Cond.code yX1_kind cX1_kind 1 (some .int), Cond.methodLink RX4 307 yX4_takeAsk, Cond.instanceMethod yX4_takeAsk, Cond.selects RX4 yX4_takeAsk yX4_takeAsk, Cond.code yX4_takeAsk cX4_takeAsk 3 none, Cond.fieldLink RX4 325 "SnapSites$Transaction" "freedAt" "I", Cond.methodLink RX4 310 yX1_from, Cond.instanceMethod yX1_from, Cond.selects RX1 yX1_from yX1_from]
def wsL_law0_r25 : List Cond := [Cond.code yX1_from cX1_from 1 (some .int), Cond.methodLink RX4 313 yX4_takeYes, Cond.instanceMethod yX4_takeYes, Cond.selects RX4 yX4_takeYes yX4_takeYes, Cond.code yX4_takeYes cX4_takeYes 3 (some .int), Cond.methodLink RX4 316 yX4_takeNo, Cond.instanceMethod yX4_takeNo, Cond.selects RX4 yX4_takeNo yX4_takeNo, Cond.code yX4_takeNo cX4_takeNo 2 none, Cond.methodLink RX4 217 yX4_giveUpLocks, Cond.instanceMethod yX4_giveUpLocks, Cond.selects RX4 yX4_giveUpLocks yX4_giveUpLocks, Cond.code yX4_giveUpLocks cX4_giveUpLocks 2 none, Cond.methodLink RX4 294 yX2_unlock, Cond.methodLink RX4 319 yX4_takeFree, Cond.instanceMethod yX4_takeFree, Cond.selects RX4 yX4_takeFree yX4_takeFree, Cond.code yX4_takeFree cX4_takeFree 3 none, Cond.methodLink RX4 322 yX4_takeTell, Cond.instanceMethod yX4_takeTell, Cond.selects RX4 yX4_takeTell yX4_takeTell, Cond.code yX4_takeTell cX4_takeTell 5 (some .int), Cond.methodLink RX4 328 yX4_leastReady, Cond.instanceMethod yX4_leastReady]
def wsL_law0_r26 : List Cond := [Cond.selects RX4 yX4_leastReady yX4_leastReady, Cond.code yX4_leastReady cX4_leastReady 4 (some .int), Cond.methodLink RX4 331 yX2_isReadyFor, Cond.instanceMethod yX2_isReadyFor, Cond.selects RX2 yX2_isReadyFor yX2_isReadyFor, Cond.code yX2_isReadyFor cX2_isReadyFor 3 (some .boolean), Cond.fieldLink RX2 41 "SnapSites$Transaction" "sequence" "I", Cond.fieldLink RX2 44 "SnapSites$Transaction" "start" "[I", Cond.methodLink RL 123 yX5_deliver, Cond.instanceMethod yX5_deliver, Cond.selects RX5 yX5_deliver yX5_deliver, Cond.code yX5_deliver cX5_deliver 6 (some .int), Cond.methodLink RX5 153 yX5_takesOut, Cond.instanceMethod yX5_takesOut, Cond.selects RX5 yX5_takesOut yX5_takesOut, Cond.code yX5_takesOut cX5_takesOut 3 none, Cond.methodLink RX5 156 yX5_frees, Cond.instanceMethod yX5_frees, Cond.selects RX5 yX5_frees yX5_frees, Cond.code yX5_frees cX5_frees 3 none, Cond.methodLink RX5 159 yX5_allSaid, Cond.instanceMethod yX5_allSaid, Cond.selects RX5 yX5_allSaid yX5_allSaid, Cond.code yX5_allSaid cX5_allSaid 4 (some .boolean)]
def wsL_law0_r27 : List Cond := [Cond.methodLink RX5 162 yX5_settles, Cond.instanceMethod yX5_settles, Cond.selects RX5 yX5_settles yX5_settles, Cond.code yX5_settles cX5_settles 5 (some .int), Cond.methodLink RX5 150 yX5_isNext, Cond.instanceMethod yX5_isNext, Cond.selects RX5 yX5_isNext yX5_isNext, Cond.code yX5_isNext cX5_isNext 5 (some .boolean), Cond.methodLink RL 124 yL_drop, Cond.static yL_drop, Cond.codeWith yL_drop cL_drop 4 (some .int) [(0, 9, 12, 13)], Cond.methodLink RL 48 yX4_drop, Cond.instanceMethod yX4_drop, Cond.selects RX4 yX4_drop yX4_drop, Cond.code yX4_drop cX4_drop 2 (some .int), Cond.methodLink RL 126 yX5_drop, Cond.instanceMethod yX5_drop, Cond.selects RX5 yX5_drop yX5_drop, Cond.code yX5_drop cX5_drop 3 (some .int), Cond.methodLink RL 127 yL_copy, Cond.static yL_copy, Cond.codeWith yL_copy cL_copy 4 (some .int) [(0, 16, 19, 13)], Cond.methodLink RL 51 yX4_copy, Cond.instanceMethod yX4_copy]
def wsL_law0_r28 : List Cond := [Cond.selects RX4 yX4_copy yX4_copy, Cond.code yX4_copy cX4_copy 2 (some .boolean), Cond.methodLink RL 129 yX5_copy, Cond.instanceMethod yX5_copy, Cond.selects RX5 yX5_copy yX5_copy, Cond.code yX5_copy cX5_copy 3 (some .boolean), Cond.methodLink RL 130 yL_byteOf, Cond.static yL_byteOf, Cond.codeWith yL_byteOf cL_byteOf 5 (some .int) [(0, 10, 13, 13)], Cond.methodLink RL 55 yX4_byteOf, Cond.instanceMethod yX4_byteOf, Cond.selects RX4 yX4_byteOf yX4_byteOf, Cond.code yX4_byteOf cX4_byteOf 4 (some .int), Cond.fieldLink RX4 205 "SnapSites$ByteFinder" "found" "I", Cond.methodLink RX4 198 yX0_lookFor, Cond.instanceMethod yX0_lookFor, Cond.selects RX0 yX0_lookFor yX0_lookFor, Cond.code yX0_lookFor cX0_lookFor 2 none, Cond.fieldLink RX0 9 "SnapSites$ByteFinder" "wanted" "I", Cond.fieldLink RX0 15 "SnapSites$ByteFinder" "position" "I", Cond.fieldLink RX0 18 "SnapSites$ByteFinder" "check" "I", Cond.fieldLink RX0 21 "SnapSites$ByteFinder" "found" "I", Cond.methodLink RX4 201 yX4_spell, Cond.instanceMethod yX4_spell]
def wsL_law0_r29 : List Cond := [Cond.selects RX4 yX4_spell yX4_spell, Cond.code yX4_spell cX4_spell 3 none, Cond.methodLink RX4 335 yX0_put, Cond.instanceMethod yX0_put, Cond.selects RX0 yX0_put yX0_put, Cond.code yX0_put cX0_put 3 none, Cond.constant RX0 24 (65535), Cond.methodLink RX4 338 yX0_putTwo, Cond.instanceMethod yX0_putTwo, Cond.selects RX0 yX0_putTwo yX0_putTwo, Cond.code yX0_putTwo cX0_putTwo 2 none, Cond.methodLink RX0 25 yX0_put, Cond.methodLink RX4 341 yX4_spellStart, Cond.instanceMethod yX4_spellStart, Cond.selects RX4 yX4_spellStart yX4_spellStart, Cond.code yX4_spellStart cX4_spellStart 3 none, Cond.methodLink RX4 344 yX4_spellAsked, Cond.instanceMethod yX4_spellAsked, Cond.selects RX4 yX4_spellAsked yX4_spellAsked, Cond.code yX4_spellAsked cX4_spellAsked 5 none, Cond.methodLink RX4 347 yX4_spellWritten, Cond.instanceMethod yX4_spellWritten, Cond.selects RX4 yX4_spellWritten yX4_spellWritten, Cond.code yX4_spellWritten cX4_spellWritten 3 none]
def wsL_law0_r30 : List Cond := [Cond.methodLink RX4 356 yX0_putFour, Cond.instanceMethod yX0_putFour, Cond.selects RX0 yX0_putFour yX0_putFour, Cond.code yX0_putFour cX0_putFour 2 none, Cond.methodLink RX0 29 yX0_putTwo, Cond.methodLink RX4 350 yX4_spellChanges, Cond.instanceMethod yX4_spellChanges, Cond.selects RX4 yX4_spellChanges yX4_spellChanges, Cond.code yX4_spellChanges cX4_spellChanges 3 none, Cond.methodLink RX4 353 yX0_putCheck, Cond.instanceMethod yX0_putCheck, Cond.selects RX0 yX0_putCheck yX0_putCheck, Cond.code yX0_putCheck cX0_putCheck 1 none, Cond.methodLink RL 132 yX5_byteOf, Cond.instanceMethod yX5_byteOf, Cond.selects RX5 yX5_byteOf yX5_byteOf, Cond.code yX5_byteOf cX5_byteOf 8 (some .int), Cond.fieldLink RX5 165 "SnapSitesModel" "pageSize" "I", Cond.constant RX5 177 (65535), Cond.methodLink RX5 168 yX5_put, Cond.instanceMethod yX5_put, Cond.selects RX5 yX5_put yX5_put, Cond.code yX5_put cX5_put 2 none, Cond.methodLink RX5 171 yX5_putTwo]
def wsL_law0_r31 : List Cond := [Cond.instanceMethod yX5_putTwo, Cond.selects RX5 yX5_putTwo yX5_putTwo, Cond.code yX5_putTwo cX5_putTwo 2 none, Cond.methodLink RX5 174 yX5_putStart, Cond.instanceMethod yX5_putStart, Cond.selects RX5 yX5_putStart yX5_putStart, Cond.code yX5_putStart cX5_putStart 3 none, Cond.methodLink RL 133 yL_crash, Cond.static yL_crash, Cond.codeWith yL_crash cL_crash 3 (some .int) [(0, 5, 8, 13), (0, 5, 11, 19)], Cond.methodLink RL 58 yX4_crash, Cond.instanceMethod yX4_crash, Cond.selects RX4 yX4_crash yX4_crash, Cond.code yX4_crash cX4_crash 4 none, Cond.methodLink RX4 211 yX4_loseIfOpen, Cond.static yX4_loseIfOpen, Cond.code yX4_loseIfOpen cX4_loseIfOpen 1 none, Cond.fieldLink RX4 214 "SnapSites$Transaction" "owesFrees" "Z", Cond.methodLink RL 135 yX5_crash, Cond.instanceMethod yX5_crash, Cond.selects RX5 yX5_crash yX5_crash, Cond.code yX5_crash cX5_crash 3 none, Cond.methodLink RL 136 yL_restart, Cond.static yL_restart]
def wsL_law0_r32 : List Cond := [Cond.codeWith yL_restart cL_restart 3 (some .int) [(0, 5, 8, 13), (0, 5, 11, 19)], Cond.methodLink RL 61 yX4_restart, Cond.instanceMethod yX4_restart, Cond.selects RX4 yX4_restart yX4_restart, Cond.code yX4_restart cX4_restart 4 none, Cond.methodLink RL 138 yX5_restart, Cond.instanceMethod yX5_restart, Cond.selects RX5 yX5_restart yX5_restart, Cond.code yX5_restart cX5_restart 3 none, Cond.methodLink RL 139 yL_about, Cond.static yL_about, Cond.codeWith yL_about cL_about 5 (some .int) [(0, 10, 13, 13)], Cond.methodLink RL 64 yX4_about, Cond.instanceMethod yX4_about, Cond.selects RX4 yX4_about yX4_about, Cond.code yX4_about cX4_about 4 (some .int), Cond.methodLink RL 141 yX5_about, Cond.instanceMethod yX5_about, Cond.selects RX5 yX5_about yX5_about, Cond.code yX5_about cX5_about 6 (some .int), Cond.methodLink RL 142 yL_vector, Cond.static yL_vector, Cond.codeWith yL_vector cL_vector 5 (some .int) [(0, 10, 13, 13)], Cond.methodLink RL 67 yX4_vector]
def wsL_law0_r33 : List Cond := [Cond.instanceMethod yX4_vector, Cond.selects RX4 yX4_vector yX4_vector, Cond.code yX4_vector cX4_vector 3 (some .int), Cond.methodLink RL 144 yX5_vector, Cond.instanceMethod yX5_vector, Cond.selects RX5 yX5_vector yX5_vector, Cond.code yX5_vector cX5_vector 3 (some .int), Cond.methodLink RL 145 yL_value, Cond.static yL_value, Cond.codeWith yL_value cL_value 5 (some .int) [(0, 10, 13, 13)], Cond.methodLink RL 70 yX4_value, Cond.instanceMethod yX4_value, Cond.selects RX4 yX4_value yX4_value, Cond.code yX4_value cX4_value 3 (some .int), Cond.methodLink RL 147 yX5_value, Cond.instanceMethod yX5_value, Cond.selects RX5 yX5_value yX5_value, Cond.code yX5_value cX5_value 3 (some .int), Cond.methodLink RL 148 yL_locked, Cond.static yL_locked, Cond.codeWith yL_locked cL_locked 5 (some .int) [(0, 10, 13, 13)], Cond.methodLink RL 73 yX4_locked, Cond.instanceMethod yX4_locked, Cond.selects RX4 yX4_locked yX4_locked]
def wsL_law0_r34 : List Cond := [Cond.code yX4_locked cX4_locked 3 (some .int), Cond.methodLink RL 150 yX5_locked, Cond.instanceMethod yX5_locked, Cond.selects RX5 yX5_locked yX5_locked, Cond.code yX5_locked cX5_locked 3 (some .int), Cond.methodLink RL 151 yL_total, Cond.static yL_total, Cond.codeWith yL_total cL_total 4 (some .int) [(0, 9, 12, 13)], Cond.methodLink RL 76 yX4_total, Cond.instanceMethod yX4_total, Cond.selects RX4 yX4_total yX4_total, Cond.code yX4_total cX4_total 2 (some .int), Cond.methodLink RX4 241 yX4_keptTells, Cond.instanceMethod yX4_keptTells, Cond.selects RX4 yX4_keptTells yX4_keptTells, Cond.code yX4_keptTells cX4_keptTells 3 (some .int), Cond.methodLink RX4 244 yX4_sitesUp, Cond.instanceMethod yX4_sitesUp, Cond.selects RX4 yX4_sitesUp yX4_sitesUp, Cond.code yX4_sitesUp cX4_sitesUp 3 (some .int), Cond.methodLink RL 153 yX5_total, Cond.instanceMethod yX5_total, Cond.selects RX5 yX5_total yX5_total, Cond.code yX5_total cX5_total 4 (some .int)]
def wsL_law0 : List Cond := (wsL_law0_r1 ++ (wsL_law0_r2 ++ (wsL_law0_r3 ++ (wsL_law0_r4 ++ (wsL_law0_r5 ++ (wsL_law0_r6 ++ (wsL_law0_r7 ++ (wsL_law0_r8 ++ (wsL_law0_r9 ++ (wsL_law0_r10 ++ (wsL_law0_r11 ++ (wsL_law0_r12 ++ (wsL_law0_r13 ++ (wsL_law0_r14 ++ (wsL_law0_r15 ++ (wsL_law0_r16 ++ (wsL_law0_r17 ++ (wsL_law0_r18 ++ (wsL_law0_r19 ++ (wsL_law0_r20 ++ (wsL_law0_r21 ++ (wsL_law0_r22 ++ (wsL_law0_r23 ++ (wsL_law0_r24 ++ (wsL_law0_r25 ++ (wsL_law0_r26 ++ (wsL_law0_r27 ++ (wsL_law0_r28 ++ (wsL_law0_r29 ++ (wsL_law0_r30 ++ (wsL_law0_r31 ++ (wsL_law0_r32 ++ (wsL_law0_r33 ++ wsL_law0_r34))))))))))))))))))))))))))))))))) ++ wsX40 ++ wsX50 ++ wsX20 ++ wsJx4a65c0 ++ wsX00 ++ wsX30 ++ wsX10 ++ ([] : List Cond)
def wsL_law : List Cond := wsL_law0 ++ (vx_atS RX4 232 "java/lang/IllegalArgumentException" ["java/lang/RuntimeException", "java/lang/Exception"]).filter goodWord ++ (vx_atS RX4 260 "java/lang/IllegalStateException" ["java/lang/RuntimeException", "java/lang/Exception"]).filter goodWord
theorem inlX0 : ∀ w ∈ wsX00, w ∈ wsL_law := fun _ h => List.mem_append_left _ (List.mem_append_left _ (List.mem_append_left _ (List.mem_append_left _ (List.mem_append_left _ (List.mem_append_right _ h)))))
theorem inlX1 : ∀ w ∈ wsX10, w ∈ wsL_law := fun _ h => List.mem_append_left _ (List.mem_append_left _ (List.mem_append_left _ (List.mem_append_right _ h)))
theorem inlX2 : ∀ w ∈ wsX20, w ∈ wsL_law := fun _ h => List.mem_append_left _ (List.mem_append_left _ (List.mem_append_left _ (List.mem_append_left _ (List.mem_append_left _ (List.mem_append_left _ (List.mem_append_left _ (List.mem_append_right _ h)))))))
theorem inlX3 : ∀ w ∈ wsX30, w ∈ wsL_law := fun _ h => List.mem_append_left _ (List.mem_append_left _ (List.mem_append_left _ (List.mem_append_left _ (List.mem_append_right _ h))))
theorem inlX4 : ∀ w ∈ wsX40, w ∈ wsL_law := fun _ h => List.mem_append_left _ (List.mem_append_left _ (List.mem_append_left _ (List.mem_append_left _ (List.mem_append_left _ (List.mem_append_left _ (List.mem_append_left _ (List.mem_append_left _ (List.mem_append_left _ (List.mem_append_right _ h)))))))))
theorem inlX5 : ∀ w ∈ wsX50, w ∈ wsL_law := fun _ h => List.mem_append_left _ (List.mem_append_left _ (List.mem_append_left _ (List.mem_append_left _ (List.mem_append_left _ (List.mem_append_left _ (List.mem_append_left _ (List.mem_append_left _ (List.mem_append_right _ h))))))))
theorem inlJx4a65c : ∀ w ∈ wsJx4a65c0, w ∈ wsL_law := fun _ h => List.mem_append_left _ (List.mem_append_left _ (List.mem_append_left _ (List.mem_append_left _ (List.mem_append_left _ (List.mem_append_left _ (List.mem_append_right _ h))))))
abbrev vwCl : List vw_C := [(RJx4a65c, TJx4a65c, 3), (RX0, TX0, 4), (RX1, TX1, 4), (RX2, TX2, 5), (RX3, TX3, 16), (RX4, TX4, 7), (RX5, TX5, 28)]
