/-! ===== BEGIN words of one list among another's, by their places ===== -/
theorem goodIn_r {big : List Cond} (ws : List Cond) (ps : List Nat) (hp : ws = ps.filterMap (fun i => big[i]?)) (h : ws.all goodWord = true) : GoodIn big ws := by
  intro w hw
  have h1 := List.all_eq_true.mp h w hw
  rw [hp] at hw
  obtain ⟨i, -, hi⟩ := List.mem_filterMap.mp hw
  have hm : w ∈ big := by first | exact List.mem_of_getElem? hi | exact List.getElem?_mem hi
  exact ⟨hm, good_of_word h1⟩
theorem goodIn_app {big a b : List Cond} (ha : GoodIn big a) (hb : GoodIn big b) : GoodIn big (a ++ b) := fun w h => (List.mem_append.mp h).elim (ha w) (hb w)
theorem goodIn_ca {big a b : List Cond} {c : Cond} (ha : GoodIn big (c :: a)) (hb : GoodIn big b) : GoodIn big (c :: (a ++ b)) := fun w h => (List.mem_cons.mp h).elim (fun e => ha w (List.mem_cons.mpr (Or.inl e))) (fun h => (List.mem_append.mp h).elim (fun h => ha w (List.mem_cons.mpr (Or.inr h))) (hb w))
theorem goodIn_sub {big ws : List Cond} (hm : ∀ w ∈ ws, w ∈ big) (h : ws.all goodWord = true) : GoodIn big ws := fun w hw => ⟨hm w hw, good_of_word (List.all_eq_true.mp h w hw)⟩
/-! ===== END ===== -/

/-! ===== BEGIN printed: names, fields, word lists, decode rows ===== -/
def RX0 : String := "FeatherShares$Flock"
def TX0 : u_T := fun k => match k with
  | 0 => ("FeatherShares$Flock", "geese", "I", false)
  | 1 => ("FeatherShares$Flock", "week", "I", false)
  | 2 => ("FeatherShares$Flock", "trades", "I", false)
  | 3 => ("FeatherShares$Flock", "kind", "[I", true)
  | 4 => ("FeatherShares$Flock", "skin", "[I", true)
  | 5 => ("FeatherShares$Flock", "price", "[I", true)
  | 6 => ("FeatherShares$Flock", "feathers", "[I", true)
  | 7 => ("FeatherShares$Flock", "money", "[I", true)
  | 8 => ("FeatherShares$Flock", "eggsHad", "[I", true)
  | 9 => ("FeatherShares$Flock", "planBuyer", "[I", true)
  | 10 => ("FeatherShares$Flock", "planSeller", "[I", true)
  | 11 => ("FeatherShares$Flock", "planGoose", "[I", true)
  | _ => ("FeatherShares$Flock", "planAmount", "[I", true)
def tyX0 : Nat → FieldType := fun k => match k with
  | 0 => .int
  | 1 => .int
  | 2 => .int
  | 3 => .array .int
  | 4 => .array .int
  | 5 => .array .int
  | 6 => .array .int
  | 7 => .array .int
  | 8 => .array .int
  | 9 => .array .int
  | 10 => .array .int
  | 11 => .array .int
  | _ => .array .int
abbrev wsX00 : List Cond := u_ws RX0 TX0 13
theorem nmX0 : ∀ a, a < 13 → ∀ b, b < 13 → a ≠ b → (TX0 a).2.1 ≠ (TX0 b).2.1 := by decide +kernel
theorem tyX0_ok : ∀ k, k < 13 → parseFieldDescriptor (TX0 k).2.2.1 = some (tyX0 k) := by decide +kernel
abbrev cX0_init : ByteArray := prog_2_method_1_code
def yX0_init : MethodName := ⟨RX0, "<init>", "()V"⟩
abbrev cX0_clear : ByteArray := prog_2_method_2_code
def yX0_clear : MethodName := ⟨RX0, "clear", "()V"⟩
abbrev cX0_copyFrom : ByteArray := prog_2_method_3_code
def yX0_copyFrom : MethodName := ⟨RX0, "copyFrom", "(LFeatherShares$Flock;)V"⟩
abbrev cX0_hasGoose : ByteArray := prog_2_method_4_code
def yX0_hasGoose : MethodName := ⟨RX0, "hasGoose", "(I)Z"⟩
abbrev cX0_addGoose : ByteArray := prog_2_method_5_code
def yX0_addGoose : MethodName := ⟨RX0, "addGoose", "(III)V"⟩
abbrev cX0_held : ByteArray := prog_2_method_6_code
def yX0_held : MethodName := ⟨RX0, "held", "(II)I"⟩
abbrev cX0_feathersOf : ByteArray := prog_2_method_7_code
def yX0_feathersOf : MethodName := ⟨RX0, "feathersOf", "(I)I"⟩
abbrev cX0_bareGeese : ByteArray := prog_2_method_8_code
def yX0_bareGeese : MethodName := ⟨RX0, "bareGeese", "()I"⟩
abbrev cX0_eggOwner : ByteArray := prog_2_method_9_code
def yX0_eggOwner : MethodName := ⟨RX0, "eggOwner", "(I)I"⟩
abbrev cX0_geeseWithEggOf : ByteArray := prog_2_method_10_code
def yX0_geeseWithEggOf : MethodName := ⟨RX0, "geeseWithEggOf", "(I)I"⟩
abbrev cX0_worth : ByteArray := prog_2_method_11_code
def yX0_worth : MethodName := ⟨RX0, "worth", "(I)I"⟩
abbrev cX0_ofOwner : ByteArray := prog_2_method_12_code
def yX0_ofOwner : MethodName := ⟨RX0, "ofOwner", "(II)I"⟩
abbrev cX0_isTrade : ByteArray := prog_2_method_13_code
def yX0_isTrade : MethodName := ⟨RX0, "isTrade", "(IIII)Z"⟩
abbrev cX0_canPluck : ByteArray := prog_2_method_14_code
def yX0_canPluck : MethodName := ⟨RX0, "canPluck", "(IIII)Z"⟩
abbrev cX0_canTrade : ByteArray := prog_2_method_15_code
def yX0_canTrade : MethodName := ⟨RX0, "canTrade", "(IIII)Z"⟩
abbrev cX0_moveFeathers : ByteArray := prog_2_method_16_code
def yX0_moveFeathers : MethodName := ⟨RX0, "moveFeathers", "(IIII)V"⟩
abbrev cX0_exchange : ByteArray := prog_2_method_17_code
def yX0_exchange : MethodName := ⟨RX0, "exchange", "(IIII)V"⟩
abbrev cX0_tryTrade : ByteArray := prog_2_method_18_code
def yX0_tryTrade : MethodName := ⟨RX0, "tryTrade", "(IIII)Z"⟩
abbrev cX0_tryDrawn : ByteArray := prog_2_method_19_code
def yX0_tryDrawn : MethodName := ⟨RX0, "tryDrawn", "(I)Z"⟩
abbrev cX0_wouldGetEgg : ByteArray := prog_2_method_20_code
def yX0_wouldGetEgg : MethodName := ⟨RX0, "wouldGetEgg", "(IIII)Z"⟩
abbrev cX0_addToPlan : ByteArray := prog_2_method_21_code
def yX0_addToPlan : MethodName := ⟨RX0, "addToPlan", "(IIII)Z"⟩
abbrev cX0_tryPlanned : ByteArray := prog_2_method_22_code
def yX0_tryPlanned : MethodName := ⟨RX0, "tryPlanned", "(I)Z"⟩
abbrev cX0_costOfPlanned : ByteArray := prog_2_method_23_code
def yX0_costOfPlanned : MethodName := ⟨RX0, "costOfPlanned", "(I)I"⟩
abbrev cX0_followPlanWithout : ByteArray := prog_2_method_24_code
def yX0_followPlanWithout : MethodName := ⟨RX0, "followPlanWithout", "(I)V"⟩
abbrev cX0_feathersOfPlan : ByteArray := prog_2_method_25_code
def yX0_feathersOfPlan : MethodName := ⟨RX0, "feathersOfPlan", "()I"⟩
abbrev cX0_passWeeks : ByteArray := prog_2_method_26_code
def yX0_passWeeks : MethodName := ⟨RX0, "passWeeks", "(I)I"⟩
abbrev cX0_passWeek : ByteArray := prog_2_method_27_code
def yX0_passWeek : MethodName := ⟨RX0, "passWeek", "()I"⟩
abbrev cX0_moult : ByteArray := prog_2_method_28_code
def yX0_moult : MethodName := ⟨RX0, "moult", "(I)V"⟩
abbrev cX0_lossOf : ByteArray := prog_2_method_29_code
def yX0_lossOf : MethodName := ⟨RX0, "lossOf", "(II)I"⟩
abbrev cX0_isInPower : ByteArray := prog_2_method_30_code
def yX0_isInPower : MethodName := ⟨RX0, "isInPower", "(II)Z"⟩
abbrev cX0_setsSwungBy : ByteArray := prog_2_method_31_code
def yX0_setsSwungBy : MethodName := ⟨RX0, "setsSwungBy", "(II)I"⟩
def RX1 : String := "FeatherShares$RowSearch"
def TX1 : u_T := fun k => match k with
  | 0 => ("FeatherShares$RowSearch", "flock", "LFeatherShares$Flock;", true)
  | 1 => ("FeatherShares$RowSearch", "codes", "[I", true)
  | 2 => ("FeatherShares$RowSearch", "codeCount", "I", false)
  | 3 => ("FeatherShares$RowSearch", "buyer", "I", false)
  | 4 => ("FeatherShares$RowSearch", "bestGeese", "I", false)
  | 5 => ("FeatherShares$RowSearch", "bestMoney", "I", false)
  | 6 => ("FeatherShares$RowSearch", "bestLength", "I", false)
  | 7 => ("FeatherShares$RowSearch", "bestFirst", "I", false)
  | _ => ("FeatherShares$RowSearch", "bestSecond", "I", false)
def tyX1 : Nat → FieldType := fun k => match k with
  | 0 => .object "FeatherShares$Flock"
  | 1 => .array .int
  | 2 => .int
  | 3 => .int
  | 4 => .int
  | 5 => .int
  | 6 => .int
  | 7 => .int
  | _ => .int
abbrev wsX10 : List Cond := u_ws RX1 TX1 9
theorem nmX1 : ∀ a, a < 9 → ∀ b, b < 9 → a ≠ b → (TX1 a).2.1 ≠ (TX1 b).2.1 := by decide +kernel
theorem tyX1_ok : ∀ k, k < 9 → parseFieldDescriptor (TX1 k).2.2.1 = some (tyX1 k) := by decide +kernel
abbrev cX1_init : ByteArray := prog_3_method_1_code
def yX1_init : MethodName := ⟨RX1, "<init>", "()V"⟩
abbrev cX1_findBest : ByteArray := prog_3_method_2_code
def yX1_findBest : MethodName := ⟨RX1, "findBest", "(LFeatherShares$Flock;II)V"⟩
abbrev cX1_listCodes : ByteArray := prog_3_method_3_code
def yX1_listCodes : MethodName := ⟨RX1, "listCodes", "()V"⟩
abbrev cX1_weighPairs : ByteArray := prog_3_method_4_code
def yX1_weighPairs : MethodName := ⟨RX1, "weighPairs", "(LFeatherShares$Flock;I)V"⟩
abbrev cX1_make : ByteArray := prog_3_method_5_code
def yX1_make : MethodName := ⟨RX1, "make", "(II)V"⟩
abbrev cX1_weigh : ByteArray := prog_3_method_6_code
def yX1_weigh : MethodName := ⟨RX1, "weigh", "(LFeatherShares$Flock;III)V"⟩
abbrev cX1_isBetter : ByteArray := prog_3_method_7_code
def yX1_isBetter : MethodName := ⟨RX1, "isBetter", "(III)Z"⟩
abbrev cX1_sellerOf : ByteArray := prog_3_method_8_code
def yX1_sellerOf : MethodName := ⟨RX1, "sellerOf", "(I)I"⟩
abbrev cX1_gooseOf : ByteArray := prog_3_method_9_code
def yX1_gooseOf : MethodName := ⟨RX1, "gooseOf", "(I)I"⟩
abbrev cX1_amountOf : ByteArray := prog_3_method_10_code
def yX1_amountOf : MethodName := ⟨RX1, "amountOf", "(I)I"⟩
def RX2 : String := "FeatherShares$Sheet"
def TX2 : u_T := fun k => match k with
  | 0 => ("FeatherShares$Sheet", "cells", "[I", true)
  | 1 => ("FeatherShares$Sheet", "isNothing", "Z", false)
  | 2 => ("FeatherShares$Sheet", "lane", "I", false)
  | _ => ("FeatherShares$Sheet", "size", "I", false)
def tyX2 : Nat → FieldType := fun k => match k with
  | 0 => .array .int
  | 1 => .boolean
  | 2 => .int
  | _ => .int
abbrev wsX20 : List Cond := u_ws RX2 TX2 4
theorem nmX2 : ∀ a, a < 4 → ∀ b, b < 4 → a ≠ b → (TX2 a).2.1 ≠ (TX2 b).2.1 := by decide +kernel
theorem tyX2_ok : ∀ k, k < 4 → parseFieldDescriptor (TX2 k).2.2.1 = some (tyX2 k) := by decide +kernel
abbrev cX2_init : ByteArray := prog_4_method_1_code
def yX2_init : MethodName := ⟨RX2, "<init>", "()V"⟩
abbrev cX2_renew : ByteArray := prog_4_method_2_code
def yX2_renew : MethodName := ⟨RX2, "renew", "(II)V"⟩
abbrev cX2_put : ByteArray := prog_4_method_3_code
def yX2_put : MethodName := ⟨RX2, "put", "(II)I"⟩
abbrev cX2_faultOfTrade : ByteArray := prog_4_method_4_code
def yX2_faultOfTrade : MethodName := ⟨RX2, "faultOfTrade", "(II)I"⟩
abbrev cX2_tradeOn : ByteArray := prog_4_method_5_code
def yX2_tradeOn : MethodName := ⟨RX2, "tradeOn", "(ILFeatherShares$Flock;)Z"⟩
def RX3 : String := "FeatherShares$Sightings"
def TX3 : u_T := fun k => match k with
  | 0 => ("FeatherShares$Sightings", "size", "I", false)
  | 1 => ("FeatherShares$Sightings", "ofGoose", "[I", true)
  | 2 => ("FeatherShares$Sightings", "ofOwner", "[I", true)
  | 3 => ("FeatherShares$Sightings", "behindWeeks", "[I", true)
  | _ => ("FeatherShares$Sightings", "feathersSeen", "[I", true)
def tyX3 : Nat → FieldType := fun k => match k with
  | 0 => .int
  | 1 => .array .int
  | 2 => .array .int
  | 3 => .array .int
  | _ => .array .int
abbrev wsX30 : List Cond := u_ws RX3 TX3 5
theorem nmX3 : ∀ a, a < 5 → ∀ b, b < 5 → a ≠ b → (TX3 a).2.1 ≠ (TX3 b).2.1 := by decide +kernel
theorem tyX3_ok : ∀ k, k < 5 → parseFieldDescriptor (TX3 k).2.2.1 = some (tyX3 k) := by decide +kernel
abbrev cX3_init : ByteArray := prog_5_method_1_code
def yX3_init : MethodName := ⟨RX3, "<init>", "()V"⟩
abbrev cX3_add : ByteArray := prog_5_method_2_code
def yX3_add : MethodName := ⟨RX3, "add", "(IIII)Z"⟩
abbrev cX3_agreeWith : ByteArray := prog_5_method_3_code
def yX3_agreeWith : MethodName := ⟨RX3, "agreeWith", "(LFeatherShares$Flock;)Z"⟩
abbrev cX3_agreeAt : ByteArray := prog_5_method_4_code
def yX3_agreeAt : MethodName := ⟨RX3, "agreeAt", "(ILFeatherShares$Flock;)Z"⟩
def RX4 : String := "FeatherShares$Tape"
def TX4 : u_T := fun k => match k with
  | 0 => ("FeatherShares$Tape", "bytes", "[I", true)
  | 1 => ("FeatherShares$Tape", "length", "I", false)
  | 2 => ("FeatherShares$Tape", "place", "I", false)
  | 3 => ("FeatherShares$Tape", "tokenStart", "I", false)
  | 4 => ("FeatherShares$Tape", "token", "I", false)
  | _ => ("FeatherShares$Tape", "value", "I", false)
def tyX4 : Nat → FieldType := fun k => match k with
  | 0 => .array .int
  | 1 => .int
  | 2 => .int
  | 3 => .int
  | 4 => .int
  | _ => .int
abbrev wsX40 : List Cond := u_ws RX4 TX4 6
theorem nmX4 : ∀ a, a < 6 → ∀ b, b < 6 → a ≠ b → (TX4 a).2.1 ≠ (TX4 b).2.1 := by decide +kernel
theorem tyX4_ok : ∀ k, k < 6 → parseFieldDescriptor (TX4 k).2.2.1 = some (tyX4 k) := by decide +kernel
abbrev cX4_init : ByteArray := prog_6_method_1_code
def yX4_init : MethodName := ⟨RX4, "<init>", "()V"⟩
abbrev cX4_append : ByteArray := prog_6_method_2_code
def yX4_append : MethodName := ⟨RX4, "append", "(I)Z"⟩
abbrev cX4_rewind : ByteArray := prog_6_method_3_code
def yX4_rewind : MethodName := ⟨RX4, "rewind", "()V"⟩
abbrev cX4_nextToken : ByteArray := prog_6_method_4_code
def yX4_nextToken : MethodName := ⟨RX4, "nextToken", "()V"⟩
abbrev cX4_takeName : ByteArray := prog_6_method_5_code
def yX4_takeName : MethodName := ⟨RX4, "takeName", "()V"⟩
abbrev cX4_takeNumber : ByteArray := prog_6_method_6_code
def yX4_takeNumber : MethodName := ⟨RX4, "takeNumber", "()V"⟩
abbrev cX4_spells : ByteArray := prog_6_method_7_code
def yX4_spells : MethodName := ⟨RX4, "spells", "(Ljava/lang/String;)Z"⟩
abbrev cX4_isLetter : ByteArray := prog_6_method_8_code
def yX4_isLetter : MethodName := ⟨RX4, "isLetter", "(I)Z"⟩
abbrev cX4_isFigure : ByteArray := prog_6_method_9_code
def yX4_isFigure : MethodName := ⟨RX4, "isFigure", "(I)Z"⟩
def RX5 : String := "FeatherShares$TextReader"
def TX5 : u_T := fun k => match k with
  | 0 => ("FeatherShares$TextReader", "draft", "LFeatherShares$Flock;", true)
  | 1 => ("FeatherShares$TextReader", "lines", "I", false)
  | 2 => ("FeatherShares$TextReader", "faultFound", "I", false)
  | 3 => ("FeatherShares$TextReader", "faultPlace", "I", false)
  | 4 => ("FeatherShares$TextReader", "toldShares", "I", false)
  | 5 => ("FeatherShares$TextReader", "toldMoney", "I", false)
  | _ => ("FeatherShares$TextReader", "namedGeese", "I", false)
def tyX5 : Nat → FieldType := fun k => match k with
  | 0 => .object "FeatherShares$Flock"
  | 1 => .int
  | 2 => .int
  | 3 => .int
  | 4 => .int
  | 5 => .int
  | _ => .int
abbrev wsX50 : List Cond := u_ws RX5 TX5 7
theorem nmX5 : ∀ a, a < 7 → ∀ b, b < 7 → a ≠ b → (TX5 a).2.1 ≠ (TX5 b).2.1 := by decide +kernel
theorem tyX5_ok : ∀ k, k < 7 → parseFieldDescriptor (TX5 k).2.2.1 = some (tyX5 k) := by decide +kernel
abbrev cX5_init : ByteArray := prog_7_method_1_code
def yX5_init : MethodName := ⟨RX5, "<init>", "()V"⟩
abbrev cX5_readAll : ByteArray := prog_7_method_2_code
def yX5_readAll : MethodName := ⟨RX5, "readAll", "(LFeatherShares$Tape;)V"⟩
abbrev cX5_refuse : ByteArray := prog_7_method_3_code
def yX5_refuse : MethodName := ⟨RX5, "refuse", "(II)V"⟩
abbrev cX5_readLine : ByteArray := prog_7_method_4_code
def yX5_readLine : MethodName := ⟨RX5, "readLine", "(LFeatherShares$Tape;)Z"⟩
abbrev cX5_lineNamed : ByteArray := prog_7_method_5_code
def yX5_lineNamed : MethodName := ⟨RX5, "lineNamed", "(LFeatherShares$Tape;)I"⟩
abbrev cX5_readGoose : ByteArray := prog_7_method_6_code
def yX5_readGoose : MethodName := ⟨RX5, "readGoose", "(LFeatherShares$Tape;I)V"⟩
abbrev cX5_readShare : ByteArray := prog_7_method_7_code
def yX5_readShare : MethodName := ⟨RX5, "readShare", "(LFeatherShares$Tape;)V"⟩
abbrev cX5_readMoney : ByteArray := prog_7_method_8_code
def yX5_readMoney : MethodName := ⟨RX5, "readMoney", "(LFeatherShares$Tape;)V"⟩
abbrev cX5_readTrade : ByteArray := prog_7_method_9_code
def yX5_readTrade : MethodName := ⟨RX5, "readTrade", "(LFeatherShares$Tape;)V"⟩
abbrev cX5_nextNumber : ByteArray := prog_7_method_10_code
def yX5_nextNumber : MethodName := ⟨RX5, "nextNumber", "(LFeatherShares$Tape;II)I"⟩
abbrev cX5_isLineEnded : ByteArray := prog_7_method_11_code
def yX5_isLineEnded : MethodName := ⟨RX5, "isLineEnded", "(LFeatherShares$Tape;)Z"⟩
abbrev cX5_refuseOther : ByteArray := prog_7_method_12_code
def yX5_refuseOther : MethodName := ⟨RX5, "refuseOther", "(LFeatherShares$Tape;I)V"⟩
def RX6 : String := "FeatherShares"
def TX6 : u_T := fun k => match k with
  | 0 => ("FeatherShares", "now", "LFeatherShares$Flock;", true)
  | 1 => ("FeatherShares", "trial", "LFeatherShares$Flock;", true)
  | 2 => ("FeatherShares", "images", "[LFeatherShares$Flock;", true)
  | 3 => ("FeatherShares", "keptImages", "I", false)
  | 4 => ("FeatherShares", "tape", "LFeatherShares$Tape;", true)
  | 5 => ("FeatherShares", "reader", "LFeatherShares$TextReader;", true)
  | 6 => ("FeatherShares", "sightings", "LFeatherShares$Sightings;", true)
  | 7 => ("FeatherShares", "laterByKind", "[I", true)
  | 8 => ("FeatherShares", "rowSearch", "LFeatherShares$RowSearch;", true)
  | 9 => ("FeatherShares", "sheets", "[LFeatherShares$Sheet;", true)
  | _ => ("FeatherShares", "faultOfRead", "I", false)
def tyX6 : Nat → FieldType := fun k => match k with
  | 0 => .object "FeatherShares$Flock"
  | 1 => .object "FeatherShares$Flock"
  | 2 => .array (.object "FeatherShares$Flock")
  | 3 => .int
  | 4 => .object "FeatherShares$Tape"
  | 5 => .object "FeatherShares$TextReader"
  | 6 => .object "FeatherShares$Sightings"
  | 7 => .array .int
  | 8 => .object "FeatherShares$RowSearch"
  | 9 => .array (.object "FeatherShares$Sheet")
  | _ => .int
abbrev wsX60 : List Cond := u_ws RX6 TX6 11
theorem nmX6 : ∀ a, a < 11 → ∀ b, b < 11 → a ≠ b → (TX6 a).2.1 ≠ (TX6 b).2.1 := by decide +kernel
theorem tyX6_ok : ∀ k, k < 11 → parseFieldDescriptor (TX6 k).2.2.1 = some (tyX6 k) := by decide +kernel
abbrev cX6_init : ByteArray := prog_1_method_1_code
def yX6_init : MethodName := ⟨RX6, "<init>", "()V"⟩
abbrev cX6_feed : ByteArray := prog_1_method_2_code
def yX6_feed : MethodName := ⟨RX6, "feed", "(I)I"⟩
abbrev cX6_end : ByteArray := prog_1_method_3_code
def yX6_end : MethodName := ⟨RX6, "end", "(I)I"⟩
abbrev cX6_text : ByteArray := prog_1_method_4_code
def yX6_text : MethodName := ⟨RX6, "text", "()I"⟩
abbrev cX6_fault : ByteArray := prog_1_method_5_code
def yX6_fault : MethodName := ⟨RX6, "fault", "()I"⟩
abbrev cX6_rule : ByteArray := prog_1_method_6_code
def yX6_rule : MethodName := ⟨RX6, "rule", "(I)I"⟩
abbrev cX6_goose : ByteArray := prog_1_method_7_code
def yX6_goose : MethodName := ⟨RX6, "goose", "(II)I"⟩
abbrev cX6_owner : ByteArray := prog_1_method_8_code
def yX6_owner : MethodName := ⟨RX6, "owner", "(II)I"⟩
abbrev cX6_share : ByteArray := prog_1_method_9_code
def yX6_share : MethodName := ⟨RX6, "share", "(II)I"⟩
abbrev cX6_trade : ByteArray := prog_1_method_10_code
def yX6_trade : MethodName := ⟨RX6, "trade", "(II)I"⟩
abbrev cX6_alter : ByteArray := prog_1_method_11_code
def yX6_alter : MethodName := ⟨RX6, "alter", "(III)I"⟩
abbrev cX6_purse : ByteArray := prog_1_method_12_code
def yX6_purse : MethodName := ⟨RX6, "purse", "(II)I"⟩
abbrev cX6_grant : ByteArray := prog_1_method_13_code
def yX6_grant : MethodName := ⟨RX6, "grant", "(III)I"⟩
abbrev cX6_plan : ByteArray := prog_1_method_14_code
def yX6_plan : MethodName := ⟨RX6, "plan", "(IIII)I"⟩
abbrev cX6_cut : ByteArray := prog_1_method_15_code
def yX6_cut : MethodName := ⟨RX6, "cut", "(I)I"⟩
abbrev cX6_buy : ByteArray := prog_1_method_16_code
def yX6_buy : MethodName := ⟨RX6, "buy", "(IIII)I"⟩
abbrev cX6_pluck : ByteArray := prog_1_method_17_code
def yX6_pluck : MethodName := ⟨RX6, "pluck", "(IIII)I"⟩
abbrev cX6_weeks : ByteArray := prog_1_method_18_code
def yX6_weeks : MethodName := ⟨RX6, "weeks", "(I)I"⟩
abbrev cX6_runs : ByteArray := prog_1_method_19_code
def yX6_runs : MethodName := ⟨RX6, "runs", "(I)I"⟩
abbrev cX6_ahead : ByteArray := prog_1_method_20_code
def yX6_ahead : MethodName := ⟨RX6, "ahead", "(II)I"⟩
abbrev cX6_later : ByteArray := prog_1_method_21_code
def yX6_later : MethodName := ⟨RX6, "later", "(III)I"⟩
abbrev cX6_eggs : ByteArray := prog_1_method_22_code
def yX6_eggs : MethodName := ⟨RX6, "eggs", "(II)I"⟩
abbrev cX6_bare : ByteArray := prog_1_method_23_code
def yX6_bare : MethodName := ⟨RX6, "bare", "(II)I"⟩
abbrev cX6_rich : ByteArray := prog_1_method_24_code
def yX6_rich : MethodName := ⟨RX6, "rich", "(II)I"⟩
abbrev cX6_turn : ByteArray := prog_1_method_25_code
def yX6_turn : MethodName := ⟨RX6, "turn", "(I)I"⟩
abbrev cX6_need : ByteArray := prog_1_method_26_code
def yX6_need : MethodName := ⟨RX6, "need", "(III)I"⟩
abbrev cX6_best : ByteArray := prog_1_method_27_code
def yX6_best : MethodName := ⟨RX6, "best", "(III)I"⟩
abbrev cX6_leave : ByteArray := prog_1_method_28_code
def yX6_leave : MethodName := ⟨RX6, "leave", "(II)I"⟩
abbrev cX6_swings : ByteArray := prog_1_method_29_code
def yX6_swings : MethodName := ⟨RX6, "swings", "(II)I"⟩
abbrev cX6_power : ByteArray := prog_1_method_30_code
def yX6_power : MethodName := ⟨RX6, "power", "(III)J"⟩
abbrev cX6_reign : ByteArray := prog_1_method_31_code
def yX6_reign : MethodName := ⟨RX6, "reign", "(II)I"⟩
abbrev cX6_luck : ByteArray := prog_1_method_32_code
def yX6_luck : MethodName := ⟨RX6, "luck", "(IIIII)J"⟩
abbrev cX6_mean : ByteArray := prog_1_method_33_code
def yX6_mean : MethodName := ⟨RX6, "mean", "(IIII)J"⟩
abbrev cX6_see : ByteArray := prog_1_method_34_code
def yX6_see : MethodName := ⟨RX6, "see", "(IIII)I"⟩
abbrev cX6_forget : ByteArray := prog_1_method_35_code
def yX6_forget : MethodName := ⟨RX6, "forget", "(I)I"⟩
abbrev cX6_kinds : ByteArray := prog_1_method_36_code
def yX6_kinds : MethodName := ⟨RX6, "kinds", "(I)I"⟩
abbrev cX6_skins : ByteArray := prog_1_method_37_code
def yX6_skins : MethodName := ⟨RX6, "skins", "(I)I"⟩
abbrev cX6_look : ByteArray := prog_1_method_38_code
def yX6_look : MethodName := ⟨RX6, "look", "(II)I"⟩
abbrev cX6_drift : ByteArray := prog_1_method_39_code
def yX6_drift : MethodName := ⟨RX6, "drift", "(III)I"⟩
abbrev cX6_keep : ByteArray := prog_1_method_40_code
def yX6_keep : MethodName := ⟨RX6, "keep", "(I)I"⟩
abbrev cX6_back : ByteArray := prog_1_method_41_code
def yX6_back : MethodName := ⟨RX6, "back", "(I)I"⟩
abbrev cX6_sheet : ByteArray := prog_1_method_42_code
def yX6_sheet : MethodName := ⟨RX6, "sheet", "(III)I"⟩
abbrev cX6_lay : ByteArray := prog_1_method_43_code
def yX6_lay : MethodName := ⟨RX6, "lay", "(III)I"⟩
abbrev cX6_read : ByteArray := prog_1_method_44_code
def yX6_read : MethodName := ⟨RX6, "read", "(IIII)I"⟩
abbrev cX6_torn : ByteArray := prog_1_method_45_code
def yX6_torn : MethodName := ⟨RX6, "torn", "()I"⟩
abbrev cX6_count : ByteArray := prog_1_method_46_code
def yX6_count : MethodName := ⟨RX6, "count", "(I)I"⟩
abbrev cX6_isWithin : ByteArray := prog_1_method_47_code
def yX6_isWithin : MethodName := ⟨RX6, "isWithin", "(III)Z"⟩
abbrev cX6_isOwner : ByteArray := prog_1_method_48_code
def yX6_isOwner : MethodName := ⟨RX6, "isOwner", "(I)Z"⟩
abbrev cX6_isSheet : ByteArray := prog_1_method_49_code
def yX6_isSheet : MethodName := ⟨RX6, "isSheet", "(I)Z"⟩
abbrev cX6_isLane : ByteArray := prog_1_method_50_code
def yX6_isLane : MethodName := ⟨RX6, "isLane", "(I)Z"⟩
abbrev cX6_areOdds : ByteArray := prog_1_method_51_code
def yX6_areOdds : MethodName := ⟨RX6, "areOdds", "(II)Z"⟩
abbrev cX6_sumOf : ByteArray := prog_1_method_52_code
def yX6_sumOf : MethodName := ⟨RX6, "sumOf", "([I)I"⟩
abbrev cX6_replaced : ByteArray := prog_1_method_53_code
def yX6_replaced : MethodName := ⟨RX6, "replaced", "([III)I"⟩
abbrev cX6_worthByPlanWithout : ByteArray := prog_1_method_54_code
def yX6_worthByPlanWithout : MethodName := ⟨RX6, "worthByPlanWithout", "(II)I"⟩
abbrev cX6_kindsAsSeen : ByteArray := prog_1_method_55_code
def yX6_kindsAsSeen : MethodName := ⟨RX6, "kindsAsSeen", "(I)I"⟩
abbrev cX6_placeByKind : ByteArray := prog_1_method_56_code
def yX6_placeByKind : MethodName := ⟨RX6, "placeByKind", "(III)I"⟩
abbrev cX6_foretellByKind : ByteArray := prog_1_method_57_code
def yX6_foretellByKind : MethodName := ⟨RX6, "foretellByKind", "(I)V"⟩
abbrev cX6_mostKindsAlike : ByteArray := prog_1_method_58_code
def yX6_mostKindsAlike : MethodName := ⟨RX6, "mostKindsAlike", "(III)I"⟩
abbrev cX6_raised : ByteArray := prog_1_method_59_code
def yX6_raised : MethodName := ⟨RX6, "raised", "(II)J"⟩
abbrev cX6_waysToMoult : ByteArray := prog_1_method_60_code
def yX6_waysToMoult : MethodName := ⟨RX6, "waysToMoult", "(III)J"⟩
abbrev cX6_partOfFraction : ByteArray := prog_1_method_61_code
def yX6_partOfFraction : MethodName := ⟨RX6, "partOfFraction", "(JJI)J"⟩
abbrev cX6_commonDivisor : ByteArray := prog_1_method_62_code
def yX6_commonDivisor : MethodName := ⟨RX6, "commonDivisor", "(JJ)J"⟩
def RX7 : String := "FeatherSharesModel"
def TX7 : u_T := fun k => match k with
  | 0 => ("FeatherSharesModel", "state", "[I", true)
  | 1 => ("FeatherSharesModel", "gooseMany", "I", false)
  | 2 => ("FeatherSharesModel", "readPage", "[I", true)
  | 3 => ("FeatherSharesModel", "readGeese", "I", false)
  | 4 => ("FeatherSharesModel", "sharesTold", "I", false)
  | 5 => ("FeatherSharesModel", "moneyTold", "I", false)
  | 6 => ("FeatherSharesModel", "high", "I", false)
  | 7 => ("FeatherSharesModel", "tape", "[I", true)
  | 8 => ("FeatherSharesModel", "taped", "I", false)
  | 9 => ("FeatherSharesModel", "fault", "I", false)
  | 10 => ("FeatherSharesModel", "broken", "I", false)
  | 11 => ("FeatherSharesModel", "brokenAt", "I", false)
  | 12 => ("FeatherSharesModel", "spot", "I", false)
  | 13 => ("FeatherSharesModel", "here", "I", false)
  | 14 => ("FeatherSharesModel", "token", "I", false)
  | 15 => ("FeatherSharesModel", "value", "I", false)
  | 16 => ("FeatherSharesModel", "cuts", "[I", true)
  | 17 => ("FeatherSharesModel", "letters", "[I", true)
  | 18 => ("FeatherSharesModel", "cameMany", "I", false)
  | 19 => ("FeatherSharesModel", "firstNot", "I", false)
  | 20 => ("FeatherSharesModel", "changed", "I", false)
  | 21 => ("FeatherSharesModel", "bestGeese", "I", false)
  | 22 => ("FeatherSharesModel", "bestMoney", "I", false)
  | 23 => ("FeatherSharesModel", "bestMany", "I", false)
  | 24 => ("FeatherSharesModel", "bestFirst", "I", false)
  | 25 => ("FeatherSharesModel", "bestSecond", "I", false)
  | 26 => ("FeatherSharesModel", "seen", "[I", true)
  | 27 => ("FeatherSharesModel", "seenMany", "I", false)
  | 28 => ("FeatherSharesModel", "shareBy", "[I", true)
  | 29 => ("FeatherSharesModel", "isKept", "[Z", true)
  | 30 => ("FeatherSharesModel", "lanes", "[I", true)
  | 31 => ("FeatherSharesModel", "lengths", "[I", true)
  | 32 => ("FeatherSharesModel", "cells", "[I", true)
  | _ => ("FeatherSharesModel", "torn", "I", false)
def tyX7 : Nat → FieldType := fun k => match k with
  | 0 => .array .int
  | 1 => .int
  | 2 => .array .int
  | 3 => .int
  | 4 => .int
  | 5 => .int
  | 6 => .int
  | 7 => .array .int
  | 8 => .int
  | 9 => .int
  | 10 => .int
  | 11 => .int
  | 12 => .int
  | 13 => .int
  | 14 => .int
  | 15 => .int
  | 16 => .array .int
  | 17 => .array .int
  | 18 => .int
  | 19 => .int
  | 20 => .int
  | 21 => .int
  | 22 => .int
  | 23 => .int
  | 24 => .int
  | 25 => .int
  | 26 => .array .int
  | 27 => .int
  | 28 => .array .int
  | 29 => .array .boolean
  | 30 => .array .int
  | 31 => .array .int
  | 32 => .array .int
  | _ => .int
abbrev wsX70 : List Cond := u_ws RX7 TX7 34
theorem nmX7 : ∀ a, a < 34 → ∀ b, b < 34 → a ≠ b → (TX7 a).2.1 ≠ (TX7 b).2.1 := by decide +kernel
theorem tyX7_ok : ∀ k, k < 34 → parseFieldDescriptor (TX7 k).2.2.1 = some (tyX7 k) := by decide +kernel
abbrev cX7_init : ByteArray := prog_9_method_1_code
def yX7_init : MethodName := ⟨RX7, "<init>", "()V"⟩
abbrev cX7_in : ByteArray := prog_9_method_3_code
def yX7_in : MethodName := ⟨RX7, "in", "(JJJ)Z"⟩
abbrev cX7_feed : ByteArray := prog_9_method_4_code
def yX7_feed : MethodName := ⟨RX7, "feed", "(I)I"⟩
abbrev cX7_end : ByteArray := prog_9_method_5_code
def yX7_end : MethodName := ⟨RX7, "end", "(I)I"⟩
abbrev cX7_byteAt : ByteArray := prog_9_method_6_code
def yX7_byteAt : MethodName := ⟨RX7, "byteAt", "(I)I"⟩
abbrev cX7_fails : ByteArray := prog_9_method_7_code
def yX7_fails : MethodName := ⟨RX7, "fails", "(I)V"⟩
abbrev cX7_nameHere : ByteArray := prog_9_method_8_code
def yX7_nameHere : MethodName := ⟨RX7, "nameHere", "()I"⟩
abbrev cX7_step : ByteArray := prog_9_method_9_code
def yX7_step : MethodName := ⟨RX7, "step", "()V"⟩
abbrev cX7_other : ByteArray := prog_9_method_10_code
def yX7_other : MethodName := ⟨RX7, "other", "(III)I"⟩
abbrev cX7_gooseHere : ByteArray := prog_9_method_11_code
def yX7_gooseHere : MethodName := ⟨RX7, "gooseHere", "()I"⟩
abbrev cX7_readTrade : ByteArray := prog_9_method_12_code
def yX7_readTrade : MethodName := ⟨RX7, "readTrade", "()V"⟩
abbrev cX7_readMore : ByteArray := prog_9_method_13_code
def yX7_readMore : MethodName := ⟨RX7, "readMore", "(I)V"⟩
abbrev cX7_readLine : ByteArray := prog_9_method_14_code
def yX7_readLine : MethodName := ⟨RX7, "readLine", "()V"⟩
abbrev cX7_text : ByteArray := prog_9_method_15_code
def yX7_text : MethodName := ⟨RX7, "text", "()I"⟩
abbrev cX7_fault : ByteArray := prog_9_method_16_code
def yX7_fault : MethodName := ⟨RX7, "fault", "()I"⟩
abbrev cX7_isGoose : ByteArray := prog_9_method_17_code
def yX7_isGoose : MethodName := ⟨RX7, "isGoose", "(I)Z"⟩
abbrev cX7_isOwner : ByteArray := prog_9_method_18_code
def yX7_isOwner : MethodName := ⟨RX7, "isOwner", "(I)Z"⟩
abbrev cX7_shareOn : ByteArray := prog_9_method_19_code
def yX7_shareOn : MethodName := ⟨RX7, "shareOn", "(III)I"⟩
abbrev cX7_moneyOn : ByteArray := prog_9_method_20_code
def yX7_moneyOn : MethodName := ⟨RX7, "moneyOn", "(II)I"⟩
abbrev cX7_feathersOn : ByteArray := prog_9_method_21_code
def yX7_feathersOn : MethodName := ⟨RX7, "feathersOn", "(II)I"⟩
abbrev cX7_eggOn : ByteArray := prog_9_method_22_code
def yX7_eggOn : MethodName := ⟨RX7, "eggOn", "(II)I"⟩
abbrev cX7_eggsNow : ByteArray := prog_9_method_23_code
def yX7_eggsNow : MethodName := ⟨RX7, "eggsNow", "(II)I"⟩
abbrev cX7_worthOn : ByteArray := prog_9_method_24_code
def yX7_worthOn : MethodName := ⟨RX7, "worthOn", "(II)I"⟩
abbrev cX7_losesOf : ByteArray := prog_9_method_25_code
def yX7_losesOf : MethodName := ⟨RX7, "losesOf", "(II)I"⟩
abbrev cX7_moultsOn : ByteArray := prog_9_method_26_code
def yX7_moultsOn : MethodName := ⟨RX7, "moultsOn", "(II)V"⟩
abbrev cX7_weekOn : ByteArray := prog_9_method_27_code
def yX7_weekOn : MethodName := ⟨RX7, "weekOn", "(IZ)I"⟩
abbrev cX7_rule : ByteArray := prog_9_method_28_code
def yX7_rule : MethodName := ⟨RX7, "rule", "(I)I"⟩
abbrev cX7_goose : ByteArray := prog_9_method_29_code
def yX7_goose : MethodName := ⟨RX7, "goose", "(II)I"⟩
abbrev cX7_ownerOn : ByteArray := prog_9_method_30_code
def yX7_ownerOn : MethodName := ⟨RX7, "ownerOn", "(III)I"⟩
abbrev cX7_owner : ByteArray := prog_9_method_31_code
def yX7_owner : MethodName := ⟨RX7, "owner", "(II)I"⟩
abbrev cX7_share : ByteArray := prog_9_method_32_code
def yX7_share : MethodName := ⟨RX7, "share", "(II)I"⟩
abbrev cX7_trade : ByteArray := prog_9_method_33_code
def yX7_trade : MethodName := ⟨RX7, "trade", "(II)I"⟩
abbrev cX7_puts : ByteArray := prog_9_method_34_code
def yX7_puts : MethodName := ⟨RX7, "puts", "(ZIII)I"⟩
abbrev cX7_alter : ByteArray := prog_9_method_35_code
def yX7_alter : MethodName := ⟨RX7, "alter", "(III)I"⟩
abbrev cX7_purse : ByteArray := prog_9_method_36_code
def yX7_purse : MethodName := ⟨RX7, "purse", "(II)I"⟩
abbrev cX7_grant : ByteArray := prog_9_method_37_code
def yX7_grant : MethodName := ⟨RX7, "grant", "(III)I"⟩
abbrev cX7_isTrade : ByteArray := prog_9_method_38_code
def yX7_isTrade : MethodName := ⟨RX7, "isTrade", "(IIII)Z"⟩
abbrev cX7_plan : ByteArray := prog_9_method_39_code
def yX7_plan : MethodName := ⟨RX7, "plan", "(IIII)I"⟩
abbrev cX7_cut : ByteArray := prog_9_method_40_code
def yX7_cut : MethodName := ⟨RX7, "cut", "(I)I"⟩
abbrev cX7_plucksOn : ByteArray := prog_9_method_41_code
def yX7_plucksOn : MethodName := ⟨RX7, "plucksOn", "(IIIII)Z"⟩
abbrev cX7_buysOn : ByteArray := prog_9_method_42_code
def yX7_buysOn : MethodName := ⟨RX7, "buysOn", "(IIIII)Z"⟩
abbrev cX7_buys : ByteArray := prog_9_method_43_code
def yX7_buys : MethodName := ⟨RX7, "buys", "(IIII)I"⟩
abbrev cX7_buy : ByteArray := prog_9_method_44_code
def yX7_buy : MethodName := ⟨RX7, "buy", "(IIII)I"⟩
abbrev cX7_pluck : ByteArray := prog_9_method_45_code
def yX7_pluck : MethodName := ⟨RX7, "pluck", "(IIII)I"⟩
abbrev cX7_weeks : ByteArray := prog_9_method_46_code
def yX7_weeks : MethodName := ⟨RX7, "weeks", "(I)I"⟩
abbrev cX7_copies : ByteArray := prog_9_method_47_code
def yX7_copies : MethodName := ⟨RX7, "copies", "(II)V"⟩
abbrev cX7_planGoes : ByteArray := prog_9_method_48_code
def yX7_planGoes : MethodName := ⟨RX7, "planGoes", "(I)V"⟩
abbrev cX7_runs : ByteArray := prog_9_method_49_code
def yX7_runs : MethodName := ⟨RX7, "runs", "(I)I"⟩
abbrev cX7_ahead : ByteArray := prog_9_method_50_code
def yX7_ahead : MethodName := ⟨RX7, "ahead", "(II)I"⟩
abbrev cX7_weeksGo : ByteArray := prog_9_method_51_code
def yX7_weeksGo : MethodName := ⟨RX7, "weeksGo", "(I)V"⟩
abbrev cX7_later : ByteArray := prog_9_method_52_code
def yX7_later : MethodName := ⟨RX7, "later", "(III)I"⟩
abbrev cX7_eggs : ByteArray := prog_9_method_53_code
def yX7_eggs : MethodName := ⟨RX7, "eggs", "(II)I"⟩
abbrev cX7_bare : ByteArray := prog_9_method_54_code
def yX7_bare : MethodName := ⟨RX7, "bare", "(II)I"⟩
abbrev cX7_rich : ByteArray := prog_9_method_55_code
def yX7_rich : MethodName := ⟨RX7, "rich", "(II)I"⟩
abbrev cX7_turn : ByteArray := prog_9_method_56_code
def yX7_turn : MethodName := ⟨RX7, "turn", "(I)I"⟩
abbrev cX7_need : ByteArray := prog_9_method_57_code
def yX7_need : MethodName := ⟨RX7, "need", "(III)I"⟩
abbrev cX7_compares : ByteArray := prog_9_method_58_code
def yX7_compares : MethodName := ⟨RX7, "compares", "(IIIII)V"⟩
abbrev cX7_buysBy : ByteArray := prog_9_method_59_code
def yX7_buysBy : MethodName := ⟨RX7, "buysBy", "(III)Z"⟩
abbrev cX7_rowsOf : ByteArray := prog_9_method_60_code
def yX7_rowsOf : MethodName := ⟨RX7, "rowsOf", "(II)V"⟩
abbrev cX7_best : ByteArray := prog_9_method_61_code
def yX7_best : MethodName := ⟨RX7, "best", "(III)I"⟩
abbrev cX7_leave : ByteArray := prog_9_method_62_code
def yX7_leave : MethodName := ⟨RX7, "leave", "(II)I"⟩
abbrev cX7_sumOf : ByteArray := prog_9_method_63_code
def yX7_sumOf : MethodName := ⟨RX7, "sumOf", "(II)I"⟩
abbrev cX7_swingsOf : ByteArray := prog_9_method_64_code
def yX7_swingsOf : MethodName := ⟨RX7, "swingsOf", "(II)I"⟩
abbrev cX7_swings : ByteArray := prog_9_method_65_code
def yX7_swings : MethodName := ⟨RX7, "swings", "(II)I"⟩
abbrev cX7_lowest : ByteArray := prog_9_method_66_code
def yX7_lowest : MethodName := ⟨RX7, "lowest", "(JJI)J"⟩
abbrev cX7_power : ByteArray := prog_9_method_67_code
def yX7_power : MethodName := ⟨RX7, "power", "(III)J"⟩
abbrev cX7_reign : ByteArray := prog_9_method_68_code
def yX7_reign : MethodName := ⟨RX7, "reign", "(II)I"⟩
abbrev cX7_byMoults : ByteArray := prog_9_method_69_code
def yX7_byMoults : MethodName := ⟨RX7, "byMoults", "(IIIII)J"⟩
abbrev cX7_luck : ByteArray := prog_9_method_70_code
def yX7_luck : MethodName := ⟨RX7, "luck", "(IIIII)J"⟩
abbrev cX7_mean : ByteArray := prog_9_method_71_code
def yX7_mean : MethodName := ⟨RX7, "mean", "(IIII)J"⟩
abbrev cX7_see : ByteArray := prog_9_method_72_code
def yX7_see : MethodName := ⟨RX7, "see", "(IIII)I"⟩
abbrev cX7_forget : ByteArray := prog_9_method_73_code
def yX7_forget : MethodName := ⟨RX7, "forget", "(I)I"⟩
abbrev cX7_isAsSeen : ByteArray := prog_9_method_74_code
def yX7_isAsSeen : MethodName := ⟨RX7, "isAsSeen", "(II)Z"⟩
abbrev cX7_kindsOf : ByteArray := prog_9_method_75_code
def yX7_kindsOf : MethodName := ⟨RX7, "kindsOf", "(I)I"⟩
abbrev cX7_kinds : ByteArray := prog_9_method_76_code
def yX7_kinds : MethodName := ⟨RX7, "kinds", "(I)I"⟩
abbrev cX7_skins : ByteArray := prog_9_method_77_code
def yX7_skins : MethodName := ⟨RX7, "skins", "(I)I"⟩
abbrev cX7_bitsOf : ByteArray := prog_9_method_78_code
def yX7_bitsOf : MethodName := ⟨RX7, "bitsOf", "(I)I"⟩
abbrev cX7_look : ByteArray := prog_9_method_79_code
def yX7_look : MethodName := ⟨RX7, "look", "(II)I"⟩
abbrev cX7_drift : ByteArray := prog_9_method_80_code
def yX7_drift : MethodName := ⟨RX7, "drift", "(III)I"⟩
abbrev cX7_keep : ByteArray := prog_9_method_81_code
def yX7_keep : MethodName := ⟨RX7, "keep", "(I)I"⟩
abbrev cX7_back : ByteArray := prog_9_method_82_code
def yX7_back : MethodName := ⟨RX7, "back", "(I)I"⟩
abbrev cX7_sheet : ByteArray := prog_9_method_83_code
def yX7_sheet : MethodName := ⟨RX7, "sheet", "(III)I"⟩
abbrev cX7_lay : ByteArray := prog_9_method_84_code
def yX7_lay : MethodName := ⟨RX7, "lay", "(III)I"⟩
abbrev cX7_read : ByteArray := prog_9_method_85_code
def yX7_read : MethodName := ⟨RX7, "read", "(IIII)I"⟩
abbrev cX7_torn : ByteArray := prog_9_method_86_code
def yX7_torn : MethodName := ⟨RX7, "torn", "()I"⟩
abbrev cX7_count : ByteArray := prog_9_method_87_code
def yX7_count : MethodName := ⟨RX7, "count", "(I)I"⟩
def RJx145de : String := "java/io/Serializable"
def TJx145de : u_T := fun k => match k with
  | _ => ("", "", "", false)
def tyJx145de : Nat → FieldType := fun k => match k with
  | _ => .int
abbrev wsJx145de0 : List Cond := u_ws RJx145de TJx145de 0
theorem nmJx145de : ∀ a, a < 0 → ∀ b, b < 0 → a ≠ b → (TJx145de a).2.1 ≠ (TJx145de b).2.1 := by decide +kernel
theorem tyJx145de_ok : ∀ k, k < 0 → parseFieldDescriptor (TJx145de k).2.2.1 = some (tyJx145de k) := by decide +kernel
def RJx9f9b0 : String := "java/lang/CharSequence"
def TJx9f9b0 : u_T := fun k => match k with
  | _ => ("", "", "", false)
def tyJx9f9b0 : Nat → FieldType := fun k => match k with
  | _ => .int
abbrev wsJx9f9b00 : List Cond := u_ws RJx9f9b0 TJx9f9b0 0
theorem nmJx9f9b0 : ∀ a, a < 0 → ∀ b, b < 0 → a ≠ b → (TJx9f9b0 a).2.1 ≠ (TJx9f9b0 b).2.1 := by decide +kernel
theorem tyJx9f9b0_ok : ∀ k, k < 0 → parseFieldDescriptor (TJx9f9b0 k).2.2.1 = some (tyJx9f9b0 k) := by decide +kernel
def RJxb160c : String := "java/lang/Comparable"
def TJxb160c : u_T := fun k => match k with
  | _ => ("", "", "", false)
def tyJxb160c : Nat → FieldType := fun k => match k with
  | _ => .int
abbrev wsJxb160c0 : List Cond := u_ws RJxb160c TJxb160c 0
theorem nmJxb160c : ∀ a, a < 0 → ∀ b, b < 0 → a ≠ b → (TJxb160c a).2.1 ≠ (TJxb160c b).2.1 := by decide +kernel
theorem tyJxb160c_ok : ∀ k, k < 0 → parseFieldDescriptor (TJxb160c k).2.2.1 = some (tyJxb160c k) := by decide +kernel
def RJ6 : String := "java/lang/Integer"
def TJ6 : u_T := fun k => match k with
  | _ => ("", "", "", false)
def tyJ6 : Nat → FieldType := fun k => match k with
  | _ => .int
abbrev wsJ60 : List Cond := u_ws RJ6 TJ6 0
theorem nmJ6 : ∀ a, a < 0 → ∀ b, b < 0 → a ≠ b → (TJ6 a).2.1 ≠ (TJ6 b).2.1 := by decide +kernel
theorem tyJ6_ok : ∀ k, k < 0 → parseFieldDescriptor (TJ6 k).2.2.1 = some (tyJ6 k) := by decide +kernel
abbrev cJ6_bitCount_0f7a4 : ByteArray := prog_10_method_49_code
def yJ6_bitCount_0f7a4 : MethodName := ⟨RJ6, "bitCount", "(I)I"⟩
def RJ9 : String := "java/lang/Math"
def TJ9 : u_T := fun k => match k with
  | _ => ("", "", "", false)
def tyJ9 : Nat → FieldType := fun k => match k with
  | _ => .int
abbrev wsJ90 : List Cond := u_ws RJ9 TJ9 0
theorem nmJ9 : ∀ a, a < 0 → ∀ b, b < 0 → a ≠ b → (TJ9 a).2.1 ≠ (TJ9 b).2.1 := by decide +kernel
theorem tyJ9_ok : ∀ k, k < 0 → parseFieldDescriptor (TJ9 k).2.2.1 = some (tyJ9 k) := by decide +kernel
abbrev cJ9_max_7cf53 : ByteArray := prog_11_method_65_code
def yJ9_max_7cf53 : MethodName := ⟨RJ9, "max", "(II)I"⟩
abbrev cJ9_max_f86c9 : ByteArray := prog_11_method_66_code
def yJ9_max_f86c9 : MethodName := ⟨RJ9, "max", "(JJ)J"⟩
abbrev cJ9_min_7cf53 : ByteArray := prog_11_method_69_code
def yJ9_min_7cf53 : MethodName := ⟨RJ9, "min", "(II)I"⟩
def RJ0 : String := "java/lang/String"
def TJ0 : u_T := fun k => match k with
  | _ => ("", "", "", false)
def tyJ0 : Nat → FieldType := fun k => match k with
  | _ => .int
abbrev wsJ00 : List Cond := u_ws RJ0 TJ0 0
theorem nmJ0 : ∀ a, a < 0 → ∀ b, b < 0 → a ≠ b → (TJ0 a).2.1 ≠ (TJ0 b).2.1 := by decide +kernel
theorem tyJ0_ok : ∀ k, k < 0 → parseFieldDescriptor (TJ0 k).2.2.1 = some (tyJ0 k) := by decide +kernel
abbrev cJ0_length_8abf5 : ByteArray := prog_12_method_54_code
def yJ0_length_8abf5 : MethodName := ⟨RJ0, "length", "()I"⟩
abbrev cJ0_charAt_5068e : ByteArray := prog_12_method_56_code
def yJ0_charAt_5068e : MethodName := ⟨RJ0, "charAt", "(I)C"⟩
abbrev cJ0_coder_7d493 : ByteArray := prog_12_method_152_code
def yJ0_coder_7d493 : MethodName := ⟨RJ0, "coder", "()B"⟩
abbrev cJ0_isLatin1_aae02 : ByteArray := prog_12_method_154_code
def yJ0_isLatin1_aae02 : MethodName := ⟨RJ0, "isLatin1", "()Z"⟩
abbrev cJ0_checkIndex_df160 : ByteArray := prog_12_method_155_code
def yJ0_checkIndex_df160 : MethodName := ⟨RJ0, "checkIndex", "(II)V"⟩
def RJ1 : String := "java/lang/StringLatin1"
def TJ1 : u_T := fun k => match k with
  | _ => ("", "", "", false)
def tyJ1 : Nat → FieldType := fun k => match k with
  | _ => .int
abbrev wsJ10 : List Cond := u_ws RJ1 TJ1 0
theorem nmJ1 : ∀ a, a < 0 → ∀ b, b < 0 → a ≠ b → (TJ1 a).2.1 ≠ (TJ1 b).2.1 := by decide +kernel
theorem tyJ1_ok : ∀ k, k < 0 → parseFieldDescriptor (TJ1 k).2.2.1 = some (tyJ1 k) := by decide +kernel
abbrev cJ1_charAt_3b067 : ByteArray := prog_13_method_2_code
def yJ1_charAt_3b067 : MethodName := ⟨RJ1, "charAt", "([BI)C"⟩
def RJ2 : String := "java/lang/StringUTF16"
def TJ2 : u_T := fun k => match k with
  | _ => ("", "", "", false)
def tyJ2 : Nat → FieldType := fun k => match k with
  | _ => .int
abbrev wsJ20 : List Cond := u_ws RJ2 TJ2 0
theorem nmJ2 : ∀ a, a < 0 → ∀ b, b < 0 → a ≠ b → (TJ2 a).2.1 ≠ (TJ2 b).2.1 := by decide +kernel
theorem tyJ2_ok : ∀ k, k < 0 → parseFieldDescriptor (TJ2 k).2.2.1 = some (tyJ2 k) := by decide +kernel
abbrev cJ2_getChar_3b067 : ByteArray := prog_14_method_5_code
def yJ2_getChar_3b067 : MethodName := ⟨RJ2, "getChar", "([BI)C"⟩
abbrev cJ2_length_9d52b : ByteArray := prog_14_method_6_code
def yJ2_length_9d52b : MethodName := ⟨RJ2, "length", "([B)I"⟩
abbrev cJ2_charAt_3b067 : ByteArray := prog_14_method_83_code
def yJ2_charAt_3b067 : MethodName := ⟨RJ2, "charAt", "([BI)C"⟩
abbrev cJ2_checkIndex_2214a : ByteArray := prog_14_method_91_code
def yJ2_checkIndex_2214a : MethodName := ⟨RJ2, "checkIndex", "(I[B)V"⟩
def RJ10 : String := "java/lang/System"
def TJ10 : u_T := fun k => match k with
  | _ => ("", "", "", false)
def tyJ10 : Nat → FieldType := fun k => match k with
  | _ => .int
abbrev wsJ100 : List Cond := u_ws RJ10 TJ10 0
theorem nmJ10 : ∀ a, a < 0 → ∀ b, b < 0 → a ≠ b → (TJ10 a).2.1 ≠ (TJ10 b).2.1 := by decide +kernel
theorem tyJ10_ok : ∀ k, k < 0 → parseFieldDescriptor (TJ10 k).2.2.1 = some (tyJ10 k) := by decide +kernel
def RJxfd54e : String := "java/lang/constant/Constable"
def TJxfd54e : u_T := fun k => match k with
  | _ => ("", "", "", false)
def tyJxfd54e : Nat → FieldType := fun k => match k with
  | _ => .int
abbrev wsJxfd54e0 : List Cond := u_ws RJxfd54e TJxfd54e 0
theorem nmJxfd54e : ∀ a, a < 0 → ∀ b, b < 0 → a ≠ b → (TJxfd54e a).2.1 ≠ (TJxfd54e b).2.1 := by decide +kernel
theorem tyJxfd54e_ok : ∀ k, k < 0 → parseFieldDescriptor (TJxfd54e k).2.2.1 = some (tyJxfd54e k) := by decide +kernel
def RJx3cf43 : String := "java/lang/constant/ConstantDesc"
def TJx3cf43 : u_T := fun k => match k with
  | _ => ("", "", "", false)
def tyJx3cf43 : Nat → FieldType := fun k => match k with
  | _ => .int
abbrev wsJx3cf430 : List Cond := u_ws RJx3cf43 TJx3cf43 0
theorem nmJx3cf43 : ∀ a, a < 0 → ∀ b, b < 0 → a ≠ b → (TJx3cf43 a).2.1 ≠ (TJx3cf43 b).2.1 := by decide +kernel
theorem tyJx3cf43_ok : ∀ k, k < 0 → parseFieldDescriptor (TJx3cf43 k).2.2.1 = some (tyJx3cf43 k) := by decide +kernel
def RJ7 : String := "java/util/Arrays"
def TJ7 : u_T := fun k => match k with
  | _ => ("", "", "", false)
def tyJ7 : Nat → FieldType := fun k => match k with
  | _ => .int
abbrev wsJ70 : List Cond := u_ws RJ7 TJ7 0
theorem nmJ7 : ∀ a, a < 0 → ∀ b, b < 0 → a ≠ b → (TJ7 a).2.1 ≠ (TJ7 b).2.1 := by decide +kernel
theorem tyJ7_ok : ∀ k, k < 0 → parseFieldDescriptor (TJ7 k).2.2.1 = some (tyJ7 k) := by decide +kernel
abbrev cJ7_fill_53178 : ByteArray := prog_16_method_103_code
def yJ7_fill_53178 : MethodName := ⟨RJ7, "fill", "([II)V"⟩
def RJ3 : String := "jdk/internal/util/Preconditions"
def TJ3 : u_T := fun k => match k with
  | _ => ("", "", "", false)
def tyJ3 : Nat → FieldType := fun k => match k with
  | _ => .int
abbrev wsJ30 : List Cond := u_ws RJ3 TJ3 0
theorem nmJ3 : ∀ a, a < 0 → ∀ b, b < 0 → a ≠ b → (TJ3 a).2.1 ≠ (TJ3 b).2.1 := by decide +kernel
theorem tyJ3_ok : ∀ k, k < 0 → parseFieldDescriptor (TJ3 k).2.2.1 = some (tyJ3 k) := by decide +kernel
abbrev cJ3_checkIndex_8e157 : ByteArray := prog_17_method_11_code
def yJ3_checkIndex_8e157 : MethodName := ⟨RJ3, "checkIndex", "(IILjava/util/function/BiFunction;)I"⟩
def RL : String := "FeatherSharesLaw"
abbrev cL_law : ByteArray := code
def yL_law : MethodName := ⟨RL, "law", "([I)Z"⟩
def wsJ7_fill_53178 : List Cond := .code yJ7_fill_53178 cJ7_fill_53178 4 none :: ([])
def wsX0_init : List Cond := .code yX0_init cX0_init 1 none :: ([.methodLink RX0 3 objectInit, .instanceMethod objectInit, .code objectInit ⟨#[0xb1]⟩ 1 none, .fieldLink RX0 9 "FeatherShares$Flock" "geese" "I", .fieldLink RX0 15 "FeatherShares$Flock" "week" "I", .fieldLink RX0 18 "FeatherShares$Flock" "trades" "I", .arrayClass .int, .fieldLink RX0 21 "FeatherShares$Flock" "kind" "[I", .fieldLink RX0 25 "FeatherShares$Flock" "skin" "[I", .fieldLink RX0 28 "FeatherShares$Flock" "price" "[I", .fieldLink RX0 31 "FeatherShares$Flock" "feathers" "[I", .fieldLink RX0 34 "FeatherShares$Flock" "money" "[I", .fieldLink RX0 37 "FeatherShares$Flock" "eggsHad" "[I", .fieldLink RX0 40 "FeatherShares$Flock" "planBuyer" "[I", .fieldLink RX0 43 "FeatherShares$Flock" "planSeller" "[I", .fieldLink RX0 46 "FeatherShares$Flock" "planGoose" "[I", .fieldLink RX0 49 "FeatherShares$Flock" "planAmount" "[I", .methodLink RX0 52 yJ7_fill_53178, .static yJ7_fill_53178, .initialized RJ7, .code yJ7_fill_53178 cJ7_fill_53178 4 none] ++ wsX00)
def wsX0_clear : List Cond := .code yX0_clear cX0_clear 1 none :: ([.fieldLink RX0 9 "FeatherShares$Flock" "geese" "I", .fieldLink RX0 15 "FeatherShares$Flock" "week" "I", .fieldLink RX0 18 "FeatherShares$Flock" "trades" "I", .fieldLink RX0 31 "FeatherShares$Flock" "feathers" "[I", .fieldLink RX0 34 "FeatherShares$Flock" "money" "[I", .fieldLink RX0 37 "FeatherShares$Flock" "eggsHad" "[I", .methodLink RX0 52 yJ7_fill_53178, .static yJ7_fill_53178, .initialized RJ7, .code yJ7_fill_53178 cJ7_fill_53178 4 none] ++ wsX00)
def wsX0_copyFrom : List Cond := .code yX0_copyFrom cX0_copyFrom 2 none :: ([.fieldLink RX0 9 "FeatherShares$Flock" "geese" "I", .fieldLink RX0 15 "FeatherShares$Flock" "week" "I", .fieldLink RX0 18 "FeatherShares$Flock" "trades" "I", .fieldLink RX0 21 "FeatherShares$Flock" "kind" "[I", .methodLink RX0 58 arraycopyName, .native arraycopyName, .static arraycopyName, .initialized "java/lang/System", .fieldLink RX0 25 "FeatherShares$Flock" "skin" "[I", .fieldLink RX0 28 "FeatherShares$Flock" "price" "[I", .fieldLink RX0 31 "FeatherShares$Flock" "feathers" "[I", .fieldLink RX0 34 "FeatherShares$Flock" "money" "[I", .fieldLink RX0 37 "FeatherShares$Flock" "eggsHad" "[I", .fieldLink RX0 40 "FeatherShares$Flock" "planBuyer" "[I", .fieldLink RX0 43 "FeatherShares$Flock" "planSeller" "[I", .fieldLink RX0 46 "FeatherShares$Flock" "planGoose" "[I", .fieldLink RX0 49 "FeatherShares$Flock" "planAmount" "[I"] ++ wsX00)
def wsX6_isWithin : List Cond := .code yX6_isWithin cX6_isWithin 3 (some .boolean) :: ([])
def wsX0_hasGoose : List Cond := .code yX0_hasGoose cX0_hasGoose 2 (some .boolean) :: ([.fieldLink RX0 9 "FeatherShares$Flock" "geese" "I", .static yX6_isWithin, .initialized RX6, .code yX6_isWithin cX6_isWithin 3 (some .boolean)] ++ wsX00)
def wsX0_addGoose : List Cond := .code yX0_addGoose cX0_addGoose 4 none :: ([.fieldLink RX0 9 "FeatherShares$Flock" "geese" "I", .fieldLink RX0 21 "FeatherShares$Flock" "kind" "[I", .fieldLink RX0 25 "FeatherShares$Flock" "skin" "[I", .fieldLink RX0 28 "FeatherShares$Flock" "price" "[I"] ++ wsX00)
def wsX0_held : List Cond := .code yX0_held cX0_held 3 (some .int) :: ([.fieldLink RX0 31 "FeatherShares$Flock" "feathers" "[I"] ++ wsX00)
def wsX0_feathersOf : List Cond := .code yX0_feathersOf cX0_feathersOf 4 (some .int) :: ([.methodLink RX0 68 yX0_held, .instanceMethod yX0_held, .selects RX0 yX0_held yX0_held, .initialized RX0, .code yX0_held cX0_held 3 (some .int), .fieldLink RX0 31 "FeatherShares$Flock" "feathers" "[I"] ++ wsX00)
def wsX0_bareGeese : List Cond := .code yX0_bareGeese cX0_bareGeese 3 (some .int) :: ([.fieldLink RX0 9 "FeatherShares$Flock" "geese" "I", .methodLink RX0 72 yX0_feathersOf, .instanceMethod yX0_feathersOf, .selects RX0 yX0_feathersOf yX0_feathersOf, .initialized RX0, .code yX0_feathersOf cX0_feathersOf 4 (some .int), .methodLink RX0 68 yX0_held, .instanceMethod yX0_held, .selects RX0 yX0_held yX0_held, .code yX0_held cX0_held 3 (some .int), .fieldLink RX0 31 "FeatherShares$Flock" "feathers" "[I"] ++ wsX00)
def wsX0_eggOwner : List Cond := .code yX0_eggOwner cX0_eggOwner 4 (some .int) :: ([.fieldLink RX0 25 "FeatherShares$Flock" "skin" "[I", .methodLink RX0 68 yX0_held, .instanceMethod yX0_held, .selects RX0 yX0_held yX0_held, .initialized RX0, .code yX0_held cX0_held 3 (some .int), .fieldLink RX0 31 "FeatherShares$Flock" "feathers" "[I"] ++ wsX00)
def wsX0_geeseWithEggOf : List Cond := .code yX0_geeseWithEggOf cX0_geeseWithEggOf 4 (some .int) :: ([.fieldLink RX0 9 "FeatherShares$Flock" "geese" "I", .methodLink RX0 76 yX0_eggOwner, .instanceMethod yX0_eggOwner, .selects RX0 yX0_eggOwner yX0_eggOwner, .initialized RX0, .code yX0_eggOwner cX0_eggOwner 4 (some .int), .fieldLink RX0 25 "FeatherShares$Flock" "skin" "[I", .methodLink RX0 68 yX0_held, .instanceMethod yX0_held, .selects RX0 yX0_held yX0_held, .code yX0_held cX0_held 3 (some .int), .fieldLink RX0 31 "FeatherShares$Flock" "feathers" "[I"] ++ wsX00)
def wsX0_worth : List Cond := .code yX0_worth cX0_worth 4 (some .int) :: ([.fieldLink RX0 34 "FeatherShares$Flock" "money" "[I", .fieldLink RX0 9 "FeatherShares$Flock" "geese" "I", .fieldLink RX0 28 "FeatherShares$Flock" "price" "[I", .methodLink RX0 68 yX0_held, .instanceMethod yX0_held, .selects RX0 yX0_held yX0_held, .initialized RX0, .code yX0_held cX0_held 3 (some .int), .fieldLink RX0 31 "FeatherShares$Flock" "feathers" "[I"] ++ wsX00)
def wsX0_ofOwner : List Cond := .code yX0_ofOwner cX0_ofOwner 3 (some .int) :: ([.fieldLink RX0 34 "FeatherShares$Flock" "money" "[I", .fieldLink RX0 37 "FeatherShares$Flock" "eggsHad" "[I", .methodLink RX0 79 yX0_worth, .instanceMethod yX0_worth, .selects RX0 yX0_worth yX0_worth, .initialized RX0, .code yX0_worth cX0_worth 4 (some .int), .fieldLink RX0 9 "FeatherShares$Flock" "geese" "I", .fieldLink RX0 28 "FeatherShares$Flock" "price" "[I", .methodLink RX0 68 yX0_held, .instanceMethod yX0_held, .selects RX0 yX0_held yX0_held, .code yX0_held cX0_held 3 (some .int), .fieldLink RX0 31 "FeatherShares$Flock" "feathers" "[I", .methodLink RX0 82 yX0_geeseWithEggOf, .instanceMethod yX0_geeseWithEggOf, .selects RX0 yX0_geeseWithEggOf yX0_geeseWithEggOf, .code yX0_geeseWithEggOf cX0_geeseWithEggOf 4 (some .int), .methodLink RX0 76 yX0_eggOwner, .instanceMethod yX0_eggOwner, .selects RX0 yX0_eggOwner yX0_eggOwner, .code yX0_eggOwner cX0_eggOwner 4 (some .int), .fieldLink RX0 25 "FeatherShares$Flock" "skin" "[I"] ++ wsX00)
def wsX6_isOwner : List Cond := .code yX6_isOwner cX6_isOwner 1 (some .boolean) :: ([.methodLink RX6 69 yX6_isWithin, .static yX6_isWithin, .initialized RX6, .code yX6_isWithin cX6_isWithin 3 (some .boolean)])
def wsX0_isTrade : List Cond := .code yX0_isTrade cX0_isTrade 5 (some .boolean) :: ([.static yX6_isOwner, .initialized RX6, .code yX6_isOwner cX6_isOwner 1 (some .boolean), .methodLink RX6 69 yX6_isWithin, .static yX6_isWithin, .code yX6_isWithin cX6_isWithin 3 (some .boolean), .methodLink RX0 89 yX0_hasGoose, .instanceMethod yX0_hasGoose, .selects RX0 yX0_hasGoose yX0_hasGoose, .initialized RX0, .code yX0_hasGoose cX0_hasGoose 2 (some .boolean), .fieldLink RX0 9 "FeatherShares$Flock" "geese" "I"] ++ wsX00)
def wsX0_canPluck : List Cond := .code yX0_canPluck cX0_canPluck 5 (some .boolean) :: ([.methodLink RX0 68 yX0_held, .instanceMethod yX0_held, .selects RX0 yX0_held yX0_held, .initialized RX0, .code yX0_held cX0_held 3 (some .int), .fieldLink RX0 31 "FeatherShares$Flock" "feathers" "[I"] ++ wsX00)
def wsX0_canTrade : List Cond := .code yX0_canTrade cX0_canTrade 6 (some .boolean) :: ([.fieldLink RX0 28 "FeatherShares$Flock" "price" "[I", .fieldLink RX0 34 "FeatherShares$Flock" "money" "[I", .methodLink RX0 92 yX0_canPluck, .instanceMethod yX0_canPluck, .selects RX0 yX0_canPluck yX0_canPluck, .initialized RX0, .code yX0_canPluck cX0_canPluck 5 (some .boolean), .methodLink RX0 68 yX0_held, .instanceMethod yX0_held, .selects RX0 yX0_held yX0_held, .code yX0_held cX0_held 3 (some .int), .fieldLink RX0 31 "FeatherShares$Flock" "feathers" "[I"] ++ wsX00)
def wsX0_moveFeathers : List Cond := .code yX0_moveFeathers cX0_moveFeathers 5 none :: ([.fieldLink RX0 31 "FeatherShares$Flock" "feathers" "[I"] ++ wsX00)
def wsX0_exchange : List Cond := .code yX0_exchange cX0_exchange 5 none :: ([.fieldLink RX0 34 "FeatherShares$Flock" "money" "[I", .fieldLink RX0 28 "FeatherShares$Flock" "price" "[I", .methodLink RX0 96 yX0_moveFeathers, .instanceMethod yX0_moveFeathers, .selects RX0 yX0_moveFeathers yX0_moveFeathers, .initialized RX0, .code yX0_moveFeathers cX0_moveFeathers 5 none, .fieldLink RX0 31 "FeatherShares$Flock" "feathers" "[I"] ++ wsX00)
def wsX0_tryTrade_r1 : List Cond := [Cond.methodLink RX0 100 yX0_isTrade, Cond.instanceMethod yX0_isTrade, Cond.selects RX0 yX0_isTrade yX0_isTrade, Cond.initialized RX0, Cond.code yX0_isTrade cX0_isTrade 5 (some .boolean), Cond.static yX6_isOwner, Cond.initialized RX6, Cond.code yX6_isOwner cX6_isOwner 1 (some .boolean), Cond.methodLink RX6 69 yX6_isWithin, Cond.static yX6_isWithin, Cond.code yX6_isWithin cX6_isWithin 3 (some .boolean), Cond.methodLink RX0 89 yX0_hasGoose, Cond.instanceMethod yX0_hasGoose, Cond.selects RX0 yX0_hasGoose yX0_hasGoose, Cond.code yX0_hasGoose cX0_hasGoose 2 (some .boolean), Cond.fieldLink RX0 9 "FeatherShares$Flock" "geese" "I", Cond.methodLink RX0 103 yX0_canTrade, Cond.instanceMethod yX0_canTrade, Cond.selects RX0 yX0_canTrade yX0_canTrade, Cond.code yX0_canTrade cX0_canTrade 6 (some .boolean), Cond.fieldLink RX0 28 "FeatherShares$Flock" "price" "[I", Cond.fieldLink RX0 34 "FeatherShares$Flock" "money" "[I", Cond.methodLink RX0 92 yX0_canPluck, Cond.instanceMethod yX0_canPluck]
def wsX0_tryTrade_r2 : List Cond := [Cond.selects RX0 yX0_canPluck yX0_canPluck, Cond.code yX0_canPluck cX0_canPluck 5 (some .boolean), Cond.methodLink RX0 68 yX0_held, Cond.instanceMethod yX0_held, Cond.selects RX0 yX0_held yX0_held, Cond.code yX0_held cX0_held 3 (some .int), Cond.fieldLink RX0 31 "FeatherShares$Flock" "feathers" "[I", Cond.methodLink RX0 106 yX0_exchange, Cond.instanceMethod yX0_exchange, Cond.selects RX0 yX0_exchange yX0_exchange, Cond.code yX0_exchange cX0_exchange 5 none, Cond.methodLink RX0 96 yX0_moveFeathers, Cond.instanceMethod yX0_moveFeathers, Cond.selects RX0 yX0_moveFeathers yX0_moveFeathers, Cond.code yX0_moveFeathers cX0_moveFeathers 5 none]
def wsX0_tryTrade : List Cond := .code yX0_tryTrade cX0_tryTrade 5 (some .boolean) :: ((wsX0_tryTrade_r1 ++ wsX0_tryTrade_r2) ++ wsX00)
def wsX0_tryDrawn_r1 : List Cond := [Cond.fieldLink RX0 9 "FeatherShares$Flock" "geese" "I", Cond.methodLink RX0 109 yX0_tryTrade, Cond.instanceMethod yX0_tryTrade, Cond.selects RX0 yX0_tryTrade yX0_tryTrade, Cond.initialized RX0, Cond.code yX0_tryTrade cX0_tryTrade 5 (some .boolean), Cond.methodLink RX0 100 yX0_isTrade, Cond.instanceMethod yX0_isTrade, Cond.selects RX0 yX0_isTrade yX0_isTrade, Cond.code yX0_isTrade cX0_isTrade 5 (some .boolean), Cond.static yX6_isOwner, Cond.initialized RX6, Cond.code yX6_isOwner cX6_isOwner 1 (some .boolean), Cond.methodLink RX6 69 yX6_isWithin, Cond.static yX6_isWithin, Cond.code yX6_isWithin cX6_isWithin 3 (some .boolean), Cond.methodLink RX0 89 yX0_hasGoose, Cond.instanceMethod yX0_hasGoose, Cond.selects RX0 yX0_hasGoose yX0_hasGoose, Cond.code yX0_hasGoose cX0_hasGoose 2 (some .boolean), Cond.methodLink RX0 103 yX0_canTrade, Cond.instanceMethod yX0_canTrade, Cond.selects RX0 yX0_canTrade yX0_canTrade, Cond.code yX0_canTrade cX0_canTrade 6 (some .boolean)]
def wsX0_tryDrawn_r2 : List Cond := [Cond.fieldLink RX0 28 "FeatherShares$Flock" "price" "[I", Cond.fieldLink RX0 34 "FeatherShares$Flock" "money" "[I", Cond.methodLink RX0 92 yX0_canPluck, Cond.instanceMethod yX0_canPluck, Cond.selects RX0 yX0_canPluck yX0_canPluck, Cond.code yX0_canPluck cX0_canPluck 5 (some .boolean), Cond.methodLink RX0 68 yX0_held, Cond.instanceMethod yX0_held, Cond.selects RX0 yX0_held yX0_held, Cond.code yX0_held cX0_held 3 (some .int), Cond.fieldLink RX0 31 "FeatherShares$Flock" "feathers" "[I", Cond.methodLink RX0 106 yX0_exchange, Cond.instanceMethod yX0_exchange, Cond.selects RX0 yX0_exchange yX0_exchange, Cond.code yX0_exchange cX0_exchange 5 none, Cond.methodLink RX0 96 yX0_moveFeathers, Cond.instanceMethod yX0_moveFeathers, Cond.selects RX0 yX0_moveFeathers yX0_moveFeathers, Cond.code yX0_moveFeathers cX0_moveFeathers 5 none]
def wsX0_tryDrawn : List Cond := .code yX0_tryDrawn cX0_tryDrawn 2 (some .boolean) :: ((wsX0_tryDrawn_r1 ++ wsX0_tryDrawn_r2) ++ wsX00)
def wsX0_wouldGetEgg : List Cond := .code yX0_wouldGetEgg cX0_wouldGetEgg 6 (some .boolean) :: ([.methodLink RX0 96 yX0_moveFeathers, .instanceMethod yX0_moveFeathers, .selects RX0 yX0_moveFeathers yX0_moveFeathers, .initialized RX0, .code yX0_moveFeathers cX0_moveFeathers 5 none, .fieldLink RX0 31 "FeatherShares$Flock" "feathers" "[I", .methodLink RX0 76 yX0_eggOwner, .instanceMethod yX0_eggOwner, .selects RX0 yX0_eggOwner yX0_eggOwner, .code yX0_eggOwner cX0_eggOwner 4 (some .int), .fieldLink RX0 25 "FeatherShares$Flock" "skin" "[I", .methodLink RX0 68 yX0_held, .instanceMethod yX0_held, .selects RX0 yX0_held yX0_held, .code yX0_held cX0_held 3 (some .int)] ++ wsX00)
def wsX0_addToPlan : List Cond := .code yX0_addToPlan cX0_addToPlan 5 (some .boolean) :: ([.fieldLink RX0 18 "FeatherShares$Flock" "trades" "I", .fieldLink RX0 40 "FeatherShares$Flock" "planBuyer" "[I", .fieldLink RX0 43 "FeatherShares$Flock" "planSeller" "[I", .fieldLink RX0 46 "FeatherShares$Flock" "planGoose" "[I", .fieldLink RX0 49 "FeatherShares$Flock" "planAmount" "[I"] ++ wsX00)
def wsX0_tryPlanned_r1 : List Cond := [Cond.fieldLink RX0 40 "FeatherShares$Flock" "planBuyer" "[I", Cond.fieldLink RX0 43 "FeatherShares$Flock" "planSeller" "[I", Cond.fieldLink RX0 46 "FeatherShares$Flock" "planGoose" "[I", Cond.fieldLink RX0 49 "FeatherShares$Flock" "planAmount" "[I", Cond.methodLink RX0 109 yX0_tryTrade, Cond.instanceMethod yX0_tryTrade, Cond.selects RX0 yX0_tryTrade yX0_tryTrade, Cond.initialized RX0, Cond.code yX0_tryTrade cX0_tryTrade 5 (some .boolean), Cond.methodLink RX0 100 yX0_isTrade, Cond.instanceMethod yX0_isTrade, Cond.selects RX0 yX0_isTrade yX0_isTrade, Cond.code yX0_isTrade cX0_isTrade 5 (some .boolean), Cond.static yX6_isOwner, Cond.initialized RX6, Cond.code yX6_isOwner cX6_isOwner 1 (some .boolean), Cond.methodLink RX6 69 yX6_isWithin, Cond.static yX6_isWithin, Cond.code yX6_isWithin cX6_isWithin 3 (some .boolean), Cond.methodLink RX0 89 yX0_hasGoose, Cond.instanceMethod yX0_hasGoose, Cond.selects RX0 yX0_hasGoose yX0_hasGoose, Cond.code yX0_hasGoose cX0_hasGoose 2 (some .boolean), Cond.fieldLink RX0 9 "FeatherShares$Flock" "geese" "I"]
def wsX0_tryPlanned_r2 : List Cond := [Cond.methodLink RX0 103 yX0_canTrade, Cond.instanceMethod yX0_canTrade, Cond.selects RX0 yX0_canTrade yX0_canTrade, Cond.code yX0_canTrade cX0_canTrade 6 (some .boolean), Cond.fieldLink RX0 28 "FeatherShares$Flock" "price" "[I", Cond.fieldLink RX0 34 "FeatherShares$Flock" "money" "[I", Cond.methodLink RX0 92 yX0_canPluck, Cond.instanceMethod yX0_canPluck, Cond.selects RX0 yX0_canPluck yX0_canPluck, Cond.code yX0_canPluck cX0_canPluck 5 (some .boolean), Cond.methodLink RX0 68 yX0_held, Cond.instanceMethod yX0_held, Cond.selects RX0 yX0_held yX0_held, Cond.code yX0_held cX0_held 3 (some .int), Cond.fieldLink RX0 31 "FeatherShares$Flock" "feathers" "[I", Cond.methodLink RX0 106 yX0_exchange, Cond.instanceMethod yX0_exchange, Cond.selects RX0 yX0_exchange yX0_exchange, Cond.code yX0_exchange cX0_exchange 5 none, Cond.methodLink RX0 96 yX0_moveFeathers, Cond.instanceMethod yX0_moveFeathers, Cond.selects RX0 yX0_moveFeathers yX0_moveFeathers, Cond.code yX0_moveFeathers cX0_moveFeathers 5 none]
def wsX0_tryPlanned : List Cond := .code yX0_tryPlanned cX0_tryPlanned 2 (some .boolean) :: ((wsX0_tryPlanned_r1 ++ wsX0_tryPlanned_r2) ++ wsX00)
def wsX0_costOfPlanned : List Cond := .code yX0_costOfPlanned cX0_costOfPlanned 2 (some .int) :: ([.fieldLink RX0 49 "FeatherShares$Flock" "planAmount" "[I", .fieldLink RX0 28 "FeatherShares$Flock" "price" "[I", .fieldLink RX0 46 "FeatherShares$Flock" "planGoose" "[I"] ++ wsX00)
def wsX0_followPlanWithout_r1 : List Cond := [Cond.fieldLink RX0 18 "FeatherShares$Flock" "trades" "I", Cond.methodLink RX0 112 yX0_tryPlanned, Cond.instanceMethod yX0_tryPlanned, Cond.selects RX0 yX0_tryPlanned yX0_tryPlanned, Cond.initialized RX0, Cond.code yX0_tryPlanned cX0_tryPlanned 2 (some .boolean), Cond.fieldLink RX0 40 "FeatherShares$Flock" "planBuyer" "[I", Cond.fieldLink RX0 43 "FeatherShares$Flock" "planSeller" "[I", Cond.fieldLink RX0 46 "FeatherShares$Flock" "planGoose" "[I", Cond.fieldLink RX0 49 "FeatherShares$Flock" "planAmount" "[I", Cond.methodLink RX0 109 yX0_tryTrade, Cond.instanceMethod yX0_tryTrade, Cond.selects RX0 yX0_tryTrade yX0_tryTrade, Cond.code yX0_tryTrade cX0_tryTrade 5 (some .boolean), Cond.methodLink RX0 100 yX0_isTrade, Cond.instanceMethod yX0_isTrade, Cond.selects RX0 yX0_isTrade yX0_isTrade, Cond.code yX0_isTrade cX0_isTrade 5 (some .boolean), Cond.static yX6_isOwner, Cond.initialized RX6, Cond.code yX6_isOwner cX6_isOwner 1 (some .boolean), Cond.methodLink RX6 69 yX6_isWithin, Cond.static yX6_isWithin, Cond.code yX6_isWithin cX6_isWithin 3 (some .boolean)]
def wsX0_followPlanWithout_r2 : List Cond := [Cond.methodLink RX0 89 yX0_hasGoose, Cond.instanceMethod yX0_hasGoose, Cond.selects RX0 yX0_hasGoose yX0_hasGoose, Cond.code yX0_hasGoose cX0_hasGoose 2 (some .boolean), Cond.fieldLink RX0 9 "FeatherShares$Flock" "geese" "I", Cond.methodLink RX0 103 yX0_canTrade, Cond.instanceMethod yX0_canTrade, Cond.selects RX0 yX0_canTrade yX0_canTrade, Cond.code yX0_canTrade cX0_canTrade 6 (some .boolean), Cond.fieldLink RX0 28 "FeatherShares$Flock" "price" "[I", Cond.fieldLink RX0 34 "FeatherShares$Flock" "money" "[I", Cond.methodLink RX0 92 yX0_canPluck, Cond.instanceMethod yX0_canPluck, Cond.selects RX0 yX0_canPluck yX0_canPluck, Cond.code yX0_canPluck cX0_canPluck 5 (some .boolean), Cond.methodLink RX0 68 yX0_held, Cond.instanceMethod yX0_held, Cond.selects RX0 yX0_held yX0_held, Cond.code yX0_held cX0_held 3 (some .int), Cond.fieldLink RX0 31 "FeatherShares$Flock" "feathers" "[I", Cond.methodLink RX0 106 yX0_exchange, Cond.instanceMethod yX0_exchange, Cond.selects RX0 yX0_exchange yX0_exchange, Cond.code yX0_exchange cX0_exchange 5 none]
def wsX0_followPlanWithout_r3 : List Cond := [Cond.methodLink RX0 96 yX0_moveFeathers, Cond.instanceMethod yX0_moveFeathers, Cond.selects RX0 yX0_moveFeathers yX0_moveFeathers, Cond.code yX0_moveFeathers cX0_moveFeathers 5 none]
def wsX0_followPlanWithout : List Cond := .code yX0_followPlanWithout cX0_followPlanWithout 3 none :: ((wsX0_followPlanWithout_r1 ++ (wsX0_followPlanWithout_r2 ++ wsX0_followPlanWithout_r3)) ++ wsX00)
def wsX0_feathersOfPlan : List Cond := .code yX0_feathersOfPlan cX0_feathersOfPlan 3 (some .int) :: ([.fieldLink RX0 18 "FeatherShares$Flock" "trades" "I", .fieldLink RX0 49 "FeatherShares$Flock" "planAmount" "[I"] ++ wsX00)
def wsX0_lossOf : List Cond := .code yX0_lossOf cX0_lossOf 4 (some .int) :: ([.methodLink RX0 126 Lib.Math.min.name, .static Lib.Math.min.name, .initialized "java/lang/Math", .code Lib.Math.min.name Lib.Math.min.code 2 (some .int), .methodLink RX0 131 Lib.Math.max.name, .static Lib.Math.max.name, .code Lib.Math.max.name Lib.Math.max.code 2 (some .int)])
def wsX0_moult : List Cond := .code yX0_moult cX0_moult 5 none :: ([.fieldLink RX0 21 "FeatherShares$Flock" "kind" "[I", .fieldLink RX0 31 "FeatherShares$Flock" "feathers" "[I", .fieldLink RX0 25 "FeatherShares$Flock" "skin" "[I", .methodLink RX0 126 Lib.Math.min.name, .static Lib.Math.min.name, .initialized "java/lang/Math", .code Lib.Math.min.name Lib.Math.min.code 2 (some .int), .methodLink RX0 68 yX0_held, .instanceMethod yX0_held, .selects RX0 yX0_held yX0_held, .initialized RX0, .code yX0_held cX0_held 3 (some .int), .methodLink RX0 123 yX0_lossOf, .static yX0_lossOf, .code yX0_lossOf cX0_lossOf 4 (some .int), .methodLink RX0 131 Lib.Math.max.name, .static Lib.Math.max.name, .code Lib.Math.max.name Lib.Math.max.code 2 (some .int)] ++ wsX00)
def wsX0_passWeek_r1 : List Cond := [Cond.fieldLink RX0 9 "FeatherShares$Flock" "geese" "I", Cond.fieldLink RX0 37 "FeatherShares$Flock" "eggsHad" "[I", Cond.fieldLink RX0 15 "FeatherShares$Flock" "week" "I", Cond.methodLink RX0 76 yX0_eggOwner, Cond.instanceMethod yX0_eggOwner, Cond.selects RX0 yX0_eggOwner yX0_eggOwner, Cond.initialized RX0, Cond.code yX0_eggOwner cX0_eggOwner 4 (some .int), Cond.fieldLink RX0 25 "FeatherShares$Flock" "skin" "[I", Cond.methodLink RX0 68 yX0_held, Cond.instanceMethod yX0_held, Cond.selects RX0 yX0_held yX0_held, Cond.code yX0_held cX0_held 3 (some .int), Cond.fieldLink RX0 31 "FeatherShares$Flock" "feathers" "[I", Cond.methodLink RX0 119 yX0_moult, Cond.instanceMethod yX0_moult, Cond.selects RX0 yX0_moult yX0_moult, Cond.code yX0_moult cX0_moult 5 none, Cond.fieldLink RX0 21 "FeatherShares$Flock" "kind" "[I", Cond.methodLink RX0 126 Lib.Math.min.name, Cond.static Lib.Math.min.name, Cond.initialized "java/lang/Math", Cond.code Lib.Math.min.name Lib.Math.min.code 2 (some .int), Cond.methodLink RX0 123 yX0_lossOf]
def wsX0_passWeek_r2 : List Cond := [Cond.static yX0_lossOf, Cond.code yX0_lossOf cX0_lossOf 4 (some .int), Cond.methodLink RX0 131 Lib.Math.max.name, Cond.static Lib.Math.max.name, Cond.code Lib.Math.max.name Lib.Math.max.code 2 (some .int)]
def wsX0_passWeek : List Cond := .code yX0_passWeek cX0_passWeek 4 (some .int) :: ((wsX0_passWeek_r1 ++ wsX0_passWeek_r2) ++ wsX00)
def wsX0_passWeeks_r1 : List Cond := [Cond.methodLink RX0 115 yX0_passWeek, Cond.instanceMethod yX0_passWeek, Cond.selects RX0 yX0_passWeek yX0_passWeek, Cond.initialized RX0, Cond.code yX0_passWeek cX0_passWeek 4 (some .int), Cond.fieldLink RX0 9 "FeatherShares$Flock" "geese" "I", Cond.fieldLink RX0 37 "FeatherShares$Flock" "eggsHad" "[I", Cond.fieldLink RX0 15 "FeatherShares$Flock" "week" "I", Cond.methodLink RX0 76 yX0_eggOwner, Cond.instanceMethod yX0_eggOwner, Cond.selects RX0 yX0_eggOwner yX0_eggOwner, Cond.code yX0_eggOwner cX0_eggOwner 4 (some .int), Cond.fieldLink RX0 25 "FeatherShares$Flock" "skin" "[I", Cond.methodLink RX0 68 yX0_held, Cond.instanceMethod yX0_held, Cond.selects RX0 yX0_held yX0_held, Cond.code yX0_held cX0_held 3 (some .int), Cond.fieldLink RX0 31 "FeatherShares$Flock" "feathers" "[I", Cond.methodLink RX0 119 yX0_moult, Cond.instanceMethod yX0_moult, Cond.selects RX0 yX0_moult yX0_moult, Cond.code yX0_moult cX0_moult 5 none, Cond.fieldLink RX0 21 "FeatherShares$Flock" "kind" "[I", Cond.methodLink RX0 126 Lib.Math.min.name]
def wsX0_passWeeks_r2 : List Cond := [Cond.static Lib.Math.min.name, Cond.initialized "java/lang/Math", Cond.code Lib.Math.min.name Lib.Math.min.code 2 (some .int), Cond.methodLink RX0 123 yX0_lossOf, Cond.static yX0_lossOf, Cond.code yX0_lossOf cX0_lossOf 4 (some .int), Cond.methodLink RX0 131 Lib.Math.max.name, Cond.static Lib.Math.max.name, Cond.code Lib.Math.max.name Lib.Math.max.code 2 (some .int)]
def wsX0_passWeeks : List Cond := .code yX0_passWeeks cX0_passWeeks 4 (some .int) :: ((wsX0_passWeeks_r1 ++ wsX0_passWeeks_r2) ++ wsX00)
def wsX0_isInPower : List Cond := .code yX0_isInPower cX0_isInPower 5 (some .boolean) :: ([.methodLink RX0 68 yX0_held, .instanceMethod yX0_held, .selects RX0 yX0_held yX0_held, .initialized RX0, .code yX0_held cX0_held 3 (some .int), .fieldLink RX0 31 "FeatherShares$Flock" "feathers" "[I", .methodLink RX0 72 yX0_feathersOf, .instanceMethod yX0_feathersOf, .selects RX0 yX0_feathersOf yX0_feathersOf, .code yX0_feathersOf cX0_feathersOf 4 (some .int)] ++ wsX00)
def wsX0_setsSwungBy : List Cond := .code yX0_setsSwungBy cX0_setsSwungBy 6 (some .int) :: ([.methodLink RX0 134 yX0_isInPower, .instanceMethod yX0_isInPower, .selects RX0 yX0_isInPower yX0_isInPower, .initialized RX0, .code yX0_isInPower cX0_isInPower 5 (some .boolean), .methodLink RX0 68 yX0_held, .instanceMethod yX0_held, .selects RX0 yX0_held yX0_held, .code yX0_held cX0_held 3 (some .int), .fieldLink RX0 31 "FeatherShares$Flock" "feathers" "[I", .methodLink RX0 72 yX0_feathersOf, .instanceMethod yX0_feathersOf, .selects RX0 yX0_feathersOf yX0_feathersOf, .code yX0_feathersOf cX0_feathersOf 4 (some .int)] ++ wsX00)
def wsX1_init_r1 : List Cond := [Cond.methodLink RX1 3 objectInit, Cond.instanceMethod objectInit, Cond.code objectInit ⟨#[0xb1]⟩ 1 none, Cond.classLink RX1 9 RX0, Cond.instantiable RX0 13, Cond.initialized RX0, Cond.fieldLink RX1 12 "FeatherShares$RowSearch" "flock" "LFeatherShares$Flock;", Cond.arrayClass .int, Cond.fieldLink RX1 18 "FeatherShares$RowSearch" "codes" "[I", Cond.fieldLink RX1 22 "FeatherShares$RowSearch" "codeCount" "I", Cond.fieldLink RX1 26 "FeatherShares$RowSearch" "buyer" "I", Cond.fieldLink RX1 29 "FeatherShares$RowSearch" "bestGeese" "I", Cond.fieldLink RX1 32 "FeatherShares$RowSearch" "bestMoney" "I", Cond.fieldLink RX1 35 "FeatherShares$RowSearch" "bestLength" "I", Cond.fieldLink RX1 38 "FeatherShares$RowSearch" "bestFirst" "I", Cond.fieldLink RX1 41 "FeatherShares$RowSearch" "bestSecond" "I", Cond.instanceMethod yX0_init, Cond.code yX0_init cX0_init 1 none, Cond.methodLink RX0 3 objectInit, Cond.fieldLink RX0 9 "FeatherShares$Flock" "geese" "I", Cond.fieldLink RX0 15 "FeatherShares$Flock" "week" "I", Cond.fieldLink RX0 18 "FeatherShares$Flock" "trades" "I", Cond.fieldLink RX0 21 "FeatherShares$Flock" "kind" "[I", Cond.fieldLink RX0 25 "FeatherShares$Flock" "skin" "[I"]
def wsX1_init_r2 : List Cond := [Cond.fieldLink RX0 28 "FeatherShares$Flock" "price" "[I", Cond.fieldLink RX0 31 "FeatherShares$Flock" "feathers" "[I", Cond.fieldLink RX0 34 "FeatherShares$Flock" "money" "[I", Cond.fieldLink RX0 37 "FeatherShares$Flock" "eggsHad" "[I", Cond.fieldLink RX0 40 "FeatherShares$Flock" "planBuyer" "[I", Cond.fieldLink RX0 43 "FeatherShares$Flock" "planSeller" "[I", Cond.fieldLink RX0 46 "FeatherShares$Flock" "planGoose" "[I", Cond.fieldLink RX0 49 "FeatherShares$Flock" "planAmount" "[I", Cond.methodLink RX0 52 yJ7_fill_53178, Cond.static yJ7_fill_53178, Cond.initialized RJ7, Cond.code yJ7_fill_53178 cJ7_fill_53178 4 none]
def wsX1_init : List Cond := .code yX1_init cX1_init 1 none :: ((wsX1_init_r1 ++ wsX1_init_r2) ++ wsX00 ++ wsX10)
def wsJ6_bitCount_0f7a4 : List Cond := .code yJ6_bitCount_0f7a4 cJ6_bitCount_0f7a4 1 (some .int) :: ([.constant RJ6 265 (1431655765), .constant RJ6 266 (858993459), .constant RJ6 267 (252645135)])
def wsX1_listCodes : List Cond := .code yX1_listCodes cX1_listCodes 4 none :: ([.fieldLink RX1 22 "FeatherShares$RowSearch" "codeCount" "I", .fieldLink RX1 12 "FeatherShares$RowSearch" "flock" "LFeatherShares$Flock;", .fieldLink RX1 26 "FeatherShares$RowSearch" "buyer" "I", .fieldLink RX1 18 "FeatherShares$RowSearch" "codes" "[I", .instanceMethod yX0_canTrade, .initialized RX0, .selects RX0 yX0_canTrade yX0_canTrade, .code yX0_canTrade cX0_canTrade 6 (some .boolean), .fieldLink RX0 28 "FeatherShares$Flock" "price" "[I", .fieldLink RX0 34 "FeatherShares$Flock" "money" "[I", .methodLink RX0 92 yX0_canPluck, .instanceMethod yX0_canPluck, .selects RX0 yX0_canPluck yX0_canPluck, .code yX0_canPluck cX0_canPluck 5 (some .boolean), .methodLink RX0 68 yX0_held, .instanceMethod yX0_held, .selects RX0 yX0_held yX0_held, .code yX0_held cX0_held 3 (some .int), .fieldLink RX0 31 "FeatherShares$Flock" "feathers" "[I"] ++ wsX10 ++ wsX00)
def wsX1_sellerOf : List Cond := .code yX1_sellerOf cX1_sellerOf 1 (some .int) :: ([])
def wsX1_gooseOf : List Cond := .code yX1_gooseOf cX1_gooseOf 1 (some .int) :: ([])
def wsX1_amountOf : List Cond := .code yX1_amountOf cX1_amountOf 1 (some .int) :: ([])
def wsX1_make : List Cond := .code yX1_make cX1_make 3 none :: ([.fieldLink RX1 12 "FeatherShares$RowSearch" "flock" "LFeatherShares$Flock;", .fieldLink RX1 26 "FeatherShares$RowSearch" "buyer" "I", .methodLink RX1 79 yX1_sellerOf, .static yX1_sellerOf, .initialized RX1, .code yX1_sellerOf cX1_sellerOf 1 (some .int), .methodLink RX1 82 yX1_gooseOf, .static yX1_gooseOf, .code yX1_gooseOf cX1_gooseOf 1 (some .int), .methodLink RX1 85 yX1_amountOf, .static yX1_amountOf, .code yX1_amountOf cX1_amountOf 1 (some .int), .instanceMethod yX0_exchange, .initialized RX0, .selects RX0 yX0_exchange yX0_exchange, .code yX0_exchange cX0_exchange 5 none, .fieldLink RX0 34 "FeatherShares$Flock" "money" "[I", .fieldLink RX0 28 "FeatherShares$Flock" "price" "[I", .methodLink RX0 96 yX0_moveFeathers, .instanceMethod yX0_moveFeathers, .selects RX0 yX0_moveFeathers yX0_moveFeathers, .code yX0_moveFeathers cX0_moveFeathers 5 none, .fieldLink RX0 31 "FeatherShares$Flock" "feathers" "[I"] ++ wsX10 ++ wsX00)
def wsX1_isBetter : List Cond := .code yX1_isBetter cX1_isBetter 4 (some .boolean) :: ([.fieldLink RX1 29 "FeatherShares$RowSearch" "bestGeese" "I", .fieldLink RX1 32 "FeatherShares$RowSearch" "bestMoney" "I", .fieldLink RX1 35 "FeatherShares$RowSearch" "bestLength" "I"] ++ wsX10)
def wsX1_weigh_r1 : List Cond := [Cond.fieldLink RX1 12 "FeatherShares$RowSearch" "flock" "LFeatherShares$Flock;", Cond.fieldLink RX1 26 "FeatherShares$RowSearch" "buyer" "I", Cond.fieldLink RX1 29 "FeatherShares$RowSearch" "bestGeese" "I", Cond.fieldLink RX1 32 "FeatherShares$RowSearch" "bestMoney" "I", Cond.fieldLink RX1 35 "FeatherShares$RowSearch" "bestLength" "I", Cond.fieldLink RX1 38 "FeatherShares$RowSearch" "bestFirst" "I", Cond.fieldLink RX1 41 "FeatherShares$RowSearch" "bestSecond" "I", Cond.instanceMethod yX0_geeseWithEggOf, Cond.initialized RX0, Cond.selects RX0 yX0_geeseWithEggOf yX0_geeseWithEggOf, Cond.code yX0_geeseWithEggOf cX0_geeseWithEggOf 4 (some .int), Cond.fieldLink RX0 9 "FeatherShares$Flock" "geese" "I", Cond.methodLink RX0 76 yX0_eggOwner, Cond.instanceMethod yX0_eggOwner, Cond.selects RX0 yX0_eggOwner yX0_eggOwner, Cond.code yX0_eggOwner cX0_eggOwner 4 (some .int), Cond.fieldLink RX0 25 "FeatherShares$Flock" "skin" "[I", Cond.methodLink RX0 68 yX0_held, Cond.instanceMethod yX0_held, Cond.selects RX0 yX0_held yX0_held, Cond.code yX0_held cX0_held 3 (some .int), Cond.fieldLink RX0 31 "FeatherShares$Flock" "feathers" "[I", Cond.methodLink RX1 52 yJ6_bitCount_0f7a4, Cond.static yJ6_bitCount_0f7a4]
def wsX1_weigh_r2 : List Cond := [Cond.initialized RJ6, Cond.code yJ6_bitCount_0f7a4 cJ6_bitCount_0f7a4 1 (some .int), Cond.constant RJ6 265 (1431655765), Cond.constant RJ6 266 (858993459), Cond.constant RJ6 267 (252645135), Cond.methodLink RX1 95 yX1_isBetter, Cond.instanceMethod yX1_isBetter, Cond.selects RX1 yX1_isBetter yX1_isBetter, Cond.initialized RX1, Cond.code yX1_isBetter cX1_isBetter 4 (some .boolean)]
def wsX1_weigh : List Cond := .code yX1_weigh cX1_weigh 7 none :: ((wsX1_weigh_r1 ++ wsX1_weigh_r2) ++ wsX10 ++ wsX00)
def wsX1_weighPairs_r1 : List Cond := [Cond.fieldLink RX1 22 "FeatherShares$RowSearch" "codeCount" "I", Cond.fieldLink RX1 18 "FeatherShares$RowSearch" "codes" "[I", Cond.fieldLink RX1 12 "FeatherShares$RowSearch" "flock" "LFeatherShares$Flock;", Cond.fieldLink RX1 26 "FeatherShares$RowSearch" "buyer" "I", Cond.methodLink RX1 79 yX1_sellerOf, Cond.static yX1_sellerOf, Cond.initialized RX1, Cond.code yX1_sellerOf cX1_sellerOf 1 (some .int), Cond.methodLink RX1 82 yX1_gooseOf, Cond.static yX1_gooseOf, Cond.code yX1_gooseOf cX1_gooseOf 1 (some .int), Cond.methodLink RX1 85 yX1_amountOf, Cond.static yX1_amountOf, Cond.code yX1_amountOf cX1_amountOf 1 (some .int), Cond.instanceMethod yX0_canTrade, Cond.initialized RX0, Cond.selects RX0 yX0_canTrade yX0_canTrade, Cond.code yX0_canTrade cX0_canTrade 6 (some .boolean), Cond.fieldLink RX0 28 "FeatherShares$Flock" "price" "[I", Cond.fieldLink RX0 34 "FeatherShares$Flock" "money" "[I", Cond.methodLink RX0 92 yX0_canPluck, Cond.instanceMethod yX0_canPluck, Cond.selects RX0 yX0_canPluck yX0_canPluck, Cond.code yX0_canPluck cX0_canPluck 5 (some .boolean)]
def wsX1_weighPairs_r2 : List Cond := [Cond.methodLink RX0 68 yX0_held, Cond.instanceMethod yX0_held, Cond.selects RX0 yX0_held yX0_held, Cond.code yX0_held cX0_held 3 (some .int), Cond.fieldLink RX0 31 "FeatherShares$Flock" "feathers" "[I", Cond.methodLink RX1 60 yX1_make, Cond.instanceMethod yX1_make, Cond.selects RX1 yX1_make yX1_make, Cond.code yX1_make cX1_make 3 none, Cond.instanceMethod yX0_exchange, Cond.selects RX0 yX0_exchange yX0_exchange, Cond.code yX0_exchange cX0_exchange 5 none, Cond.methodLink RX0 96 yX0_moveFeathers, Cond.instanceMethod yX0_moveFeathers, Cond.selects RX0 yX0_moveFeathers yX0_moveFeathers, Cond.code yX0_moveFeathers cX0_moveFeathers 5 none, Cond.methodLink RX1 64 yX1_weigh, Cond.instanceMethod yX1_weigh, Cond.selects RX1 yX1_weigh yX1_weigh, Cond.code yX1_weigh cX1_weigh 7 none, Cond.fieldLink RX1 29 "FeatherShares$RowSearch" "bestGeese" "I", Cond.fieldLink RX1 32 "FeatherShares$RowSearch" "bestMoney" "I", Cond.fieldLink RX1 35 "FeatherShares$RowSearch" "bestLength" "I", Cond.fieldLink RX1 38 "FeatherShares$RowSearch" "bestFirst" "I"]
def wsX1_weighPairs_r3 : List Cond := [Cond.fieldLink RX1 41 "FeatherShares$RowSearch" "bestSecond" "I", Cond.instanceMethod yX0_geeseWithEggOf, Cond.selects RX0 yX0_geeseWithEggOf yX0_geeseWithEggOf, Cond.code yX0_geeseWithEggOf cX0_geeseWithEggOf 4 (some .int), Cond.fieldLink RX0 9 "FeatherShares$Flock" "geese" "I", Cond.methodLink RX0 76 yX0_eggOwner, Cond.instanceMethod yX0_eggOwner, Cond.selects RX0 yX0_eggOwner yX0_eggOwner, Cond.code yX0_eggOwner cX0_eggOwner 4 (some .int), Cond.fieldLink RX0 25 "FeatherShares$Flock" "skin" "[I", Cond.methodLink RX1 52 yJ6_bitCount_0f7a4, Cond.static yJ6_bitCount_0f7a4, Cond.initialized RJ6, Cond.code yJ6_bitCount_0f7a4 cJ6_bitCount_0f7a4 1 (some .int), Cond.constant RJ6 265 (1431655765), Cond.constant RJ6 266 (858993459), Cond.constant RJ6 267 (252645135), Cond.methodLink RX1 95 yX1_isBetter, Cond.instanceMethod yX1_isBetter, Cond.selects RX1 yX1_isBetter yX1_isBetter, Cond.code yX1_isBetter cX1_isBetter 4 (some .boolean)]
def wsX1_weighPairs : List Cond := .code yX1_weighPairs cX1_weighPairs 5 none :: ((wsX1_weighPairs_r1 ++ (wsX1_weighPairs_r2 ++ wsX1_weighPairs_r3)) ++ wsX10 ++ wsX00)
def wsX1_findBest_r1 : List Cond := [Cond.fieldLink RX1 12 "FeatherShares$RowSearch" "flock" "LFeatherShares$Flock;", Cond.fieldLink RX1 26 "FeatherShares$RowSearch" "buyer" "I", Cond.fieldLink RX1 29 "FeatherShares$RowSearch" "bestGeese" "I", Cond.fieldLink RX1 32 "FeatherShares$RowSearch" "bestMoney" "I", Cond.fieldLink RX1 35 "FeatherShares$RowSearch" "bestLength" "I", Cond.fieldLink RX1 38 "FeatherShares$RowSearch" "bestFirst" "I", Cond.fieldLink RX1 41 "FeatherShares$RowSearch" "bestSecond" "I", Cond.fieldLink RX1 22 "FeatherShares$RowSearch" "codeCount" "I", Cond.fieldLink RX1 18 "FeatherShares$RowSearch" "codes" "[I", Cond.instanceMethod yX0_copyFrom, Cond.initialized RX0, Cond.selects RX0 yX0_copyFrom yX0_copyFrom, Cond.code yX0_copyFrom cX0_copyFrom 2 none, Cond.fieldLink RX0 9 "FeatherShares$Flock" "geese" "I", Cond.fieldLink RX0 15 "FeatherShares$Flock" "week" "I", Cond.fieldLink RX0 18 "FeatherShares$Flock" "trades" "I", Cond.fieldLink RX0 21 "FeatherShares$Flock" "kind" "[I", Cond.methodLink RX0 58 arraycopyName, Cond.native arraycopyName, Cond.static arraycopyName, Cond.initialized "java/lang/System", Cond.fieldLink RX0 25 "FeatherShares$Flock" "skin" "[I", Cond.fieldLink RX0 28 "FeatherShares$Flock" "price" "[I", Cond.fieldLink RX0 31 "FeatherShares$Flock" "feathers" "[I"]
def wsX1_findBest_r2 : List Cond := [Cond.fieldLink RX0 34 "FeatherShares$Flock" "money" "[I", Cond.fieldLink RX0 37 "FeatherShares$Flock" "eggsHad" "[I", Cond.fieldLink RX0 40 "FeatherShares$Flock" "planBuyer" "[I", Cond.fieldLink RX0 43 "FeatherShares$Flock" "planSeller" "[I", Cond.fieldLink RX0 46 "FeatherShares$Flock" "planGoose" "[I", Cond.fieldLink RX0 49 "FeatherShares$Flock" "planAmount" "[I", Cond.instanceMethod yX0_geeseWithEggOf, Cond.selects RX0 yX0_geeseWithEggOf yX0_geeseWithEggOf, Cond.code yX0_geeseWithEggOf cX0_geeseWithEggOf 4 (some .int), Cond.methodLink RX0 76 yX0_eggOwner, Cond.instanceMethod yX0_eggOwner, Cond.selects RX0 yX0_eggOwner yX0_eggOwner, Cond.code yX0_eggOwner cX0_eggOwner 4 (some .int), Cond.methodLink RX0 68 yX0_held, Cond.instanceMethod yX0_held, Cond.selects RX0 yX0_held yX0_held, Cond.code yX0_held cX0_held 3 (some .int), Cond.methodLink RX1 52 yJ6_bitCount_0f7a4, Cond.static yJ6_bitCount_0f7a4, Cond.initialized RJ6, Cond.code yJ6_bitCount_0f7a4 cJ6_bitCount_0f7a4 1 (some .int), Cond.constant RJ6 265 (1431655765), Cond.constant RJ6 266 (858993459), Cond.constant RJ6 267 (252645135)]
def wsX1_findBest_r3 : List Cond := [Cond.methodLink RX1 57 yX1_listCodes, Cond.instanceMethod yX1_listCodes, Cond.selects RX1 yX1_listCodes yX1_listCodes, Cond.initialized RX1, Cond.code yX1_listCodes cX1_listCodes 4 none, Cond.instanceMethod yX0_canTrade, Cond.selects RX0 yX0_canTrade yX0_canTrade, Cond.code yX0_canTrade cX0_canTrade 6 (some .boolean), Cond.methodLink RX0 92 yX0_canPluck, Cond.instanceMethod yX0_canPluck, Cond.selects RX0 yX0_canPluck yX0_canPluck, Cond.code yX0_canPluck cX0_canPluck 5 (some .boolean), Cond.methodLink RX1 60 yX1_make, Cond.instanceMethod yX1_make, Cond.selects RX1 yX1_make yX1_make, Cond.code yX1_make cX1_make 3 none, Cond.methodLink RX1 79 yX1_sellerOf, Cond.static yX1_sellerOf, Cond.code yX1_sellerOf cX1_sellerOf 1 (some .int), Cond.methodLink RX1 82 yX1_gooseOf, Cond.static yX1_gooseOf, Cond.code yX1_gooseOf cX1_gooseOf 1 (some .int), Cond.methodLink RX1 85 yX1_amountOf, Cond.static yX1_amountOf]
def wsX1_findBest_r4 : List Cond := [Cond.code yX1_amountOf cX1_amountOf 1 (some .int), Cond.instanceMethod yX0_exchange, Cond.selects RX0 yX0_exchange yX0_exchange, Cond.code yX0_exchange cX0_exchange 5 none, Cond.methodLink RX0 96 yX0_moveFeathers, Cond.instanceMethod yX0_moveFeathers, Cond.selects RX0 yX0_moveFeathers yX0_moveFeathers, Cond.code yX0_moveFeathers cX0_moveFeathers 5 none, Cond.methodLink RX1 64 yX1_weigh, Cond.instanceMethod yX1_weigh, Cond.selects RX1 yX1_weigh yX1_weigh, Cond.code yX1_weigh cX1_weigh 7 none, Cond.methodLink RX1 95 yX1_isBetter, Cond.instanceMethod yX1_isBetter, Cond.selects RX1 yX1_isBetter yX1_isBetter, Cond.code yX1_isBetter cX1_isBetter 4 (some .boolean), Cond.methodLink RX1 68 yX1_weighPairs, Cond.instanceMethod yX1_weighPairs, Cond.selects RX1 yX1_weighPairs yX1_weighPairs, Cond.code yX1_weighPairs cX1_weighPairs 5 none]
def wsX1_findBest : List Cond := .code yX1_findBest cX1_findBest 5 none :: ((wsX1_findBest_r1 ++ (wsX1_findBest_r2 ++ (wsX1_findBest_r3 ++ wsX1_findBest_r4))) ++ wsX10 ++ wsX00)
def wsX2_init : List Cond := .code yX2_init cX2_init 1 none :: ([.methodLink RX2 3 objectInit, .instanceMethod objectInit, .code objectInit ⟨#[0xb1]⟩ 1 none, .arrayClass .int, .fieldLink RX2 9 "FeatherShares$Sheet" "cells" "[I", .fieldLink RX2 15 "FeatherShares$Sheet" "isNothing" "Z", .fieldLink RX2 19 "FeatherShares$Sheet" "lane" "I", .fieldLink RX2 23 "FeatherShares$Sheet" "size" "I"] ++ wsX20)
def wsX2_renew : List Cond := .code yX2_renew cX2_renew 3 none :: ([.fieldLink RX2 15 "FeatherShares$Sheet" "isNothing" "Z", .fieldLink RX2 19 "FeatherShares$Sheet" "lane" "I", .fieldLink RX2 23 "FeatherShares$Sheet" "size" "I", .fieldLink RX2 9 "FeatherShares$Sheet" "cells" "[I", .methodLink RX2 26 yJ7_fill_53178, .static yJ7_fill_53178, .initialized RJ7, .code yJ7_fill_53178 cJ7_fill_53178 4 none] ++ wsX20)
def wsX2_put : List Cond := .code yX2_put cX2_put 3 (some .int) :: ([.fieldLink RX2 15 "FeatherShares$Sheet" "isNothing" "Z", .fieldLink RX2 23 "FeatherShares$Sheet" "size" "I", .fieldLink RX2 9 "FeatherShares$Sheet" "cells" "[I", .fieldLink RX2 19 "FeatherShares$Sheet" "lane" "I", .static yX6_isWithin, .initialized RX6, .code yX6_isWithin cX6_isWithin 3 (some .boolean)] ++ wsX20)
def wsX2_faultOfTrade : List Cond := .code yX2_faultOfTrade cX2_faultOfTrade 3 (some .int) :: ([.fieldLink RX2 15 "FeatherShares$Sheet" "isNothing" "Z", .fieldLink RX2 19 "FeatherShares$Sheet" "lane" "I", .fieldLink RX2 23 "FeatherShares$Sheet" "size" "I", .static yX6_isWithin, .initialized RX6, .code yX6_isWithin cX6_isWithin 3 (some .boolean)] ++ wsX20)
def wsX2_tradeOn_r1 : List Cond := [Cond.fieldLink RX2 9 "FeatherShares$Sheet" "cells" "[I", Cond.instanceMethod yX0_tryTrade, Cond.initialized RX0, Cond.selects RX0 yX0_tryTrade yX0_tryTrade, Cond.code yX0_tryTrade cX0_tryTrade 5 (some .boolean), Cond.methodLink RX0 100 yX0_isTrade, Cond.instanceMethod yX0_isTrade, Cond.selects RX0 yX0_isTrade yX0_isTrade, Cond.code yX0_isTrade cX0_isTrade 5 (some .boolean), Cond.static yX6_isOwner, Cond.initialized RX6, Cond.code yX6_isOwner cX6_isOwner 1 (some .boolean), Cond.methodLink RX6 69 yX6_isWithin, Cond.static yX6_isWithin, Cond.code yX6_isWithin cX6_isWithin 3 (some .boolean), Cond.methodLink RX0 89 yX0_hasGoose, Cond.instanceMethod yX0_hasGoose, Cond.selects RX0 yX0_hasGoose yX0_hasGoose, Cond.code yX0_hasGoose cX0_hasGoose 2 (some .boolean), Cond.fieldLink RX0 9 "FeatherShares$Flock" "geese" "I", Cond.methodLink RX0 103 yX0_canTrade, Cond.instanceMethod yX0_canTrade, Cond.selects RX0 yX0_canTrade yX0_canTrade, Cond.code yX0_canTrade cX0_canTrade 6 (some .boolean)]
def wsX2_tradeOn_r2 : List Cond := [Cond.fieldLink RX0 28 "FeatherShares$Flock" "price" "[I", Cond.fieldLink RX0 34 "FeatherShares$Flock" "money" "[I", Cond.methodLink RX0 92 yX0_canPluck, Cond.instanceMethod yX0_canPluck, Cond.selects RX0 yX0_canPluck yX0_canPluck, Cond.code yX0_canPluck cX0_canPluck 5 (some .boolean), Cond.methodLink RX0 68 yX0_held, Cond.instanceMethod yX0_held, Cond.selects RX0 yX0_held yX0_held, Cond.code yX0_held cX0_held 3 (some .int), Cond.fieldLink RX0 31 "FeatherShares$Flock" "feathers" "[I", Cond.methodLink RX0 106 yX0_exchange, Cond.instanceMethod yX0_exchange, Cond.selects RX0 yX0_exchange yX0_exchange, Cond.code yX0_exchange cX0_exchange 5 none, Cond.methodLink RX0 96 yX0_moveFeathers, Cond.instanceMethod yX0_moveFeathers, Cond.selects RX0 yX0_moveFeathers yX0_moveFeathers, Cond.code yX0_moveFeathers cX0_moveFeathers 5 none]
def wsX2_tradeOn : List Cond := .code yX2_tradeOn cX2_tradeOn 3 (some .boolean) :: ((wsX2_tradeOn_r1 ++ wsX2_tradeOn_r2) ++ wsX20 ++ wsX00)
def wsX3_init : List Cond := .code yX3_init cX3_init 1 none :: ([.methodLink RX3 3 objectInit, .instanceMethod objectInit, .code objectInit ⟨#[0xb1]⟩ 1 none, .fieldLink RX3 9 "FeatherShares$Sightings" "size" "I", .arrayClass .int, .fieldLink RX3 15 "FeatherShares$Sightings" "ofGoose" "[I", .fieldLink RX3 19 "FeatherShares$Sightings" "ofOwner" "[I", .fieldLink RX3 22 "FeatherShares$Sightings" "behindWeeks" "[I", .fieldLink RX3 25 "FeatherShares$Sightings" "feathersSeen" "[I"] ++ wsX30)
def wsX3_add : List Cond := .code yX3_add cX3_add 5 (some .boolean) :: ([.fieldLink RX3 9 "FeatherShares$Sightings" "size" "I", .fieldLink RX3 15 "FeatherShares$Sightings" "ofGoose" "[I", .fieldLink RX3 19 "FeatherShares$Sightings" "ofOwner" "[I", .fieldLink RX3 22 "FeatherShares$Sightings" "behindWeeks" "[I", .fieldLink RX3 25 "FeatherShares$Sightings" "feathersSeen" "[I"] ++ wsX30)
def wsX3_agreeAt : List Cond := .code yX3_agreeAt cX3_agreeAt 4 (some .boolean) :: ([.fieldLink RX3 9 "FeatherShares$Sightings" "size" "I", .fieldLink RX3 22 "FeatherShares$Sightings" "behindWeeks" "[I", .fieldLink RX3 15 "FeatherShares$Sightings" "ofGoose" "[I", .fieldLink RX3 19 "FeatherShares$Sightings" "ofOwner" "[I", .fieldLink RX3 25 "FeatherShares$Sightings" "feathersSeen" "[I", .instanceMethod yX0_held, .initialized RX0, .selects RX0 yX0_held yX0_held, .code yX0_held cX0_held 3 (some .int), .fieldLink RX0 31 "FeatherShares$Flock" "feathers" "[I"] ++ wsX30 ++ wsX00)
def wsX3_agreeWith_r1 : List Cond := [Cond.methodLink RX3 28 yX3_agreeAt, Cond.instanceMethod yX3_agreeAt, Cond.selects RX3 yX3_agreeAt yX3_agreeAt, Cond.initialized RX3, Cond.code yX3_agreeAt cX3_agreeAt 4 (some .boolean), Cond.fieldLink RX3 9 "FeatherShares$Sightings" "size" "I", Cond.fieldLink RX3 22 "FeatherShares$Sightings" "behindWeeks" "[I", Cond.fieldLink RX3 15 "FeatherShares$Sightings" "ofGoose" "[I", Cond.fieldLink RX3 19 "FeatherShares$Sightings" "ofOwner" "[I", Cond.fieldLink RX3 25 "FeatherShares$Sightings" "feathersSeen" "[I", Cond.instanceMethod yX0_held, Cond.initialized RX0, Cond.selects RX0 yX0_held yX0_held, Cond.code yX0_held cX0_held 3 (some .int), Cond.fieldLink RX0 31 "FeatherShares$Flock" "feathers" "[I", Cond.instanceMethod yX0_passWeek, Cond.selects RX0 yX0_passWeek yX0_passWeek, Cond.code yX0_passWeek cX0_passWeek 4 (some .int), Cond.fieldLink RX0 9 "FeatherShares$Flock" "geese" "I", Cond.fieldLink RX0 37 "FeatherShares$Flock" "eggsHad" "[I", Cond.fieldLink RX0 15 "FeatherShares$Flock" "week" "I", Cond.methodLink RX0 76 yX0_eggOwner, Cond.instanceMethod yX0_eggOwner, Cond.selects RX0 yX0_eggOwner yX0_eggOwner]
def wsX3_agreeWith_r2 : List Cond := [Cond.code yX0_eggOwner cX0_eggOwner 4 (some .int), Cond.fieldLink RX0 25 "FeatherShares$Flock" "skin" "[I", Cond.methodLink RX0 68 yX0_held, Cond.methodLink RX0 119 yX0_moult, Cond.instanceMethod yX0_moult, Cond.selects RX0 yX0_moult yX0_moult, Cond.code yX0_moult cX0_moult 5 none, Cond.fieldLink RX0 21 "FeatherShares$Flock" "kind" "[I", Cond.methodLink RX0 126 Lib.Math.min.name, Cond.static Lib.Math.min.name, Cond.initialized "java/lang/Math", Cond.code Lib.Math.min.name Lib.Math.min.code 2 (some .int), Cond.methodLink RX0 123 yX0_lossOf, Cond.static yX0_lossOf, Cond.code yX0_lossOf cX0_lossOf 4 (some .int), Cond.methodLink RX0 131 Lib.Math.max.name, Cond.static Lib.Math.max.name, Cond.code Lib.Math.max.name Lib.Math.max.code 2 (some .int)]
def wsX3_agreeWith : List Cond := .code yX3_agreeWith cX3_agreeWith 3 (some .boolean) :: ((wsX3_agreeWith_r1 ++ wsX3_agreeWith_r2) ++ wsX30 ++ wsX00)
def wsX4_init : List Cond := .code yX4_init cX4_init 1 none :: ([.methodLink RX4 3 objectInit, .instanceMethod objectInit, .code objectInit ⟨#[0xb1]⟩ 1 none, .arrayClass .int, .fieldLink RX4 9 "FeatherShares$Tape" "bytes" "[I", .fieldLink RX4 15 "FeatherShares$Tape" "length" "I", .fieldLink RX4 19 "FeatherShares$Tape" "place" "I", .fieldLink RX4 22 "FeatherShares$Tape" "tokenStart" "I", .fieldLink RX4 25 "FeatherShares$Tape" "token" "I", .fieldLink RX4 28 "FeatherShares$Tape" "value" "I"] ++ wsX40)
def wsX4_append : List Cond := .code yX4_append cX4_append 2 (some .boolean) :: ([.fieldLink RX4 15 "FeatherShares$Tape" "length" "I", .fieldLink RX4 9 "FeatherShares$Tape" "bytes" "[I"] ++ wsX40)
def wsX4_rewind : List Cond := .code yX4_rewind cX4_rewind 1 none :: ([.fieldLink RX4 19 "FeatherShares$Tape" "place" "I", .fieldLink RX4 22 "FeatherShares$Tape" "tokenStart" "I", .fieldLink RX4 25 "FeatherShares$Tape" "token" "I"] ++ wsX40)
def wsX4_isLetter : List Cond := .code yX4_isLetter cX4_isLetter 1 (some .boolean) :: ([])
def wsX4_takeName : List Cond := .code yX4_takeName cX4_takeName 1 none :: ([.fieldLink RX4 25 "FeatherShares$Tape" "token" "I", .fieldLink RX4 19 "FeatherShares$Tape" "place" "I", .fieldLink RX4 15 "FeatherShares$Tape" "length" "I", .fieldLink RX4 9 "FeatherShares$Tape" "bytes" "[I", .methodLink RX4 31 yX4_isLetter, .static yX4_isLetter, .initialized RX4, .code yX4_isLetter cX4_isLetter 1 (some .boolean)] ++ wsX40)
def wsX4_isFigure : List Cond := .code yX4_isFigure cX4_isFigure 1 (some .boolean) :: ([])
def wsX4_takeNumber : List Cond := .code yX4_takeNumber cX4_takeNumber 1 none :: ([.fieldLink RX4 28 "FeatherShares$Tape" "value" "I", .fieldLink RX4 19 "FeatherShares$Tape" "place" "I", .fieldLink RX4 15 "FeatherShares$Tape" "length" "I", .fieldLink RX4 9 "FeatherShares$Tape" "bytes" "[I", .fieldLink RX4 22 "FeatherShares$Tape" "tokenStart" "I", .fieldLink RX4 25 "FeatherShares$Tape" "token" "I", .methodLink RX4 38 yX4_isFigure, .static yX4_isFigure, .initialized RX4, .code yX4_isFigure cX4_isFigure 1 (some .boolean)] ++ wsX40)
def wsX4_nextToken : List Cond := .code yX4_nextToken cX4_nextToken 1 none :: ([.fieldLink RX4 19 "FeatherShares$Tape" "place" "I", .fieldLink RX4 15 "FeatherShares$Tape" "length" "I", .fieldLink RX4 9 "FeatherShares$Tape" "bytes" "[I", .fieldLink RX4 22 "FeatherShares$Tape" "tokenStart" "I", .fieldLink RX4 25 "FeatherShares$Tape" "token" "I", .methodLink RX4 31 yX4_isLetter, .static yX4_isLetter, .initialized RX4, .code yX4_isLetter cX4_isLetter 1 (some .boolean), .methodLink RX4 35 yX4_takeName, .instanceMethod yX4_takeName, .selects RX4 yX4_takeName yX4_takeName, .code yX4_takeName cX4_takeName 1 none, .methodLink RX4 38 yX4_isFigure, .static yX4_isFigure, .code yX4_isFigure cX4_isFigure 1 (some .boolean), .methodLink RX4 41 yX4_takeNumber, .instanceMethod yX4_takeNumber, .selects RX4 yX4_takeNumber yX4_takeNumber, .code yX4_takeNumber cX4_takeNumber 1 none, .fieldLink RX4 28 "FeatherShares$Tape" "value" "I"] ++ wsX40)
def wsJ0_coder_7d493 : List Cond := .code yJ0_coder_7d493 cJ0_coder_7d493 1 (some .byte) :: ([.fieldLink RJ0 38 "java/lang/String" "COMPACT_STRINGS" "Z", .fieldLink RJ0 15 "java/lang/String" "coder" "B"])
def wsJ0_length_8abf5 : List Cond := .code yJ0_length_8abf5 cJ0_length_8abf5 1 (some .int) :: ([.fieldLink RJ0 9 "java/lang/String" "value" "[B", .methodLink RJ0 335 yJ0_coder_7d493, .instanceMethod yJ0_coder_7d493, .selects RJ0 yJ0_coder_7d493 yJ0_coder_7d493, .initialized RJ0, .code yJ0_coder_7d493 cJ0_coder_7d493 1 (some .byte), .fieldLink RJ0 38 "java/lang/String" "COMPACT_STRINGS" "Z", .fieldLink RJ0 15 "java/lang/String" "coder" "B"])
def wsJ0_isLatin1_aae02 : List Cond := .code yJ0_isLatin1_aae02 cJ0_isLatin1_aae02 1 (some .boolean) :: ([.fieldLink RJ0 38 "java/lang/String" "COMPACT_STRINGS" "Z", .fieldLink RJ0 15 "java/lang/String" "coder" "B"])
def wsJ3_checkIndex_8e157 : List Cond := .code yJ3_checkIndex_8e157 cJ3_checkIndex_8e157 3 (some .int) :: ([])
def wsJ0_checkIndex_df160 : List Cond := .code yJ0_checkIndex_df160 cJ0_checkIndex_df160 2 none :: ([.fieldLink RJ0 1053 "jdk/internal/util/Preconditions" "SIOOBE_FORMATTER" "Ljava/util/function/BiFunction;", .methodLink RJ0 1059 yJ3_checkIndex_8e157, .static yJ3_checkIndex_8e157, .initialized RJ3, .code yJ3_checkIndex_8e157 cJ3_checkIndex_8e157 3 (some .int)])
def wsJ1_charAt_3b067 : List Cond := .code yJ1_charAt_3b067 cJ1_charAt_3b067 2 (some .char) :: ([.methodLink RJ1 9 yJ0_checkIndex_df160, .static yJ0_checkIndex_df160, .initialized RJ0, .code yJ0_checkIndex_df160 cJ0_checkIndex_df160 2 none, .fieldLink RJ0 1053 "jdk/internal/util/Preconditions" "SIOOBE_FORMATTER" "Ljava/util/function/BiFunction;", .methodLink RJ0 1059 yJ3_checkIndex_8e157, .static yJ3_checkIndex_8e157, .initialized RJ3, .code yJ3_checkIndex_8e157 cJ3_checkIndex_8e157 3 (some .int)])
def wsJ2_length_9d52b : List Cond := .code yJ2_length_9d52b cJ2_length_9d52b 1 (some .int) :: ([])
def wsJ2_checkIndex_2214a : List Cond := .code yJ2_checkIndex_2214a cJ2_checkIndex_2214a 2 none :: ([.methodLink RJ2 48 yJ2_length_9d52b, .static yJ2_length_9d52b, .initialized RJ2, .code yJ2_length_9d52b cJ2_length_9d52b 1 (some .int), .methodLink RJ2 414 yJ0_checkIndex_df160, .static yJ0_checkIndex_df160, .initialized RJ0, .code yJ0_checkIndex_df160 cJ0_checkIndex_df160 2 none, .fieldLink RJ0 1053 "jdk/internal/util/Preconditions" "SIOOBE_FORMATTER" "Ljava/util/function/BiFunction;", .methodLink RJ0 1059 yJ3_checkIndex_8e157, .static yJ3_checkIndex_8e157, .initialized RJ3, .code yJ3_checkIndex_8e157 cJ3_checkIndex_8e157 3 (some .int)])
def wsJ2_getChar_3b067 : List Cond := .code yJ2_getChar_3b067 cJ2_getChar_3b067 2 (some .char) :: ([.fieldLink RJ2 44 "java/lang/StringUTF16" "$assertionsDisabled" "Z", .fieldLink RJ2 59 "java/lang/StringUTF16" "HI_BYTE_SHIFT" "I", .fieldLink RJ2 63 "java/lang/StringUTF16" "LO_BYTE_SHIFT" "I", .methodLink RJ2 48 yJ2_length_9d52b, .static yJ2_length_9d52b, .initialized RJ2, .code yJ2_length_9d52b cJ2_length_9d52b 1 (some .int)])
def wsJ2_charAt_3b067 : List Cond := .code yJ2_charAt_3b067 cJ2_charAt_3b067 2 (some .char) :: ([.methodLink RJ2 67 yJ2_checkIndex_2214a, .static yJ2_checkIndex_2214a, .initialized RJ2, .code yJ2_checkIndex_2214a cJ2_checkIndex_2214a 2 none, .methodLink RJ2 48 yJ2_length_9d52b, .static yJ2_length_9d52b, .code yJ2_length_9d52b cJ2_length_9d52b 1 (some .int), .methodLink RJ2 414 yJ0_checkIndex_df160, .static yJ0_checkIndex_df160, .initialized RJ0, .code yJ0_checkIndex_df160 cJ0_checkIndex_df160 2 none, .fieldLink RJ0 1053 "jdk/internal/util/Preconditions" "SIOOBE_FORMATTER" "Ljava/util/function/BiFunction;", .methodLink RJ0 1059 yJ3_checkIndex_8e157, .static yJ3_checkIndex_8e157, .initialized RJ3, .code yJ3_checkIndex_8e157 cJ3_checkIndex_8e157 3 (some .int), .methodLink RJ2 71 yJ2_getChar_3b067, .static yJ2_getChar_3b067, .code yJ2_getChar_3b067 cJ2_getChar_3b067 2 (some .char), .fieldLink RJ2 44 "java/lang/StringUTF16" "$assertionsDisabled" "Z", .fieldLink RJ2 59 "java/lang/StringUTF16" "HI_BYTE_SHIFT" "I", .fieldLink RJ2 63 "java/lang/StringUTF16" "LO_BYTE_SHIFT" "I"])
def wsJ0_charAt_5068e_r1 : List Cond := [Cond.fieldLink RJ0 9 "java/lang/String" "value" "[B", Cond.methodLink RJ0 492 yJ0_isLatin1_aae02, Cond.instanceMethod yJ0_isLatin1_aae02, Cond.selects RJ0 yJ0_isLatin1_aae02 yJ0_isLatin1_aae02, Cond.initialized RJ0, Cond.code yJ0_isLatin1_aae02 cJ0_isLatin1_aae02 1 (some .boolean), Cond.fieldLink RJ0 38 "java/lang/String" "COMPACT_STRINGS" "Z", Cond.fieldLink RJ0 15 "java/lang/String" "coder" "B", Cond.methodLink RJ0 495 yJ1_charAt_3b067, Cond.static yJ1_charAt_3b067, Cond.initialized RJ1, Cond.code yJ1_charAt_3b067 cJ1_charAt_3b067 2 (some .char), Cond.methodLink RJ1 9 yJ0_checkIndex_df160, Cond.static yJ0_checkIndex_df160, Cond.code yJ0_checkIndex_df160 cJ0_checkIndex_df160 2 none, Cond.fieldLink RJ0 1053 "jdk/internal/util/Preconditions" "SIOOBE_FORMATTER" "Ljava/util/function/BiFunction;", Cond.methodLink RJ0 1059 yJ3_checkIndex_8e157, Cond.static yJ3_checkIndex_8e157, Cond.initialized RJ3, Cond.code yJ3_checkIndex_8e157 cJ3_checkIndex_8e157 3 (some .int), Cond.methodLink RJ0 498 yJ2_charAt_3b067, Cond.static yJ2_charAt_3b067, Cond.initialized RJ2, Cond.code yJ2_charAt_3b067 cJ2_charAt_3b067 2 (some .char)]
def wsJ0_charAt_5068e_r2 : List Cond := [Cond.methodLink RJ2 67 yJ2_checkIndex_2214a, Cond.static yJ2_checkIndex_2214a, Cond.code yJ2_checkIndex_2214a cJ2_checkIndex_2214a 2 none, Cond.methodLink RJ2 48 yJ2_length_9d52b, Cond.static yJ2_length_9d52b, Cond.code yJ2_length_9d52b cJ2_length_9d52b 1 (some .int), Cond.methodLink RJ2 414 yJ0_checkIndex_df160, Cond.methodLink RJ2 71 yJ2_getChar_3b067, Cond.static yJ2_getChar_3b067, Cond.code yJ2_getChar_3b067 cJ2_getChar_3b067 2 (some .char), Cond.fieldLink RJ2 44 "java/lang/StringUTF16" "$assertionsDisabled" "Z", Cond.fieldLink RJ2 59 "java/lang/StringUTF16" "HI_BYTE_SHIFT" "I", Cond.fieldLink RJ2 63 "java/lang/StringUTF16" "LO_BYTE_SHIFT" "I"]
def wsJ0_charAt_5068e : List Cond := .code yJ0_charAt_5068e cJ0_charAt_5068e 2 (some .char) :: ((wsJ0_charAt_5068e_r1 ++ wsJ0_charAt_5068e_r2))
def wsX4_spells_r1 : List Cond := [Cond.fieldLink RX4 19 "FeatherShares$Tape" "place" "I", Cond.fieldLink RX4 22 "FeatherShares$Tape" "tokenStart" "I", Cond.fieldLink RX4 9 "FeatherShares$Tape" "bytes" "[I", Cond.methodLink RX4 44 yJ0_length_8abf5, Cond.instanceMethod yJ0_length_8abf5, Cond.selects RJ0 yJ0_length_8abf5 yJ0_length_8abf5, Cond.initialized RJ0, Cond.code yJ0_length_8abf5 cJ0_length_8abf5 1 (some .int), Cond.fieldLink RJ0 9 "java/lang/String" "value" "[B", Cond.methodLink RJ0 335 yJ0_coder_7d493, Cond.instanceMethod yJ0_coder_7d493, Cond.selects RJ0 yJ0_coder_7d493 yJ0_coder_7d493, Cond.code yJ0_coder_7d493 cJ0_coder_7d493 1 (some .byte), Cond.fieldLink RJ0 38 "java/lang/String" "COMPACT_STRINGS" "Z", Cond.fieldLink RJ0 15 "java/lang/String" "coder" "B", Cond.methodLink RX4 49 yJ0_charAt_5068e, Cond.instanceMethod yJ0_charAt_5068e, Cond.selects RJ0 yJ0_charAt_5068e yJ0_charAt_5068e, Cond.code yJ0_charAt_5068e cJ0_charAt_5068e 2 (some .char), Cond.methodLink RJ0 492 yJ0_isLatin1_aae02, Cond.instanceMethod yJ0_isLatin1_aae02, Cond.selects RJ0 yJ0_isLatin1_aae02 yJ0_isLatin1_aae02, Cond.code yJ0_isLatin1_aae02 cJ0_isLatin1_aae02 1 (some .boolean), Cond.methodLink RJ0 495 yJ1_charAt_3b067]
def wsX4_spells_r2 : List Cond := [Cond.static yJ1_charAt_3b067, Cond.initialized RJ1, Cond.code yJ1_charAt_3b067 cJ1_charAt_3b067 2 (some .char), Cond.methodLink RJ1 9 yJ0_checkIndex_df160, Cond.static yJ0_checkIndex_df160, Cond.code yJ0_checkIndex_df160 cJ0_checkIndex_df160 2 none, Cond.fieldLink RJ0 1053 "jdk/internal/util/Preconditions" "SIOOBE_FORMATTER" "Ljava/util/function/BiFunction;", Cond.methodLink RJ0 1059 yJ3_checkIndex_8e157, Cond.static yJ3_checkIndex_8e157, Cond.initialized RJ3, Cond.code yJ3_checkIndex_8e157 cJ3_checkIndex_8e157 3 (some .int), Cond.methodLink RJ0 498 yJ2_charAt_3b067, Cond.static yJ2_charAt_3b067, Cond.initialized RJ2, Cond.code yJ2_charAt_3b067 cJ2_charAt_3b067 2 (some .char), Cond.methodLink RJ2 67 yJ2_checkIndex_2214a, Cond.static yJ2_checkIndex_2214a, Cond.code yJ2_checkIndex_2214a cJ2_checkIndex_2214a 2 none, Cond.methodLink RJ2 48 yJ2_length_9d52b, Cond.static yJ2_length_9d52b, Cond.code yJ2_length_9d52b cJ2_length_9d52b 1 (some .int), Cond.methodLink RJ2 414 yJ0_checkIndex_df160, Cond.methodLink RJ2 71 yJ2_getChar_3b067, Cond.static yJ2_getChar_3b067]
def wsX4_spells_r3 : List Cond := [Cond.code yJ2_getChar_3b067 cJ2_getChar_3b067 2 (some .char), Cond.fieldLink RJ2 44 "java/lang/StringUTF16" "$assertionsDisabled" "Z", Cond.fieldLink RJ2 59 "java/lang/StringUTF16" "HI_BYTE_SHIFT" "I", Cond.fieldLink RJ2 63 "java/lang/StringUTF16" "LO_BYTE_SHIFT" "I"]
def wsX4_spells : List Cond := .code yX4_spells cX4_spells 3 (some .boolean) :: ((wsX4_spells_r1 ++ (wsX4_spells_r2 ++ wsX4_spells_r3)) ++ wsX40)
def wsX5_init_r1 : List Cond := [Cond.methodLink RX5 3 objectInit, Cond.instanceMethod objectInit, Cond.code objectInit ⟨#[0xb1]⟩ 1 none, Cond.classLink RX5 9 RX0, Cond.instantiable RX0 13, Cond.initialized RX0, Cond.fieldLink RX5 12 "FeatherShares$TextReader" "draft" "LFeatherShares$Flock;", Cond.fieldLink RX5 18 "FeatherShares$TextReader" "lines" "I", Cond.fieldLink RX5 22 "FeatherShares$TextReader" "faultFound" "I", Cond.fieldLink RX5 25 "FeatherShares$TextReader" "faultPlace" "I", Cond.fieldLink RX5 28 "FeatherShares$TextReader" "toldShares" "I", Cond.fieldLink RX5 31 "FeatherShares$TextReader" "toldMoney" "I", Cond.fieldLink RX5 34 "FeatherShares$TextReader" "namedGeese" "I", Cond.instanceMethod yX0_init, Cond.code yX0_init cX0_init 1 none, Cond.methodLink RX0 3 objectInit, Cond.fieldLink RX0 9 "FeatherShares$Flock" "geese" "I", Cond.fieldLink RX0 15 "FeatherShares$Flock" "week" "I", Cond.fieldLink RX0 18 "FeatherShares$Flock" "trades" "I", Cond.arrayClass .int, Cond.fieldLink RX0 21 "FeatherShares$Flock" "kind" "[I", Cond.fieldLink RX0 25 "FeatherShares$Flock" "skin" "[I", Cond.fieldLink RX0 28 "FeatherShares$Flock" "price" "[I", Cond.fieldLink RX0 31 "FeatherShares$Flock" "feathers" "[I"]
def wsX5_init_r2 : List Cond := [Cond.fieldLink RX0 34 "FeatherShares$Flock" "money" "[I", Cond.fieldLink RX0 37 "FeatherShares$Flock" "eggsHad" "[I", Cond.fieldLink RX0 40 "FeatherShares$Flock" "planBuyer" "[I", Cond.fieldLink RX0 43 "FeatherShares$Flock" "planSeller" "[I", Cond.fieldLink RX0 46 "FeatherShares$Flock" "planGoose" "[I", Cond.fieldLink RX0 49 "FeatherShares$Flock" "planAmount" "[I", Cond.methodLink RX0 52 yJ7_fill_53178, Cond.static yJ7_fill_53178, Cond.initialized RJ7, Cond.code yJ7_fill_53178 cJ7_fill_53178 4 none]
def wsX5_init : List Cond := .code yX5_init cX5_init 1 none :: ((wsX5_init_r1 ++ wsX5_init_r2) ++ wsX00 ++ wsX50)
def wsX5_refuse : List Cond := .code yX5_refuse cX5_refuse 3 none :: ([.fieldLink RX5 22 "FeatherShares$TextReader" "faultFound" "I", .fieldLink RX5 25 "FeatherShares$TextReader" "faultPlace" "I"] ++ wsX50)
def wsX5_lineNamed_r1 : List Cond := [Cond.instanceMethod yX4_spells, Cond.initialized RX4, Cond.selects RX4 yX4_spells yX4_spells, Cond.code yX4_spells cX4_spells 3 (some .boolean), Cond.fieldLink RX4 19 "FeatherShares$Tape" "place" "I", Cond.fieldLink RX4 22 "FeatherShares$Tape" "tokenStart" "I", Cond.fieldLink RX4 9 "FeatherShares$Tape" "bytes" "[I", Cond.methodLink RX4 44 yJ0_length_8abf5, Cond.instanceMethod yJ0_length_8abf5, Cond.selects RJ0 yJ0_length_8abf5 yJ0_length_8abf5, Cond.initialized RJ0, Cond.code yJ0_length_8abf5 cJ0_length_8abf5 1 (some .int), Cond.fieldLink RJ0 9 "java/lang/String" "value" "[B", Cond.methodLink RJ0 335 yJ0_coder_7d493, Cond.instanceMethod yJ0_coder_7d493, Cond.selects RJ0 yJ0_coder_7d493 yJ0_coder_7d493, Cond.code yJ0_coder_7d493 cJ0_coder_7d493 1 (some .byte), Cond.fieldLink RJ0 38 "java/lang/String" "COMPACT_STRINGS" "Z", Cond.fieldLink RJ0 15 "java/lang/String" "coder" "B", Cond.methodLink RX4 49 yJ0_charAt_5068e, Cond.instanceMethod yJ0_charAt_5068e, Cond.selects RJ0 yJ0_charAt_5068e yJ0_charAt_5068e, Cond.code yJ0_charAt_5068e cJ0_charAt_5068e 2 (some .char), Cond.methodLink RJ0 492 yJ0_isLatin1_aae02]
def wsX5_lineNamed_r2 : List Cond := [Cond.instanceMethod yJ0_isLatin1_aae02, Cond.selects RJ0 yJ0_isLatin1_aae02 yJ0_isLatin1_aae02, Cond.code yJ0_isLatin1_aae02 cJ0_isLatin1_aae02 1 (some .boolean), Cond.methodLink RJ0 495 yJ1_charAt_3b067, Cond.static yJ1_charAt_3b067, Cond.initialized RJ1, Cond.code yJ1_charAt_3b067 cJ1_charAt_3b067 2 (some .char), Cond.methodLink RJ1 9 yJ0_checkIndex_df160, Cond.static yJ0_checkIndex_df160, Cond.code yJ0_checkIndex_df160 cJ0_checkIndex_df160 2 none, Cond.fieldLink RJ0 1053 "jdk/internal/util/Preconditions" "SIOOBE_FORMATTER" "Ljava/util/function/BiFunction;", Cond.methodLink RJ0 1059 yJ3_checkIndex_8e157, Cond.static yJ3_checkIndex_8e157, Cond.initialized RJ3, Cond.code yJ3_checkIndex_8e157 cJ3_checkIndex_8e157 3 (some .int), Cond.methodLink RJ0 498 yJ2_charAt_3b067, Cond.static yJ2_charAt_3b067, Cond.initialized RJ2, Cond.code yJ2_charAt_3b067 cJ2_charAt_3b067 2 (some .char), Cond.methodLink RJ2 67 yJ2_checkIndex_2214a, Cond.static yJ2_checkIndex_2214a, Cond.code yJ2_checkIndex_2214a cJ2_checkIndex_2214a 2 none, Cond.methodLink RJ2 48 yJ2_length_9d52b, Cond.static yJ2_length_9d52b]
def wsX5_lineNamed_r3 : List Cond := [Cond.code yJ2_length_9d52b cJ2_length_9d52b 1 (some .int), Cond.methodLink RJ2 414 yJ0_checkIndex_df160, Cond.methodLink RJ2 71 yJ2_getChar_3b067, Cond.static yJ2_getChar_3b067, Cond.code yJ2_getChar_3b067 cJ2_getChar_3b067 2 (some .char), Cond.fieldLink RJ2 44 "java/lang/StringUTF16" "$assertionsDisabled" "Z", Cond.fieldLink RJ2 59 "java/lang/StringUTF16" "HI_BYTE_SHIFT" "I", Cond.fieldLink RJ2 63 "java/lang/StringUTF16" "LO_BYTE_SHIFT" "I"]
def wsX5_lineNamed : List Cond := .code yX5_lineNamed cX5_lineNamed 1 (some .int) :: ((wsX5_lineNamed_r1 ++ (wsX5_lineNamed_r2 ++ wsX5_lineNamed_r3)) ++ wsX40)
def wsX5_refuseOther : List Cond := .code yX5_refuseOther cX5_refuseOther 3 none :: ([.methodLink RX5 55 yX5_refuse, .instanceMethod yX5_refuse, .selects RX5 yX5_refuse yX5_refuse, .initialized RX5, .code yX5_refuse cX5_refuse 3 none, .fieldLink RX5 22 "FeatherShares$TextReader" "faultFound" "I", .fieldLink RX5 25 "FeatherShares$TextReader" "faultPlace" "I"] ++ wsX40 ++ wsX50)
def wsX5_nextNumber_r1 : List Cond := [Cond.fieldLink RX5 22 "FeatherShares$TextReader" "faultFound" "I", Cond.instanceMethod yX4_nextToken, Cond.initialized RX4, Cond.selects RX4 yX4_nextToken yX4_nextToken, Cond.code yX4_nextToken cX4_nextToken 1 none, Cond.fieldLink RX4 19 "FeatherShares$Tape" "place" "I", Cond.fieldLink RX4 15 "FeatherShares$Tape" "length" "I", Cond.fieldLink RX4 9 "FeatherShares$Tape" "bytes" "[I", Cond.fieldLink RX4 22 "FeatherShares$Tape" "tokenStart" "I", Cond.fieldLink RX4 25 "FeatherShares$Tape" "token" "I", Cond.methodLink RX4 31 yX4_isLetter, Cond.static yX4_isLetter, Cond.code yX4_isLetter cX4_isLetter 1 (some .boolean), Cond.methodLink RX4 35 yX4_takeName, Cond.instanceMethod yX4_takeName, Cond.selects RX4 yX4_takeName yX4_takeName, Cond.code yX4_takeName cX4_takeName 1 none, Cond.methodLink RX4 38 yX4_isFigure, Cond.static yX4_isFigure, Cond.code yX4_isFigure cX4_isFigure 1 (some .boolean), Cond.methodLink RX4 41 yX4_takeNumber, Cond.instanceMethod yX4_takeNumber, Cond.selects RX4 yX4_takeNumber yX4_takeNumber, Cond.code yX4_takeNumber cX4_takeNumber 1 none]
def wsX5_nextNumber_r2 : List Cond := [Cond.fieldLink RX4 28 "FeatherShares$Tape" "value" "I", Cond.methodLink RX5 128 yX5_refuseOther, Cond.instanceMethod yX5_refuseOther, Cond.selects RX5 yX5_refuseOther yX5_refuseOther, Cond.initialized RX5, Cond.code yX5_refuseOther cX5_refuseOther 3 none, Cond.methodLink RX5 55 yX5_refuse, Cond.instanceMethod yX5_refuse, Cond.selects RX5 yX5_refuse yX5_refuse, Cond.code yX5_refuse cX5_refuse 3 none, Cond.fieldLink RX5 25 "FeatherShares$TextReader" "faultPlace" "I", Cond.static yX6_isWithin, Cond.initialized RX6, Cond.code yX6_isWithin cX6_isWithin 3 (some .boolean)]
def wsX5_nextNumber : List Cond := .code yX5_nextNumber cX5_nextNumber 4 (some .int) :: ((wsX5_nextNumber_r1 ++ wsX5_nextNumber_r2) ++ wsX50 ++ wsX40)
def wsX5_isLineEnded_r1 : List Cond := [Cond.fieldLink RX5 22 "FeatherShares$TextReader" "faultFound" "I", Cond.instanceMethod yX4_nextToken, Cond.initialized RX4, Cond.selects RX4 yX4_nextToken yX4_nextToken, Cond.code yX4_nextToken cX4_nextToken 1 none, Cond.fieldLink RX4 19 "FeatherShares$Tape" "place" "I", Cond.fieldLink RX4 15 "FeatherShares$Tape" "length" "I", Cond.fieldLink RX4 9 "FeatherShares$Tape" "bytes" "[I", Cond.fieldLink RX4 22 "FeatherShares$Tape" "tokenStart" "I", Cond.fieldLink RX4 25 "FeatherShares$Tape" "token" "I", Cond.methodLink RX4 31 yX4_isLetter, Cond.static yX4_isLetter, Cond.code yX4_isLetter cX4_isLetter 1 (some .boolean), Cond.methodLink RX4 35 yX4_takeName, Cond.instanceMethod yX4_takeName, Cond.selects RX4 yX4_takeName yX4_takeName, Cond.code yX4_takeName cX4_takeName 1 none, Cond.methodLink RX4 38 yX4_isFigure, Cond.static yX4_isFigure, Cond.code yX4_isFigure cX4_isFigure 1 (some .boolean), Cond.methodLink RX4 41 yX4_takeNumber, Cond.instanceMethod yX4_takeNumber, Cond.selects RX4 yX4_takeNumber yX4_takeNumber, Cond.code yX4_takeNumber cX4_takeNumber 1 none]
def wsX5_isLineEnded_r2 : List Cond := [Cond.fieldLink RX4 28 "FeatherShares$Tape" "value" "I", Cond.methodLink RX5 128 yX5_refuseOther, Cond.instanceMethod yX5_refuseOther, Cond.selects RX5 yX5_refuseOther yX5_refuseOther, Cond.initialized RX5, Cond.code yX5_refuseOther cX5_refuseOther 3 none, Cond.methodLink RX5 55 yX5_refuse, Cond.instanceMethod yX5_refuse, Cond.selects RX5 yX5_refuse yX5_refuse, Cond.code yX5_refuse cX5_refuse 3 none, Cond.fieldLink RX5 25 "FeatherShares$TextReader" "faultPlace" "I"]
def wsX5_isLineEnded : List Cond := .code yX5_isLineEnded cX5_isLineEnded 2 (some .boolean) :: ((wsX5_isLineEnded_r1 ++ wsX5_isLineEnded_r2) ++ wsX50 ++ wsX40)
def wsX5_readGoose_r1 : List Cond := [Cond.fieldLink RX5 12 "FeatherShares$TextReader" "draft" "LFeatherShares$Flock;", Cond.methodLink RX5 55 yX5_refuse, Cond.instanceMethod yX5_refuse, Cond.selects RX5 yX5_refuse yX5_refuse, Cond.initialized RX5, Cond.code yX5_refuse cX5_refuse 3 none, Cond.fieldLink RX5 22 "FeatherShares$TextReader" "faultFound" "I", Cond.fieldLink RX5 25 "FeatherShares$TextReader" "faultPlace" "I", Cond.methodLink RX5 104 yX5_nextNumber, Cond.instanceMethod yX5_nextNumber, Cond.selects RX5 yX5_nextNumber yX5_nextNumber, Cond.code yX5_nextNumber cX5_nextNumber 4 (some .int), Cond.instanceMethod yX4_nextToken, Cond.initialized RX4, Cond.selects RX4 yX4_nextToken yX4_nextToken, Cond.code yX4_nextToken cX4_nextToken 1 none, Cond.fieldLink RX4 19 "FeatherShares$Tape" "place" "I", Cond.fieldLink RX4 15 "FeatherShares$Tape" "length" "I", Cond.fieldLink RX4 9 "FeatherShares$Tape" "bytes" "[I", Cond.fieldLink RX4 22 "FeatherShares$Tape" "tokenStart" "I", Cond.fieldLink RX4 25 "FeatherShares$Tape" "token" "I", Cond.methodLink RX4 31 yX4_isLetter, Cond.static yX4_isLetter, Cond.code yX4_isLetter cX4_isLetter 1 (some .boolean)]
def wsX5_readGoose_r2 : List Cond := [Cond.methodLink RX4 35 yX4_takeName, Cond.instanceMethod yX4_takeName, Cond.selects RX4 yX4_takeName yX4_takeName, Cond.code yX4_takeName cX4_takeName 1 none, Cond.methodLink RX4 38 yX4_isFigure, Cond.static yX4_isFigure, Cond.code yX4_isFigure cX4_isFigure 1 (some .boolean), Cond.methodLink RX4 41 yX4_takeNumber, Cond.instanceMethod yX4_takeNumber, Cond.selects RX4 yX4_takeNumber yX4_takeNumber, Cond.code yX4_takeNumber cX4_takeNumber 1 none, Cond.fieldLink RX4 28 "FeatherShares$Tape" "value" "I", Cond.methodLink RX5 128 yX5_refuseOther, Cond.instanceMethod yX5_refuseOther, Cond.selects RX5 yX5_refuseOther yX5_refuseOther, Cond.code yX5_refuseOther cX5_refuseOther 3 none, Cond.static yX6_isWithin, Cond.initialized RX6, Cond.code yX6_isWithin cX6_isWithin 3 (some .boolean), Cond.methodLink RX5 108 yX5_isLineEnded, Cond.instanceMethod yX5_isLineEnded, Cond.selects RX5 yX5_isLineEnded yX5_isLineEnded, Cond.code yX5_isLineEnded cX5_isLineEnded 2 (some .boolean), Cond.instanceMethod yX0_addGoose]
def wsX5_readGoose_r3 : List Cond := [Cond.initialized RX0, Cond.selects RX0 yX0_addGoose yX0_addGoose, Cond.code yX0_addGoose cX0_addGoose 4 none, Cond.fieldLink RX0 9 "FeatherShares$Flock" "geese" "I", Cond.fieldLink RX0 21 "FeatherShares$Flock" "kind" "[I", Cond.fieldLink RX0 25 "FeatherShares$Flock" "skin" "[I", Cond.fieldLink RX0 28 "FeatherShares$Flock" "price" "[I"]
def wsX5_readGoose : List Cond := .code yX5_readGoose cX5_readGoose 5 none :: ((wsX5_readGoose_r1 ++ (wsX5_readGoose_r2 ++ wsX5_readGoose_r3)) ++ wsX50 ++ wsX00 ++ wsX40)
def wsX5_readShare_r1 : List Cond := [Cond.fieldLink RX5 28 "FeatherShares$TextReader" "toldShares" "I", Cond.fieldLink RX5 34 "FeatherShares$TextReader" "namedGeese" "I", Cond.fieldLink RX5 12 "FeatherShares$TextReader" "draft" "LFeatherShares$Flock;", Cond.methodLink RX5 104 yX5_nextNumber, Cond.instanceMethod yX5_nextNumber, Cond.selects RX5 yX5_nextNumber yX5_nextNumber, Cond.initialized RX5, Cond.code yX5_nextNumber cX5_nextNumber 4 (some .int), Cond.fieldLink RX5 22 "FeatherShares$TextReader" "faultFound" "I", Cond.instanceMethod yX4_nextToken, Cond.initialized RX4, Cond.selects RX4 yX4_nextToken yX4_nextToken, Cond.code yX4_nextToken cX4_nextToken 1 none, Cond.fieldLink RX4 19 "FeatherShares$Tape" "place" "I", Cond.fieldLink RX4 15 "FeatherShares$Tape" "length" "I", Cond.fieldLink RX4 9 "FeatherShares$Tape" "bytes" "[I", Cond.fieldLink RX4 22 "FeatherShares$Tape" "tokenStart" "I", Cond.fieldLink RX4 25 "FeatherShares$Tape" "token" "I", Cond.methodLink RX4 31 yX4_isLetter, Cond.static yX4_isLetter, Cond.code yX4_isLetter cX4_isLetter 1 (some .boolean), Cond.methodLink RX4 35 yX4_takeName, Cond.instanceMethod yX4_takeName, Cond.selects RX4 yX4_takeName yX4_takeName]
def wsX5_readShare_r2 : List Cond := [Cond.code yX4_takeName cX4_takeName 1 none, Cond.methodLink RX4 38 yX4_isFigure, Cond.static yX4_isFigure, Cond.code yX4_isFigure cX4_isFigure 1 (some .boolean), Cond.methodLink RX4 41 yX4_takeNumber, Cond.instanceMethod yX4_takeNumber, Cond.selects RX4 yX4_takeNumber yX4_takeNumber, Cond.code yX4_takeNumber cX4_takeNumber 1 none, Cond.fieldLink RX4 28 "FeatherShares$Tape" "value" "I", Cond.methodLink RX5 128 yX5_refuseOther, Cond.instanceMethod yX5_refuseOther, Cond.selects RX5 yX5_refuseOther yX5_refuseOther, Cond.code yX5_refuseOther cX5_refuseOther 3 none, Cond.methodLink RX5 55 yX5_refuse, Cond.instanceMethod yX5_refuse, Cond.selects RX5 yX5_refuse yX5_refuse, Cond.code yX5_refuse cX5_refuse 3 none, Cond.fieldLink RX5 25 "FeatherShares$TextReader" "faultPlace" "I", Cond.static yX6_isWithin, Cond.initialized RX6, Cond.code yX6_isWithin cX6_isWithin 3 (some .boolean), Cond.methodLink RX5 108 yX5_isLineEnded, Cond.instanceMethod yX5_isLineEnded, Cond.selects RX5 yX5_isLineEnded yX5_isLineEnded]
def wsX5_readShare_r3 : List Cond := [Cond.code yX5_isLineEnded cX5_isLineEnded 2 (some .boolean)]
def wsX5_readShare : List Cond := .code yX5_readShare cX5_readShare 6 none :: ((wsX5_readShare_r1 ++ (wsX5_readShare_r2 ++ wsX5_readShare_r3)) ++ wsX50 ++ wsX40 ++ wsX00)
def wsX5_readMoney_r1 : List Cond := [Cond.fieldLink RX5 31 "FeatherShares$TextReader" "toldMoney" "I", Cond.fieldLink RX5 12 "FeatherShares$TextReader" "draft" "LFeatherShares$Flock;", Cond.methodLink RX5 104 yX5_nextNumber, Cond.instanceMethod yX5_nextNumber, Cond.selects RX5 yX5_nextNumber yX5_nextNumber, Cond.initialized RX5, Cond.code yX5_nextNumber cX5_nextNumber 4 (some .int), Cond.fieldLink RX5 22 "FeatherShares$TextReader" "faultFound" "I", Cond.instanceMethod yX4_nextToken, Cond.initialized RX4, Cond.selects RX4 yX4_nextToken yX4_nextToken, Cond.code yX4_nextToken cX4_nextToken 1 none, Cond.fieldLink RX4 19 "FeatherShares$Tape" "place" "I", Cond.fieldLink RX4 15 "FeatherShares$Tape" "length" "I", Cond.fieldLink RX4 9 "FeatherShares$Tape" "bytes" "[I", Cond.fieldLink RX4 22 "FeatherShares$Tape" "tokenStart" "I", Cond.fieldLink RX4 25 "FeatherShares$Tape" "token" "I", Cond.methodLink RX4 31 yX4_isLetter, Cond.static yX4_isLetter, Cond.code yX4_isLetter cX4_isLetter 1 (some .boolean), Cond.methodLink RX4 35 yX4_takeName, Cond.instanceMethod yX4_takeName, Cond.selects RX4 yX4_takeName yX4_takeName, Cond.code yX4_takeName cX4_takeName 1 none]
def wsX5_readMoney_r2 : List Cond := [Cond.methodLink RX4 38 yX4_isFigure, Cond.static yX4_isFigure, Cond.code yX4_isFigure cX4_isFigure 1 (some .boolean), Cond.methodLink RX4 41 yX4_takeNumber, Cond.instanceMethod yX4_takeNumber, Cond.selects RX4 yX4_takeNumber yX4_takeNumber, Cond.code yX4_takeNumber cX4_takeNumber 1 none, Cond.fieldLink RX4 28 "FeatherShares$Tape" "value" "I", Cond.methodLink RX5 128 yX5_refuseOther, Cond.instanceMethod yX5_refuseOther, Cond.selects RX5 yX5_refuseOther yX5_refuseOther, Cond.code yX5_refuseOther cX5_refuseOther 3 none, Cond.methodLink RX5 55 yX5_refuse, Cond.instanceMethod yX5_refuse, Cond.selects RX5 yX5_refuse yX5_refuse, Cond.code yX5_refuse cX5_refuse 3 none, Cond.fieldLink RX5 25 "FeatherShares$TextReader" "faultPlace" "I", Cond.static yX6_isWithin, Cond.initialized RX6, Cond.code yX6_isWithin cX6_isWithin 3 (some .boolean), Cond.methodLink RX5 108 yX5_isLineEnded, Cond.instanceMethod yX5_isLineEnded, Cond.selects RX5 yX5_isLineEnded yX5_isLineEnded, Cond.code yX5_isLineEnded cX5_isLineEnded 2 (some .boolean)]
def wsX5_readMoney : List Cond := .code yX5_readMoney cX5_readMoney 4 none :: ((wsX5_readMoney_r1 ++ wsX5_readMoney_r2) ++ wsX50 ++ wsX40 ++ wsX00)
def wsX5_readTrade_r1 : List Cond := [Cond.fieldLink RX5 12 "FeatherShares$TextReader" "draft" "LFeatherShares$Flock;", Cond.fieldLink RX5 34 "FeatherShares$TextReader" "namedGeese" "I", Cond.methodLink RX5 55 yX5_refuse, Cond.instanceMethod yX5_refuse, Cond.selects RX5 yX5_refuse yX5_refuse, Cond.initialized RX5, Cond.code yX5_refuse cX5_refuse 3 none, Cond.fieldLink RX5 22 "FeatherShares$TextReader" "faultFound" "I", Cond.fieldLink RX5 25 "FeatherShares$TextReader" "faultPlace" "I", Cond.methodLink RX5 104 yX5_nextNumber, Cond.instanceMethod yX5_nextNumber, Cond.selects RX5 yX5_nextNumber yX5_nextNumber, Cond.code yX5_nextNumber cX5_nextNumber 4 (some .int), Cond.instanceMethod yX4_nextToken, Cond.initialized RX4, Cond.selects RX4 yX4_nextToken yX4_nextToken, Cond.code yX4_nextToken cX4_nextToken 1 none, Cond.fieldLink RX4 19 "FeatherShares$Tape" "place" "I", Cond.fieldLink RX4 15 "FeatherShares$Tape" "length" "I", Cond.fieldLink RX4 9 "FeatherShares$Tape" "bytes" "[I", Cond.fieldLink RX4 22 "FeatherShares$Tape" "tokenStart" "I", Cond.fieldLink RX4 25 "FeatherShares$Tape" "token" "I", Cond.methodLink RX4 31 yX4_isLetter, Cond.static yX4_isLetter]
def wsX5_readTrade_r2 : List Cond := [Cond.code yX4_isLetter cX4_isLetter 1 (some .boolean), Cond.methodLink RX4 35 yX4_takeName, Cond.instanceMethod yX4_takeName, Cond.selects RX4 yX4_takeName yX4_takeName, Cond.code yX4_takeName cX4_takeName 1 none, Cond.methodLink RX4 38 yX4_isFigure, Cond.static yX4_isFigure, Cond.code yX4_isFigure cX4_isFigure 1 (some .boolean), Cond.methodLink RX4 41 yX4_takeNumber, Cond.instanceMethod yX4_takeNumber, Cond.selects RX4 yX4_takeNumber yX4_takeNumber, Cond.code yX4_takeNumber cX4_takeNumber 1 none, Cond.fieldLink RX4 28 "FeatherShares$Tape" "value" "I", Cond.methodLink RX5 128 yX5_refuseOther, Cond.instanceMethod yX5_refuseOther, Cond.selects RX5 yX5_refuseOther yX5_refuseOther, Cond.code yX5_refuseOther cX5_refuseOther 3 none, Cond.static yX6_isWithin, Cond.initialized RX6, Cond.code yX6_isWithin cX6_isWithin 3 (some .boolean), Cond.methodLink RX5 108 yX5_isLineEnded, Cond.instanceMethod yX5_isLineEnded, Cond.selects RX5 yX5_isLineEnded yX5_isLineEnded, Cond.code yX5_isLineEnded cX5_isLineEnded 2 (some .boolean)]
def wsX5_readTrade_r3 : List Cond := [Cond.instanceMethod yX0_addToPlan, Cond.initialized RX0, Cond.selects RX0 yX0_addToPlan yX0_addToPlan, Cond.code yX0_addToPlan cX0_addToPlan 5 (some .boolean), Cond.fieldLink RX0 18 "FeatherShares$Flock" "trades" "I", Cond.fieldLink RX0 40 "FeatherShares$Flock" "planBuyer" "[I", Cond.fieldLink RX0 43 "FeatherShares$Flock" "planSeller" "[I", Cond.fieldLink RX0 46 "FeatherShares$Flock" "planGoose" "[I", Cond.fieldLink RX0 49 "FeatherShares$Flock" "planAmount" "[I"]
def wsX5_readTrade : List Cond := .code yX5_readTrade cX5_readTrade 6 none :: ((wsX5_readTrade_r1 ++ (wsX5_readTrade_r2 ++ wsX5_readTrade_r3)) ++ wsX50 ++ wsX00 ++ wsX40)
def wsX5_readLine_r1 : List Cond := [Cond.fieldLink RX5 22 "FeatherShares$TextReader" "faultFound" "I", Cond.instanceMethod yX4_nextToken, Cond.initialized RX4, Cond.selects RX4 yX4_nextToken yX4_nextToken, Cond.code yX4_nextToken cX4_nextToken 1 none, Cond.fieldLink RX4 19 "FeatherShares$Tape" "place" "I", Cond.fieldLink RX4 15 "FeatherShares$Tape" "length" "I", Cond.fieldLink RX4 9 "FeatherShares$Tape" "bytes" "[I", Cond.fieldLink RX4 22 "FeatherShares$Tape" "tokenStart" "I", Cond.fieldLink RX4 25 "FeatherShares$Tape" "token" "I", Cond.methodLink RX4 31 yX4_isLetter, Cond.static yX4_isLetter, Cond.code yX4_isLetter cX4_isLetter 1 (some .boolean), Cond.methodLink RX4 35 yX4_takeName, Cond.instanceMethod yX4_takeName, Cond.selects RX4 yX4_takeName yX4_takeName, Cond.code yX4_takeName cX4_takeName 1 none, Cond.methodLink RX4 38 yX4_isFigure, Cond.static yX4_isFigure, Cond.code yX4_isFigure cX4_isFigure 1 (some .boolean), Cond.methodLink RX4 41 yX4_takeNumber, Cond.instanceMethod yX4_takeNumber, Cond.selects RX4 yX4_takeNumber yX4_takeNumber, Cond.code yX4_takeNumber cX4_takeNumber 1 none]
def wsX5_readLine_r2 : List Cond := [Cond.fieldLink RX4 28 "FeatherShares$Tape" "value" "I", Cond.methodLink RX5 55 yX5_refuse, Cond.instanceMethod yX5_refuse, Cond.selects RX5 yX5_refuse yX5_refuse, Cond.initialized RX5, Cond.code yX5_refuse cX5_refuse 3 none, Cond.fieldLink RX5 25 "FeatherShares$TextReader" "faultPlace" "I", Cond.methodLink RX5 68 yX5_lineNamed, Cond.static yX5_lineNamed, Cond.code yX5_lineNamed cX5_lineNamed 1 (some .int), Cond.instanceMethod yX4_spells, Cond.selects RX4 yX4_spells yX4_spells, Cond.code yX4_spells cX4_spells 3 (some .boolean), Cond.methodLink RX4 44 yJ0_length_8abf5, Cond.instanceMethod yJ0_length_8abf5, Cond.selects RJ0 yJ0_length_8abf5 yJ0_length_8abf5, Cond.initialized RJ0, Cond.code yJ0_length_8abf5 cJ0_length_8abf5 1 (some .int), Cond.fieldLink RJ0 9 "java/lang/String" "value" "[B", Cond.methodLink RJ0 335 yJ0_coder_7d493, Cond.instanceMethod yJ0_coder_7d493, Cond.selects RJ0 yJ0_coder_7d493 yJ0_coder_7d493, Cond.code yJ0_coder_7d493 cJ0_coder_7d493 1 (some .byte), Cond.fieldLink RJ0 38 "java/lang/String" "COMPACT_STRINGS" "Z"]
def wsX5_readLine_r3 : List Cond := [Cond.fieldLink RJ0 15 "java/lang/String" "coder" "B", Cond.methodLink RX4 49 yJ0_charAt_5068e, Cond.instanceMethod yJ0_charAt_5068e, Cond.selects RJ0 yJ0_charAt_5068e yJ0_charAt_5068e, Cond.code yJ0_charAt_5068e cJ0_charAt_5068e 2 (some .char), Cond.methodLink RJ0 492 yJ0_isLatin1_aae02, Cond.instanceMethod yJ0_isLatin1_aae02, Cond.selects RJ0 yJ0_isLatin1_aae02 yJ0_isLatin1_aae02, Cond.code yJ0_isLatin1_aae02 cJ0_isLatin1_aae02 1 (some .boolean), Cond.methodLink RJ0 495 yJ1_charAt_3b067, Cond.static yJ1_charAt_3b067, Cond.initialized RJ1, Cond.code yJ1_charAt_3b067 cJ1_charAt_3b067 2 (some .char), Cond.methodLink RJ1 9 yJ0_checkIndex_df160, Cond.static yJ0_checkIndex_df160, Cond.code yJ0_checkIndex_df160 cJ0_checkIndex_df160 2 none, Cond.fieldLink RJ0 1053 "jdk/internal/util/Preconditions" "SIOOBE_FORMATTER" "Ljava/util/function/BiFunction;", Cond.methodLink RJ0 1059 yJ3_checkIndex_8e157, Cond.static yJ3_checkIndex_8e157, Cond.initialized RJ3, Cond.code yJ3_checkIndex_8e157 cJ3_checkIndex_8e157 3 (some .int), Cond.methodLink RJ0 498 yJ2_charAt_3b067, Cond.static yJ2_charAt_3b067, Cond.initialized RJ2]
def wsX5_readLine_r4 : List Cond := [Cond.code yJ2_charAt_3b067 cJ2_charAt_3b067 2 (some .char), Cond.methodLink RJ2 67 yJ2_checkIndex_2214a, Cond.static yJ2_checkIndex_2214a, Cond.code yJ2_checkIndex_2214a cJ2_checkIndex_2214a 2 none, Cond.methodLink RJ2 48 yJ2_length_9d52b, Cond.static yJ2_length_9d52b, Cond.code yJ2_length_9d52b cJ2_length_9d52b 1 (some .int), Cond.methodLink RJ2 414 yJ0_checkIndex_df160, Cond.methodLink RJ2 71 yJ2_getChar_3b067, Cond.static yJ2_getChar_3b067, Cond.code yJ2_getChar_3b067 cJ2_getChar_3b067 2 (some .char), Cond.fieldLink RJ2 44 "java/lang/StringUTF16" "$assertionsDisabled" "Z", Cond.fieldLink RJ2 59 "java/lang/StringUTF16" "HI_BYTE_SHIFT" "I", Cond.fieldLink RJ2 63 "java/lang/StringUTF16" "LO_BYTE_SHIFT" "I", Cond.methodLink RX5 72 yX5_readGoose, Cond.instanceMethod yX5_readGoose, Cond.selects RX5 yX5_readGoose yX5_readGoose, Cond.code yX5_readGoose cX5_readGoose 5 none, Cond.fieldLink RX5 12 "FeatherShares$TextReader" "draft" "LFeatherShares$Flock;", Cond.methodLink RX5 104 yX5_nextNumber, Cond.instanceMethod yX5_nextNumber, Cond.selects RX5 yX5_nextNumber yX5_nextNumber, Cond.code yX5_nextNumber cX5_nextNumber 4 (some .int), Cond.methodLink RX5 128 yX5_refuseOther]
def wsX5_readLine_r5 : List Cond := [Cond.instanceMethod yX5_refuseOther, Cond.selects RX5 yX5_refuseOther yX5_refuseOther, Cond.code yX5_refuseOther cX5_refuseOther 3 none, Cond.static yX6_isWithin, Cond.initialized RX6, Cond.code yX6_isWithin cX6_isWithin 3 (some .boolean), Cond.methodLink RX5 108 yX5_isLineEnded, Cond.instanceMethod yX5_isLineEnded, Cond.selects RX5 yX5_isLineEnded yX5_isLineEnded, Cond.code yX5_isLineEnded cX5_isLineEnded 2 (some .boolean), Cond.instanceMethod yX0_addGoose, Cond.initialized RX0, Cond.selects RX0 yX0_addGoose yX0_addGoose, Cond.code yX0_addGoose cX0_addGoose 4 none, Cond.fieldLink RX0 9 "FeatherShares$Flock" "geese" "I", Cond.fieldLink RX0 21 "FeatherShares$Flock" "kind" "[I", Cond.fieldLink RX0 25 "FeatherShares$Flock" "skin" "[I", Cond.fieldLink RX0 28 "FeatherShares$Flock" "price" "[I", Cond.methodLink RX5 76 yX5_readShare, Cond.instanceMethod yX5_readShare, Cond.selects RX5 yX5_readShare yX5_readShare, Cond.code yX5_readShare cX5_readShare 6 none, Cond.fieldLink RX5 28 "FeatherShares$TextReader" "toldShares" "I", Cond.fieldLink RX5 34 "FeatherShares$TextReader" "namedGeese" "I"]
def wsX5_readLine_r6 : List Cond := [Cond.methodLink RX5 80 yX5_readMoney, Cond.instanceMethod yX5_readMoney, Cond.selects RX5 yX5_readMoney yX5_readMoney, Cond.code yX5_readMoney cX5_readMoney 4 none, Cond.fieldLink RX5 31 "FeatherShares$TextReader" "toldMoney" "I", Cond.methodLink RX5 83 yX5_readTrade, Cond.instanceMethod yX5_readTrade, Cond.selects RX5 yX5_readTrade yX5_readTrade, Cond.code yX5_readTrade cX5_readTrade 6 none, Cond.instanceMethod yX0_addToPlan, Cond.selects RX0 yX0_addToPlan yX0_addToPlan, Cond.code yX0_addToPlan cX0_addToPlan 5 (some .boolean), Cond.fieldLink RX0 18 "FeatherShares$Flock" "trades" "I", Cond.fieldLink RX0 40 "FeatherShares$Flock" "planBuyer" "[I", Cond.fieldLink RX0 43 "FeatherShares$Flock" "planSeller" "[I", Cond.fieldLink RX0 46 "FeatherShares$Flock" "planGoose" "[I", Cond.fieldLink RX0 49 "FeatherShares$Flock" "planAmount" "[I"]
def wsX5_readLine : List Cond := .code yX5_readLine cX5_readLine 2 (some .boolean) :: ((wsX5_readLine_r1 ++ (wsX5_readLine_r2 ++ (wsX5_readLine_r3 ++ (wsX5_readLine_r4 ++ (wsX5_readLine_r5 ++ wsX5_readLine_r6))))) ++ wsX40 ++ wsX50 ++ wsX00)
def wsX5_readAll_r1 : List Cond := [Cond.fieldLink RX5 12 "FeatherShares$TextReader" "draft" "LFeatherShares$Flock;", Cond.fieldLink RX5 18 "FeatherShares$TextReader" "lines" "I", Cond.fieldLink RX5 22 "FeatherShares$TextReader" "faultFound" "I", Cond.fieldLink RX5 25 "FeatherShares$TextReader" "faultPlace" "I", Cond.fieldLink RX5 28 "FeatherShares$TextReader" "toldShares" "I", Cond.fieldLink RX5 31 "FeatherShares$TextReader" "toldMoney" "I", Cond.fieldLink RX5 34 "FeatherShares$TextReader" "namedGeese" "I", Cond.instanceMethod yX0_clear, Cond.initialized RX0, Cond.selects RX0 yX0_clear yX0_clear, Cond.code yX0_clear cX0_clear 1 none, Cond.fieldLink RX0 9 "FeatherShares$Flock" "geese" "I", Cond.fieldLink RX0 15 "FeatherShares$Flock" "week" "I", Cond.fieldLink RX0 18 "FeatherShares$Flock" "trades" "I", Cond.fieldLink RX0 31 "FeatherShares$Flock" "feathers" "[I", Cond.fieldLink RX0 34 "FeatherShares$Flock" "money" "[I", Cond.fieldLink RX0 37 "FeatherShares$Flock" "eggsHad" "[I", Cond.methodLink RX0 52 yJ7_fill_53178, Cond.static yJ7_fill_53178, Cond.initialized RJ7, Cond.code yJ7_fill_53178 cJ7_fill_53178 4 none, Cond.instanceMethod yX4_rewind, Cond.initialized RX4, Cond.selects RX4 yX4_rewind yX4_rewind]
def wsX5_readAll_r2 : List Cond := [Cond.code yX4_rewind cX4_rewind 1 none, Cond.fieldLink RX4 19 "FeatherShares$Tape" "place" "I", Cond.fieldLink RX4 22 "FeatherShares$Tape" "tokenStart" "I", Cond.fieldLink RX4 25 "FeatherShares$Tape" "token" "I", Cond.methodLink RX5 45 yX5_readLine, Cond.instanceMethod yX5_readLine, Cond.selects RX5 yX5_readLine yX5_readLine, Cond.initialized RX5, Cond.code yX5_readLine cX5_readLine 2 (some .boolean), Cond.instanceMethod yX4_nextToken, Cond.selects RX4 yX4_nextToken yX4_nextToken, Cond.code yX4_nextToken cX4_nextToken 1 none, Cond.fieldLink RX4 15 "FeatherShares$Tape" "length" "I", Cond.fieldLink RX4 9 "FeatherShares$Tape" "bytes" "[I", Cond.methodLink RX4 31 yX4_isLetter, Cond.static yX4_isLetter, Cond.code yX4_isLetter cX4_isLetter 1 (some .boolean), Cond.methodLink RX4 35 yX4_takeName, Cond.instanceMethod yX4_takeName, Cond.selects RX4 yX4_takeName yX4_takeName, Cond.code yX4_takeName cX4_takeName 1 none, Cond.methodLink RX4 38 yX4_isFigure, Cond.static yX4_isFigure, Cond.code yX4_isFigure cX4_isFigure 1 (some .boolean)]
def wsX5_readAll_r3 : List Cond := [Cond.methodLink RX4 41 yX4_takeNumber, Cond.instanceMethod yX4_takeNumber, Cond.selects RX4 yX4_takeNumber yX4_takeNumber, Cond.code yX4_takeNumber cX4_takeNumber 1 none, Cond.fieldLink RX4 28 "FeatherShares$Tape" "value" "I", Cond.methodLink RX5 55 yX5_refuse, Cond.instanceMethod yX5_refuse, Cond.selects RX5 yX5_refuse yX5_refuse, Cond.code yX5_refuse cX5_refuse 3 none, Cond.methodLink RX5 68 yX5_lineNamed, Cond.static yX5_lineNamed, Cond.code yX5_lineNamed cX5_lineNamed 1 (some .int), Cond.instanceMethod yX4_spells, Cond.selects RX4 yX4_spells yX4_spells, Cond.code yX4_spells cX4_spells 3 (some .boolean), Cond.methodLink RX4 44 yJ0_length_8abf5, Cond.instanceMethod yJ0_length_8abf5, Cond.selects RJ0 yJ0_length_8abf5 yJ0_length_8abf5, Cond.initialized RJ0, Cond.code yJ0_length_8abf5 cJ0_length_8abf5 1 (some .int), Cond.fieldLink RJ0 9 "java/lang/String" "value" "[B", Cond.methodLink RJ0 335 yJ0_coder_7d493, Cond.instanceMethod yJ0_coder_7d493, Cond.selects RJ0 yJ0_coder_7d493 yJ0_coder_7d493]
def wsX5_readAll_r4 : List Cond := [Cond.code yJ0_coder_7d493 cJ0_coder_7d493 1 (some .byte), Cond.fieldLink RJ0 38 "java/lang/String" "COMPACT_STRINGS" "Z", Cond.fieldLink RJ0 15 "java/lang/String" "coder" "B", Cond.methodLink RX4 49 yJ0_charAt_5068e, Cond.instanceMethod yJ0_charAt_5068e, Cond.selects RJ0 yJ0_charAt_5068e yJ0_charAt_5068e, Cond.code yJ0_charAt_5068e cJ0_charAt_5068e 2 (some .char), Cond.methodLink RJ0 492 yJ0_isLatin1_aae02, Cond.instanceMethod yJ0_isLatin1_aae02, Cond.selects RJ0 yJ0_isLatin1_aae02 yJ0_isLatin1_aae02, Cond.code yJ0_isLatin1_aae02 cJ0_isLatin1_aae02 1 (some .boolean), Cond.methodLink RJ0 495 yJ1_charAt_3b067, Cond.static yJ1_charAt_3b067, Cond.initialized RJ1, Cond.code yJ1_charAt_3b067 cJ1_charAt_3b067 2 (some .char), Cond.methodLink RJ1 9 yJ0_checkIndex_df160, Cond.static yJ0_checkIndex_df160, Cond.code yJ0_checkIndex_df160 cJ0_checkIndex_df160 2 none, Cond.fieldLink RJ0 1053 "jdk/internal/util/Preconditions" "SIOOBE_FORMATTER" "Ljava/util/function/BiFunction;", Cond.methodLink RJ0 1059 yJ3_checkIndex_8e157, Cond.static yJ3_checkIndex_8e157, Cond.initialized RJ3, Cond.code yJ3_checkIndex_8e157 cJ3_checkIndex_8e157 3 (some .int), Cond.methodLink RJ0 498 yJ2_charAt_3b067]
def wsX5_readAll_r5 : List Cond := [Cond.static yJ2_charAt_3b067, Cond.initialized RJ2, Cond.code yJ2_charAt_3b067 cJ2_charAt_3b067 2 (some .char), Cond.methodLink RJ2 67 yJ2_checkIndex_2214a, Cond.static yJ2_checkIndex_2214a, Cond.code yJ2_checkIndex_2214a cJ2_checkIndex_2214a 2 none, Cond.methodLink RJ2 48 yJ2_length_9d52b, Cond.static yJ2_length_9d52b, Cond.code yJ2_length_9d52b cJ2_length_9d52b 1 (some .int), Cond.methodLink RJ2 414 yJ0_checkIndex_df160, Cond.methodLink RJ2 71 yJ2_getChar_3b067, Cond.static yJ2_getChar_3b067, Cond.code yJ2_getChar_3b067 cJ2_getChar_3b067 2 (some .char), Cond.fieldLink RJ2 44 "java/lang/StringUTF16" "$assertionsDisabled" "Z", Cond.fieldLink RJ2 59 "java/lang/StringUTF16" "HI_BYTE_SHIFT" "I", Cond.fieldLink RJ2 63 "java/lang/StringUTF16" "LO_BYTE_SHIFT" "I", Cond.methodLink RX5 72 yX5_readGoose, Cond.instanceMethod yX5_readGoose, Cond.selects RX5 yX5_readGoose yX5_readGoose, Cond.code yX5_readGoose cX5_readGoose 5 none, Cond.methodLink RX5 104 yX5_nextNumber, Cond.instanceMethod yX5_nextNumber, Cond.selects RX5 yX5_nextNumber yX5_nextNumber, Cond.code yX5_nextNumber cX5_nextNumber 4 (some .int)]
def wsX5_readAll_r6 : List Cond := [Cond.methodLink RX5 128 yX5_refuseOther, Cond.instanceMethod yX5_refuseOther, Cond.selects RX5 yX5_refuseOther yX5_refuseOther, Cond.code yX5_refuseOther cX5_refuseOther 3 none, Cond.static yX6_isWithin, Cond.initialized RX6, Cond.code yX6_isWithin cX6_isWithin 3 (some .boolean), Cond.methodLink RX5 108 yX5_isLineEnded, Cond.instanceMethod yX5_isLineEnded, Cond.selects RX5 yX5_isLineEnded yX5_isLineEnded, Cond.code yX5_isLineEnded cX5_isLineEnded 2 (some .boolean), Cond.instanceMethod yX0_addGoose, Cond.selects RX0 yX0_addGoose yX0_addGoose, Cond.code yX0_addGoose cX0_addGoose 4 none, Cond.fieldLink RX0 21 "FeatherShares$Flock" "kind" "[I", Cond.fieldLink RX0 25 "FeatherShares$Flock" "skin" "[I", Cond.fieldLink RX0 28 "FeatherShares$Flock" "price" "[I", Cond.methodLink RX5 76 yX5_readShare, Cond.instanceMethod yX5_readShare, Cond.selects RX5 yX5_readShare yX5_readShare, Cond.code yX5_readShare cX5_readShare 6 none, Cond.methodLink RX5 80 yX5_readMoney, Cond.instanceMethod yX5_readMoney, Cond.selects RX5 yX5_readMoney yX5_readMoney]
def wsX5_readAll_r7 : List Cond := [Cond.code yX5_readMoney cX5_readMoney 4 none, Cond.methodLink RX5 83 yX5_readTrade, Cond.instanceMethod yX5_readTrade, Cond.selects RX5 yX5_readTrade yX5_readTrade, Cond.code yX5_readTrade cX5_readTrade 6 none, Cond.instanceMethod yX0_addToPlan, Cond.selects RX0 yX0_addToPlan yX0_addToPlan, Cond.code yX0_addToPlan cX0_addToPlan 5 (some .boolean), Cond.fieldLink RX0 40 "FeatherShares$Flock" "planBuyer" "[I", Cond.fieldLink RX0 43 "FeatherShares$Flock" "planSeller" "[I", Cond.fieldLink RX0 46 "FeatherShares$Flock" "planGoose" "[I", Cond.fieldLink RX0 49 "FeatherShares$Flock" "planAmount" "[I"]
def wsX5_readAll : List Cond := .code yX5_readAll cX5_readAll 2 none :: ((wsX5_readAll_r1 ++ (wsX5_readAll_r2 ++ (wsX5_readAll_r3 ++ (wsX5_readAll_r4 ++ (wsX5_readAll_r5 ++ (wsX5_readAll_r6 ++ wsX5_readAll_r7)))))) ++ wsX50 ++ wsX00 ++ wsX40)
def wsX6_init_r1 : List Cond := [Cond.methodLink RX6 3 objectInit, Cond.instanceMethod objectInit, Cond.code objectInit ⟨#[0xb1]⟩ 1 none, Cond.classLink RX6 9 RX0, Cond.instantiable RX0 13, Cond.initialized RX0, Cond.fieldLink RX6 12 "FeatherShares" "now" "LFeatherShares$Flock;", Cond.fieldLink RX6 16 "FeatherShares" "trial" "LFeatherShares$Flock;", Cond.fieldLink RX6 19 "FeatherShares" "images" "[LFeatherShares$Flock;", Cond.fieldLink RX6 23 "FeatherShares" "keptImages" "I", Cond.classLink RX6 27 RX4, Cond.instantiable RX4 6, Cond.initialized RX4, Cond.fieldLink RX6 30 "FeatherShares" "tape" "LFeatherShares$Tape;", Cond.classLink RX6 34 RX5, Cond.instantiable RX5 7, Cond.initialized RX5, Cond.fieldLink RX6 37 "FeatherShares" "reader" "LFeatherShares$TextReader;", Cond.classLink RX6 41 RX3, Cond.instantiable RX3 5, Cond.initialized RX3, Cond.fieldLink RX6 44 "FeatherShares" "sightings" "LFeatherShares$Sightings;", Cond.arrayClass .int, Cond.fieldLink RX6 48 "FeatherShares" "laterByKind" "[I"]
def wsX6_init_r2 : List Cond := [Cond.classLink RX6 52 RX1, Cond.instantiable RX1 9, Cond.initialized RX1, Cond.fieldLink RX6 55 "FeatherShares" "rowSearch" "LFeatherShares$RowSearch;", Cond.classLink RX6 59 RX2, Cond.fieldLink RX6 61 "FeatherShares" "sheets" "[LFeatherShares$Sheet;", Cond.fieldLink RX6 65 "FeatherShares" "faultOfRead" "I", Cond.instantiable RX2 4, Cond.initialized RX2, Cond.instanceMethod yX0_init, Cond.code yX0_init cX0_init 1 none, Cond.methodLink RX0 3 objectInit, Cond.fieldLink RX0 9 "FeatherShares$Flock" "geese" "I", Cond.fieldLink RX0 15 "FeatherShares$Flock" "week" "I", Cond.fieldLink RX0 18 "FeatherShares$Flock" "trades" "I", Cond.fieldLink RX0 21 "FeatherShares$Flock" "kind" "[I", Cond.fieldLink RX0 25 "FeatherShares$Flock" "skin" "[I", Cond.fieldLink RX0 28 "FeatherShares$Flock" "price" "[I", Cond.fieldLink RX0 31 "FeatherShares$Flock" "feathers" "[I", Cond.fieldLink RX0 34 "FeatherShares$Flock" "money" "[I", Cond.fieldLink RX0 37 "FeatherShares$Flock" "eggsHad" "[I", Cond.fieldLink RX0 40 "FeatherShares$Flock" "planBuyer" "[I", Cond.fieldLink RX0 43 "FeatherShares$Flock" "planSeller" "[I", Cond.fieldLink RX0 46 "FeatherShares$Flock" "planGoose" "[I"]
def wsX6_init_r3 : List Cond := [Cond.fieldLink RX0 49 "FeatherShares$Flock" "planAmount" "[I", Cond.methodLink RX0 52 yJ7_fill_53178, Cond.static yJ7_fill_53178, Cond.initialized RJ7, Cond.code yJ7_fill_53178 cJ7_fill_53178 4 none, Cond.instanceMethod yX4_init, Cond.code yX4_init cX4_init 1 none, Cond.methodLink RX4 3 objectInit, Cond.fieldLink RX4 9 "FeatherShares$Tape" "bytes" "[I", Cond.fieldLink RX4 15 "FeatherShares$Tape" "length" "I", Cond.fieldLink RX4 19 "FeatherShares$Tape" "place" "I", Cond.fieldLink RX4 22 "FeatherShares$Tape" "tokenStart" "I", Cond.fieldLink RX4 25 "FeatherShares$Tape" "token" "I", Cond.fieldLink RX4 28 "FeatherShares$Tape" "value" "I", Cond.instanceMethod yX5_init, Cond.code yX5_init cX5_init 1 none, Cond.methodLink RX5 3 objectInit, Cond.classLink RX5 9 RX0, Cond.fieldLink RX5 12 "FeatherShares$TextReader" "draft" "LFeatherShares$Flock;", Cond.fieldLink RX5 18 "FeatherShares$TextReader" "lines" "I", Cond.fieldLink RX5 22 "FeatherShares$TextReader" "faultFound" "I", Cond.fieldLink RX5 25 "FeatherShares$TextReader" "faultPlace" "I", Cond.fieldLink RX5 28 "FeatherShares$TextReader" "toldShares" "I", Cond.fieldLink RX5 31 "FeatherShares$TextReader" "toldMoney" "I"]
def wsX6_init_r4 : List Cond := [Cond.fieldLink RX5 34 "FeatherShares$TextReader" "namedGeese" "I", Cond.instanceMethod yX3_init, Cond.code yX3_init cX3_init 1 none, Cond.methodLink RX3 3 objectInit, Cond.fieldLink RX3 9 "FeatherShares$Sightings" "size" "I", Cond.fieldLink RX3 15 "FeatherShares$Sightings" "ofGoose" "[I", Cond.fieldLink RX3 19 "FeatherShares$Sightings" "ofOwner" "[I", Cond.fieldLink RX3 22 "FeatherShares$Sightings" "behindWeeks" "[I", Cond.fieldLink RX3 25 "FeatherShares$Sightings" "feathersSeen" "[I", Cond.instanceMethod yX1_init, Cond.code yX1_init cX1_init 1 none, Cond.methodLink RX1 3 objectInit, Cond.classLink RX1 9 RX0, Cond.fieldLink RX1 12 "FeatherShares$RowSearch" "flock" "LFeatherShares$Flock;", Cond.fieldLink RX1 18 "FeatherShares$RowSearch" "codes" "[I", Cond.fieldLink RX1 22 "FeatherShares$RowSearch" "codeCount" "I", Cond.fieldLink RX1 26 "FeatherShares$RowSearch" "buyer" "I", Cond.fieldLink RX1 29 "FeatherShares$RowSearch" "bestGeese" "I", Cond.fieldLink RX1 32 "FeatherShares$RowSearch" "bestMoney" "I", Cond.fieldLink RX1 35 "FeatherShares$RowSearch" "bestLength" "I", Cond.fieldLink RX1 38 "FeatherShares$RowSearch" "bestFirst" "I", Cond.fieldLink RX1 41 "FeatherShares$RowSearch" "bestSecond" "I", Cond.instanceMethod yX2_init, Cond.code yX2_init cX2_init 1 none]
def wsX6_init_r5 : List Cond := [Cond.methodLink RX2 3 objectInit, Cond.fieldLink RX2 9 "FeatherShares$Sheet" "cells" "[I", Cond.fieldLink RX2 15 "FeatherShares$Sheet" "isNothing" "Z", Cond.fieldLink RX2 19 "FeatherShares$Sheet" "lane" "I", Cond.fieldLink RX2 23 "FeatherShares$Sheet" "size" "I"]
def wsX6_init : List Cond := .code yX6_init cX6_init 2 none :: ((wsX6_init_r1 ++ (wsX6_init_r2 ++ (wsX6_init_r3 ++ (wsX6_init_r4 ++ wsX6_init_r5)))) ++ wsX00 ++ wsX60 ++ wsX40 ++ wsX50 ++ wsX30 ++ wsX10 ++ wsX20)
def wsX6_feed : List Cond := .code yX6_feed cX6_feed 2 (some .int) :: ([.fieldLink RX6 30 "FeatherShares" "tape" "LFeatherShares$Tape;", .methodLink RX6 69 yX6_isWithin, .static yX6_isWithin, .initialized RX6, .code yX6_isWithin cX6_isWithin 3 (some .boolean), .instanceMethod yX4_append, .initialized RX4, .selects RX4 yX4_append yX4_append, .code yX4_append cX4_append 2 (some .boolean), .fieldLink RX4 15 "FeatherShares$Tape" "length" "I", .fieldLink RX4 9 "FeatherShares$Tape" "bytes" "[I"] ++ wsX60 ++ wsX40)
def wsX6_end : List Cond := .code yX6_end cX6_end 3 (some .int) :: ([.fieldLink RX6 30 "FeatherShares" "tape" "LFeatherShares$Tape;", .methodLink RX6 69 yX6_isWithin, .static yX6_isWithin, .initialized RX6, .code yX6_isWithin cX6_isWithin 3 (some .boolean)] ++ wsX60 ++ wsX40)
def wsX6_text_r1 : List Cond := [Cond.fieldLink RX6 37 "FeatherShares" "reader" "LFeatherShares$TextReader;", Cond.fieldLink RX6 30 "FeatherShares" "tape" "LFeatherShares$Tape;", Cond.fieldLink RX6 12 "FeatherShares" "now" "LFeatherShares$Flock;", Cond.fieldLink RX6 44 "FeatherShares" "sightings" "LFeatherShares$Sightings;", Cond.fieldLink RX6 23 "FeatherShares" "keptImages" "I", Cond.instanceMethod yX5_readAll, Cond.initialized RX5, Cond.selects RX5 yX5_readAll yX5_readAll, Cond.code yX5_readAll cX5_readAll 2 none, Cond.fieldLink RX5 12 "FeatherShares$TextReader" "draft" "LFeatherShares$Flock;", Cond.fieldLink RX5 18 "FeatherShares$TextReader" "lines" "I", Cond.fieldLink RX5 22 "FeatherShares$TextReader" "faultFound" "I", Cond.fieldLink RX5 25 "FeatherShares$TextReader" "faultPlace" "I", Cond.fieldLink RX5 28 "FeatherShares$TextReader" "toldShares" "I", Cond.fieldLink RX5 31 "FeatherShares$TextReader" "toldMoney" "I", Cond.fieldLink RX5 34 "FeatherShares$TextReader" "namedGeese" "I", Cond.instanceMethod yX0_clear, Cond.initialized RX0, Cond.selects RX0 yX0_clear yX0_clear, Cond.code yX0_clear cX0_clear 1 none, Cond.fieldLink RX0 9 "FeatherShares$Flock" "geese" "I", Cond.fieldLink RX0 15 "FeatherShares$Flock" "week" "I", Cond.fieldLink RX0 18 "FeatherShares$Flock" "trades" "I", Cond.fieldLink RX0 31 "FeatherShares$Flock" "feathers" "[I"]
def wsX6_text_r2 : List Cond := [Cond.fieldLink RX0 34 "FeatherShares$Flock" "money" "[I", Cond.fieldLink RX0 37 "FeatherShares$Flock" "eggsHad" "[I", Cond.methodLink RX0 52 yJ7_fill_53178, Cond.static yJ7_fill_53178, Cond.initialized RJ7, Cond.code yJ7_fill_53178 cJ7_fill_53178 4 none, Cond.instanceMethod yX4_rewind, Cond.initialized RX4, Cond.selects RX4 yX4_rewind yX4_rewind, Cond.code yX4_rewind cX4_rewind 1 none, Cond.fieldLink RX4 19 "FeatherShares$Tape" "place" "I", Cond.fieldLink RX4 22 "FeatherShares$Tape" "tokenStart" "I", Cond.fieldLink RX4 25 "FeatherShares$Tape" "token" "I", Cond.methodLink RX5 45 yX5_readLine, Cond.instanceMethod yX5_readLine, Cond.selects RX5 yX5_readLine yX5_readLine, Cond.code yX5_readLine cX5_readLine 2 (some .boolean), Cond.instanceMethod yX4_nextToken, Cond.selects RX4 yX4_nextToken yX4_nextToken, Cond.code yX4_nextToken cX4_nextToken 1 none, Cond.fieldLink RX4 15 "FeatherShares$Tape" "length" "I", Cond.fieldLink RX4 9 "FeatherShares$Tape" "bytes" "[I", Cond.methodLink RX4 31 yX4_isLetter, Cond.static yX4_isLetter]
def wsX6_text_r3 : List Cond := [Cond.code yX4_isLetter cX4_isLetter 1 (some .boolean), Cond.methodLink RX4 35 yX4_takeName, Cond.instanceMethod yX4_takeName, Cond.selects RX4 yX4_takeName yX4_takeName, Cond.code yX4_takeName cX4_takeName 1 none, Cond.methodLink RX4 38 yX4_isFigure, Cond.static yX4_isFigure, Cond.code yX4_isFigure cX4_isFigure 1 (some .boolean), Cond.methodLink RX4 41 yX4_takeNumber, Cond.instanceMethod yX4_takeNumber, Cond.selects RX4 yX4_takeNumber yX4_takeNumber, Cond.code yX4_takeNumber cX4_takeNumber 1 none, Cond.fieldLink RX4 28 "FeatherShares$Tape" "value" "I", Cond.methodLink RX5 55 yX5_refuse, Cond.instanceMethod yX5_refuse, Cond.selects RX5 yX5_refuse yX5_refuse, Cond.code yX5_refuse cX5_refuse 3 none, Cond.methodLink RX5 68 yX5_lineNamed, Cond.static yX5_lineNamed, Cond.code yX5_lineNamed cX5_lineNamed 1 (some .int), Cond.instanceMethod yX4_spells, Cond.selects RX4 yX4_spells yX4_spells, Cond.code yX4_spells cX4_spells 3 (some .boolean), Cond.methodLink RX4 44 yJ0_length_8abf5]
def wsX6_text_r4 : List Cond := [Cond.instanceMethod yJ0_length_8abf5, Cond.selects RJ0 yJ0_length_8abf5 yJ0_length_8abf5, Cond.initialized RJ0, Cond.code yJ0_length_8abf5 cJ0_length_8abf5 1 (some .int), Cond.fieldLink RJ0 9 "java/lang/String" "value" "[B", Cond.methodLink RJ0 335 yJ0_coder_7d493, Cond.instanceMethod yJ0_coder_7d493, Cond.selects RJ0 yJ0_coder_7d493 yJ0_coder_7d493, Cond.code yJ0_coder_7d493 cJ0_coder_7d493 1 (some .byte), Cond.fieldLink RJ0 38 "java/lang/String" "COMPACT_STRINGS" "Z", Cond.fieldLink RJ0 15 "java/lang/String" "coder" "B", Cond.methodLink RX4 49 yJ0_charAt_5068e, Cond.instanceMethod yJ0_charAt_5068e, Cond.selects RJ0 yJ0_charAt_5068e yJ0_charAt_5068e, Cond.code yJ0_charAt_5068e cJ0_charAt_5068e 2 (some .char), Cond.methodLink RJ0 492 yJ0_isLatin1_aae02, Cond.instanceMethod yJ0_isLatin1_aae02, Cond.selects RJ0 yJ0_isLatin1_aae02 yJ0_isLatin1_aae02, Cond.code yJ0_isLatin1_aae02 cJ0_isLatin1_aae02 1 (some .boolean), Cond.methodLink RJ0 495 yJ1_charAt_3b067, Cond.static yJ1_charAt_3b067, Cond.initialized RJ1, Cond.code yJ1_charAt_3b067 cJ1_charAt_3b067 2 (some .char), Cond.methodLink RJ1 9 yJ0_checkIndex_df160]
def wsX6_text_r5 : List Cond := [Cond.static yJ0_checkIndex_df160, Cond.code yJ0_checkIndex_df160 cJ0_checkIndex_df160 2 none, Cond.fieldLink RJ0 1053 "jdk/internal/util/Preconditions" "SIOOBE_FORMATTER" "Ljava/util/function/BiFunction;", Cond.methodLink RJ0 1059 yJ3_checkIndex_8e157, Cond.static yJ3_checkIndex_8e157, Cond.initialized RJ3, Cond.code yJ3_checkIndex_8e157 cJ3_checkIndex_8e157 3 (some .int), Cond.methodLink RJ0 498 yJ2_charAt_3b067, Cond.static yJ2_charAt_3b067, Cond.initialized RJ2, Cond.code yJ2_charAt_3b067 cJ2_charAt_3b067 2 (some .char), Cond.methodLink RJ2 67 yJ2_checkIndex_2214a, Cond.static yJ2_checkIndex_2214a, Cond.code yJ2_checkIndex_2214a cJ2_checkIndex_2214a 2 none, Cond.methodLink RJ2 48 yJ2_length_9d52b, Cond.static yJ2_length_9d52b, Cond.code yJ2_length_9d52b cJ2_length_9d52b 1 (some .int), Cond.methodLink RJ2 414 yJ0_checkIndex_df160, Cond.methodLink RJ2 71 yJ2_getChar_3b067, Cond.static yJ2_getChar_3b067, Cond.code yJ2_getChar_3b067 cJ2_getChar_3b067 2 (some .char), Cond.fieldLink RJ2 44 "java/lang/StringUTF16" "$assertionsDisabled" "Z", Cond.fieldLink RJ2 59 "java/lang/StringUTF16" "HI_BYTE_SHIFT" "I", Cond.fieldLink RJ2 63 "java/lang/StringUTF16" "LO_BYTE_SHIFT" "I"]
def wsX6_text_r6 : List Cond := [Cond.methodLink RX5 72 yX5_readGoose, Cond.instanceMethod yX5_readGoose, Cond.selects RX5 yX5_readGoose yX5_readGoose, Cond.code yX5_readGoose cX5_readGoose 5 none, Cond.methodLink RX5 104 yX5_nextNumber, Cond.instanceMethod yX5_nextNumber, Cond.selects RX5 yX5_nextNumber yX5_nextNumber, Cond.code yX5_nextNumber cX5_nextNumber 4 (some .int), Cond.methodLink RX5 128 yX5_refuseOther, Cond.instanceMethod yX5_refuseOther, Cond.selects RX5 yX5_refuseOther yX5_refuseOther, Cond.code yX5_refuseOther cX5_refuseOther 3 none, Cond.static yX6_isWithin, Cond.initialized RX6, Cond.code yX6_isWithin cX6_isWithin 3 (some .boolean), Cond.methodLink RX5 108 yX5_isLineEnded, Cond.instanceMethod yX5_isLineEnded, Cond.selects RX5 yX5_isLineEnded yX5_isLineEnded, Cond.code yX5_isLineEnded cX5_isLineEnded 2 (some .boolean), Cond.instanceMethod yX0_addGoose, Cond.selects RX0 yX0_addGoose yX0_addGoose, Cond.code yX0_addGoose cX0_addGoose 4 none, Cond.fieldLink RX0 21 "FeatherShares$Flock" "kind" "[I", Cond.fieldLink RX0 25 "FeatherShares$Flock" "skin" "[I"]
def wsX6_text_r7 : List Cond := [Cond.fieldLink RX0 28 "FeatherShares$Flock" "price" "[I", Cond.methodLink RX5 76 yX5_readShare, Cond.instanceMethod yX5_readShare, Cond.selects RX5 yX5_readShare yX5_readShare, Cond.code yX5_readShare cX5_readShare 6 none, Cond.methodLink RX5 80 yX5_readMoney, Cond.instanceMethod yX5_readMoney, Cond.selects RX5 yX5_readMoney yX5_readMoney, Cond.code yX5_readMoney cX5_readMoney 4 none, Cond.methodLink RX5 83 yX5_readTrade, Cond.instanceMethod yX5_readTrade, Cond.selects RX5 yX5_readTrade yX5_readTrade, Cond.code yX5_readTrade cX5_readTrade 6 none, Cond.instanceMethod yX0_addToPlan, Cond.selects RX0 yX0_addToPlan yX0_addToPlan, Cond.code yX0_addToPlan cX0_addToPlan 5 (some .boolean), Cond.fieldLink RX0 40 "FeatherShares$Flock" "planBuyer" "[I", Cond.fieldLink RX0 43 "FeatherShares$Flock" "planSeller" "[I", Cond.fieldLink RX0 46 "FeatherShares$Flock" "planGoose" "[I", Cond.fieldLink RX0 49 "FeatherShares$Flock" "planAmount" "[I", Cond.instanceMethod yX0_copyFrom, Cond.selects RX0 yX0_copyFrom yX0_copyFrom, Cond.code yX0_copyFrom cX0_copyFrom 2 none, Cond.methodLink RX0 58 arraycopyName]
def wsX6_text_r8 : List Cond := [Cond.native arraycopyName, Cond.static arraycopyName, Cond.initialized "java/lang/System"]
def wsX6_text : List Cond := .code yX6_text cX6_text 1 (some .int) :: ((wsX6_text_r1 ++ (wsX6_text_r2 ++ (wsX6_text_r3 ++ (wsX6_text_r4 ++ (wsX6_text_r5 ++ (wsX6_text_r6 ++ (wsX6_text_r7 ++ wsX6_text_r8))))))) ++ wsX60 ++ wsX40 ++ wsX50 ++ wsX30 ++ wsX00)
def wsX6_fault : List Cond := .code yX6_fault cX6_fault 1 (some .int) :: ([.fieldLink RX6 37 "FeatherShares" "reader" "LFeatherShares$TextReader;"] ++ wsX60 ++ wsX50)
def wsX6_sumOf : List Cond := .code yX6_sumOf cX6_sumOf 6 (some .int) :: ([])
def wsX6_rule : List Cond := .code yX6_rule cX6_rule 2 (some .int) :: ([.fieldLink RX6 12 "FeatherShares" "now" "LFeatherShares$Flock;", .methodLink RX6 115 yX6_sumOf, .static yX6_sumOf, .initialized RX6, .code yX6_sumOf cX6_sumOf 6 (some .int), .instanceMethod yX0_bareGeese, .initialized RX0, .selects RX0 yX0_bareGeese yX0_bareGeese, .code yX0_bareGeese cX0_bareGeese 3 (some .int), .fieldLink RX0 9 "FeatherShares$Flock" "geese" "I", .methodLink RX0 72 yX0_feathersOf, .instanceMethod yX0_feathersOf, .selects RX0 yX0_feathersOf yX0_feathersOf, .code yX0_feathersOf cX0_feathersOf 4 (some .int), .methodLink RX0 68 yX0_held, .instanceMethod yX0_held, .selects RX0 yX0_held yX0_held, .code yX0_held cX0_held 3 (some .int), .fieldLink RX0 31 "FeatherShares$Flock" "feathers" "[I"] ++ wsX60 ++ wsX00)
def wsX6_goose : List Cond := .code yX6_goose cX6_goose 3 (some .int) :: ([.fieldLink RX6 12 "FeatherShares" "now" "LFeatherShares$Flock;", .instanceMethod yX0_hasGoose, .initialized RX0, .selects RX0 yX0_hasGoose yX0_hasGoose, .code yX0_hasGoose cX0_hasGoose 2 (some .boolean), .fieldLink RX0 9 "FeatherShares$Flock" "geese" "I", .static yX6_isWithin, .initialized RX6, .code yX6_isWithin cX6_isWithin 3 (some .boolean), .instanceMethod yX0_feathersOf, .selects RX0 yX0_feathersOf yX0_feathersOf, .code yX0_feathersOf cX0_feathersOf 4 (some .int), .methodLink RX0 68 yX0_held, .instanceMethod yX0_held, .selects RX0 yX0_held yX0_held, .code yX0_held cX0_held 3 (some .int), .fieldLink RX0 31 "FeatherShares$Flock" "feathers" "[I", .instanceMethod yX0_eggOwner, .selects RX0 yX0_eggOwner yX0_eggOwner, .code yX0_eggOwner cX0_eggOwner 4 (some .int), .fieldLink RX0 25 "FeatherShares$Flock" "skin" "[I"] ++ wsX60 ++ wsX00)
def wsX6_owner_r1 : List Cond := [Cond.fieldLink RX6 12 "FeatherShares" "now" "LFeatherShares$Flock;", Cond.methodLink RX6 145 yX6_isOwner, Cond.static yX6_isOwner, Cond.initialized RX6, Cond.code yX6_isOwner cX6_isOwner 1 (some .boolean), Cond.methodLink RX6 69 yX6_isWithin, Cond.static yX6_isWithin, Cond.code yX6_isWithin cX6_isWithin 3 (some .boolean), Cond.instanceMethod yX0_ofOwner, Cond.initialized RX0, Cond.selects RX0 yX0_ofOwner yX0_ofOwner, Cond.code yX0_ofOwner cX0_ofOwner 3 (some .int), Cond.fieldLink RX0 34 "FeatherShares$Flock" "money" "[I", Cond.fieldLink RX0 37 "FeatherShares$Flock" "eggsHad" "[I", Cond.methodLink RX0 79 yX0_worth, Cond.instanceMethod yX0_worth, Cond.selects RX0 yX0_worth yX0_worth, Cond.code yX0_worth cX0_worth 4 (some .int), Cond.fieldLink RX0 9 "FeatherShares$Flock" "geese" "I", Cond.fieldLink RX0 28 "FeatherShares$Flock" "price" "[I", Cond.methodLink RX0 68 yX0_held, Cond.instanceMethod yX0_held, Cond.selects RX0 yX0_held yX0_held, Cond.code yX0_held cX0_held 3 (some .int)]
def wsX6_owner_r2 : List Cond := [Cond.fieldLink RX0 31 "FeatherShares$Flock" "feathers" "[I", Cond.methodLink RX0 82 yX0_geeseWithEggOf, Cond.instanceMethod yX0_geeseWithEggOf, Cond.selects RX0 yX0_geeseWithEggOf yX0_geeseWithEggOf, Cond.code yX0_geeseWithEggOf cX0_geeseWithEggOf 4 (some .int), Cond.methodLink RX0 76 yX0_eggOwner, Cond.instanceMethod yX0_eggOwner, Cond.selects RX0 yX0_eggOwner yX0_eggOwner, Cond.code yX0_eggOwner cX0_eggOwner 4 (some .int), Cond.fieldLink RX0 25 "FeatherShares$Flock" "skin" "[I"]
def wsX6_owner : List Cond := .code yX6_owner cX6_owner 3 (some .int) :: ((wsX6_owner_r1 ++ wsX6_owner_r2) ++ wsX60 ++ wsX00)
def wsX6_share : List Cond := .code yX6_share cX6_share 3 (some .int) :: ([.fieldLink RX6 12 "FeatherShares" "now" "LFeatherShares$Flock;", .instanceMethod yX0_hasGoose, .initialized RX0, .selects RX0 yX0_hasGoose yX0_hasGoose, .code yX0_hasGoose cX0_hasGoose 2 (some .boolean), .fieldLink RX0 9 "FeatherShares$Flock" "geese" "I", .static yX6_isWithin, .initialized RX6, .code yX6_isWithin cX6_isWithin 3 (some .boolean), .methodLink RX6 145 yX6_isOwner, .static yX6_isOwner, .code yX6_isOwner cX6_isOwner 1 (some .boolean), .methodLink RX6 69 yX6_isWithin, .instanceMethod yX0_held, .selects RX0 yX0_held yX0_held, .code yX0_held cX0_held 3 (some .int), .fieldLink RX0 31 "FeatherShares$Flock" "feathers" "[I"] ++ wsX60 ++ wsX00)
def wsX6_trade : List Cond := .code yX6_trade cX6_trade 3 (some .int) :: ([.fieldLink RX6 12 "FeatherShares" "now" "LFeatherShares$Flock;", .methodLink RX6 69 yX6_isWithin, .static yX6_isWithin, .initialized RX6, .code yX6_isWithin cX6_isWithin 3 (some .boolean)] ++ wsX60 ++ wsX00)
def wsX6_replaced : List Cond := .code yX6_replaced cX6_replaced 4 (some .int) :: ([.methodLink RX6 69 yX6_isWithin, .static yX6_isWithin, .initialized RX6, .code yX6_isWithin cX6_isWithin 3 (some .boolean)])
def wsX6_alter : List Cond := .code yX6_alter cX6_alter 4 (some .int) :: ([.fieldLink RX6 12 "FeatherShares" "now" "LFeatherShares$Flock;", .instanceMethod yX0_hasGoose, .initialized RX0, .selects RX0 yX0_hasGoose yX0_hasGoose, .code yX0_hasGoose cX0_hasGoose 2 (some .boolean), .fieldLink RX0 9 "FeatherShares$Flock" "geese" "I", .static yX6_isWithin, .initialized RX6, .code yX6_isWithin cX6_isWithin 3 (some .boolean), .methodLink RX6 69 yX6_isWithin, .methodLink RX6 167 yX6_replaced, .static yX6_replaced, .code yX6_replaced cX6_replaced 4 (some .int), .methodLink RX6 145 yX6_isOwner, .static yX6_isOwner, .code yX6_isOwner cX6_isOwner 1 (some .boolean)] ++ wsX60 ++ wsX00)
def wsX6_purse : List Cond := .code yX6_purse cX6_purse 3 (some .int) :: ([.fieldLink RX6 12 "FeatherShares" "now" "LFeatherShares$Flock;", .methodLink RX6 145 yX6_isOwner, .static yX6_isOwner, .initialized RX6, .code yX6_isOwner cX6_isOwner 1 (some .boolean), .methodLink RX6 69 yX6_isWithin, .static yX6_isWithin, .code yX6_isWithin cX6_isWithin 3 (some .boolean), .methodLink RX6 167 yX6_replaced, .static yX6_replaced, .code yX6_replaced cX6_replaced 4 (some .int)] ++ wsX60 ++ wsX00)
def wsX6_grant : List Cond := .code yX6_grant cX6_grant 4 (some .int) :: ([.fieldLink RX6 12 "FeatherShares" "now" "LFeatherShares$Flock;", .instanceMethod yX0_hasGoose, .initialized RX0, .selects RX0 yX0_hasGoose yX0_hasGoose, .code yX0_hasGoose cX0_hasGoose 2 (some .boolean), .fieldLink RX0 9 "FeatherShares$Flock" "geese" "I", .static yX6_isWithin, .initialized RX6, .code yX6_isWithin cX6_isWithin 3 (some .boolean), .methodLink RX6 145 yX6_isOwner, .static yX6_isOwner, .code yX6_isOwner cX6_isOwner 1 (some .boolean), .methodLink RX6 69 yX6_isWithin, .methodLink RX6 167 yX6_replaced, .static yX6_replaced, .code yX6_replaced cX6_replaced 4 (some .int)] ++ wsX60 ++ wsX00)
def wsX6_plan : List Cond := .code yX6_plan cX6_plan 5 (some .int) :: ([.fieldLink RX6 12 "FeatherShares" "now" "LFeatherShares$Flock;", .instanceMethod yX0_isTrade, .initialized RX0, .selects RX0 yX0_isTrade yX0_isTrade, .code yX0_isTrade cX0_isTrade 5 (some .boolean), .static yX6_isOwner, .initialized RX6, .code yX6_isOwner cX6_isOwner 1 (some .boolean), .methodLink RX6 69 yX6_isWithin, .static yX6_isWithin, .code yX6_isWithin cX6_isWithin 3 (some .boolean), .methodLink RX0 89 yX0_hasGoose, .instanceMethod yX0_hasGoose, .selects RX0 yX0_hasGoose yX0_hasGoose, .code yX0_hasGoose cX0_hasGoose 2 (some .boolean), .fieldLink RX0 9 "FeatherShares$Flock" "geese" "I", .instanceMethod yX0_addToPlan, .selects RX0 yX0_addToPlan yX0_addToPlan, .code yX0_addToPlan cX0_addToPlan 5 (some .boolean), .fieldLink RX0 18 "FeatherShares$Flock" "trades" "I", .fieldLink RX0 40 "FeatherShares$Flock" "planBuyer" "[I", .fieldLink RX0 43 "FeatherShares$Flock" "planSeller" "[I", .fieldLink RX0 46 "FeatherShares$Flock" "planGoose" "[I", .fieldLink RX0 49 "FeatherShares$Flock" "planAmount" "[I"] ++ wsX60 ++ wsX00)
def wsX6_cut : List Cond := .code yX6_cut cX6_cut 3 (some .int) :: ([.fieldLink RX6 12 "FeatherShares" "now" "LFeatherShares$Flock;", .methodLink RX6 69 yX6_isWithin, .static yX6_isWithin, .initialized RX6, .code yX6_isWithin cX6_isWithin 3 (some .boolean)] ++ wsX60 ++ wsX00)
def wsX6_buy_r1 : List Cond := [Cond.fieldLink RX6 12 "FeatherShares" "now" "LFeatherShares$Flock;", Cond.instanceMethod yX0_isTrade, Cond.initialized RX0, Cond.selects RX0 yX0_isTrade yX0_isTrade, Cond.code yX0_isTrade cX0_isTrade 5 (some .boolean), Cond.static yX6_isOwner, Cond.initialized RX6, Cond.code yX6_isOwner cX6_isOwner 1 (some .boolean), Cond.methodLink RX6 69 yX6_isWithin, Cond.static yX6_isWithin, Cond.code yX6_isWithin cX6_isWithin 3 (some .boolean), Cond.methodLink RX0 89 yX0_hasGoose, Cond.instanceMethod yX0_hasGoose, Cond.selects RX0 yX0_hasGoose yX0_hasGoose, Cond.code yX0_hasGoose cX0_hasGoose 2 (some .boolean), Cond.fieldLink RX0 9 "FeatherShares$Flock" "geese" "I", Cond.instanceMethod yX0_canTrade, Cond.selects RX0 yX0_canTrade yX0_canTrade, Cond.code yX0_canTrade cX0_canTrade 6 (some .boolean), Cond.fieldLink RX0 28 "FeatherShares$Flock" "price" "[I", Cond.fieldLink RX0 34 "FeatherShares$Flock" "money" "[I", Cond.methodLink RX0 92 yX0_canPluck, Cond.instanceMethod yX0_canPluck, Cond.selects RX0 yX0_canPluck yX0_canPluck]
def wsX6_buy_r2 : List Cond := [Cond.code yX0_canPluck cX0_canPluck 5 (some .boolean), Cond.methodLink RX0 68 yX0_held, Cond.instanceMethod yX0_held, Cond.selects RX0 yX0_held yX0_held, Cond.code yX0_held cX0_held 3 (some .int), Cond.fieldLink RX0 31 "FeatherShares$Flock" "feathers" "[I", Cond.instanceMethod yX0_exchange, Cond.selects RX0 yX0_exchange yX0_exchange, Cond.code yX0_exchange cX0_exchange 5 none, Cond.methodLink RX0 96 yX0_moveFeathers, Cond.instanceMethod yX0_moveFeathers, Cond.selects RX0 yX0_moveFeathers yX0_moveFeathers, Cond.code yX0_moveFeathers cX0_moveFeathers 5 none]
def wsX6_buy : List Cond := .code yX6_buy cX6_buy 5 (some .int) :: ((wsX6_buy_r1 ++ wsX6_buy_r2) ++ wsX60 ++ wsX00)
def wsX6_pluck_r1 : List Cond := [Cond.fieldLink RX6 12 "FeatherShares" "now" "LFeatherShares$Flock;", Cond.instanceMethod yX0_isTrade, Cond.initialized RX0, Cond.selects RX0 yX0_isTrade yX0_isTrade, Cond.code yX0_isTrade cX0_isTrade 5 (some .boolean), Cond.static yX6_isOwner, Cond.initialized RX6, Cond.code yX6_isOwner cX6_isOwner 1 (some .boolean), Cond.methodLink RX6 69 yX6_isWithin, Cond.static yX6_isWithin, Cond.code yX6_isWithin cX6_isWithin 3 (some .boolean), Cond.methodLink RX0 89 yX0_hasGoose, Cond.instanceMethod yX0_hasGoose, Cond.selects RX0 yX0_hasGoose yX0_hasGoose, Cond.code yX0_hasGoose cX0_hasGoose 2 (some .boolean), Cond.fieldLink RX0 9 "FeatherShares$Flock" "geese" "I", Cond.instanceMethod yX0_canPluck, Cond.selects RX0 yX0_canPluck yX0_canPluck, Cond.code yX0_canPluck cX0_canPluck 5 (some .boolean), Cond.methodLink RX0 68 yX0_held, Cond.instanceMethod yX0_held, Cond.selects RX0 yX0_held yX0_held, Cond.code yX0_held cX0_held 3 (some .int), Cond.fieldLink RX0 31 "FeatherShares$Flock" "feathers" "[I"]
def wsX6_pluck_r2 : List Cond := [Cond.instanceMethod yX0_moveFeathers, Cond.selects RX0 yX0_moveFeathers yX0_moveFeathers, Cond.code yX0_moveFeathers cX0_moveFeathers 5 none]
def wsX6_pluck : List Cond := .code yX6_pluck cX6_pluck 5 (some .int) :: ((wsX6_pluck_r1 ++ wsX6_pluck_r2) ++ wsX60 ++ wsX00)
def wsX6_weeks_r1 : List Cond := [Cond.fieldLink RX6 12 "FeatherShares" "now" "LFeatherShares$Flock;", Cond.methodLink RX6 69 yX6_isWithin, Cond.static yX6_isWithin, Cond.initialized RX6, Cond.code yX6_isWithin cX6_isWithin 3 (some .boolean), Cond.instanceMethod yX0_passWeeks, Cond.initialized RX0, Cond.selects RX0 yX0_passWeeks yX0_passWeeks, Cond.code yX0_passWeeks cX0_passWeeks 4 (some .int), Cond.methodLink RX0 115 yX0_passWeek, Cond.instanceMethod yX0_passWeek, Cond.selects RX0 yX0_passWeek yX0_passWeek, Cond.code yX0_passWeek cX0_passWeek 4 (some .int), Cond.fieldLink RX0 9 "FeatherShares$Flock" "geese" "I", Cond.fieldLink RX0 37 "FeatherShares$Flock" "eggsHad" "[I", Cond.fieldLink RX0 15 "FeatherShares$Flock" "week" "I", Cond.methodLink RX0 76 yX0_eggOwner, Cond.instanceMethod yX0_eggOwner, Cond.selects RX0 yX0_eggOwner yX0_eggOwner, Cond.code yX0_eggOwner cX0_eggOwner 4 (some .int), Cond.fieldLink RX0 25 "FeatherShares$Flock" "skin" "[I", Cond.methodLink RX0 68 yX0_held, Cond.instanceMethod yX0_held, Cond.selects RX0 yX0_held yX0_held]
def wsX6_weeks_r2 : List Cond := [Cond.code yX0_held cX0_held 3 (some .int), Cond.fieldLink RX0 31 "FeatherShares$Flock" "feathers" "[I", Cond.methodLink RX0 119 yX0_moult, Cond.instanceMethod yX0_moult, Cond.selects RX0 yX0_moult yX0_moult, Cond.code yX0_moult cX0_moult 5 none, Cond.fieldLink RX0 21 "FeatherShares$Flock" "kind" "[I", Cond.methodLink RX0 126 Lib.Math.min.name, Cond.static Lib.Math.min.name, Cond.initialized "java/lang/Math", Cond.code Lib.Math.min.name Lib.Math.min.code 2 (some .int), Cond.methodLink RX0 123 yX0_lossOf, Cond.static yX0_lossOf, Cond.code yX0_lossOf cX0_lossOf 4 (some .int), Cond.methodLink RX0 131 Lib.Math.max.name, Cond.static Lib.Math.max.name, Cond.code Lib.Math.max.name Lib.Math.max.code 2 (some .int)]
def wsX6_weeks : List Cond := .code yX6_weeks cX6_weeks 2 (some .int) :: ((wsX6_weeks_r1 ++ wsX6_weeks_r2) ++ wsX60 ++ wsX00)
def wsX6_runs_r1 : List Cond := [Cond.fieldLink RX6 16 "FeatherShares" "trial" "LFeatherShares$Flock;", Cond.fieldLink RX6 12 "FeatherShares" "now" "LFeatherShares$Flock;", Cond.methodLink RX6 69 yX6_isWithin, Cond.static yX6_isWithin, Cond.initialized RX6, Cond.code yX6_isWithin cX6_isWithin 3 (some .boolean), Cond.instanceMethod yX0_copyFrom, Cond.initialized RX0, Cond.selects RX0 yX0_copyFrom yX0_copyFrom, Cond.code yX0_copyFrom cX0_copyFrom 2 none, Cond.fieldLink RX0 9 "FeatherShares$Flock" "geese" "I", Cond.fieldLink RX0 15 "FeatherShares$Flock" "week" "I", Cond.fieldLink RX0 18 "FeatherShares$Flock" "trades" "I", Cond.fieldLink RX0 21 "FeatherShares$Flock" "kind" "[I", Cond.methodLink RX0 58 arraycopyName, Cond.native arraycopyName, Cond.static arraycopyName, Cond.initialized "java/lang/System", Cond.fieldLink RX0 25 "FeatherShares$Flock" "skin" "[I", Cond.fieldLink RX0 28 "FeatherShares$Flock" "price" "[I", Cond.fieldLink RX0 31 "FeatherShares$Flock" "feathers" "[I", Cond.fieldLink RX0 34 "FeatherShares$Flock" "money" "[I", Cond.fieldLink RX0 37 "FeatherShares$Flock" "eggsHad" "[I", Cond.fieldLink RX0 40 "FeatherShares$Flock" "planBuyer" "[I"]
def wsX6_runs_r2 : List Cond := [Cond.fieldLink RX0 43 "FeatherShares$Flock" "planSeller" "[I", Cond.fieldLink RX0 46 "FeatherShares$Flock" "planGoose" "[I", Cond.fieldLink RX0 49 "FeatherShares$Flock" "planAmount" "[I", Cond.instanceMethod yX0_tryPlanned, Cond.selects RX0 yX0_tryPlanned yX0_tryPlanned, Cond.code yX0_tryPlanned cX0_tryPlanned 2 (some .boolean), Cond.methodLink RX0 109 yX0_tryTrade, Cond.instanceMethod yX0_tryTrade, Cond.selects RX0 yX0_tryTrade yX0_tryTrade, Cond.code yX0_tryTrade cX0_tryTrade 5 (some .boolean), Cond.methodLink RX0 100 yX0_isTrade, Cond.instanceMethod yX0_isTrade, Cond.selects RX0 yX0_isTrade yX0_isTrade, Cond.code yX0_isTrade cX0_isTrade 5 (some .boolean), Cond.static yX6_isOwner, Cond.code yX6_isOwner cX6_isOwner 1 (some .boolean), Cond.methodLink RX0 89 yX0_hasGoose, Cond.instanceMethod yX0_hasGoose, Cond.selects RX0 yX0_hasGoose yX0_hasGoose, Cond.code yX0_hasGoose cX0_hasGoose 2 (some .boolean), Cond.methodLink RX0 103 yX0_canTrade, Cond.instanceMethod yX0_canTrade, Cond.selects RX0 yX0_canTrade yX0_canTrade, Cond.code yX0_canTrade cX0_canTrade 6 (some .boolean)]
def wsX6_runs_r3 : List Cond := [Cond.methodLink RX0 92 yX0_canPluck, Cond.instanceMethod yX0_canPluck, Cond.selects RX0 yX0_canPluck yX0_canPluck, Cond.code yX0_canPluck cX0_canPluck 5 (some .boolean), Cond.methodLink RX0 68 yX0_held, Cond.instanceMethod yX0_held, Cond.selects RX0 yX0_held yX0_held, Cond.code yX0_held cX0_held 3 (some .int), Cond.methodLink RX0 106 yX0_exchange, Cond.instanceMethod yX0_exchange, Cond.selects RX0 yX0_exchange yX0_exchange, Cond.code yX0_exchange cX0_exchange 5 none, Cond.methodLink RX0 96 yX0_moveFeathers, Cond.instanceMethod yX0_moveFeathers, Cond.selects RX0 yX0_moveFeathers yX0_moveFeathers, Cond.code yX0_moveFeathers cX0_moveFeathers 5 none, Cond.instanceMethod yX0_costOfPlanned, Cond.selects RX0 yX0_costOfPlanned yX0_costOfPlanned, Cond.code yX0_costOfPlanned cX0_costOfPlanned 2 (some .int)]
def wsX6_runs : List Cond := .code yX6_runs cX6_runs 6 (some .int) :: ((wsX6_runs_r1 ++ (wsX6_runs_r2 ++ wsX6_runs_r3)) ++ wsX60 ++ wsX00)
def wsX6_ahead_r1 : List Cond := [Cond.fieldLink RX6 16 "FeatherShares" "trial" "LFeatherShares$Flock;", Cond.fieldLink RX6 12 "FeatherShares" "now" "LFeatherShares$Flock;", Cond.methodLink RX6 145 yX6_isOwner, Cond.static yX6_isOwner, Cond.initialized RX6, Cond.code yX6_isOwner cX6_isOwner 1 (some .boolean), Cond.methodLink RX6 69 yX6_isWithin, Cond.static yX6_isWithin, Cond.code yX6_isWithin cX6_isWithin 3 (some .boolean), Cond.instanceMethod yX0_copyFrom, Cond.initialized RX0, Cond.selects RX0 yX0_copyFrom yX0_copyFrom, Cond.code yX0_copyFrom cX0_copyFrom 2 none, Cond.fieldLink RX0 9 "FeatherShares$Flock" "geese" "I", Cond.fieldLink RX0 15 "FeatherShares$Flock" "week" "I", Cond.fieldLink RX0 18 "FeatherShares$Flock" "trades" "I", Cond.fieldLink RX0 21 "FeatherShares$Flock" "kind" "[I", Cond.methodLink RX0 58 arraycopyName, Cond.native arraycopyName, Cond.static arraycopyName, Cond.initialized "java/lang/System", Cond.fieldLink RX0 25 "FeatherShares$Flock" "skin" "[I", Cond.fieldLink RX0 28 "FeatherShares$Flock" "price" "[I", Cond.fieldLink RX0 31 "FeatherShares$Flock" "feathers" "[I"]
def wsX6_ahead_r2 : List Cond := [Cond.fieldLink RX0 34 "FeatherShares$Flock" "money" "[I", Cond.fieldLink RX0 37 "FeatherShares$Flock" "eggsHad" "[I", Cond.fieldLink RX0 40 "FeatherShares$Flock" "planBuyer" "[I", Cond.fieldLink RX0 43 "FeatherShares$Flock" "planSeller" "[I", Cond.fieldLink RX0 46 "FeatherShares$Flock" "planGoose" "[I", Cond.fieldLink RX0 49 "FeatherShares$Flock" "planAmount" "[I", Cond.instanceMethod yX0_followPlanWithout, Cond.selects RX0 yX0_followPlanWithout yX0_followPlanWithout, Cond.code yX0_followPlanWithout cX0_followPlanWithout 3 none, Cond.methodLink RX0 112 yX0_tryPlanned, Cond.instanceMethod yX0_tryPlanned, Cond.selects RX0 yX0_tryPlanned yX0_tryPlanned, Cond.code yX0_tryPlanned cX0_tryPlanned 2 (some .boolean), Cond.methodLink RX0 109 yX0_tryTrade, Cond.instanceMethod yX0_tryTrade, Cond.selects RX0 yX0_tryTrade yX0_tryTrade, Cond.code yX0_tryTrade cX0_tryTrade 5 (some .boolean), Cond.methodLink RX0 100 yX0_isTrade, Cond.instanceMethod yX0_isTrade, Cond.selects RX0 yX0_isTrade yX0_isTrade, Cond.code yX0_isTrade cX0_isTrade 5 (some .boolean), Cond.methodLink RX0 89 yX0_hasGoose, Cond.instanceMethod yX0_hasGoose, Cond.selects RX0 yX0_hasGoose yX0_hasGoose]
def wsX6_ahead_r3 : List Cond := [Cond.code yX0_hasGoose cX0_hasGoose 2 (some .boolean), Cond.methodLink RX0 103 yX0_canTrade, Cond.instanceMethod yX0_canTrade, Cond.selects RX0 yX0_canTrade yX0_canTrade, Cond.code yX0_canTrade cX0_canTrade 6 (some .boolean), Cond.methodLink RX0 92 yX0_canPluck, Cond.instanceMethod yX0_canPluck, Cond.selects RX0 yX0_canPluck yX0_canPluck, Cond.code yX0_canPluck cX0_canPluck 5 (some .boolean), Cond.methodLink RX0 68 yX0_held, Cond.instanceMethod yX0_held, Cond.selects RX0 yX0_held yX0_held, Cond.code yX0_held cX0_held 3 (some .int), Cond.methodLink RX0 106 yX0_exchange, Cond.instanceMethod yX0_exchange, Cond.selects RX0 yX0_exchange yX0_exchange, Cond.code yX0_exchange cX0_exchange 5 none, Cond.methodLink RX0 96 yX0_moveFeathers, Cond.instanceMethod yX0_moveFeathers, Cond.selects RX0 yX0_moveFeathers yX0_moveFeathers, Cond.code yX0_moveFeathers cX0_moveFeathers 5 none, Cond.instanceMethod yX0_ofOwner, Cond.selects RX0 yX0_ofOwner yX0_ofOwner, Cond.code yX0_ofOwner cX0_ofOwner 3 (some .int)]
def wsX6_ahead_r4 : List Cond := [Cond.methodLink RX0 79 yX0_worth, Cond.instanceMethod yX0_worth, Cond.selects RX0 yX0_worth yX0_worth, Cond.code yX0_worth cX0_worth 4 (some .int), Cond.methodLink RX0 82 yX0_geeseWithEggOf, Cond.instanceMethod yX0_geeseWithEggOf, Cond.selects RX0 yX0_geeseWithEggOf yX0_geeseWithEggOf, Cond.code yX0_geeseWithEggOf cX0_geeseWithEggOf 4 (some .int), Cond.methodLink RX0 76 yX0_eggOwner, Cond.instanceMethod yX0_eggOwner, Cond.selects RX0 yX0_eggOwner yX0_eggOwner, Cond.code yX0_eggOwner cX0_eggOwner 4 (some .int)]
def wsX6_ahead : List Cond := .code yX6_ahead cX6_ahead 3 (some .int) :: ((wsX6_ahead_r1 ++ (wsX6_ahead_r2 ++ (wsX6_ahead_r3 ++ wsX6_ahead_r4))) ++ wsX60 ++ wsX00)
def wsX6_later_r1 : List Cond := [Cond.fieldLink RX6 12 "FeatherShares" "now" "LFeatherShares$Flock;", Cond.fieldLink RX6 16 "FeatherShares" "trial" "LFeatherShares$Flock;", Cond.instanceMethod yX0_hasGoose, Cond.initialized RX0, Cond.selects RX0 yX0_hasGoose yX0_hasGoose, Cond.code yX0_hasGoose cX0_hasGoose 2 (some .boolean), Cond.fieldLink RX0 9 "FeatherShares$Flock" "geese" "I", Cond.static yX6_isWithin, Cond.initialized RX6, Cond.code yX6_isWithin cX6_isWithin 3 (some .boolean), Cond.methodLink RX6 145 yX6_isOwner, Cond.static yX6_isOwner, Cond.code yX6_isOwner cX6_isOwner 1 (some .boolean), Cond.methodLink RX6 69 yX6_isWithin, Cond.instanceMethod yX0_copyFrom, Cond.selects RX0 yX0_copyFrom yX0_copyFrom, Cond.code yX0_copyFrom cX0_copyFrom 2 none, Cond.fieldLink RX0 15 "FeatherShares$Flock" "week" "I", Cond.fieldLink RX0 18 "FeatherShares$Flock" "trades" "I", Cond.fieldLink RX0 21 "FeatherShares$Flock" "kind" "[I", Cond.methodLink RX0 58 arraycopyName, Cond.native arraycopyName, Cond.static arraycopyName, Cond.initialized "java/lang/System"]
def wsX6_later_r2 : List Cond := [Cond.fieldLink RX0 25 "FeatherShares$Flock" "skin" "[I", Cond.fieldLink RX0 28 "FeatherShares$Flock" "price" "[I", Cond.fieldLink RX0 31 "FeatherShares$Flock" "feathers" "[I", Cond.fieldLink RX0 34 "FeatherShares$Flock" "money" "[I", Cond.fieldLink RX0 37 "FeatherShares$Flock" "eggsHad" "[I", Cond.fieldLink RX0 40 "FeatherShares$Flock" "planBuyer" "[I", Cond.fieldLink RX0 43 "FeatherShares$Flock" "planSeller" "[I", Cond.fieldLink RX0 46 "FeatherShares$Flock" "planGoose" "[I", Cond.fieldLink RX0 49 "FeatherShares$Flock" "planAmount" "[I", Cond.instanceMethod yX0_passWeeks, Cond.selects RX0 yX0_passWeeks yX0_passWeeks, Cond.code yX0_passWeeks cX0_passWeeks 4 (some .int), Cond.methodLink RX0 115 yX0_passWeek, Cond.instanceMethod yX0_passWeek, Cond.selects RX0 yX0_passWeek yX0_passWeek, Cond.code yX0_passWeek cX0_passWeek 4 (some .int), Cond.methodLink RX0 76 yX0_eggOwner, Cond.instanceMethod yX0_eggOwner, Cond.selects RX0 yX0_eggOwner yX0_eggOwner, Cond.code yX0_eggOwner cX0_eggOwner 4 (some .int), Cond.methodLink RX0 68 yX0_held, Cond.instanceMethod yX0_held, Cond.selects RX0 yX0_held yX0_held, Cond.code yX0_held cX0_held 3 (some .int)]
def wsX6_later_r3 : List Cond := [Cond.methodLink RX0 119 yX0_moult, Cond.instanceMethod yX0_moult, Cond.selects RX0 yX0_moult yX0_moult, Cond.code yX0_moult cX0_moult 5 none, Cond.methodLink RX0 126 Lib.Math.min.name, Cond.static Lib.Math.min.name, Cond.initialized "java/lang/Math", Cond.code Lib.Math.min.name Lib.Math.min.code 2 (some .int), Cond.methodLink RX0 123 yX0_lossOf, Cond.static yX0_lossOf, Cond.code yX0_lossOf cX0_lossOf 4 (some .int), Cond.methodLink RX0 131 Lib.Math.max.name, Cond.static Lib.Math.max.name, Cond.code Lib.Math.max.name Lib.Math.max.code 2 (some .int)]
def wsX6_later : List Cond := .code yX6_later cX6_later 4 (some .int) :: ((wsX6_later_r1 ++ (wsX6_later_r2 ++ wsX6_later_r3)) ++ wsX60 ++ wsX00)
def wsX6_eggs_r1 : List Cond := [Cond.fieldLink RX6 16 "FeatherShares" "trial" "LFeatherShares$Flock;", Cond.fieldLink RX6 12 "FeatherShares" "now" "LFeatherShares$Flock;", Cond.methodLink RX6 145 yX6_isOwner, Cond.static yX6_isOwner, Cond.initialized RX6, Cond.code yX6_isOwner cX6_isOwner 1 (some .boolean), Cond.methodLink RX6 69 yX6_isWithin, Cond.static yX6_isWithin, Cond.code yX6_isWithin cX6_isWithin 3 (some .boolean), Cond.instanceMethod yX0_copyFrom, Cond.initialized RX0, Cond.selects RX0 yX0_copyFrom yX0_copyFrom, Cond.code yX0_copyFrom cX0_copyFrom 2 none, Cond.fieldLink RX0 9 "FeatherShares$Flock" "geese" "I", Cond.fieldLink RX0 15 "FeatherShares$Flock" "week" "I", Cond.fieldLink RX0 18 "FeatherShares$Flock" "trades" "I", Cond.fieldLink RX0 21 "FeatherShares$Flock" "kind" "[I", Cond.methodLink RX0 58 arraycopyName, Cond.native arraycopyName, Cond.static arraycopyName, Cond.initialized "java/lang/System", Cond.fieldLink RX0 25 "FeatherShares$Flock" "skin" "[I", Cond.fieldLink RX0 28 "FeatherShares$Flock" "price" "[I", Cond.fieldLink RX0 31 "FeatherShares$Flock" "feathers" "[I"]
def wsX6_eggs_r2 : List Cond := [Cond.fieldLink RX0 34 "FeatherShares$Flock" "money" "[I", Cond.fieldLink RX0 37 "FeatherShares$Flock" "eggsHad" "[I", Cond.fieldLink RX0 40 "FeatherShares$Flock" "planBuyer" "[I", Cond.fieldLink RX0 43 "FeatherShares$Flock" "planSeller" "[I", Cond.fieldLink RX0 46 "FeatherShares$Flock" "planGoose" "[I", Cond.fieldLink RX0 49 "FeatherShares$Flock" "planAmount" "[I", Cond.instanceMethod yX0_passWeeks, Cond.selects RX0 yX0_passWeeks yX0_passWeeks, Cond.code yX0_passWeeks cX0_passWeeks 4 (some .int), Cond.methodLink RX0 115 yX0_passWeek, Cond.instanceMethod yX0_passWeek, Cond.selects RX0 yX0_passWeek yX0_passWeek, Cond.code yX0_passWeek cX0_passWeek 4 (some .int), Cond.methodLink RX0 76 yX0_eggOwner, Cond.instanceMethod yX0_eggOwner, Cond.selects RX0 yX0_eggOwner yX0_eggOwner, Cond.code yX0_eggOwner cX0_eggOwner 4 (some .int), Cond.methodLink RX0 68 yX0_held, Cond.instanceMethod yX0_held, Cond.selects RX0 yX0_held yX0_held, Cond.code yX0_held cX0_held 3 (some .int), Cond.methodLink RX0 119 yX0_moult, Cond.instanceMethod yX0_moult, Cond.selects RX0 yX0_moult yX0_moult]
def wsX6_eggs_r3 : List Cond := [Cond.code yX0_moult cX0_moult 5 none, Cond.methodLink RX0 126 Lib.Math.min.name, Cond.static Lib.Math.min.name, Cond.initialized "java/lang/Math", Cond.code Lib.Math.min.name Lib.Math.min.code 2 (some .int), Cond.methodLink RX0 123 yX0_lossOf, Cond.static yX0_lossOf, Cond.code yX0_lossOf cX0_lossOf 4 (some .int), Cond.methodLink RX0 131 Lib.Math.max.name, Cond.static Lib.Math.max.name, Cond.code Lib.Math.max.name Lib.Math.max.code 2 (some .int)]
def wsX6_eggs : List Cond := .code yX6_eggs cX6_eggs 3 (some .int) :: ((wsX6_eggs_r1 ++ (wsX6_eggs_r2 ++ wsX6_eggs_r3)) ++ wsX60 ++ wsX00)
def wsX6_bare_r1 : List Cond := [Cond.fieldLink RX6 12 "FeatherShares" "now" "LFeatherShares$Flock;", Cond.fieldLink RX6 16 "FeatherShares" "trial" "LFeatherShares$Flock;", Cond.instanceMethod yX0_hasGoose, Cond.initialized RX0, Cond.selects RX0 yX0_hasGoose yX0_hasGoose, Cond.code yX0_hasGoose cX0_hasGoose 2 (some .boolean), Cond.fieldLink RX0 9 "FeatherShares$Flock" "geese" "I", Cond.static yX6_isWithin, Cond.initialized RX6, Cond.code yX6_isWithin cX6_isWithin 3 (some .boolean), Cond.methodLink RX6 69 yX6_isWithin, Cond.instanceMethod yX0_copyFrom, Cond.selects RX0 yX0_copyFrom yX0_copyFrom, Cond.code yX0_copyFrom cX0_copyFrom 2 none, Cond.fieldLink RX0 15 "FeatherShares$Flock" "week" "I", Cond.fieldLink RX0 18 "FeatherShares$Flock" "trades" "I", Cond.fieldLink RX0 21 "FeatherShares$Flock" "kind" "[I", Cond.methodLink RX0 58 arraycopyName, Cond.native arraycopyName, Cond.static arraycopyName, Cond.initialized "java/lang/System", Cond.fieldLink RX0 25 "FeatherShares$Flock" "skin" "[I", Cond.fieldLink RX0 28 "FeatherShares$Flock" "price" "[I", Cond.fieldLink RX0 31 "FeatherShares$Flock" "feathers" "[I"]
def wsX6_bare_r2 : List Cond := [Cond.fieldLink RX0 34 "FeatherShares$Flock" "money" "[I", Cond.fieldLink RX0 37 "FeatherShares$Flock" "eggsHad" "[I", Cond.fieldLink RX0 40 "FeatherShares$Flock" "planBuyer" "[I", Cond.fieldLink RX0 43 "FeatherShares$Flock" "planSeller" "[I", Cond.fieldLink RX0 46 "FeatherShares$Flock" "planGoose" "[I", Cond.fieldLink RX0 49 "FeatherShares$Flock" "planAmount" "[I", Cond.instanceMethod yX0_feathersOf, Cond.selects RX0 yX0_feathersOf yX0_feathersOf, Cond.code yX0_feathersOf cX0_feathersOf 4 (some .int), Cond.methodLink RX0 68 yX0_held, Cond.instanceMethod yX0_held, Cond.selects RX0 yX0_held yX0_held, Cond.code yX0_held cX0_held 3 (some .int), Cond.instanceMethod yX0_passWeek, Cond.selects RX0 yX0_passWeek yX0_passWeek, Cond.code yX0_passWeek cX0_passWeek 4 (some .int), Cond.methodLink RX0 76 yX0_eggOwner, Cond.instanceMethod yX0_eggOwner, Cond.selects RX0 yX0_eggOwner yX0_eggOwner, Cond.code yX0_eggOwner cX0_eggOwner 4 (some .int), Cond.methodLink RX0 119 yX0_moult, Cond.instanceMethod yX0_moult, Cond.selects RX0 yX0_moult yX0_moult, Cond.code yX0_moult cX0_moult 5 none]
def wsX6_bare_r3 : List Cond := [Cond.methodLink RX0 126 Lib.Math.min.name, Cond.static Lib.Math.min.name, Cond.initialized "java/lang/Math", Cond.code Lib.Math.min.name Lib.Math.min.code 2 (some .int), Cond.methodLink RX0 123 yX0_lossOf, Cond.static yX0_lossOf, Cond.code yX0_lossOf cX0_lossOf 4 (some .int), Cond.methodLink RX0 131 Lib.Math.max.name, Cond.static Lib.Math.max.name, Cond.code Lib.Math.max.name Lib.Math.max.code 2 (some .int)]
def wsX6_bare : List Cond := .code yX6_bare cX6_bare 4 (some .int) :: ((wsX6_bare_r1 ++ (wsX6_bare_r2 ++ wsX6_bare_r3)) ++ wsX60 ++ wsX00)
def wsX6_rich_r1 : List Cond := [Cond.fieldLink RX6 16 "FeatherShares" "trial" "LFeatherShares$Flock;", Cond.fieldLink RX6 12 "FeatherShares" "now" "LFeatherShares$Flock;", Cond.methodLink RX6 69 yX6_isWithin, Cond.static yX6_isWithin, Cond.initialized RX6, Cond.code yX6_isWithin cX6_isWithin 3 (some .boolean), Cond.instanceMethod yX0_copyFrom, Cond.initialized RX0, Cond.selects RX0 yX0_copyFrom yX0_copyFrom, Cond.code yX0_copyFrom cX0_copyFrom 2 none, Cond.fieldLink RX0 9 "FeatherShares$Flock" "geese" "I", Cond.fieldLink RX0 15 "FeatherShares$Flock" "week" "I", Cond.fieldLink RX0 18 "FeatherShares$Flock" "trades" "I", Cond.fieldLink RX0 21 "FeatherShares$Flock" "kind" "[I", Cond.methodLink RX0 58 arraycopyName, Cond.native arraycopyName, Cond.static arraycopyName, Cond.initialized "java/lang/System", Cond.fieldLink RX0 25 "FeatherShares$Flock" "skin" "[I", Cond.fieldLink RX0 28 "FeatherShares$Flock" "price" "[I", Cond.fieldLink RX0 31 "FeatherShares$Flock" "feathers" "[I", Cond.fieldLink RX0 34 "FeatherShares$Flock" "money" "[I", Cond.fieldLink RX0 37 "FeatherShares$Flock" "eggsHad" "[I", Cond.fieldLink RX0 40 "FeatherShares$Flock" "planBuyer" "[I"]
def wsX6_rich_r2 : List Cond := [Cond.fieldLink RX0 43 "FeatherShares$Flock" "planSeller" "[I", Cond.fieldLink RX0 46 "FeatherShares$Flock" "planGoose" "[I", Cond.fieldLink RX0 49 "FeatherShares$Flock" "planAmount" "[I", Cond.instanceMethod yX0_passWeeks, Cond.selects RX0 yX0_passWeeks yX0_passWeeks, Cond.code yX0_passWeeks cX0_passWeeks 4 (some .int), Cond.methodLink RX0 115 yX0_passWeek, Cond.instanceMethod yX0_passWeek, Cond.selects RX0 yX0_passWeek yX0_passWeek, Cond.code yX0_passWeek cX0_passWeek 4 (some .int), Cond.methodLink RX0 76 yX0_eggOwner, Cond.instanceMethod yX0_eggOwner, Cond.selects RX0 yX0_eggOwner yX0_eggOwner, Cond.code yX0_eggOwner cX0_eggOwner 4 (some .int), Cond.methodLink RX0 68 yX0_held, Cond.instanceMethod yX0_held, Cond.selects RX0 yX0_held yX0_held, Cond.code yX0_held cX0_held 3 (some .int), Cond.methodLink RX0 119 yX0_moult, Cond.instanceMethod yX0_moult, Cond.selects RX0 yX0_moult yX0_moult, Cond.code yX0_moult cX0_moult 5 none, Cond.methodLink RX0 126 Lib.Math.min.name, Cond.static Lib.Math.min.name]
def wsX6_rich_r3 : List Cond := [Cond.initialized "java/lang/Math", Cond.code Lib.Math.min.name Lib.Math.min.code 2 (some .int), Cond.methodLink RX0 123 yX0_lossOf, Cond.static yX0_lossOf, Cond.code yX0_lossOf cX0_lossOf 4 (some .int), Cond.methodLink RX0 131 Lib.Math.max.name, Cond.static Lib.Math.max.name, Cond.code Lib.Math.max.name Lib.Math.max.code 2 (some .int), Cond.instanceMethod yX0_worth, Cond.selects RX0 yX0_worth yX0_worth, Cond.code yX0_worth cX0_worth 4 (some .int)]
def wsX6_rich : List Cond := .code yX6_rich cX6_rich 5 (some .int) :: ((wsX6_rich_r1 ++ (wsX6_rich_r2 ++ wsX6_rich_r3)) ++ wsX60 ++ wsX00)
def wsX6_turn_r1 : List Cond := [Cond.fieldLink RX6 12 "FeatherShares" "now" "LFeatherShares$Flock;", Cond.fieldLink RX6 16 "FeatherShares" "trial" "LFeatherShares$Flock;", Cond.instanceMethod yX0_hasGoose, Cond.initialized RX0, Cond.selects RX0 yX0_hasGoose yX0_hasGoose, Cond.code yX0_hasGoose cX0_hasGoose 2 (some .boolean), Cond.fieldLink RX0 9 "FeatherShares$Flock" "geese" "I", Cond.static yX6_isWithin, Cond.initialized RX6, Cond.code yX6_isWithin cX6_isWithin 3 (some .boolean), Cond.instanceMethod yX0_eggOwner, Cond.selects RX0 yX0_eggOwner yX0_eggOwner, Cond.code yX0_eggOwner cX0_eggOwner 4 (some .int), Cond.fieldLink RX0 25 "FeatherShares$Flock" "skin" "[I", Cond.methodLink RX0 68 yX0_held, Cond.instanceMethod yX0_held, Cond.selects RX0 yX0_held yX0_held, Cond.code yX0_held cX0_held 3 (some .int), Cond.fieldLink RX0 31 "FeatherShares$Flock" "feathers" "[I", Cond.instanceMethod yX0_copyFrom, Cond.selects RX0 yX0_copyFrom yX0_copyFrom, Cond.code yX0_copyFrom cX0_copyFrom 2 none, Cond.fieldLink RX0 15 "FeatherShares$Flock" "week" "I", Cond.fieldLink RX0 18 "FeatherShares$Flock" "trades" "I"]
def wsX6_turn_r2 : List Cond := [Cond.fieldLink RX0 21 "FeatherShares$Flock" "kind" "[I", Cond.methodLink RX0 58 arraycopyName, Cond.native arraycopyName, Cond.static arraycopyName, Cond.initialized "java/lang/System", Cond.fieldLink RX0 28 "FeatherShares$Flock" "price" "[I", Cond.fieldLink RX0 34 "FeatherShares$Flock" "money" "[I", Cond.fieldLink RX0 37 "FeatherShares$Flock" "eggsHad" "[I", Cond.fieldLink RX0 40 "FeatherShares$Flock" "planBuyer" "[I", Cond.fieldLink RX0 43 "FeatherShares$Flock" "planSeller" "[I", Cond.fieldLink RX0 46 "FeatherShares$Flock" "planGoose" "[I", Cond.fieldLink RX0 49 "FeatherShares$Flock" "planAmount" "[I", Cond.instanceMethod yX0_passWeek, Cond.selects RX0 yX0_passWeek yX0_passWeek, Cond.code yX0_passWeek cX0_passWeek 4 (some .int), Cond.methodLink RX0 76 yX0_eggOwner, Cond.methodLink RX0 119 yX0_moult, Cond.instanceMethod yX0_moult, Cond.selects RX0 yX0_moult yX0_moult, Cond.code yX0_moult cX0_moult 5 none, Cond.methodLink RX0 126 Lib.Math.min.name, Cond.static Lib.Math.min.name, Cond.initialized "java/lang/Math", Cond.code Lib.Math.min.name Lib.Math.min.code 2 (some .int)]
def wsX6_turn_r3 : List Cond := [Cond.methodLink RX0 123 yX0_lossOf, Cond.static yX0_lossOf, Cond.code yX0_lossOf cX0_lossOf 4 (some .int), Cond.methodLink RX0 131 Lib.Math.max.name, Cond.static Lib.Math.max.name, Cond.code Lib.Math.max.name Lib.Math.max.code 2 (some .int)]
def wsX6_turn : List Cond := .code yX6_turn cX6_turn 4 (some .int) :: ((wsX6_turn_r1 ++ (wsX6_turn_r2 ++ wsX6_turn_r3)) ++ wsX60 ++ wsX00)
def wsX6_need_r1 : List Cond := [Cond.fieldLink RX6 12 "FeatherShares" "now" "LFeatherShares$Flock;", Cond.fieldLink RX6 16 "FeatherShares" "trial" "LFeatherShares$Flock;", Cond.methodLink RX6 145 yX6_isOwner, Cond.static yX6_isOwner, Cond.initialized RX6, Cond.code yX6_isOwner cX6_isOwner 1 (some .boolean), Cond.methodLink RX6 69 yX6_isWithin, Cond.static yX6_isWithin, Cond.code yX6_isWithin cX6_isWithin 3 (some .boolean), Cond.instanceMethod yX0_hasGoose, Cond.initialized RX0, Cond.selects RX0 yX0_hasGoose yX0_hasGoose, Cond.code yX0_hasGoose cX0_hasGoose 2 (some .boolean), Cond.fieldLink RX0 9 "FeatherShares$Flock" "geese" "I", Cond.instanceMethod yX0_eggOwner, Cond.selects RX0 yX0_eggOwner yX0_eggOwner, Cond.code yX0_eggOwner cX0_eggOwner 4 (some .int), Cond.fieldLink RX0 25 "FeatherShares$Flock" "skin" "[I", Cond.methodLink RX0 68 yX0_held, Cond.instanceMethod yX0_held, Cond.selects RX0 yX0_held yX0_held, Cond.code yX0_held cX0_held 3 (some .int), Cond.fieldLink RX0 31 "FeatherShares$Flock" "feathers" "[I", Cond.instanceMethod yX0_copyFrom]
def wsX6_need_r2 : List Cond := [Cond.selects RX0 yX0_copyFrom yX0_copyFrom, Cond.code yX0_copyFrom cX0_copyFrom 2 none, Cond.fieldLink RX0 15 "FeatherShares$Flock" "week" "I", Cond.fieldLink RX0 18 "FeatherShares$Flock" "trades" "I", Cond.fieldLink RX0 21 "FeatherShares$Flock" "kind" "[I", Cond.methodLink RX0 58 arraycopyName, Cond.native arraycopyName, Cond.static arraycopyName, Cond.initialized "java/lang/System", Cond.fieldLink RX0 28 "FeatherShares$Flock" "price" "[I", Cond.fieldLink RX0 34 "FeatherShares$Flock" "money" "[I", Cond.fieldLink RX0 37 "FeatherShares$Flock" "eggsHad" "[I", Cond.fieldLink RX0 40 "FeatherShares$Flock" "planBuyer" "[I", Cond.fieldLink RX0 43 "FeatherShares$Flock" "planSeller" "[I", Cond.fieldLink RX0 46 "FeatherShares$Flock" "planGoose" "[I", Cond.fieldLink RX0 49 "FeatherShares$Flock" "planAmount" "[I", Cond.instanceMethod yX0_canTrade, Cond.selects RX0 yX0_canTrade yX0_canTrade, Cond.code yX0_canTrade cX0_canTrade 6 (some .boolean), Cond.methodLink RX0 92 yX0_canPluck, Cond.instanceMethod yX0_canPluck, Cond.selects RX0 yX0_canPluck yX0_canPluck, Cond.code yX0_canPluck cX0_canPluck 5 (some .boolean), Cond.instanceMethod yX0_wouldGetEgg]
def wsX6_need_r3 : List Cond := [Cond.selects RX0 yX0_wouldGetEgg yX0_wouldGetEgg, Cond.code yX0_wouldGetEgg cX0_wouldGetEgg 6 (some .boolean), Cond.methodLink RX0 96 yX0_moveFeathers, Cond.instanceMethod yX0_moveFeathers, Cond.selects RX0 yX0_moveFeathers yX0_moveFeathers, Cond.code yX0_moveFeathers cX0_moveFeathers 5 none, Cond.methodLink RX0 76 yX0_eggOwner]
def wsX6_need : List Cond := .code yX6_need cX6_need 6 (some .int) :: ((wsX6_need_r1 ++ (wsX6_need_r2 ++ wsX6_need_r3)) ++ wsX60 ++ wsX00)
def wsX6_best_r1 : List Cond := [Cond.fieldLink RX6 55 "FeatherShares" "rowSearch" "LFeatherShares$RowSearch;", Cond.fieldLink RX6 12 "FeatherShares" "now" "LFeatherShares$Flock;", Cond.methodLink RX6 145 yX6_isOwner, Cond.static yX6_isOwner, Cond.initialized RX6, Cond.code yX6_isOwner cX6_isOwner 1 (some .boolean), Cond.methodLink RX6 69 yX6_isWithin, Cond.static yX6_isWithin, Cond.code yX6_isWithin cX6_isWithin 3 (some .boolean), Cond.instanceMethod yX1_findBest, Cond.initialized RX1, Cond.selects RX1 yX1_findBest yX1_findBest, Cond.code yX1_findBest cX1_findBest 5 none, Cond.fieldLink RX1 12 "FeatherShares$RowSearch" "flock" "LFeatherShares$Flock;", Cond.fieldLink RX1 26 "FeatherShares$RowSearch" "buyer" "I", Cond.fieldLink RX1 29 "FeatherShares$RowSearch" "bestGeese" "I", Cond.fieldLink RX1 32 "FeatherShares$RowSearch" "bestMoney" "I", Cond.fieldLink RX1 35 "FeatherShares$RowSearch" "bestLength" "I", Cond.fieldLink RX1 38 "FeatherShares$RowSearch" "bestFirst" "I", Cond.fieldLink RX1 41 "FeatherShares$RowSearch" "bestSecond" "I", Cond.fieldLink RX1 22 "FeatherShares$RowSearch" "codeCount" "I", Cond.fieldLink RX1 18 "FeatherShares$RowSearch" "codes" "[I", Cond.instanceMethod yX0_copyFrom, Cond.initialized RX0]
def wsX6_best_r2 : List Cond := [Cond.selects RX0 yX0_copyFrom yX0_copyFrom, Cond.code yX0_copyFrom cX0_copyFrom 2 none, Cond.fieldLink RX0 9 "FeatherShares$Flock" "geese" "I", Cond.fieldLink RX0 15 "FeatherShares$Flock" "week" "I", Cond.fieldLink RX0 18 "FeatherShares$Flock" "trades" "I", Cond.fieldLink RX0 21 "FeatherShares$Flock" "kind" "[I", Cond.methodLink RX0 58 arraycopyName, Cond.native arraycopyName, Cond.static arraycopyName, Cond.initialized "java/lang/System", Cond.fieldLink RX0 25 "FeatherShares$Flock" "skin" "[I", Cond.fieldLink RX0 28 "FeatherShares$Flock" "price" "[I", Cond.fieldLink RX0 31 "FeatherShares$Flock" "feathers" "[I", Cond.fieldLink RX0 34 "FeatherShares$Flock" "money" "[I", Cond.fieldLink RX0 37 "FeatherShares$Flock" "eggsHad" "[I", Cond.fieldLink RX0 40 "FeatherShares$Flock" "planBuyer" "[I", Cond.fieldLink RX0 43 "FeatherShares$Flock" "planSeller" "[I", Cond.fieldLink RX0 46 "FeatherShares$Flock" "planGoose" "[I", Cond.fieldLink RX0 49 "FeatherShares$Flock" "planAmount" "[I", Cond.instanceMethod yX0_geeseWithEggOf, Cond.selects RX0 yX0_geeseWithEggOf yX0_geeseWithEggOf, Cond.code yX0_geeseWithEggOf cX0_geeseWithEggOf 4 (some .int), Cond.methodLink RX0 76 yX0_eggOwner, Cond.instanceMethod yX0_eggOwner]
def wsX6_best_r3 : List Cond := [Cond.selects RX0 yX0_eggOwner yX0_eggOwner, Cond.code yX0_eggOwner cX0_eggOwner 4 (some .int), Cond.methodLink RX0 68 yX0_held, Cond.instanceMethod yX0_held, Cond.selects RX0 yX0_held yX0_held, Cond.code yX0_held cX0_held 3 (some .int), Cond.methodLink RX1 52 yJ6_bitCount_0f7a4, Cond.static yJ6_bitCount_0f7a4, Cond.initialized RJ6, Cond.code yJ6_bitCount_0f7a4 cJ6_bitCount_0f7a4 1 (some .int), Cond.constant RJ6 265 (1431655765), Cond.constant RJ6 266 (858993459), Cond.constant RJ6 267 (252645135), Cond.methodLink RX1 57 yX1_listCodes, Cond.instanceMethod yX1_listCodes, Cond.selects RX1 yX1_listCodes yX1_listCodes, Cond.code yX1_listCodes cX1_listCodes 4 none, Cond.instanceMethod yX0_canTrade, Cond.selects RX0 yX0_canTrade yX0_canTrade, Cond.code yX0_canTrade cX0_canTrade 6 (some .boolean), Cond.methodLink RX0 92 yX0_canPluck, Cond.instanceMethod yX0_canPluck, Cond.selects RX0 yX0_canPluck yX0_canPluck, Cond.code yX0_canPluck cX0_canPluck 5 (some .boolean)]
def wsX6_best_r4 : List Cond := [Cond.methodLink RX1 60 yX1_make, Cond.instanceMethod yX1_make, Cond.selects RX1 yX1_make yX1_make, Cond.code yX1_make cX1_make 3 none, Cond.methodLink RX1 79 yX1_sellerOf, Cond.static yX1_sellerOf, Cond.code yX1_sellerOf cX1_sellerOf 1 (some .int), Cond.methodLink RX1 82 yX1_gooseOf, Cond.static yX1_gooseOf, Cond.code yX1_gooseOf cX1_gooseOf 1 (some .int), Cond.methodLink RX1 85 yX1_amountOf, Cond.static yX1_amountOf, Cond.code yX1_amountOf cX1_amountOf 1 (some .int), Cond.instanceMethod yX0_exchange, Cond.selects RX0 yX0_exchange yX0_exchange, Cond.code yX0_exchange cX0_exchange 5 none, Cond.methodLink RX0 96 yX0_moveFeathers, Cond.instanceMethod yX0_moveFeathers, Cond.selects RX0 yX0_moveFeathers yX0_moveFeathers, Cond.code yX0_moveFeathers cX0_moveFeathers 5 none, Cond.methodLink RX1 64 yX1_weigh, Cond.instanceMethod yX1_weigh, Cond.selects RX1 yX1_weigh yX1_weigh, Cond.code yX1_weigh cX1_weigh 7 none]
def wsX6_best_r5 : List Cond := [Cond.methodLink RX1 95 yX1_isBetter, Cond.instanceMethod yX1_isBetter, Cond.selects RX1 yX1_isBetter yX1_isBetter, Cond.code yX1_isBetter cX1_isBetter 4 (some .boolean), Cond.methodLink RX1 68 yX1_weighPairs, Cond.instanceMethod yX1_weighPairs, Cond.selects RX1 yX1_weighPairs yX1_weighPairs, Cond.code yX1_weighPairs cX1_weighPairs 5 none]
def wsX6_best : List Cond := .code yX6_best cX6_best 4 (some .int) :: ((wsX6_best_r1 ++ (wsX6_best_r2 ++ (wsX6_best_r3 ++ (wsX6_best_r4 ++ wsX6_best_r5)))) ++ wsX60 ++ wsX10 ++ wsX00)
def wsX6_worthByPlanWithout_r1 : List Cond := [Cond.fieldLink RX6 16 "FeatherShares" "trial" "LFeatherShares$Flock;", Cond.fieldLink RX6 12 "FeatherShares" "now" "LFeatherShares$Flock;", Cond.instanceMethod yX0_copyFrom, Cond.initialized RX0, Cond.selects RX0 yX0_copyFrom yX0_copyFrom, Cond.code yX0_copyFrom cX0_copyFrom 2 none, Cond.fieldLink RX0 9 "FeatherShares$Flock" "geese" "I", Cond.fieldLink RX0 15 "FeatherShares$Flock" "week" "I", Cond.fieldLink RX0 18 "FeatherShares$Flock" "trades" "I", Cond.fieldLink RX0 21 "FeatherShares$Flock" "kind" "[I", Cond.methodLink RX0 58 arraycopyName, Cond.native arraycopyName, Cond.static arraycopyName, Cond.initialized "java/lang/System", Cond.fieldLink RX0 25 "FeatherShares$Flock" "skin" "[I", Cond.fieldLink RX0 28 "FeatherShares$Flock" "price" "[I", Cond.fieldLink RX0 31 "FeatherShares$Flock" "feathers" "[I", Cond.fieldLink RX0 34 "FeatherShares$Flock" "money" "[I", Cond.fieldLink RX0 37 "FeatherShares$Flock" "eggsHad" "[I", Cond.fieldLink RX0 40 "FeatherShares$Flock" "planBuyer" "[I", Cond.fieldLink RX0 43 "FeatherShares$Flock" "planSeller" "[I", Cond.fieldLink RX0 46 "FeatherShares$Flock" "planGoose" "[I", Cond.fieldLink RX0 49 "FeatherShares$Flock" "planAmount" "[I", Cond.instanceMethod yX0_followPlanWithout]
def wsX6_worthByPlanWithout_r2 : List Cond := [Cond.selects RX0 yX0_followPlanWithout yX0_followPlanWithout, Cond.code yX0_followPlanWithout cX0_followPlanWithout 3 none, Cond.methodLink RX0 112 yX0_tryPlanned, Cond.instanceMethod yX0_tryPlanned, Cond.selects RX0 yX0_tryPlanned yX0_tryPlanned, Cond.code yX0_tryPlanned cX0_tryPlanned 2 (some .boolean), Cond.methodLink RX0 109 yX0_tryTrade, Cond.instanceMethod yX0_tryTrade, Cond.selects RX0 yX0_tryTrade yX0_tryTrade, Cond.code yX0_tryTrade cX0_tryTrade 5 (some .boolean), Cond.methodLink RX0 100 yX0_isTrade, Cond.instanceMethod yX0_isTrade, Cond.selects RX0 yX0_isTrade yX0_isTrade, Cond.code yX0_isTrade cX0_isTrade 5 (some .boolean), Cond.static yX6_isOwner, Cond.initialized RX6, Cond.code yX6_isOwner cX6_isOwner 1 (some .boolean), Cond.methodLink RX6 69 yX6_isWithin, Cond.static yX6_isWithin, Cond.code yX6_isWithin cX6_isWithin 3 (some .boolean), Cond.methodLink RX0 89 yX0_hasGoose, Cond.instanceMethod yX0_hasGoose, Cond.selects RX0 yX0_hasGoose yX0_hasGoose, Cond.code yX0_hasGoose cX0_hasGoose 2 (some .boolean)]
def wsX6_worthByPlanWithout_r3 : List Cond := [Cond.methodLink RX0 103 yX0_canTrade, Cond.instanceMethod yX0_canTrade, Cond.selects RX0 yX0_canTrade yX0_canTrade, Cond.code yX0_canTrade cX0_canTrade 6 (some .boolean), Cond.methodLink RX0 92 yX0_canPluck, Cond.instanceMethod yX0_canPluck, Cond.selects RX0 yX0_canPluck yX0_canPluck, Cond.code yX0_canPluck cX0_canPluck 5 (some .boolean), Cond.methodLink RX0 68 yX0_held, Cond.instanceMethod yX0_held, Cond.selects RX0 yX0_held yX0_held, Cond.code yX0_held cX0_held 3 (some .int), Cond.methodLink RX0 106 yX0_exchange, Cond.instanceMethod yX0_exchange, Cond.selects RX0 yX0_exchange yX0_exchange, Cond.code yX0_exchange cX0_exchange 5 none, Cond.methodLink RX0 96 yX0_moveFeathers, Cond.instanceMethod yX0_moveFeathers, Cond.selects RX0 yX0_moveFeathers yX0_moveFeathers, Cond.code yX0_moveFeathers cX0_moveFeathers 5 none, Cond.instanceMethod yX0_worth, Cond.selects RX0 yX0_worth yX0_worth, Cond.code yX0_worth cX0_worth 4 (some .int)]
def wsX6_worthByPlanWithout : List Cond := .code yX6_worthByPlanWithout cX6_worthByPlanWithout 3 (some .int) :: ((wsX6_worthByPlanWithout_r1 ++ (wsX6_worthByPlanWithout_r2 ++ wsX6_worthByPlanWithout_r3)) ++ wsX60 ++ wsX00)
def wsX6_leave_r1 : List Cond := [Cond.fieldLink RX6 12 "FeatherShares" "now" "LFeatherShares$Flock;", Cond.methodLink RX6 145 yX6_isOwner, Cond.static yX6_isOwner, Cond.initialized RX6, Cond.code yX6_isOwner cX6_isOwner 1 (some .boolean), Cond.methodLink RX6 69 yX6_isWithin, Cond.static yX6_isWithin, Cond.code yX6_isWithin cX6_isWithin 3 (some .boolean), Cond.methodLink RX6 235 yX6_worthByPlanWithout, Cond.instanceMethod yX6_worthByPlanWithout, Cond.selects RX6 yX6_worthByPlanWithout yX6_worthByPlanWithout, Cond.code yX6_worthByPlanWithout cX6_worthByPlanWithout 3 (some .int), Cond.fieldLink RX6 16 "FeatherShares" "trial" "LFeatherShares$Flock;", Cond.instanceMethod yX0_copyFrom, Cond.initialized RX0, Cond.selects RX0 yX0_copyFrom yX0_copyFrom, Cond.code yX0_copyFrom cX0_copyFrom 2 none, Cond.fieldLink RX0 9 "FeatherShares$Flock" "geese" "I", Cond.fieldLink RX0 15 "FeatherShares$Flock" "week" "I", Cond.fieldLink RX0 18 "FeatherShares$Flock" "trades" "I", Cond.fieldLink RX0 21 "FeatherShares$Flock" "kind" "[I", Cond.methodLink RX0 58 arraycopyName, Cond.native arraycopyName, Cond.static arraycopyName]
def wsX6_leave_r2 : List Cond := [Cond.initialized "java/lang/System", Cond.fieldLink RX0 25 "FeatherShares$Flock" "skin" "[I", Cond.fieldLink RX0 28 "FeatherShares$Flock" "price" "[I", Cond.fieldLink RX0 31 "FeatherShares$Flock" "feathers" "[I", Cond.fieldLink RX0 34 "FeatherShares$Flock" "money" "[I", Cond.fieldLink RX0 37 "FeatherShares$Flock" "eggsHad" "[I", Cond.fieldLink RX0 40 "FeatherShares$Flock" "planBuyer" "[I", Cond.fieldLink RX0 43 "FeatherShares$Flock" "planSeller" "[I", Cond.fieldLink RX0 46 "FeatherShares$Flock" "planGoose" "[I", Cond.fieldLink RX0 49 "FeatherShares$Flock" "planAmount" "[I", Cond.instanceMethod yX0_followPlanWithout, Cond.selects RX0 yX0_followPlanWithout yX0_followPlanWithout, Cond.code yX0_followPlanWithout cX0_followPlanWithout 3 none, Cond.methodLink RX0 112 yX0_tryPlanned, Cond.instanceMethod yX0_tryPlanned, Cond.selects RX0 yX0_tryPlanned yX0_tryPlanned, Cond.code yX0_tryPlanned cX0_tryPlanned 2 (some .boolean), Cond.methodLink RX0 109 yX0_tryTrade, Cond.instanceMethod yX0_tryTrade, Cond.selects RX0 yX0_tryTrade yX0_tryTrade, Cond.code yX0_tryTrade cX0_tryTrade 5 (some .boolean), Cond.methodLink RX0 100 yX0_isTrade, Cond.instanceMethod yX0_isTrade, Cond.selects RX0 yX0_isTrade yX0_isTrade]
def wsX6_leave_r3 : List Cond := [Cond.code yX0_isTrade cX0_isTrade 5 (some .boolean), Cond.methodLink RX0 89 yX0_hasGoose, Cond.instanceMethod yX0_hasGoose, Cond.selects RX0 yX0_hasGoose yX0_hasGoose, Cond.code yX0_hasGoose cX0_hasGoose 2 (some .boolean), Cond.methodLink RX0 103 yX0_canTrade, Cond.instanceMethod yX0_canTrade, Cond.selects RX0 yX0_canTrade yX0_canTrade, Cond.code yX0_canTrade cX0_canTrade 6 (some .boolean), Cond.methodLink RX0 92 yX0_canPluck, Cond.instanceMethod yX0_canPluck, Cond.selects RX0 yX0_canPluck yX0_canPluck, Cond.code yX0_canPluck cX0_canPluck 5 (some .boolean), Cond.methodLink RX0 68 yX0_held, Cond.instanceMethod yX0_held, Cond.selects RX0 yX0_held yX0_held, Cond.code yX0_held cX0_held 3 (some .int), Cond.methodLink RX0 106 yX0_exchange, Cond.instanceMethod yX0_exchange, Cond.selects RX0 yX0_exchange yX0_exchange, Cond.code yX0_exchange cX0_exchange 5 none, Cond.methodLink RX0 96 yX0_moveFeathers, Cond.instanceMethod yX0_moveFeathers, Cond.selects RX0 yX0_moveFeathers yX0_moveFeathers]
def wsX6_leave_r4 : List Cond := [Cond.code yX0_moveFeathers cX0_moveFeathers 5 none, Cond.instanceMethod yX0_worth, Cond.selects RX0 yX0_worth yX0_worth, Cond.code yX0_worth cX0_worth 4 (some .int)]
def wsX6_leave : List Cond := .code yX6_leave cX6_leave 7 (some .int) :: ((wsX6_leave_r1 ++ (wsX6_leave_r2 ++ (wsX6_leave_r3 ++ wsX6_leave_r4))) ++ wsX60 ++ wsX00)
def wsX6_swings_r1 : List Cond := [Cond.fieldLink RX6 12 "FeatherShares" "now" "LFeatherShares$Flock;", Cond.instanceMethod yX0_hasGoose, Cond.initialized RX0, Cond.selects RX0 yX0_hasGoose yX0_hasGoose, Cond.code yX0_hasGoose cX0_hasGoose 2 (some .boolean), Cond.fieldLink RX0 9 "FeatherShares$Flock" "geese" "I", Cond.static yX6_isWithin, Cond.initialized RX6, Cond.code yX6_isWithin cX6_isWithin 3 (some .boolean), Cond.methodLink RX6 145 yX6_isOwner, Cond.static yX6_isOwner, Cond.code yX6_isOwner cX6_isOwner 1 (some .boolean), Cond.methodLink RX6 69 yX6_isWithin, Cond.instanceMethod yX0_setsSwungBy, Cond.selects RX0 yX0_setsSwungBy yX0_setsSwungBy, Cond.code yX0_setsSwungBy cX0_setsSwungBy 6 (some .int), Cond.methodLink RX0 134 yX0_isInPower, Cond.instanceMethod yX0_isInPower, Cond.selects RX0 yX0_isInPower yX0_isInPower, Cond.code yX0_isInPower cX0_isInPower 5 (some .boolean), Cond.methodLink RX0 68 yX0_held, Cond.instanceMethod yX0_held, Cond.selects RX0 yX0_held yX0_held, Cond.code yX0_held cX0_held 3 (some .int)]
def wsX6_swings_r2 : List Cond := [Cond.fieldLink RX0 31 "FeatherShares$Flock" "feathers" "[I", Cond.methodLink RX0 72 yX0_feathersOf, Cond.instanceMethod yX0_feathersOf, Cond.selects RX0 yX0_feathersOf yX0_feathersOf, Cond.code yX0_feathersOf cX0_feathersOf 4 (some .int)]
def wsX6_swings : List Cond := .code yX6_swings cX6_swings 3 (some .int) :: ((wsX6_swings_r1 ++ wsX6_swings_r2) ++ wsX60 ++ wsX00)
def wsX6_commonDivisor : List Cond := .code yX6_commonDivisor cX6_commonDivisor 11 (some .long) :: ([])
def wsX6_partOfFraction : List Cond := .code yX6_partOfFraction cX6_partOfFraction 7 (some .long) :: ([.methodLink RX6 325 Lib.MathLoose.max_long.x, .static Lib.MathLoose.max_long.x, .initialized "java/lang/Math", .code Lib.MathLoose.max_long.x Lib.MathLoose.max_long.code 4 (some .long), .methodLink RX6 321 yX6_commonDivisor, .static yX6_commonDivisor, .initialized RX6, .code yX6_commonDivisor cX6_commonDivisor 11 (some .long)])
def wsX6_power_r1 : List Cond := [Cond.fieldLink RX6 12 "FeatherShares" "now" "LFeatherShares$Flock;", Cond.constantLong RX6 241 (-1), Cond.methodLink RX6 243 Lib.Math.max.name, Cond.static Lib.Math.max.name, Cond.initialized "java/lang/Math", Cond.code Lib.Math.max.name Lib.Math.max.code 2 (some .int), Cond.instanceMethod yX0_hasGoose, Cond.initialized RX0, Cond.selects RX0 yX0_hasGoose yX0_hasGoose, Cond.code yX0_hasGoose cX0_hasGoose 2 (some .boolean), Cond.fieldLink RX0 9 "FeatherShares$Flock" "geese" "I", Cond.static yX6_isWithin, Cond.initialized RX6, Cond.code yX6_isWithin cX6_isWithin 3 (some .boolean), Cond.methodLink RX6 145 yX6_isOwner, Cond.static yX6_isOwner, Cond.code yX6_isOwner cX6_isOwner 1 (some .boolean), Cond.methodLink RX6 69 yX6_isWithin, Cond.instanceMethod yX0_setsSwungBy, Cond.selects RX0 yX0_setsSwungBy yX0_setsSwungBy, Cond.code yX0_setsSwungBy cX0_setsSwungBy 6 (some .int), Cond.methodLink RX0 134 yX0_isInPower, Cond.instanceMethod yX0_isInPower, Cond.selects RX0 yX0_isInPower yX0_isInPower]
def wsX6_power_r2 : List Cond := [Cond.code yX0_isInPower cX0_isInPower 5 (some .boolean), Cond.methodLink RX0 68 yX0_held, Cond.instanceMethod yX0_held, Cond.selects RX0 yX0_held yX0_held, Cond.code yX0_held cX0_held 3 (some .int), Cond.fieldLink RX0 31 "FeatherShares$Flock" "feathers" "[I", Cond.methodLink RX0 72 yX0_feathersOf, Cond.instanceMethod yX0_feathersOf, Cond.selects RX0 yX0_feathersOf yX0_feathersOf, Cond.code yX0_feathersOf cX0_feathersOf 4 (some .int), Cond.methodLink RX6 248 yX6_partOfFraction, Cond.static yX6_partOfFraction, Cond.code yX6_partOfFraction cX6_partOfFraction 7 (some .long), Cond.methodLink RX6 325 Lib.MathLoose.max_long.x, Cond.static Lib.MathLoose.max_long.x, Cond.code Lib.MathLoose.max_long.x Lib.MathLoose.max_long.code 4 (some .long), Cond.methodLink RX6 321 yX6_commonDivisor, Cond.static yX6_commonDivisor, Cond.code yX6_commonDivisor cX6_commonDivisor 11 (some .long)]
def wsX6_power : List Cond := .code yX6_power cX6_power 6 (some .long) :: ((wsX6_power_r1 ++ wsX6_power_r2) ++ wsX60 ++ wsX00)
def wsX6_reign : List Cond := .code yX6_reign cX6_reign 4 (some .int) :: ([.fieldLink RX6 12 "FeatherShares" "now" "LFeatherShares$Flock;", .instanceMethod yX0_hasGoose, .initialized RX0, .selects RX0 yX0_hasGoose yX0_hasGoose, .code yX0_hasGoose cX0_hasGoose 2 (some .boolean), .fieldLink RX0 9 "FeatherShares$Flock" "geese" "I", .static yX6_isWithin, .initialized RX6, .code yX6_isWithin cX6_isWithin 3 (some .boolean), .methodLink RX6 145 yX6_isOwner, .static yX6_isOwner, .code yX6_isOwner cX6_isOwner 1 (some .boolean), .methodLink RX6 69 yX6_isWithin, .instanceMethod yX0_feathersOf, .selects RX0 yX0_feathersOf yX0_feathersOf, .code yX0_feathersOf cX0_feathersOf 4 (some .int), .methodLink RX0 68 yX0_held, .instanceMethod yX0_held, .selects RX0 yX0_held yX0_held, .code yX0_held cX0_held 3 (some .int), .fieldLink RX0 31 "FeatherShares$Flock" "feathers" "[I"] ++ wsX60 ++ wsX00)
def wsX6_areOdds : List Cond := .code yX6_areOdds cX6_areOdds 2 (some .boolean) :: ([.methodLink RX6 69 yX6_isWithin, .static yX6_isWithin, .initialized RX6, .code yX6_isWithin cX6_isWithin 3 (some .boolean)])
def wsX6_raised : List Cond := .code yX6_raised cX6_raised 5 (some .long) :: ([])
def wsX6_waysToMoult : List Cond := .code yX6_waysToMoult cX6_waysToMoult 6 (some .long) :: ([.methodLink RX6 260 yX6_raised, .static yX6_raised, .initialized RX6, .code yX6_raised cX6_raised 5 (some .long)])
def wsX6_luck_r1 : List Cond := [Cond.fieldLink RX6 12 "FeatherShares" "now" "LFeatherShares$Flock;", Cond.constantLong RX6 241 (-1), Cond.fieldLink RX6 16 "FeatherShares" "trial" "LFeatherShares$Flock;", Cond.methodLink RX6 252 yX6_areOdds, Cond.static yX6_areOdds, Cond.initialized RX6, Cond.code yX6_areOdds cX6_areOdds 2 (some .boolean), Cond.methodLink RX6 69 yX6_isWithin, Cond.static yX6_isWithin, Cond.code yX6_isWithin cX6_isWithin 3 (some .boolean), Cond.instanceMethod yX0_hasGoose, Cond.initialized RX0, Cond.selects RX0 yX0_hasGoose yX0_hasGoose, Cond.code yX0_hasGoose cX0_hasGoose 2 (some .boolean), Cond.fieldLink RX0 9 "FeatherShares$Flock" "geese" "I", Cond.methodLink RX6 145 yX6_isOwner, Cond.static yX6_isOwner, Cond.code yX6_isOwner cX6_isOwner 1 (some .boolean), Cond.instanceMethod yX0_copyFrom, Cond.selects RX0 yX0_copyFrom yX0_copyFrom, Cond.code yX0_copyFrom cX0_copyFrom 2 none, Cond.fieldLink RX0 15 "FeatherShares$Flock" "week" "I", Cond.fieldLink RX0 18 "FeatherShares$Flock" "trades" "I", Cond.fieldLink RX0 21 "FeatherShares$Flock" "kind" "[I"]
def wsX6_luck_r2 : List Cond := [Cond.methodLink RX0 58 arraycopyName, Cond.native arraycopyName, Cond.static arraycopyName, Cond.initialized "java/lang/System", Cond.fieldLink RX0 25 "FeatherShares$Flock" "skin" "[I", Cond.fieldLink RX0 28 "FeatherShares$Flock" "price" "[I", Cond.fieldLink RX0 31 "FeatherShares$Flock" "feathers" "[I", Cond.fieldLink RX0 34 "FeatherShares$Flock" "money" "[I", Cond.fieldLink RX0 37 "FeatherShares$Flock" "eggsHad" "[I", Cond.fieldLink RX0 40 "FeatherShares$Flock" "planBuyer" "[I", Cond.fieldLink RX0 43 "FeatherShares$Flock" "planSeller" "[I", Cond.fieldLink RX0 46 "FeatherShares$Flock" "planGoose" "[I", Cond.fieldLink RX0 49 "FeatherShares$Flock" "planAmount" "[I", Cond.instanceMethod yX0_eggOwner, Cond.selects RX0 yX0_eggOwner yX0_eggOwner, Cond.code yX0_eggOwner cX0_eggOwner 4 (some .int), Cond.methodLink RX0 68 yX0_held, Cond.instanceMethod yX0_held, Cond.selects RX0 yX0_held yX0_held, Cond.code yX0_held cX0_held 3 (some .int), Cond.methodLink RX6 256 yX6_waysToMoult, Cond.static yX6_waysToMoult, Cond.code yX6_waysToMoult cX6_waysToMoult 6 (some .long), Cond.methodLink RX6 260 yX6_raised]
def wsX6_luck_r3 : List Cond := [Cond.static yX6_raised, Cond.code yX6_raised cX6_raised 5 (some .long), Cond.instanceMethod yX0_passWeek, Cond.selects RX0 yX0_passWeek yX0_passWeek, Cond.code yX0_passWeek cX0_passWeek 4 (some .int), Cond.methodLink RX0 76 yX0_eggOwner, Cond.methodLink RX0 119 yX0_moult, Cond.instanceMethod yX0_moult, Cond.selects RX0 yX0_moult yX0_moult, Cond.code yX0_moult cX0_moult 5 none, Cond.methodLink RX0 126 Lib.Math.min.name, Cond.static Lib.Math.min.name, Cond.initialized "java/lang/Math", Cond.code Lib.Math.min.name Lib.Math.min.code 2 (some .int), Cond.methodLink RX0 123 yX0_lossOf, Cond.static yX0_lossOf, Cond.code yX0_lossOf cX0_lossOf 4 (some .int), Cond.methodLink RX0 131 Lib.Math.max.name, Cond.static Lib.Math.max.name, Cond.code Lib.Math.max.name Lib.Math.max.code 2 (some .int), Cond.methodLink RX6 248 yX6_partOfFraction, Cond.static yX6_partOfFraction, Cond.code yX6_partOfFraction cX6_partOfFraction 7 (some .long), Cond.methodLink RX6 325 Lib.MathLoose.max_long.x]
def wsX6_luck_r4 : List Cond := [Cond.static Lib.MathLoose.max_long.x, Cond.code Lib.MathLoose.max_long.x Lib.MathLoose.max_long.code 4 (some .long), Cond.methodLink RX6 321 yX6_commonDivisor, Cond.static yX6_commonDivisor, Cond.code yX6_commonDivisor cX6_commonDivisor 11 (some .long)]
def wsX6_luck : List Cond := .code yX6_luck cX6_luck 9 (some .long) :: ((wsX6_luck_r1 ++ (wsX6_luck_r2 ++ (wsX6_luck_r3 ++ wsX6_luck_r4))) ++ wsX60 ++ wsX00)
def wsX6_mean_r1 : List Cond := [Cond.fieldLink RX6 12 "FeatherShares" "now" "LFeatherShares$Flock;", Cond.constantLong RX6 241 (-1), Cond.fieldLink RX6 16 "FeatherShares" "trial" "LFeatherShares$Flock;", Cond.methodLink RX6 252 yX6_areOdds, Cond.static yX6_areOdds, Cond.initialized RX6, Cond.code yX6_areOdds cX6_areOdds 2 (some .boolean), Cond.methodLink RX6 69 yX6_isWithin, Cond.static yX6_isWithin, Cond.code yX6_isWithin cX6_isWithin 3 (some .boolean), Cond.instanceMethod yX0_hasGoose, Cond.initialized RX0, Cond.selects RX0 yX0_hasGoose yX0_hasGoose, Cond.code yX0_hasGoose cX0_hasGoose 2 (some .boolean), Cond.fieldLink RX0 9 "FeatherShares$Flock" "geese" "I", Cond.instanceMethod yX0_copyFrom, Cond.selects RX0 yX0_copyFrom yX0_copyFrom, Cond.code yX0_copyFrom cX0_copyFrom 2 none, Cond.fieldLink RX0 15 "FeatherShares$Flock" "week" "I", Cond.fieldLink RX0 18 "FeatherShares$Flock" "trades" "I", Cond.fieldLink RX0 21 "FeatherShares$Flock" "kind" "[I", Cond.methodLink RX0 58 arraycopyName, Cond.native arraycopyName, Cond.static arraycopyName]
def wsX6_mean_r2 : List Cond := [Cond.initialized "java/lang/System", Cond.fieldLink RX0 25 "FeatherShares$Flock" "skin" "[I", Cond.fieldLink RX0 28 "FeatherShares$Flock" "price" "[I", Cond.fieldLink RX0 31 "FeatherShares$Flock" "feathers" "[I", Cond.fieldLink RX0 34 "FeatherShares$Flock" "money" "[I", Cond.fieldLink RX0 37 "FeatherShares$Flock" "eggsHad" "[I", Cond.fieldLink RX0 40 "FeatherShares$Flock" "planBuyer" "[I", Cond.fieldLink RX0 43 "FeatherShares$Flock" "planSeller" "[I", Cond.fieldLink RX0 46 "FeatherShares$Flock" "planGoose" "[I", Cond.fieldLink RX0 49 "FeatherShares$Flock" "planAmount" "[I", Cond.methodLink RX6 256 yX6_waysToMoult, Cond.static yX6_waysToMoult, Cond.code yX6_waysToMoult cX6_waysToMoult 6 (some .long), Cond.methodLink RX6 260 yX6_raised, Cond.static yX6_raised, Cond.code yX6_raised cX6_raised 5 (some .long), Cond.instanceMethod yX0_feathersOf, Cond.selects RX0 yX0_feathersOf yX0_feathersOf, Cond.code yX0_feathersOf cX0_feathersOf 4 (some .int), Cond.methodLink RX0 68 yX0_held, Cond.instanceMethod yX0_held, Cond.selects RX0 yX0_held yX0_held, Cond.code yX0_held cX0_held 3 (some .int), Cond.instanceMethod yX0_passWeek]
def wsX6_mean_r3 : List Cond := [Cond.selects RX0 yX0_passWeek yX0_passWeek, Cond.code yX0_passWeek cX0_passWeek 4 (some .int), Cond.methodLink RX0 76 yX0_eggOwner, Cond.instanceMethod yX0_eggOwner, Cond.selects RX0 yX0_eggOwner yX0_eggOwner, Cond.code yX0_eggOwner cX0_eggOwner 4 (some .int), Cond.methodLink RX0 119 yX0_moult, Cond.instanceMethod yX0_moult, Cond.selects RX0 yX0_moult yX0_moult, Cond.code yX0_moult cX0_moult 5 none, Cond.methodLink RX0 126 Lib.Math.min.name, Cond.static Lib.Math.min.name, Cond.initialized "java/lang/Math", Cond.code Lib.Math.min.name Lib.Math.min.code 2 (some .int), Cond.methodLink RX0 123 yX0_lossOf, Cond.static yX0_lossOf, Cond.code yX0_lossOf cX0_lossOf 4 (some .int), Cond.methodLink RX0 131 Lib.Math.max.name, Cond.static Lib.Math.max.name, Cond.code Lib.Math.max.name Lib.Math.max.code 2 (some .int), Cond.methodLink RX6 248 yX6_partOfFraction, Cond.static yX6_partOfFraction, Cond.code yX6_partOfFraction cX6_partOfFraction 7 (some .long), Cond.methodLink RX6 325 Lib.MathLoose.max_long.x]
def wsX6_mean_r4 : List Cond := [Cond.static Lib.MathLoose.max_long.x, Cond.code Lib.MathLoose.max_long.x Lib.MathLoose.max_long.code 4 (some .long), Cond.methodLink RX6 321 yX6_commonDivisor, Cond.static yX6_commonDivisor, Cond.code yX6_commonDivisor cX6_commonDivisor 11 (some .long)]
def wsX6_mean : List Cond := .code yX6_mean cX6_mean 8 (some .long) :: ((wsX6_mean_r1 ++ (wsX6_mean_r2 ++ (wsX6_mean_r3 ++ wsX6_mean_r4))) ++ wsX60 ++ wsX00)
def wsX6_see : List Cond := .code yX6_see cX6_see 5 (some .int) :: ([.fieldLink RX6 12 "FeatherShares" "now" "LFeatherShares$Flock;", .fieldLink RX6 44 "FeatherShares" "sightings" "LFeatherShares$Sightings;", .instanceMethod yX0_hasGoose, .initialized RX0, .selects RX0 yX0_hasGoose yX0_hasGoose, .code yX0_hasGoose cX0_hasGoose 2 (some .boolean), .fieldLink RX0 9 "FeatherShares$Flock" "geese" "I", .static yX6_isWithin, .initialized RX6, .code yX6_isWithin cX6_isWithin 3 (some .boolean), .methodLink RX6 145 yX6_isOwner, .static yX6_isOwner, .code yX6_isOwner cX6_isOwner 1 (some .boolean), .methodLink RX6 69 yX6_isWithin, .instanceMethod yX3_add, .initialized RX3, .selects RX3 yX3_add yX3_add, .code yX3_add cX3_add 5 (some .boolean), .fieldLink RX3 9 "FeatherShares$Sightings" "size" "I", .fieldLink RX3 15 "FeatherShares$Sightings" "ofGoose" "[I", .fieldLink RX3 19 "FeatherShares$Sightings" "ofOwner" "[I", .fieldLink RX3 22 "FeatherShares$Sightings" "behindWeeks" "[I", .fieldLink RX3 25 "FeatherShares$Sightings" "feathersSeen" "[I"] ++ wsX60 ++ wsX30 ++ wsX00)
def wsX6_forget : List Cond := .code yX6_forget cX6_forget 3 (some .int) :: ([.fieldLink RX6 44 "FeatherShares" "sightings" "LFeatherShares$Sightings;", .methodLink RX6 69 yX6_isWithin, .static yX6_isWithin, .initialized RX6, .code yX6_isWithin cX6_isWithin 3 (some .boolean)] ++ wsX60 ++ wsX30)
def wsX6_kindsAsSeen_r1 : List Cond := [Cond.fieldLink RX6 16 "FeatherShares" "trial" "LFeatherShares$Flock;", Cond.fieldLink RX6 12 "FeatherShares" "now" "LFeatherShares$Flock;", Cond.fieldLink RX6 44 "FeatherShares" "sightings" "LFeatherShares$Sightings;", Cond.instanceMethod yX0_copyFrom, Cond.initialized RX0, Cond.selects RX0 yX0_copyFrom yX0_copyFrom, Cond.code yX0_copyFrom cX0_copyFrom 2 none, Cond.fieldLink RX0 9 "FeatherShares$Flock" "geese" "I", Cond.fieldLink RX0 15 "FeatherShares$Flock" "week" "I", Cond.fieldLink RX0 18 "FeatherShares$Flock" "trades" "I", Cond.fieldLink RX0 21 "FeatherShares$Flock" "kind" "[I", Cond.methodLink RX0 58 arraycopyName, Cond.native arraycopyName, Cond.static arraycopyName, Cond.initialized "java/lang/System", Cond.fieldLink RX0 25 "FeatherShares$Flock" "skin" "[I", Cond.fieldLink RX0 28 "FeatherShares$Flock" "price" "[I", Cond.fieldLink RX0 31 "FeatherShares$Flock" "feathers" "[I", Cond.fieldLink RX0 34 "FeatherShares$Flock" "money" "[I", Cond.fieldLink RX0 37 "FeatherShares$Flock" "eggsHad" "[I", Cond.fieldLink RX0 40 "FeatherShares$Flock" "planBuyer" "[I", Cond.fieldLink RX0 43 "FeatherShares$Flock" "planSeller" "[I", Cond.fieldLink RX0 46 "FeatherShares$Flock" "planGoose" "[I", Cond.fieldLink RX0 49 "FeatherShares$Flock" "planAmount" "[I"]
def wsX6_kindsAsSeen_r2 : List Cond := [Cond.instanceMethod yX3_agreeWith, Cond.initialized RX3, Cond.selects RX3 yX3_agreeWith yX3_agreeWith, Cond.code yX3_agreeWith cX3_agreeWith 3 (some .boolean), Cond.methodLink RX3 28 yX3_agreeAt, Cond.instanceMethod yX3_agreeAt, Cond.selects RX3 yX3_agreeAt yX3_agreeAt, Cond.code yX3_agreeAt cX3_agreeAt 4 (some .boolean), Cond.fieldLink RX3 9 "FeatherShares$Sightings" "size" "I", Cond.fieldLink RX3 22 "FeatherShares$Sightings" "behindWeeks" "[I", Cond.fieldLink RX3 15 "FeatherShares$Sightings" "ofGoose" "[I", Cond.fieldLink RX3 19 "FeatherShares$Sightings" "ofOwner" "[I", Cond.fieldLink RX3 25 "FeatherShares$Sightings" "feathersSeen" "[I", Cond.instanceMethod yX0_held, Cond.selects RX0 yX0_held yX0_held, Cond.code yX0_held cX0_held 3 (some .int), Cond.instanceMethod yX0_passWeek, Cond.selects RX0 yX0_passWeek yX0_passWeek, Cond.code yX0_passWeek cX0_passWeek 4 (some .int), Cond.methodLink RX0 76 yX0_eggOwner, Cond.instanceMethod yX0_eggOwner, Cond.selects RX0 yX0_eggOwner yX0_eggOwner, Cond.code yX0_eggOwner cX0_eggOwner 4 (some .int), Cond.methodLink RX0 68 yX0_held]
def wsX6_kindsAsSeen_r3 : List Cond := [Cond.methodLink RX0 119 yX0_moult, Cond.instanceMethod yX0_moult, Cond.selects RX0 yX0_moult yX0_moult, Cond.code yX0_moult cX0_moult 5 none, Cond.methodLink RX0 126 Lib.Math.min.name, Cond.static Lib.Math.min.name, Cond.initialized "java/lang/Math", Cond.code Lib.Math.min.name Lib.Math.min.code 2 (some .int), Cond.methodLink RX0 123 yX0_lossOf, Cond.static yX0_lossOf, Cond.code yX0_lossOf cX0_lossOf 4 (some .int), Cond.methodLink RX0 131 Lib.Math.max.name, Cond.static Lib.Math.max.name, Cond.code Lib.Math.max.name Lib.Math.max.code 2 (some .int)]
def wsX6_kindsAsSeen : List Cond := .code yX6_kindsAsSeen cX6_kindsAsSeen 4 (some .int) :: ((wsX6_kindsAsSeen_r1 ++ (wsX6_kindsAsSeen_r2 ++ wsX6_kindsAsSeen_r3)) ++ wsX60 ++ wsX00 ++ wsX30)
def wsX6_kinds_r1 : List Cond := [Cond.fieldLink RX6 12 "FeatherShares" "now" "LFeatherShares$Flock;", Cond.instanceMethod yX0_hasGoose, Cond.initialized RX0, Cond.selects RX0 yX0_hasGoose yX0_hasGoose, Cond.code yX0_hasGoose cX0_hasGoose 2 (some .boolean), Cond.fieldLink RX0 9 "FeatherShares$Flock" "geese" "I", Cond.static yX6_isWithin, Cond.initialized RX6, Cond.code yX6_isWithin cX6_isWithin 3 (some .boolean), Cond.methodLink RX6 267 yX6_kindsAsSeen, Cond.instanceMethod yX6_kindsAsSeen, Cond.selects RX6 yX6_kindsAsSeen yX6_kindsAsSeen, Cond.code yX6_kindsAsSeen cX6_kindsAsSeen 4 (some .int), Cond.fieldLink RX6 16 "FeatherShares" "trial" "LFeatherShares$Flock;", Cond.fieldLink RX6 44 "FeatherShares" "sightings" "LFeatherShares$Sightings;", Cond.instanceMethod yX0_copyFrom, Cond.selects RX0 yX0_copyFrom yX0_copyFrom, Cond.code yX0_copyFrom cX0_copyFrom 2 none, Cond.fieldLink RX0 15 "FeatherShares$Flock" "week" "I", Cond.fieldLink RX0 18 "FeatherShares$Flock" "trades" "I", Cond.fieldLink RX0 21 "FeatherShares$Flock" "kind" "[I", Cond.methodLink RX0 58 arraycopyName, Cond.native arraycopyName, Cond.static arraycopyName]
def wsX6_kinds_r2 : List Cond := [Cond.initialized "java/lang/System", Cond.fieldLink RX0 25 "FeatherShares$Flock" "skin" "[I", Cond.fieldLink RX0 28 "FeatherShares$Flock" "price" "[I", Cond.fieldLink RX0 31 "FeatherShares$Flock" "feathers" "[I", Cond.fieldLink RX0 34 "FeatherShares$Flock" "money" "[I", Cond.fieldLink RX0 37 "FeatherShares$Flock" "eggsHad" "[I", Cond.fieldLink RX0 40 "FeatherShares$Flock" "planBuyer" "[I", Cond.fieldLink RX0 43 "FeatherShares$Flock" "planSeller" "[I", Cond.fieldLink RX0 46 "FeatherShares$Flock" "planGoose" "[I", Cond.fieldLink RX0 49 "FeatherShares$Flock" "planAmount" "[I", Cond.instanceMethod yX3_agreeWith, Cond.initialized RX3, Cond.selects RX3 yX3_agreeWith yX3_agreeWith, Cond.code yX3_agreeWith cX3_agreeWith 3 (some .boolean), Cond.methodLink RX3 28 yX3_agreeAt, Cond.instanceMethod yX3_agreeAt, Cond.selects RX3 yX3_agreeAt yX3_agreeAt, Cond.code yX3_agreeAt cX3_agreeAt 4 (some .boolean), Cond.fieldLink RX3 9 "FeatherShares$Sightings" "size" "I", Cond.fieldLink RX3 22 "FeatherShares$Sightings" "behindWeeks" "[I", Cond.fieldLink RX3 15 "FeatherShares$Sightings" "ofGoose" "[I", Cond.fieldLink RX3 19 "FeatherShares$Sightings" "ofOwner" "[I", Cond.fieldLink RX3 25 "FeatherShares$Sightings" "feathersSeen" "[I", Cond.instanceMethod yX0_held]
def wsX6_kinds_r3 : List Cond := [Cond.selects RX0 yX0_held yX0_held, Cond.code yX0_held cX0_held 3 (some .int), Cond.instanceMethod yX0_passWeek, Cond.selects RX0 yX0_passWeek yX0_passWeek, Cond.code yX0_passWeek cX0_passWeek 4 (some .int), Cond.methodLink RX0 76 yX0_eggOwner, Cond.instanceMethod yX0_eggOwner, Cond.selects RX0 yX0_eggOwner yX0_eggOwner, Cond.code yX0_eggOwner cX0_eggOwner 4 (some .int), Cond.methodLink RX0 68 yX0_held, Cond.methodLink RX0 119 yX0_moult, Cond.instanceMethod yX0_moult, Cond.selects RX0 yX0_moult yX0_moult, Cond.code yX0_moult cX0_moult 5 none, Cond.methodLink RX0 126 Lib.Math.min.name, Cond.static Lib.Math.min.name, Cond.initialized "java/lang/Math", Cond.code Lib.Math.min.name Lib.Math.min.code 2 (some .int), Cond.methodLink RX0 123 yX0_lossOf, Cond.static yX0_lossOf, Cond.code yX0_lossOf cX0_lossOf 4 (some .int), Cond.methodLink RX0 131 Lib.Math.max.name, Cond.static Lib.Math.max.name, Cond.code Lib.Math.max.name Lib.Math.max.code 2 (some .int)]
def wsX6_kinds : List Cond := .code yX6_kinds cX6_kinds 2 (some .int) :: ((wsX6_kinds_r1 ++ (wsX6_kinds_r2 ++ wsX6_kinds_r3)) ++ wsX60 ++ wsX00 ++ wsX30)
def wsX6_skins_r1 : List Cond := [Cond.fieldLink RX6 12 "FeatherShares" "now" "LFeatherShares$Flock;", Cond.fieldLink RX6 16 "FeatherShares" "trial" "LFeatherShares$Flock;", Cond.fieldLink RX6 44 "FeatherShares" "sightings" "LFeatherShares$Sightings;", Cond.instanceMethod yX0_hasGoose, Cond.initialized RX0, Cond.selects RX0 yX0_hasGoose yX0_hasGoose, Cond.code yX0_hasGoose cX0_hasGoose 2 (some .boolean), Cond.fieldLink RX0 9 "FeatherShares$Flock" "geese" "I", Cond.static yX6_isWithin, Cond.initialized RX6, Cond.code yX6_isWithin cX6_isWithin 3 (some .boolean), Cond.instanceMethod yX0_copyFrom, Cond.selects RX0 yX0_copyFrom yX0_copyFrom, Cond.code yX0_copyFrom cX0_copyFrom 2 none, Cond.fieldLink RX0 15 "FeatherShares$Flock" "week" "I", Cond.fieldLink RX0 18 "FeatherShares$Flock" "trades" "I", Cond.fieldLink RX0 21 "FeatherShares$Flock" "kind" "[I", Cond.methodLink RX0 58 arraycopyName, Cond.native arraycopyName, Cond.static arraycopyName, Cond.initialized "java/lang/System", Cond.fieldLink RX0 25 "FeatherShares$Flock" "skin" "[I", Cond.fieldLink RX0 28 "FeatherShares$Flock" "price" "[I", Cond.fieldLink RX0 31 "FeatherShares$Flock" "feathers" "[I"]
def wsX6_skins_r2 : List Cond := [Cond.fieldLink RX0 34 "FeatherShares$Flock" "money" "[I", Cond.fieldLink RX0 37 "FeatherShares$Flock" "eggsHad" "[I", Cond.fieldLink RX0 40 "FeatherShares$Flock" "planBuyer" "[I", Cond.fieldLink RX0 43 "FeatherShares$Flock" "planSeller" "[I", Cond.fieldLink RX0 46 "FeatherShares$Flock" "planGoose" "[I", Cond.fieldLink RX0 49 "FeatherShares$Flock" "planAmount" "[I", Cond.instanceMethod yX3_agreeWith, Cond.initialized RX3, Cond.selects RX3 yX3_agreeWith yX3_agreeWith, Cond.code yX3_agreeWith cX3_agreeWith 3 (some .boolean), Cond.methodLink RX3 28 yX3_agreeAt, Cond.instanceMethod yX3_agreeAt, Cond.selects RX3 yX3_agreeAt yX3_agreeAt, Cond.code yX3_agreeAt cX3_agreeAt 4 (some .boolean), Cond.fieldLink RX3 9 "FeatherShares$Sightings" "size" "I", Cond.fieldLink RX3 22 "FeatherShares$Sightings" "behindWeeks" "[I", Cond.fieldLink RX3 15 "FeatherShares$Sightings" "ofGoose" "[I", Cond.fieldLink RX3 19 "FeatherShares$Sightings" "ofOwner" "[I", Cond.fieldLink RX3 25 "FeatherShares$Sightings" "feathersSeen" "[I", Cond.instanceMethod yX0_held, Cond.selects RX0 yX0_held yX0_held, Cond.code yX0_held cX0_held 3 (some .int), Cond.instanceMethod yX0_passWeek, Cond.selects RX0 yX0_passWeek yX0_passWeek]
def wsX6_skins_r3 : List Cond := [Cond.code yX0_passWeek cX0_passWeek 4 (some .int), Cond.methodLink RX0 76 yX0_eggOwner, Cond.instanceMethod yX0_eggOwner, Cond.selects RX0 yX0_eggOwner yX0_eggOwner, Cond.code yX0_eggOwner cX0_eggOwner 4 (some .int), Cond.methodLink RX0 68 yX0_held, Cond.methodLink RX0 119 yX0_moult, Cond.instanceMethod yX0_moult, Cond.selects RX0 yX0_moult yX0_moult, Cond.code yX0_moult cX0_moult 5 none, Cond.methodLink RX0 126 Lib.Math.min.name, Cond.static Lib.Math.min.name, Cond.initialized "java/lang/Math", Cond.code Lib.Math.min.name Lib.Math.min.code 2 (some .int), Cond.methodLink RX0 123 yX0_lossOf, Cond.static yX0_lossOf, Cond.code yX0_lossOf cX0_lossOf 4 (some .int), Cond.methodLink RX0 131 Lib.Math.max.name, Cond.static Lib.Math.max.name, Cond.code Lib.Math.max.name Lib.Math.max.code 2 (some .int)]
def wsX6_skins : List Cond := .code yX6_skins cX6_skins 4 (some .int) :: ((wsX6_skins_r1 ++ (wsX6_skins_r2 ++ wsX6_skins_r3)) ++ wsX60 ++ wsX00 ++ wsX30)
def wsX6_placeByKind : List Cond := .code yX6_placeByKind cX6_placeByKind 3 (some .int) :: ([])
def wsX6_foretellByKind_r1 : List Cond := [Cond.fieldLink RX6 16 "FeatherShares" "trial" "LFeatherShares$Flock;", Cond.fieldLink RX6 12 "FeatherShares" "now" "LFeatherShares$Flock;", Cond.fieldLink RX6 48 "FeatherShares" "laterByKind" "[I", Cond.instanceMethod yX0_copyFrom, Cond.initialized RX0, Cond.selects RX0 yX0_copyFrom yX0_copyFrom, Cond.code yX0_copyFrom cX0_copyFrom 2 none, Cond.fieldLink RX0 9 "FeatherShares$Flock" "geese" "I", Cond.fieldLink RX0 15 "FeatherShares$Flock" "week" "I", Cond.fieldLink RX0 18 "FeatherShares$Flock" "trades" "I", Cond.fieldLink RX0 21 "FeatherShares$Flock" "kind" "[I", Cond.methodLink RX0 58 arraycopyName, Cond.native arraycopyName, Cond.static arraycopyName, Cond.initialized "java/lang/System", Cond.fieldLink RX0 25 "FeatherShares$Flock" "skin" "[I", Cond.fieldLink RX0 28 "FeatherShares$Flock" "price" "[I", Cond.fieldLink RX0 31 "FeatherShares$Flock" "feathers" "[I", Cond.fieldLink RX0 34 "FeatherShares$Flock" "money" "[I", Cond.fieldLink RX0 37 "FeatherShares$Flock" "eggsHad" "[I", Cond.fieldLink RX0 40 "FeatherShares$Flock" "planBuyer" "[I", Cond.fieldLink RX0 43 "FeatherShares$Flock" "planSeller" "[I", Cond.fieldLink RX0 46 "FeatherShares$Flock" "planGoose" "[I", Cond.fieldLink RX0 49 "FeatherShares$Flock" "planAmount" "[I"]
def wsX6_foretellByKind_r2 : List Cond := [Cond.methodLink RX6 318 yX6_placeByKind, Cond.static yX6_placeByKind, Cond.initialized RX6, Cond.code yX6_placeByKind cX6_placeByKind 3 (some .int), Cond.instanceMethod yX0_held, Cond.selects RX0 yX0_held yX0_held, Cond.code yX0_held cX0_held 3 (some .int), Cond.instanceMethod yX0_passWeek, Cond.selects RX0 yX0_passWeek yX0_passWeek, Cond.code yX0_passWeek cX0_passWeek 4 (some .int), Cond.methodLink RX0 76 yX0_eggOwner, Cond.instanceMethod yX0_eggOwner, Cond.selects RX0 yX0_eggOwner yX0_eggOwner, Cond.code yX0_eggOwner cX0_eggOwner 4 (some .int), Cond.methodLink RX0 68 yX0_held, Cond.methodLink RX0 119 yX0_moult, Cond.instanceMethod yX0_moult, Cond.selects RX0 yX0_moult yX0_moult, Cond.code yX0_moult cX0_moult 5 none, Cond.methodLink RX0 126 Lib.Math.min.name, Cond.static Lib.Math.min.name, Cond.initialized "java/lang/Math", Cond.code Lib.Math.min.name Lib.Math.min.code 2 (some .int), Cond.methodLink RX0 123 yX0_lossOf]
def wsX6_foretellByKind_r3 : List Cond := [Cond.static yX0_lossOf, Cond.code yX0_lossOf cX0_lossOf 4 (some .int), Cond.methodLink RX0 131 Lib.Math.max.name, Cond.static Lib.Math.max.name, Cond.code Lib.Math.max.name Lib.Math.max.code 2 (some .int)]
def wsX6_foretellByKind : List Cond := .code yX6_foretellByKind cX6_foretellByKind 5 none :: ((wsX6_foretellByKind_r1 ++ (wsX6_foretellByKind_r2 ++ wsX6_foretellByKind_r3)) ++ wsX60 ++ wsX00)
def wsX6_mostKindsAlike : List Cond := .code yX6_mostKindsAlike cX6_mostKindsAlike 9 (some .int) :: ([.fieldLink RX6 48 "FeatherShares" "laterByKind" "[I", .methodLink RX6 243 Lib.Math.max.name, .static Lib.Math.max.name, .initialized "java/lang/Math", .code Lib.Math.max.name Lib.Math.max.code 2 (some .int), .methodLink RX6 318 yX6_placeByKind, .static yX6_placeByKind, .initialized RX6, .code yX6_placeByKind cX6_placeByKind 3 (some .int)] ++ wsX60)
def wsX6_look_r1 : List Cond := [Cond.fieldLink RX6 12 "FeatherShares" "now" "LFeatherShares$Flock;", Cond.instanceMethod yX0_hasGoose, Cond.initialized RX0, Cond.selects RX0 yX0_hasGoose yX0_hasGoose, Cond.code yX0_hasGoose cX0_hasGoose 2 (some .boolean), Cond.fieldLink RX0 9 "FeatherShares$Flock" "geese" "I", Cond.static yX6_isWithin, Cond.initialized RX6, Cond.code yX6_isWithin cX6_isWithin 3 (some .boolean), Cond.methodLink RX6 69 yX6_isWithin, Cond.methodLink RX6 267 yX6_kindsAsSeen, Cond.instanceMethod yX6_kindsAsSeen, Cond.selects RX6 yX6_kindsAsSeen yX6_kindsAsSeen, Cond.code yX6_kindsAsSeen cX6_kindsAsSeen 4 (some .int), Cond.fieldLink RX6 16 "FeatherShares" "trial" "LFeatherShares$Flock;", Cond.fieldLink RX6 44 "FeatherShares" "sightings" "LFeatherShares$Sightings;", Cond.instanceMethod yX0_copyFrom, Cond.selects RX0 yX0_copyFrom yX0_copyFrom, Cond.code yX0_copyFrom cX0_copyFrom 2 none, Cond.fieldLink RX0 15 "FeatherShares$Flock" "week" "I", Cond.fieldLink RX0 18 "FeatherShares$Flock" "trades" "I", Cond.fieldLink RX0 21 "FeatherShares$Flock" "kind" "[I", Cond.methodLink RX0 58 arraycopyName, Cond.native arraycopyName]
def wsX6_look_r2 : List Cond := [Cond.static arraycopyName, Cond.initialized "java/lang/System", Cond.fieldLink RX0 25 "FeatherShares$Flock" "skin" "[I", Cond.fieldLink RX0 28 "FeatherShares$Flock" "price" "[I", Cond.fieldLink RX0 31 "FeatherShares$Flock" "feathers" "[I", Cond.fieldLink RX0 34 "FeatherShares$Flock" "money" "[I", Cond.fieldLink RX0 37 "FeatherShares$Flock" "eggsHad" "[I", Cond.fieldLink RX0 40 "FeatherShares$Flock" "planBuyer" "[I", Cond.fieldLink RX0 43 "FeatherShares$Flock" "planSeller" "[I", Cond.fieldLink RX0 46 "FeatherShares$Flock" "planGoose" "[I", Cond.fieldLink RX0 49 "FeatherShares$Flock" "planAmount" "[I", Cond.instanceMethod yX3_agreeWith, Cond.initialized RX3, Cond.selects RX3 yX3_agreeWith yX3_agreeWith, Cond.code yX3_agreeWith cX3_agreeWith 3 (some .boolean), Cond.methodLink RX3 28 yX3_agreeAt, Cond.instanceMethod yX3_agreeAt, Cond.selects RX3 yX3_agreeAt yX3_agreeAt, Cond.code yX3_agreeAt cX3_agreeAt 4 (some .boolean), Cond.fieldLink RX3 9 "FeatherShares$Sightings" "size" "I", Cond.fieldLink RX3 22 "FeatherShares$Sightings" "behindWeeks" "[I", Cond.fieldLink RX3 15 "FeatherShares$Sightings" "ofGoose" "[I", Cond.fieldLink RX3 19 "FeatherShares$Sightings" "ofOwner" "[I", Cond.fieldLink RX3 25 "FeatherShares$Sightings" "feathersSeen" "[I"]
def wsX6_look_r3 : List Cond := [Cond.instanceMethod yX0_held, Cond.selects RX0 yX0_held yX0_held, Cond.code yX0_held cX0_held 3 (some .int), Cond.instanceMethod yX0_passWeek, Cond.selects RX0 yX0_passWeek yX0_passWeek, Cond.code yX0_passWeek cX0_passWeek 4 (some .int), Cond.methodLink RX0 76 yX0_eggOwner, Cond.instanceMethod yX0_eggOwner, Cond.selects RX0 yX0_eggOwner yX0_eggOwner, Cond.code yX0_eggOwner cX0_eggOwner 4 (some .int), Cond.methodLink RX0 68 yX0_held, Cond.methodLink RX0 119 yX0_moult, Cond.instanceMethod yX0_moult, Cond.selects RX0 yX0_moult yX0_moult, Cond.code yX0_moult cX0_moult 5 none, Cond.methodLink RX0 126 Lib.Math.min.name, Cond.static Lib.Math.min.name, Cond.initialized "java/lang/Math", Cond.code Lib.Math.min.name Lib.Math.min.code 2 (some .int), Cond.methodLink RX0 123 yX0_lossOf, Cond.static yX0_lossOf, Cond.code yX0_lossOf cX0_lossOf 4 (some .int), Cond.methodLink RX0 131 Lib.Math.max.name, Cond.static Lib.Math.max.name]
def wsX6_look_r4 : List Cond := [Cond.code Lib.Math.max.name Lib.Math.max.code 2 (some .int), Cond.methodLink RX6 274 yX6_foretellByKind, Cond.instanceMethod yX6_foretellByKind, Cond.selects RX6 yX6_foretellByKind yX6_foretellByKind, Cond.code yX6_foretellByKind cX6_foretellByKind 5 none, Cond.fieldLink RX6 48 "FeatherShares" "laterByKind" "[I", Cond.methodLink RX6 318 yX6_placeByKind, Cond.static yX6_placeByKind, Cond.code yX6_placeByKind cX6_placeByKind 3 (some .int), Cond.methodLink RX6 277 yJ6_bitCount_0f7a4, Cond.static yJ6_bitCount_0f7a4, Cond.initialized RJ6, Cond.code yJ6_bitCount_0f7a4 cJ6_bitCount_0f7a4 1 (some .int), Cond.constant RJ6 265 (1431655765), Cond.constant RJ6 266 (858993459), Cond.constant RJ6 267 (252645135), Cond.methodLink RX6 282 yX6_mostKindsAlike, Cond.instanceMethod yX6_mostKindsAlike, Cond.selects RX6 yX6_mostKindsAlike yX6_mostKindsAlike, Cond.code yX6_mostKindsAlike cX6_mostKindsAlike 9 (some .int), Cond.methodLink RX6 243 Lib.Math.max.name]
def wsX6_look : List Cond := .code yX6_look cX6_look 9 (some .int) :: ((wsX6_look_r1 ++ (wsX6_look_r2 ++ (wsX6_look_r3 ++ wsX6_look_r4))) ++ wsX60 ++ wsX00 ++ wsX30)
def wsX6_drift_r1 : List Cond := [Cond.fieldLink RX6 12 "FeatherShares" "now" "LFeatherShares$Flock;", Cond.fieldLink RX6 16 "FeatherShares" "trial" "LFeatherShares$Flock;", Cond.constant RX6 286 (1103515245), Cond.methodLink RX6 69 yX6_isWithin, Cond.static yX6_isWithin, Cond.initialized RX6, Cond.code yX6_isWithin cX6_isWithin 3 (some .boolean), Cond.instanceMethod yX0_copyFrom, Cond.initialized RX0, Cond.selects RX0 yX0_copyFrom yX0_copyFrom, Cond.code yX0_copyFrom cX0_copyFrom 2 none, Cond.fieldLink RX0 9 "FeatherShares$Flock" "geese" "I", Cond.fieldLink RX0 15 "FeatherShares$Flock" "week" "I", Cond.fieldLink RX0 18 "FeatherShares$Flock" "trades" "I", Cond.fieldLink RX0 21 "FeatherShares$Flock" "kind" "[I", Cond.methodLink RX0 58 arraycopyName, Cond.native arraycopyName, Cond.static arraycopyName, Cond.initialized "java/lang/System", Cond.fieldLink RX0 25 "FeatherShares$Flock" "skin" "[I", Cond.fieldLink RX0 28 "FeatherShares$Flock" "price" "[I", Cond.fieldLink RX0 31 "FeatherShares$Flock" "feathers" "[I", Cond.fieldLink RX0 34 "FeatherShares$Flock" "money" "[I", Cond.fieldLink RX0 37 "FeatherShares$Flock" "eggsHad" "[I"]
def wsX6_drift_r2 : List Cond := [Cond.fieldLink RX0 40 "FeatherShares$Flock" "planBuyer" "[I", Cond.fieldLink RX0 43 "FeatherShares$Flock" "planSeller" "[I", Cond.fieldLink RX0 46 "FeatherShares$Flock" "planGoose" "[I", Cond.fieldLink RX0 49 "FeatherShares$Flock" "planAmount" "[I", Cond.instanceMethod yX0_tryDrawn, Cond.selects RX0 yX0_tryDrawn yX0_tryDrawn, Cond.code yX0_tryDrawn cX0_tryDrawn 2 (some .boolean), Cond.methodLink RX0 109 yX0_tryTrade, Cond.instanceMethod yX0_tryTrade, Cond.selects RX0 yX0_tryTrade yX0_tryTrade, Cond.code yX0_tryTrade cX0_tryTrade 5 (some .boolean), Cond.methodLink RX0 100 yX0_isTrade, Cond.instanceMethod yX0_isTrade, Cond.selects RX0 yX0_isTrade yX0_isTrade, Cond.code yX0_isTrade cX0_isTrade 5 (some .boolean), Cond.static yX6_isOwner, Cond.code yX6_isOwner cX6_isOwner 1 (some .boolean), Cond.methodLink RX0 89 yX0_hasGoose, Cond.instanceMethod yX0_hasGoose, Cond.selects RX0 yX0_hasGoose yX0_hasGoose, Cond.code yX0_hasGoose cX0_hasGoose 2 (some .boolean), Cond.methodLink RX0 103 yX0_canTrade, Cond.instanceMethod yX0_canTrade, Cond.selects RX0 yX0_canTrade yX0_canTrade]
def wsX6_drift_r3 : List Cond := [Cond.code yX0_canTrade cX0_canTrade 6 (some .boolean), Cond.methodLink RX0 92 yX0_canPluck, Cond.instanceMethod yX0_canPluck, Cond.selects RX0 yX0_canPluck yX0_canPluck, Cond.code yX0_canPluck cX0_canPluck 5 (some .boolean), Cond.methodLink RX0 68 yX0_held, Cond.instanceMethod yX0_held, Cond.selects RX0 yX0_held yX0_held, Cond.code yX0_held cX0_held 3 (some .int), Cond.methodLink RX0 106 yX0_exchange, Cond.instanceMethod yX0_exchange, Cond.selects RX0 yX0_exchange yX0_exchange, Cond.code yX0_exchange cX0_exchange 5 none, Cond.methodLink RX0 96 yX0_moveFeathers, Cond.instanceMethod yX0_moveFeathers, Cond.selects RX0 yX0_moveFeathers yX0_moveFeathers, Cond.code yX0_moveFeathers cX0_moveFeathers 5 none, Cond.instanceMethod yX0_passWeek, Cond.selects RX0 yX0_passWeek yX0_passWeek, Cond.code yX0_passWeek cX0_passWeek 4 (some .int), Cond.methodLink RX0 76 yX0_eggOwner, Cond.instanceMethod yX0_eggOwner, Cond.selects RX0 yX0_eggOwner yX0_eggOwner, Cond.code yX0_eggOwner cX0_eggOwner 4 (some .int)]
def wsX6_drift_r4 : List Cond := [Cond.methodLink RX0 119 yX0_moult, Cond.instanceMethod yX0_moult, Cond.selects RX0 yX0_moult yX0_moult, Cond.code yX0_moult cX0_moult 5 none, Cond.methodLink RX0 126 Lib.Math.min.name, Cond.static Lib.Math.min.name, Cond.initialized "java/lang/Math", Cond.code Lib.Math.min.name Lib.Math.min.code 2 (some .int), Cond.methodLink RX0 123 yX0_lossOf, Cond.static yX0_lossOf, Cond.code yX0_lossOf cX0_lossOf 4 (some .int), Cond.methodLink RX0 131 Lib.Math.max.name, Cond.static Lib.Math.max.name, Cond.code Lib.Math.max.name Lib.Math.max.code 2 (some .int)]
def wsX6_drift : List Cond := .code yX6_drift cX6_drift 8 (some .int) :: ((wsX6_drift_r1 ++ (wsX6_drift_r2 ++ (wsX6_drift_r3 ++ wsX6_drift_r4))) ++ wsX60 ++ wsX00)
def wsX6_keep_r1 : List Cond := [Cond.fieldLink RX6 23 "FeatherShares" "keptImages" "I", Cond.fieldLink RX6 19 "FeatherShares" "images" "[LFeatherShares$Flock;", Cond.fieldLink RX6 12 "FeatherShares" "now" "LFeatherShares$Flock;", Cond.methodLink RX6 69 yX6_isWithin, Cond.static yX6_isWithin, Cond.initialized RX6, Cond.code yX6_isWithin cX6_isWithin 3 (some .boolean), Cond.instanceMethod yX0_copyFrom, Cond.initialized RX0, Cond.selects RX0 yX0_copyFrom yX0_copyFrom, Cond.code yX0_copyFrom cX0_copyFrom 2 none, Cond.fieldLink RX0 9 "FeatherShares$Flock" "geese" "I", Cond.fieldLink RX0 15 "FeatherShares$Flock" "week" "I", Cond.fieldLink RX0 18 "FeatherShares$Flock" "trades" "I", Cond.fieldLink RX0 21 "FeatherShares$Flock" "kind" "[I", Cond.methodLink RX0 58 arraycopyName, Cond.native arraycopyName, Cond.static arraycopyName, Cond.initialized "java/lang/System", Cond.fieldLink RX0 25 "FeatherShares$Flock" "skin" "[I", Cond.fieldLink RX0 28 "FeatherShares$Flock" "price" "[I", Cond.fieldLink RX0 31 "FeatherShares$Flock" "feathers" "[I", Cond.fieldLink RX0 34 "FeatherShares$Flock" "money" "[I", Cond.fieldLink RX0 37 "FeatherShares$Flock" "eggsHad" "[I"]
def wsX6_keep_r2 : List Cond := [Cond.fieldLink RX0 40 "FeatherShares$Flock" "planBuyer" "[I", Cond.fieldLink RX0 43 "FeatherShares$Flock" "planSeller" "[I", Cond.fieldLink RX0 46 "FeatherShares$Flock" "planGoose" "[I", Cond.fieldLink RX0 49 "FeatherShares$Flock" "planAmount" "[I"]
def wsX6_keep : List Cond := .code yX6_keep cX6_keep 3 (some .int) :: ((wsX6_keep_r1 ++ wsX6_keep_r2) ++ wsX60 ++ wsX00)
def wsX6_back_r1 : List Cond := [Cond.fieldLink RX6 23 "FeatherShares" "keptImages" "I", Cond.fieldLink RX6 12 "FeatherShares" "now" "LFeatherShares$Flock;", Cond.fieldLink RX6 19 "FeatherShares" "images" "[LFeatherShares$Flock;", Cond.methodLink RX6 69 yX6_isWithin, Cond.static yX6_isWithin, Cond.initialized RX6, Cond.code yX6_isWithin cX6_isWithin 3 (some .boolean), Cond.instanceMethod yX0_copyFrom, Cond.initialized RX0, Cond.selects RX0 yX0_copyFrom yX0_copyFrom, Cond.code yX0_copyFrom cX0_copyFrom 2 none, Cond.fieldLink RX0 9 "FeatherShares$Flock" "geese" "I", Cond.fieldLink RX0 15 "FeatherShares$Flock" "week" "I", Cond.fieldLink RX0 18 "FeatherShares$Flock" "trades" "I", Cond.fieldLink RX0 21 "FeatherShares$Flock" "kind" "[I", Cond.methodLink RX0 58 arraycopyName, Cond.native arraycopyName, Cond.static arraycopyName, Cond.initialized "java/lang/System", Cond.fieldLink RX0 25 "FeatherShares$Flock" "skin" "[I", Cond.fieldLink RX0 28 "FeatherShares$Flock" "price" "[I", Cond.fieldLink RX0 31 "FeatherShares$Flock" "feathers" "[I", Cond.fieldLink RX0 34 "FeatherShares$Flock" "money" "[I", Cond.fieldLink RX0 37 "FeatherShares$Flock" "eggsHad" "[I"]
def wsX6_back_r2 : List Cond := [Cond.fieldLink RX0 40 "FeatherShares$Flock" "planBuyer" "[I", Cond.fieldLink RX0 43 "FeatherShares$Flock" "planSeller" "[I", Cond.fieldLink RX0 46 "FeatherShares$Flock" "planGoose" "[I", Cond.fieldLink RX0 49 "FeatherShares$Flock" "planAmount" "[I"]
def wsX6_back : List Cond := .code yX6_back cX6_back 2 (some .int) :: ((wsX6_back_r1 ++ wsX6_back_r2) ++ wsX60 ++ wsX00)
def wsX6_isSheet : List Cond := .code yX6_isSheet cX6_isSheet 1 (some .boolean) :: ([.methodLink RX6 69 yX6_isWithin, .static yX6_isWithin, .initialized RX6, .code yX6_isWithin cX6_isWithin 3 (some .boolean)])
def wsX6_isLane : List Cond := .code yX6_isLane cX6_isLane 1 (some .boolean) :: ([.methodLink RX6 69 yX6_isWithin, .static yX6_isWithin, .initialized RX6, .code yX6_isWithin cX6_isWithin 3 (some .boolean)])
def wsX6_sheet : List Cond := .code yX6_sheet cX6_sheet 4 (some .int) :: ([.fieldLink RX6 61 "FeatherShares" "sheets" "[LFeatherShares$Sheet;", .methodLink RX6 290 yX6_isSheet, .static yX6_isSheet, .initialized RX6, .code yX6_isSheet cX6_isSheet 1 (some .boolean), .methodLink RX6 69 yX6_isWithin, .static yX6_isWithin, .code yX6_isWithin cX6_isWithin 3 (some .boolean), .methodLink RX6 293 yX6_isLane, .static yX6_isLane, .code yX6_isLane cX6_isLane 1 (some .boolean), .instanceMethod yX2_renew, .initialized RX2, .selects RX2 yX2_renew yX2_renew, .code yX2_renew cX2_renew 3 none, .fieldLink RX2 15 "FeatherShares$Sheet" "isNothing" "Z", .fieldLink RX2 19 "FeatherShares$Sheet" "lane" "I", .fieldLink RX2 23 "FeatherShares$Sheet" "size" "I", .fieldLink RX2 9 "FeatherShares$Sheet" "cells" "[I", .methodLink RX2 26 yJ7_fill_53178, .static yJ7_fill_53178, .initialized RJ7, .code yJ7_fill_53178 cJ7_fill_53178 4 none] ++ wsX60 ++ wsX20)
def wsX6_lay : List Cond := .code yX6_lay cX6_lay 5 (some .int) :: ([.fieldLink RX6 61 "FeatherShares" "sheets" "[LFeatherShares$Sheet;", .methodLink RX6 290 yX6_isSheet, .static yX6_isSheet, .initialized RX6, .code yX6_isSheet cX6_isSheet 1 (some .boolean), .methodLink RX6 69 yX6_isWithin, .static yX6_isWithin, .code yX6_isWithin cX6_isWithin 3 (some .boolean), .instanceMethod yX2_put, .initialized RX2, .selects RX2 yX2_put yX2_put, .code yX2_put cX2_put 3 (some .int), .fieldLink RX2 15 "FeatherShares$Sheet" "isNothing" "Z", .fieldLink RX2 23 "FeatherShares$Sheet" "size" "I", .fieldLink RX2 9 "FeatherShares$Sheet" "cells" "[I", .fieldLink RX2 19 "FeatherShares$Sheet" "lane" "I"] ++ wsX60 ++ wsX20)
def wsX6_read_r1 : List Cond := [Cond.fieldLink RX6 61 "FeatherShares" "sheets" "[LFeatherShares$Sheet;", Cond.fieldLink RX6 16 "FeatherShares" "trial" "LFeatherShares$Flock;", Cond.fieldLink RX6 12 "FeatherShares" "now" "LFeatherShares$Flock;", Cond.fieldLink RX6 65 "FeatherShares" "faultOfRead" "I", Cond.methodLink RX6 290 yX6_isSheet, Cond.static yX6_isSheet, Cond.initialized RX6, Cond.code yX6_isSheet cX6_isSheet 1 (some .boolean), Cond.methodLink RX6 69 yX6_isWithin, Cond.static yX6_isWithin, Cond.code yX6_isWithin cX6_isWithin 3 (some .boolean), Cond.methodLink RX6 293 yX6_isLane, Cond.static yX6_isLane, Cond.code yX6_isLane cX6_isLane 1 (some .boolean), Cond.instanceMethod yX0_copyFrom, Cond.initialized RX0, Cond.selects RX0 yX0_copyFrom yX0_copyFrom, Cond.code yX0_copyFrom cX0_copyFrom 2 none, Cond.fieldLink RX0 9 "FeatherShares$Flock" "geese" "I", Cond.fieldLink RX0 15 "FeatherShares$Flock" "week" "I", Cond.fieldLink RX0 18 "FeatherShares$Flock" "trades" "I", Cond.fieldLink RX0 21 "FeatherShares$Flock" "kind" "[I", Cond.methodLink RX0 58 arraycopyName, Cond.native arraycopyName]
def wsX6_read_r2 : List Cond := [Cond.static arraycopyName, Cond.initialized "java/lang/System", Cond.fieldLink RX0 25 "FeatherShares$Flock" "skin" "[I", Cond.fieldLink RX0 28 "FeatherShares$Flock" "price" "[I", Cond.fieldLink RX0 31 "FeatherShares$Flock" "feathers" "[I", Cond.fieldLink RX0 34 "FeatherShares$Flock" "money" "[I", Cond.fieldLink RX0 37 "FeatherShares$Flock" "eggsHad" "[I", Cond.fieldLink RX0 40 "FeatherShares$Flock" "planBuyer" "[I", Cond.fieldLink RX0 43 "FeatherShares$Flock" "planSeller" "[I", Cond.fieldLink RX0 46 "FeatherShares$Flock" "planGoose" "[I", Cond.fieldLink RX0 49 "FeatherShares$Flock" "planAmount" "[I", Cond.instanceMethod yX2_faultOfTrade, Cond.initialized RX2, Cond.selects RX2 yX2_faultOfTrade yX2_faultOfTrade, Cond.code yX2_faultOfTrade cX2_faultOfTrade 3 (some .int), Cond.fieldLink RX2 15 "FeatherShares$Sheet" "isNothing" "Z", Cond.fieldLink RX2 19 "FeatherShares$Sheet" "lane" "I", Cond.fieldLink RX2 23 "FeatherShares$Sheet" "size" "I", Cond.instanceMethod yX2_tradeOn, Cond.selects RX2 yX2_tradeOn yX2_tradeOn, Cond.code yX2_tradeOn cX2_tradeOn 3 (some .boolean), Cond.fieldLink RX2 9 "FeatherShares$Sheet" "cells" "[I", Cond.instanceMethod yX0_tryTrade, Cond.selects RX0 yX0_tryTrade yX0_tryTrade]
def wsX6_read_r3 : List Cond := [Cond.code yX0_tryTrade cX0_tryTrade 5 (some .boolean), Cond.methodLink RX0 100 yX0_isTrade, Cond.instanceMethod yX0_isTrade, Cond.selects RX0 yX0_isTrade yX0_isTrade, Cond.code yX0_isTrade cX0_isTrade 5 (some .boolean), Cond.static yX6_isOwner, Cond.code yX6_isOwner cX6_isOwner 1 (some .boolean), Cond.methodLink RX0 89 yX0_hasGoose, Cond.instanceMethod yX0_hasGoose, Cond.selects RX0 yX0_hasGoose yX0_hasGoose, Cond.code yX0_hasGoose cX0_hasGoose 2 (some .boolean), Cond.methodLink RX0 103 yX0_canTrade, Cond.instanceMethod yX0_canTrade, Cond.selects RX0 yX0_canTrade yX0_canTrade, Cond.code yX0_canTrade cX0_canTrade 6 (some .boolean), Cond.methodLink RX0 92 yX0_canPluck, Cond.instanceMethod yX0_canPluck, Cond.selects RX0 yX0_canPluck yX0_canPluck, Cond.code yX0_canPluck cX0_canPluck 5 (some .boolean), Cond.methodLink RX0 68 yX0_held, Cond.instanceMethod yX0_held, Cond.selects RX0 yX0_held yX0_held, Cond.code yX0_held cX0_held 3 (some .int), Cond.methodLink RX0 106 yX0_exchange]
def wsX6_read_r4 : List Cond := [Cond.instanceMethod yX0_exchange, Cond.selects RX0 yX0_exchange yX0_exchange, Cond.code yX0_exchange cX0_exchange 5 none, Cond.methodLink RX0 96 yX0_moveFeathers, Cond.instanceMethod yX0_moveFeathers, Cond.selects RX0 yX0_moveFeathers yX0_moveFeathers, Cond.code yX0_moveFeathers cX0_moveFeathers 5 none]
def wsX6_read : List Cond := .code yX6_read cX6_read 10 (some .int) :: ((wsX6_read_r1 ++ (wsX6_read_r2 ++ (wsX6_read_r3 ++ wsX6_read_r4))) ++ wsX60 ++ wsX00 ++ wsX20)
def wsX6_torn : List Cond := .code yX6_torn cX6_torn 1 (some .int) :: ([.fieldLink RX6 65 "FeatherShares" "faultOfRead" "I"] ++ wsX60)
def wsX6_count : List Cond := .code yX6_count cX6_count 2 (some .int) :: ([.fieldLink RX6 44 "FeatherShares" "sightings" "LFeatherShares$Sightings;", .fieldLink RX6 23 "FeatherShares" "keptImages" "I", .fieldLink RX6 30 "FeatherShares" "tape" "LFeatherShares$Tape;", .fieldLink RX6 61 "FeatherShares" "sheets" "[LFeatherShares$Sheet;", .fieldLink RX6 12 "FeatherShares" "now" "LFeatherShares$Flock;", .methodLink RX6 277 yJ6_bitCount_0f7a4, .static yJ6_bitCount_0f7a4, .initialized RJ6, .code yJ6_bitCount_0f7a4 cJ6_bitCount_0f7a4 1 (some .int), .constant RJ6 265 (1431655765), .constant RJ6 266 (858993459), .constant RJ6 267 (252645135), .methodLink RX6 115 yX6_sumOf, .static yX6_sumOf, .initialized RX6, .code yX6_sumOf cX6_sumOf 6 (some .int), .instanceMethod yX0_feathersOfPlan, .initialized RX0, .selects RX0 yX0_feathersOfPlan yX0_feathersOfPlan, .code yX0_feathersOfPlan cX0_feathersOfPlan 3 (some .int), .fieldLink RX0 18 "FeatherShares$Flock" "trades" "I", .fieldLink RX0 49 "FeatherShares$Flock" "planAmount" "[I"] ++ wsX60 ++ wsX30 ++ wsX40 ++ wsX20 ++ wsX00)
def wsX7_init : List Cond := .code yX7_init cX7_init 1 none :: ([.methodLink RX7 1 objectInit, .instanceMethod objectInit, .code objectInit ⟨#[0xb1]⟩ 1 none, .arrayClass .int, .fieldLink RX7 7 "FeatherSharesModel" "state" "[I", .fieldLink RX7 13 "FeatherSharesModel" "readPage" "[I", .fieldLink RX7 16 "FeatherSharesModel" "tape" "[I", .fieldLink RX7 19 "FeatherSharesModel" "cuts" "[I", .fieldLink RX7 22 "FeatherSharesModel" "letters" "[I", .fieldLink RX7 25 "FeatherSharesModel" "seen" "[I", .fieldLink RX7 28 "FeatherSharesModel" "shareBy" "[I", .arrayClass .boolean, .fieldLink RX7 31 "FeatherSharesModel" "isKept" "[Z", .fieldLink RX7 35 "FeatherSharesModel" "lanes" "[I", .fieldLink RX7 38 "FeatherSharesModel" "lengths" "[I", .fieldLink RX7 41 "FeatherSharesModel" "cells" "[I"] ++ wsX70)
def wsX7_in : List Cond := .code yX7_in cX7_in 6 (some .boolean) :: ([])
def wsX7_feed : List Cond := .code yX7_feed cX7_feed 2 (some .int) :: ([.constantLong RX7 44 (127), .fieldLink RX7 50 "FeatherSharesModel" "taped" "I", .fieldLink RX7 16 "FeatherSharesModel" "tape" "[I", .methodLink RX7 46 yX7_in, .static yX7_in, .initialized RX7, .code yX7_in cX7_in 6 (some .boolean)] ++ wsX70)
def wsX7_end : List Cond := .code yX7_end cX7_end 3 (some .int) :: ([.fieldLink RX7 50 "FeatherSharesModel" "taped" "I", .methodLink RX7 46 yX7_in, .static yX7_in, .initialized RX7, .code yX7_in cX7_in 6 (some .boolean)] ++ wsX70)
def wsX7_byteAt : List Cond := .code yX7_byteAt cX7_byteAt 2 (some .int) :: ([.fieldLink RX7 50 "FeatherSharesModel" "taped" "I", .fieldLink RX7 16 "FeatherSharesModel" "tape" "[I"] ++ wsX70)
def wsX7_fails : List Cond := .code yX7_fails cX7_fails 2 none :: ([.fieldLink RX7 54 "FeatherSharesModel" "broken" "I", .fieldLink RX7 57 "FeatherSharesModel" "here" "I", .fieldLink RX7 60 "FeatherSharesModel" "brokenAt" "I"] ++ wsX70)
def wsX7_nameHere : List Cond := .code yX7_nameHere cX7_nameHere 4 (some .int) :: ([.fieldLink RX7 63 "FeatherSharesModel" "token" "I", .fieldLink RX7 66 "FeatherSharesModel" "spot" "I", .fieldLink RX7 57 "FeatherSharesModel" "here" "I", .fieldLink RX7 19 "FeatherSharesModel" "cuts" "[I", .fieldLink RX7 22 "FeatherSharesModel" "letters" "[I", .methodLink RX7 69 yX7_byteAt, .instanceMethod yX7_byteAt, .selects RX7 yX7_byteAt yX7_byteAt, .initialized RX7, .code yX7_byteAt cX7_byteAt 2 (some .int), .fieldLink RX7 50 "FeatherSharesModel" "taped" "I", .fieldLink RX7 16 "FeatherSharesModel" "tape" "[I"] ++ wsX70)
def wsX7_step : List Cond := .code yX7_step cX7_step 2 none :: ([.fieldLink RX7 54 "FeatherSharesModel" "broken" "I", .fieldLink RX7 66 "FeatherSharesModel" "spot" "I", .fieldLink RX7 57 "FeatherSharesModel" "here" "I", .fieldLink RX7 73 "FeatherSharesModel" "value" "I", .fieldLink RX7 63 "FeatherSharesModel" "token" "I", .constantLong RX7 76 (97), .constantLong RX7 78 (122), .constantLong RX7 80 (48), .constantLong RX7 82 (57), .methodLink RX7 69 yX7_byteAt, .instanceMethod yX7_byteAt, .selects RX7 yX7_byteAt yX7_byteAt, .initialized RX7, .code yX7_byteAt cX7_byteAt 2 (some .int), .fieldLink RX7 50 "FeatherSharesModel" "taped" "I", .fieldLink RX7 16 "FeatherSharesModel" "tape" "[I", .methodLink RX7 46 yX7_in, .static yX7_in, .code yX7_in cX7_in 6 (some .boolean), .methodLink RX7 84 yX7_fails, .instanceMethod yX7_fails, .selects RX7 yX7_fails yX7_fails, .code yX7_fails cX7_fails 2 none, .fieldLink RX7 60 "FeatherSharesModel" "brokenAt" "I"] ++ wsX70)
def wsX7_other_r1 : List Cond := [Cond.fieldLink RX7 54 "FeatherSharesModel" "broken" "I", Cond.fieldLink RX7 63 "FeatherSharesModel" "token" "I", Cond.fieldLink RX7 73 "FeatherSharesModel" "value" "I", Cond.methodLink RX7 84 yX7_fails, Cond.instanceMethod yX7_fails, Cond.selects RX7 yX7_fails yX7_fails, Cond.initialized RX7, Cond.code yX7_fails cX7_fails 2 none, Cond.fieldLink RX7 57 "FeatherSharesModel" "here" "I", Cond.fieldLink RX7 60 "FeatherSharesModel" "brokenAt" "I", Cond.methodLink RX7 46 yX7_in, Cond.static yX7_in, Cond.code yX7_in cX7_in 6 (some .boolean), Cond.methodLink RX7 88 yX7_step, Cond.instanceMethod yX7_step, Cond.selects RX7 yX7_step yX7_step, Cond.code yX7_step cX7_step 2 none, Cond.fieldLink RX7 66 "FeatherSharesModel" "spot" "I", Cond.constantLong RX7 76 (97), Cond.constantLong RX7 78 (122), Cond.constantLong RX7 80 (48), Cond.constantLong RX7 82 (57), Cond.methodLink RX7 69 yX7_byteAt, Cond.instanceMethod yX7_byteAt]
def wsX7_other_r2 : List Cond := [Cond.selects RX7 yX7_byteAt yX7_byteAt, Cond.code yX7_byteAt cX7_byteAt 2 (some .int), Cond.fieldLink RX7 50 "FeatherSharesModel" "taped" "I", Cond.fieldLink RX7 16 "FeatherSharesModel" "tape" "[I"]
def wsX7_other : List Cond := .code yX7_other cX7_other 5 (some .int) :: ((wsX7_other_r1 ++ wsX7_other_r2) ++ wsX70)
def wsX7_gooseHere_r1 : List Cond := [Cond.fieldLink RX7 95 "FeatherSharesModel" "high" "I", Cond.methodLink RX7 91 yX7_other, Cond.instanceMethod yX7_other, Cond.selects RX7 yX7_other yX7_other, Cond.initialized RX7, Cond.code yX7_other cX7_other 5 (some .int), Cond.fieldLink RX7 54 "FeatherSharesModel" "broken" "I", Cond.fieldLink RX7 63 "FeatherSharesModel" "token" "I", Cond.fieldLink RX7 73 "FeatherSharesModel" "value" "I", Cond.methodLink RX7 84 yX7_fails, Cond.instanceMethod yX7_fails, Cond.selects RX7 yX7_fails yX7_fails, Cond.code yX7_fails cX7_fails 2 none, Cond.fieldLink RX7 57 "FeatherSharesModel" "here" "I", Cond.fieldLink RX7 60 "FeatherSharesModel" "brokenAt" "I", Cond.methodLink RX7 46 yX7_in, Cond.static yX7_in, Cond.code yX7_in cX7_in 6 (some .boolean), Cond.methodLink RX7 88 yX7_step, Cond.instanceMethod yX7_step, Cond.selects RX7 yX7_step yX7_step, Cond.code yX7_step cX7_step 2 none, Cond.fieldLink RX7 66 "FeatherSharesModel" "spot" "I", Cond.constantLong RX7 76 (97)]
def wsX7_gooseHere_r2 : List Cond := [Cond.constantLong RX7 78 (122), Cond.constantLong RX7 80 (48), Cond.constantLong RX7 82 (57), Cond.methodLink RX7 69 yX7_byteAt, Cond.instanceMethod yX7_byteAt, Cond.selects RX7 yX7_byteAt yX7_byteAt, Cond.code yX7_byteAt cX7_byteAt 2 (some .int), Cond.fieldLink RX7 50 "FeatherSharesModel" "taped" "I", Cond.fieldLink RX7 16 "FeatherSharesModel" "tape" "[I"]
def wsX7_gooseHere : List Cond := .code yX7_gooseHere cX7_gooseHere 2 (some .int) :: ((wsX7_gooseHere_r1 ++ wsX7_gooseHere_r2) ++ wsX70)
def wsX7_readTrade_r1 : List Cond := [Cond.fieldLink RX7 13 "FeatherSharesModel" "readPage" "[I", Cond.fieldLink RX7 54 "FeatherSharesModel" "broken" "I", Cond.fieldLink RX7 63 "FeatherSharesModel" "token" "I", Cond.fieldLink RX7 73 "FeatherSharesModel" "value" "I", Cond.methodLink RX7 91 yX7_other, Cond.instanceMethod yX7_other, Cond.selects RX7 yX7_other yX7_other, Cond.initialized RX7, Cond.code yX7_other cX7_other 5 (some .int), Cond.methodLink RX7 84 yX7_fails, Cond.instanceMethod yX7_fails, Cond.selects RX7 yX7_fails yX7_fails, Cond.code yX7_fails cX7_fails 2 none, Cond.fieldLink RX7 57 "FeatherSharesModel" "here" "I", Cond.fieldLink RX7 60 "FeatherSharesModel" "brokenAt" "I", Cond.methodLink RX7 46 yX7_in, Cond.static yX7_in, Cond.code yX7_in cX7_in 6 (some .boolean), Cond.methodLink RX7 88 yX7_step, Cond.instanceMethod yX7_step, Cond.selects RX7 yX7_step yX7_step, Cond.code yX7_step cX7_step 2 none, Cond.fieldLink RX7 66 "FeatherSharesModel" "spot" "I", Cond.constantLong RX7 76 (97)]
def wsX7_readTrade_r2 : List Cond := [Cond.constantLong RX7 78 (122), Cond.constantLong RX7 80 (48), Cond.constantLong RX7 82 (57), Cond.methodLink RX7 69 yX7_byteAt, Cond.instanceMethod yX7_byteAt, Cond.selects RX7 yX7_byteAt yX7_byteAt, Cond.code yX7_byteAt cX7_byteAt 2 (some .int), Cond.fieldLink RX7 50 "FeatherSharesModel" "taped" "I", Cond.fieldLink RX7 16 "FeatherSharesModel" "tape" "[I", Cond.methodLink RX7 98 yX7_gooseHere, Cond.instanceMethod yX7_gooseHere, Cond.selects RX7 yX7_gooseHere yX7_gooseHere, Cond.code yX7_gooseHere cX7_gooseHere 2 (some .int), Cond.fieldLink RX7 95 "FeatherSharesModel" "high" "I"]
def wsX7_readTrade : List Cond := .code yX7_readTrade cX7_readTrade 2 none :: ((wsX7_readTrade_r1 ++ wsX7_readTrade_r2) ++ wsX70)
def wsX7_readMore_r1 : List Cond := [Cond.fieldLink RX7 13 "FeatherSharesModel" "readPage" "[I", Cond.fieldLink RX7 102 "FeatherSharesModel" "readGeese" "I", Cond.fieldLink RX7 105 "FeatherSharesModel" "sharesTold" "I", Cond.fieldLink RX7 108 "FeatherSharesModel" "moneyTold" "I", Cond.methodLink RX7 91 yX7_other, Cond.instanceMethod yX7_other, Cond.selects RX7 yX7_other yX7_other, Cond.initialized RX7, Cond.code yX7_other cX7_other 5 (some .int), Cond.fieldLink RX7 54 "FeatherSharesModel" "broken" "I", Cond.fieldLink RX7 63 "FeatherSharesModel" "token" "I", Cond.fieldLink RX7 73 "FeatherSharesModel" "value" "I", Cond.methodLink RX7 84 yX7_fails, Cond.instanceMethod yX7_fails, Cond.selects RX7 yX7_fails yX7_fails, Cond.code yX7_fails cX7_fails 2 none, Cond.fieldLink RX7 57 "FeatherSharesModel" "here" "I", Cond.fieldLink RX7 60 "FeatherSharesModel" "brokenAt" "I", Cond.methodLink RX7 46 yX7_in, Cond.static yX7_in, Cond.code yX7_in cX7_in 6 (some .boolean), Cond.methodLink RX7 88 yX7_step, Cond.instanceMethod yX7_step, Cond.selects RX7 yX7_step yX7_step]
def wsX7_readMore_r2 : List Cond := [Cond.code yX7_step cX7_step 2 none, Cond.fieldLink RX7 66 "FeatherSharesModel" "spot" "I", Cond.constantLong RX7 76 (97), Cond.constantLong RX7 78 (122), Cond.constantLong RX7 80 (48), Cond.constantLong RX7 82 (57), Cond.methodLink RX7 69 yX7_byteAt, Cond.instanceMethod yX7_byteAt, Cond.selects RX7 yX7_byteAt yX7_byteAt, Cond.code yX7_byteAt cX7_byteAt 2 (some .int), Cond.fieldLink RX7 50 "FeatherSharesModel" "taped" "I", Cond.fieldLink RX7 16 "FeatherSharesModel" "tape" "[I", Cond.methodLink RX7 98 yX7_gooseHere, Cond.instanceMethod yX7_gooseHere, Cond.selects RX7 yX7_gooseHere yX7_gooseHere, Cond.code yX7_gooseHere cX7_gooseHere 2 (some .int), Cond.fieldLink RX7 95 "FeatherSharesModel" "high" "I", Cond.methodLink RX7 111 yX7_readTrade, Cond.instanceMethod yX7_readTrade, Cond.selects RX7 yX7_readTrade yX7_readTrade, Cond.code yX7_readTrade cX7_readTrade 2 none]
def wsX7_readMore : List Cond := .code yX7_readMore cX7_readMore 4 none :: ((wsX7_readMore_r1 ++ wsX7_readMore_r2) ++ wsX70)
def wsX7_readLine_r1 : List Cond := [Cond.constantLong RX7 117 (6), Cond.fieldLink RX7 102 "FeatherSharesModel" "readGeese" "I", Cond.fieldLink RX7 13 "FeatherSharesModel" "readPage" "[I", Cond.fieldLink RX7 54 "FeatherSharesModel" "broken" "I", Cond.fieldLink RX7 63 "FeatherSharesModel" "token" "I", Cond.methodLink RX7 114 yX7_nameHere, Cond.instanceMethod yX7_nameHere, Cond.selects RX7 yX7_nameHere yX7_nameHere, Cond.initialized RX7, Cond.code yX7_nameHere cX7_nameHere 4 (some .int), Cond.fieldLink RX7 66 "FeatherSharesModel" "spot" "I", Cond.fieldLink RX7 57 "FeatherSharesModel" "here" "I", Cond.fieldLink RX7 19 "FeatherSharesModel" "cuts" "[I", Cond.fieldLink RX7 22 "FeatherSharesModel" "letters" "[I", Cond.methodLink RX7 69 yX7_byteAt, Cond.instanceMethod yX7_byteAt, Cond.selects RX7 yX7_byteAt yX7_byteAt, Cond.code yX7_byteAt cX7_byteAt 2 (some .int), Cond.fieldLink RX7 50 "FeatherSharesModel" "taped" "I", Cond.fieldLink RX7 16 "FeatherSharesModel" "tape" "[I", Cond.methodLink RX7 46 yX7_in, Cond.static yX7_in, Cond.code yX7_in cX7_in 6 (some .boolean), Cond.methodLink RX7 84 yX7_fails]
def wsX7_readLine_r2 : List Cond := [Cond.instanceMethod yX7_fails, Cond.selects RX7 yX7_fails yX7_fails, Cond.code yX7_fails cX7_fails 2 none, Cond.fieldLink RX7 60 "FeatherSharesModel" "brokenAt" "I", Cond.methodLink RX7 88 yX7_step, Cond.instanceMethod yX7_step, Cond.selects RX7 yX7_step yX7_step, Cond.code yX7_step cX7_step 2 none, Cond.fieldLink RX7 73 "FeatherSharesModel" "value" "I", Cond.constantLong RX7 76 (97), Cond.constantLong RX7 78 (122), Cond.constantLong RX7 80 (48), Cond.constantLong RX7 82 (57), Cond.methodLink RX7 119 yX7_readMore, Cond.instanceMethod yX7_readMore, Cond.selects RX7 yX7_readMore yX7_readMore, Cond.code yX7_readMore cX7_readMore 4 none, Cond.fieldLink RX7 105 "FeatherSharesModel" "sharesTold" "I", Cond.fieldLink RX7 108 "FeatherSharesModel" "moneyTold" "I", Cond.methodLink RX7 91 yX7_other, Cond.instanceMethod yX7_other, Cond.selects RX7 yX7_other yX7_other, Cond.code yX7_other cX7_other 5 (some .int), Cond.methodLink RX7 98 yX7_gooseHere]
def wsX7_readLine_r3 : List Cond := [Cond.instanceMethod yX7_gooseHere, Cond.selects RX7 yX7_gooseHere yX7_gooseHere, Cond.code yX7_gooseHere cX7_gooseHere 2 (some .int), Cond.fieldLink RX7 95 "FeatherSharesModel" "high" "I", Cond.methodLink RX7 111 yX7_readTrade, Cond.instanceMethod yX7_readTrade, Cond.selects RX7 yX7_readTrade yX7_readTrade, Cond.code yX7_readTrade cX7_readTrade 2 none]
def wsX7_readLine : List Cond := .code yX7_readLine cX7_readLine 2 none :: ((wsX7_readLine_r1 ++ (wsX7_readLine_r2 ++ wsX7_readLine_r3)) ++ wsX70)
def wsX7_text_r1 : List Cond := [Cond.fieldLink RX7 54 "FeatherSharesModel" "broken" "I", Cond.fieldLink RX7 66 "FeatherSharesModel" "spot" "I", Cond.fieldLink RX7 102 "FeatherSharesModel" "readGeese" "I", Cond.fieldLink RX7 105 "FeatherSharesModel" "sharesTold" "I", Cond.fieldLink RX7 108 "FeatherSharesModel" "moneyTold" "I", Cond.fieldLink RX7 95 "FeatherSharesModel" "high" "I", Cond.fieldLink RX7 13 "FeatherSharesModel" "readPage" "[I", Cond.fieldLink RX7 63 "FeatherSharesModel" "token" "I", Cond.fieldLink RX7 50 "FeatherSharesModel" "taped" "I", Cond.fieldLink RX7 125 "FeatherSharesModel" "fault" "I", Cond.fieldLink RX7 60 "FeatherSharesModel" "brokenAt" "I", Cond.fieldLink RX7 7 "FeatherSharesModel" "state" "[I", Cond.fieldLink RX7 128 "FeatherSharesModel" "gooseMany" "I", Cond.fieldLink RX7 131 "FeatherSharesModel" "seenMany" "I", Cond.fieldLink RX7 31 "FeatherSharesModel" "isKept" "[Z", Cond.methodLink RX7 88 yX7_step, Cond.instanceMethod yX7_step, Cond.selects RX7 yX7_step yX7_step, Cond.initialized RX7, Cond.code yX7_step cX7_step 2 none, Cond.fieldLink RX7 57 "FeatherSharesModel" "here" "I", Cond.fieldLink RX7 73 "FeatherSharesModel" "value" "I", Cond.constantLong RX7 76 (97), Cond.constantLong RX7 78 (122)]
def wsX7_text_r2 : List Cond := [Cond.constantLong RX7 80 (48), Cond.constantLong RX7 82 (57), Cond.methodLink RX7 69 yX7_byteAt, Cond.instanceMethod yX7_byteAt, Cond.selects RX7 yX7_byteAt yX7_byteAt, Cond.code yX7_byteAt cX7_byteAt 2 (some .int), Cond.fieldLink RX7 16 "FeatherSharesModel" "tape" "[I", Cond.methodLink RX7 46 yX7_in, Cond.static yX7_in, Cond.code yX7_in cX7_in 6 (some .boolean), Cond.methodLink RX7 84 yX7_fails, Cond.instanceMethod yX7_fails, Cond.selects RX7 yX7_fails yX7_fails, Cond.code yX7_fails cX7_fails 2 none, Cond.methodLink RX7 122 yX7_readLine, Cond.instanceMethod yX7_readLine, Cond.selects RX7 yX7_readLine yX7_readLine, Cond.code yX7_readLine cX7_readLine 2 none, Cond.constantLong RX7 117 (6), Cond.methodLink RX7 114 yX7_nameHere, Cond.instanceMethod yX7_nameHere, Cond.selects RX7 yX7_nameHere yX7_nameHere, Cond.code yX7_nameHere cX7_nameHere 4 (some .int), Cond.fieldLink RX7 19 "FeatherSharesModel" "cuts" "[I"]
def wsX7_text_r3 : List Cond := [Cond.fieldLink RX7 22 "FeatherSharesModel" "letters" "[I", Cond.methodLink RX7 119 yX7_readMore, Cond.instanceMethod yX7_readMore, Cond.selects RX7 yX7_readMore yX7_readMore, Cond.code yX7_readMore cX7_readMore 4 none, Cond.methodLink RX7 91 yX7_other, Cond.instanceMethod yX7_other, Cond.selects RX7 yX7_other yX7_other, Cond.code yX7_other cX7_other 5 (some .int), Cond.methodLink RX7 98 yX7_gooseHere, Cond.instanceMethod yX7_gooseHere, Cond.selects RX7 yX7_gooseHere yX7_gooseHere, Cond.code yX7_gooseHere cX7_gooseHere 2 (some .int), Cond.methodLink RX7 111 yX7_readTrade, Cond.instanceMethod yX7_readTrade, Cond.selects RX7 yX7_readTrade yX7_readTrade, Cond.code yX7_readTrade cX7_readTrade 2 none]
def wsX7_text : List Cond := .code yX7_text cX7_text 3 (some .int) :: ((wsX7_text_r1 ++ (wsX7_text_r2 ++ wsX7_text_r3)) ++ wsX70)
def wsX7_fault : List Cond := .code yX7_fault cX7_fault 1 (some .int) :: ([.fieldLink RX7 125 "FeatherSharesModel" "fault" "I"] ++ wsX70)
def wsX7_isGoose : List Cond := .code yX7_isGoose cX7_isGoose 2 (some .boolean) :: ([.fieldLink RX7 128 "FeatherSharesModel" "gooseMany" "I", .methodLink RX7 46 yX7_in, .static yX7_in, .initialized RX7, .code yX7_in cX7_in 6 (some .boolean)] ++ wsX70)
def wsX7_isOwner : List Cond := .code yX7_isOwner cX7_isOwner 1 (some .boolean) :: ([.constantLong RX7 134 (4), .methodLink RX7 46 yX7_in, .static yX7_in, .initialized RX7, .code yX7_in cX7_in 6 (some .boolean)])
def wsX7_shareOn : List Cond := .code yX7_shareOn cX7_shareOn 4 (some .int) :: ([.fieldLink RX7 7 "FeatherSharesModel" "state" "[I"] ++ wsX70)
def wsX7_moneyOn : List Cond := .code yX7_moneyOn cX7_moneyOn 3 (some .int) :: ([.fieldLink RX7 7 "FeatherSharesModel" "state" "[I"] ++ wsX70)
def wsX7_feathersOn : List Cond := .code yX7_feathersOn cX7_feathersOn 5 (some .int) :: ([.methodLink RX7 136 yX7_shareOn, .instanceMethod yX7_shareOn, .selects RX7 yX7_shareOn yX7_shareOn, .initialized RX7, .code yX7_shareOn cX7_shareOn 4 (some .int), .fieldLink RX7 7 "FeatherSharesModel" "state" "[I"] ++ wsX70)
def wsX7_eggOn : List Cond := .code yX7_eggOn cX7_eggOn 5 (some .int) :: ([.fieldLink RX7 7 "FeatherSharesModel" "state" "[I", .methodLink RX7 136 yX7_shareOn, .instanceMethod yX7_shareOn, .selects RX7 yX7_shareOn yX7_shareOn, .initialized RX7, .code yX7_shareOn cX7_shareOn 4 (some .int), .methodLink RX7 139 yX7_feathersOn, .instanceMethod yX7_feathersOn, .selects RX7 yX7_feathersOn yX7_feathersOn, .code yX7_feathersOn cX7_feathersOn 5 (some .int)] ++ wsX70)
def wsX7_eggsNow : List Cond := .code yX7_eggsNow cX7_eggsNow 5 (some .int) :: ([.fieldLink RX7 128 "FeatherSharesModel" "gooseMany" "I", .methodLink RX7 143 yX7_eggOn, .instanceMethod yX7_eggOn, .selects RX7 yX7_eggOn yX7_eggOn, .initialized RX7, .code yX7_eggOn cX7_eggOn 5 (some .int), .fieldLink RX7 7 "FeatherSharesModel" "state" "[I", .methodLink RX7 136 yX7_shareOn, .instanceMethod yX7_shareOn, .selects RX7 yX7_shareOn yX7_shareOn, .code yX7_shareOn cX7_shareOn 4 (some .int), .methodLink RX7 139 yX7_feathersOn, .instanceMethod yX7_feathersOn, .selects RX7 yX7_feathersOn yX7_feathersOn, .code yX7_feathersOn cX7_feathersOn 5 (some .int)] ++ wsX70)
def wsX7_worthOn : List Cond := .code yX7_worthOn cX7_worthOn 5 (some .int) :: ([.fieldLink RX7 128 "FeatherSharesModel" "gooseMany" "I", .fieldLink RX7 7 "FeatherSharesModel" "state" "[I", .methodLink RX7 146 yX7_moneyOn, .instanceMethod yX7_moneyOn, .selects RX7 yX7_moneyOn yX7_moneyOn, .initialized RX7, .code yX7_moneyOn cX7_moneyOn 3 (some .int), .methodLink RX7 136 yX7_shareOn, .instanceMethod yX7_shareOn, .selects RX7 yX7_shareOn yX7_shareOn, .code yX7_shareOn cX7_shareOn 4 (some .int)] ++ wsX70)
def wsX7_losesOf : List Cond := .code yX7_losesOf cX7_losesOf 4 (some .int) :: ([])
def wsX7_moultsOn : List Cond := .code yX7_moultsOn cX7_moultsOn 6 none :: ([.fieldLink RX7 7 "FeatherSharesModel" "state" "[I", .methodLink RX7 136 yX7_shareOn, .instanceMethod yX7_shareOn, .selects RX7 yX7_shareOn yX7_shareOn, .initialized RX7, .code yX7_shareOn cX7_shareOn 4 (some .int), .methodLink RX7 149 yX7_losesOf, .static yX7_losesOf, .code yX7_losesOf cX7_losesOf 4 (some .int)] ++ wsX70)
def wsX7_weekOn : List Cond := .code yX7_weekOn cX7_weekOn 6 (some .int) :: ([.fieldLink RX7 128 "FeatherSharesModel" "gooseMany" "I", .fieldLink RX7 7 "FeatherSharesModel" "state" "[I", .methodLink RX7 143 yX7_eggOn, .instanceMethod yX7_eggOn, .selects RX7 yX7_eggOn yX7_eggOn, .initialized RX7, .code yX7_eggOn cX7_eggOn 5 (some .int), .methodLink RX7 136 yX7_shareOn, .instanceMethod yX7_shareOn, .selects RX7 yX7_shareOn yX7_shareOn, .code yX7_shareOn cX7_shareOn 4 (some .int), .methodLink RX7 139 yX7_feathersOn, .instanceMethod yX7_feathersOn, .selects RX7 yX7_feathersOn yX7_feathersOn, .code yX7_feathersOn cX7_feathersOn 5 (some .int), .methodLink RX7 152 yX7_moultsOn, .instanceMethod yX7_moultsOn, .selects RX7 yX7_moultsOn yX7_moultsOn, .code yX7_moultsOn cX7_moultsOn 6 none, .methodLink RX7 149 yX7_losesOf, .static yX7_losesOf, .code yX7_losesOf cX7_losesOf 4 (some .int)] ++ wsX70)
def wsX7_rule : List Cond := .code yX7_rule cX7_rule 6 (some .int) :: ([.fieldLink RX7 7 "FeatherSharesModel" "state" "[I", .fieldLink RX7 128 "FeatherSharesModel" "gooseMany" "I", .methodLink RX7 146 yX7_moneyOn, .instanceMethod yX7_moneyOn, .selects RX7 yX7_moneyOn yX7_moneyOn, .initialized RX7, .code yX7_moneyOn cX7_moneyOn 3 (some .int), .methodLink RX7 139 yX7_feathersOn, .instanceMethod yX7_feathersOn, .selects RX7 yX7_feathersOn yX7_feathersOn, .code yX7_feathersOn cX7_feathersOn 5 (some .int), .methodLink RX7 136 yX7_shareOn, .instanceMethod yX7_shareOn, .selects RX7 yX7_shareOn yX7_shareOn, .code yX7_shareOn cX7_shareOn 4 (some .int)] ++ wsX70)
def wsX7_goose : List Cond := .code yX7_goose cX7_goose 3 (some .int) :: ([.constantLong RX7 134 (4), .fieldLink RX7 7 "FeatherSharesModel" "state" "[I", .methodLink RX7 156 yX7_isGoose, .instanceMethod yX7_isGoose, .selects RX7 yX7_isGoose yX7_isGoose, .initialized RX7, .code yX7_isGoose cX7_isGoose 2 (some .boolean), .fieldLink RX7 128 "FeatherSharesModel" "gooseMany" "I", .methodLink RX7 46 yX7_in, .static yX7_in, .code yX7_in cX7_in 6 (some .boolean), .methodLink RX7 139 yX7_feathersOn, .instanceMethod yX7_feathersOn, .selects RX7 yX7_feathersOn yX7_feathersOn, .code yX7_feathersOn cX7_feathersOn 5 (some .int), .methodLink RX7 136 yX7_shareOn, .instanceMethod yX7_shareOn, .selects RX7 yX7_shareOn yX7_shareOn, .code yX7_shareOn cX7_shareOn 4 (some .int), .methodLink RX7 143 yX7_eggOn, .instanceMethod yX7_eggOn, .selects RX7 yX7_eggOn yX7_eggOn, .code yX7_eggOn cX7_eggOn 5 (some .int)] ++ wsX70)
def wsX7_ownerOn_r1 : List Cond := [Cond.fieldLink RX7 7 "FeatherSharesModel" "state" "[I", Cond.methodLink RX7 146 yX7_moneyOn, Cond.instanceMethod yX7_moneyOn, Cond.selects RX7 yX7_moneyOn yX7_moneyOn, Cond.initialized RX7, Cond.code yX7_moneyOn cX7_moneyOn 3 (some .int), Cond.methodLink RX7 160 yX7_worthOn, Cond.instanceMethod yX7_worthOn, Cond.selects RX7 yX7_worthOn yX7_worthOn, Cond.code yX7_worthOn cX7_worthOn 5 (some .int), Cond.fieldLink RX7 128 "FeatherSharesModel" "gooseMany" "I", Cond.methodLink RX7 136 yX7_shareOn, Cond.instanceMethod yX7_shareOn, Cond.selects RX7 yX7_shareOn yX7_shareOn, Cond.code yX7_shareOn cX7_shareOn 4 (some .int), Cond.methodLink RX7 163 yX7_eggsNow, Cond.instanceMethod yX7_eggsNow, Cond.selects RX7 yX7_eggsNow yX7_eggsNow, Cond.code yX7_eggsNow cX7_eggsNow 5 (some .int), Cond.methodLink RX7 143 yX7_eggOn, Cond.instanceMethod yX7_eggOn, Cond.selects RX7 yX7_eggOn yX7_eggOn, Cond.code yX7_eggOn cX7_eggOn 5 (some .int), Cond.methodLink RX7 139 yX7_feathersOn]
def wsX7_ownerOn_r2 : List Cond := [Cond.instanceMethod yX7_feathersOn, Cond.selects RX7 yX7_feathersOn yX7_feathersOn, Cond.code yX7_feathersOn cX7_feathersOn 5 (some .int)]
def wsX7_ownerOn : List Cond := .code yX7_ownerOn cX7_ownerOn 4 (some .int) :: ((wsX7_ownerOn_r1 ++ wsX7_ownerOn_r2) ++ wsX70)
def wsX7_owner_r1 : List Cond := [Cond.constantLong RX7 169 (3), Cond.methodLink RX7 166 yX7_isOwner, Cond.static yX7_isOwner, Cond.initialized RX7, Cond.code yX7_isOwner cX7_isOwner 1 (some .boolean), Cond.constantLong RX7 134 (4), Cond.methodLink RX7 46 yX7_in, Cond.static yX7_in, Cond.code yX7_in cX7_in 6 (some .boolean), Cond.methodLink RX7 171 yX7_ownerOn, Cond.instanceMethod yX7_ownerOn, Cond.selects RX7 yX7_ownerOn yX7_ownerOn, Cond.code yX7_ownerOn cX7_ownerOn 4 (some .int), Cond.fieldLink RX7 7 "FeatherSharesModel" "state" "[I", Cond.methodLink RX7 146 yX7_moneyOn, Cond.instanceMethod yX7_moneyOn, Cond.selects RX7 yX7_moneyOn yX7_moneyOn, Cond.code yX7_moneyOn cX7_moneyOn 3 (some .int), Cond.methodLink RX7 160 yX7_worthOn, Cond.instanceMethod yX7_worthOn, Cond.selects RX7 yX7_worthOn yX7_worthOn, Cond.code yX7_worthOn cX7_worthOn 5 (some .int), Cond.fieldLink RX7 128 "FeatherSharesModel" "gooseMany" "I", Cond.methodLink RX7 136 yX7_shareOn]
def wsX7_owner_r2 : List Cond := [Cond.instanceMethod yX7_shareOn, Cond.selects RX7 yX7_shareOn yX7_shareOn, Cond.code yX7_shareOn cX7_shareOn 4 (some .int), Cond.methodLink RX7 163 yX7_eggsNow, Cond.instanceMethod yX7_eggsNow, Cond.selects RX7 yX7_eggsNow yX7_eggsNow, Cond.code yX7_eggsNow cX7_eggsNow 5 (some .int), Cond.methodLink RX7 143 yX7_eggOn, Cond.instanceMethod yX7_eggOn, Cond.selects RX7 yX7_eggOn yX7_eggOn, Cond.code yX7_eggOn cX7_eggOn 5 (some .int), Cond.methodLink RX7 139 yX7_feathersOn, Cond.instanceMethod yX7_feathersOn, Cond.selects RX7 yX7_feathersOn yX7_feathersOn, Cond.code yX7_feathersOn cX7_feathersOn 5 (some .int)]
def wsX7_owner : List Cond := .code yX7_owner cX7_owner 3 (some .int) :: ((wsX7_owner_r1 ++ wsX7_owner_r2) ++ wsX70)
def wsX7_share : List Cond := .code yX7_share cX7_share 3 (some .int) :: ([.methodLink RX7 156 yX7_isGoose, .instanceMethod yX7_isGoose, .selects RX7 yX7_isGoose yX7_isGoose, .initialized RX7, .code yX7_isGoose cX7_isGoose 2 (some .boolean), .fieldLink RX7 128 "FeatherSharesModel" "gooseMany" "I", .methodLink RX7 46 yX7_in, .static yX7_in, .code yX7_in cX7_in 6 (some .boolean), .methodLink RX7 166 yX7_isOwner, .static yX7_isOwner, .code yX7_isOwner cX7_isOwner 1 (some .boolean), .constantLong RX7 134 (4), .methodLink RX7 136 yX7_shareOn, .instanceMethod yX7_shareOn, .selects RX7 yX7_shareOn yX7_shareOn, .code yX7_shareOn cX7_shareOn 4 (some .int), .fieldLink RX7 7 "FeatherSharesModel" "state" "[I"] ++ wsX70)
def wsX7_trade : List Cond := .code yX7_trade cX7_trade 3 (some .int) :: ([.fieldLink RX7 7 "FeatherSharesModel" "state" "[I", .constantLong RX7 169 (3), .methodLink RX7 46 yX7_in, .static yX7_in, .initialized RX7, .code yX7_in cX7_in 6 (some .boolean)] ++ wsX70)
def wsX7_puts : List Cond := .code yX7_puts cX7_puts 6 (some .int) :: ([.fieldLink RX7 7 "FeatherSharesModel" "state" "[I"] ++ wsX70)
def wsX7_alter : List Cond := .code yX7_alter cX7_alter 5 (some .int) :: ([.constantLong RX7 169 (3), .constantLong RX7 174 (9), .methodLink RX7 46 yX7_in, .static yX7_in, .initialized RX7, .code yX7_in cX7_in 6 (some .boolean), .methodLink RX7 166 yX7_isOwner, .static yX7_isOwner, .code yX7_isOwner cX7_isOwner 1 (some .boolean), .constantLong RX7 134 (4), .methodLink RX7 156 yX7_isGoose, .instanceMethod yX7_isGoose, .selects RX7 yX7_isGoose yX7_isGoose, .code yX7_isGoose cX7_isGoose 2 (some .boolean), .fieldLink RX7 128 "FeatherSharesModel" "gooseMany" "I", .methodLink RX7 176 yX7_puts, .instanceMethod yX7_puts, .selects RX7 yX7_puts yX7_puts, .code yX7_puts cX7_puts 6 (some .int), .fieldLink RX7 7 "FeatherSharesModel" "state" "[I"] ++ wsX70)
def wsX7_purse : List Cond := .code yX7_purse cX7_purse 3 (some .int) :: ([.constantLong RX7 180 (999), .methodLink RX7 166 yX7_isOwner, .static yX7_isOwner, .initialized RX7, .code yX7_isOwner cX7_isOwner 1 (some .boolean), .constantLong RX7 134 (4), .methodLink RX7 46 yX7_in, .static yX7_in, .code yX7_in cX7_in 6 (some .boolean), .methodLink RX7 176 yX7_puts, .instanceMethod yX7_puts, .selects RX7 yX7_puts yX7_puts, .code yX7_puts cX7_puts 6 (some .int), .fieldLink RX7 7 "FeatherSharesModel" "state" "[I"] ++ wsX70)
def wsX7_grant : List Cond := .code yX7_grant cX7_grant 4 (some .int) :: ([.constantLong RX7 182 (99), .methodLink RX7 156 yX7_isGoose, .instanceMethod yX7_isGoose, .selects RX7 yX7_isGoose yX7_isGoose, .initialized RX7, .code yX7_isGoose cX7_isGoose 2 (some .boolean), .fieldLink RX7 128 "FeatherSharesModel" "gooseMany" "I", .methodLink RX7 46 yX7_in, .static yX7_in, .code yX7_in cX7_in 6 (some .boolean), .methodLink RX7 166 yX7_isOwner, .static yX7_isOwner, .code yX7_isOwner cX7_isOwner 1 (some .boolean), .constantLong RX7 134 (4), .methodLink RX7 176 yX7_puts, .instanceMethod yX7_puts, .selects RX7 yX7_puts yX7_puts, .code yX7_puts cX7_puts 6 (some .int), .fieldLink RX7 7 "FeatherSharesModel" "state" "[I"] ++ wsX70)
def wsX7_isTrade : List Cond := .code yX7_isTrade cX7_isTrade 5 (some .boolean) :: ([.constantLong RX7 174 (9), .methodLink RX7 166 yX7_isOwner, .static yX7_isOwner, .initialized RX7, .code yX7_isOwner cX7_isOwner 1 (some .boolean), .constantLong RX7 134 (4), .methodLink RX7 46 yX7_in, .static yX7_in, .code yX7_in cX7_in 6 (some .boolean), .methodLink RX7 156 yX7_isGoose, .instanceMethod yX7_isGoose, .selects RX7 yX7_isGoose yX7_isGoose, .code yX7_isGoose cX7_isGoose 2 (some .boolean), .fieldLink RX7 128 "FeatherSharesModel" "gooseMany" "I"] ++ wsX70)
def wsX7_plan : List Cond := .code yX7_plan cX7_plan 6 (some .int) :: ([.fieldLink RX7 7 "FeatherSharesModel" "state" "[I", .methodLink RX7 184 yX7_isTrade, .instanceMethod yX7_isTrade, .selects RX7 yX7_isTrade yX7_isTrade, .initialized RX7, .code yX7_isTrade cX7_isTrade 5 (some .boolean), .constantLong RX7 174 (9), .methodLink RX7 166 yX7_isOwner, .static yX7_isOwner, .code yX7_isOwner cX7_isOwner 1 (some .boolean), .constantLong RX7 134 (4), .methodLink RX7 46 yX7_in, .static yX7_in, .code yX7_in cX7_in 6 (some .boolean), .methodLink RX7 156 yX7_isGoose, .instanceMethod yX7_isGoose, .selects RX7 yX7_isGoose yX7_isGoose, .code yX7_isGoose cX7_isGoose 2 (some .boolean), .fieldLink RX7 128 "FeatherSharesModel" "gooseMany" "I"] ++ wsX70)
def wsX7_cut : List Cond := .code yX7_cut cX7_cut 2 (some .int) :: ([.fieldLink RX7 7 "FeatherSharesModel" "state" "[I", .methodLink RX7 46 yX7_in, .static yX7_in, .initialized RX7, .code yX7_in cX7_in 6 (some .boolean), .methodLink RX7 176 yX7_puts, .instanceMethod yX7_puts, .selects RX7 yX7_puts yX7_puts, .code yX7_puts cX7_puts 6 (some .int)] ++ wsX70)
def wsX7_plucksOn : List Cond := .code yX7_plucksOn cX7_plucksOn 7 (some .boolean) :: ([.fieldLink RX7 7 "FeatherSharesModel" "state" "[I", .methodLink RX7 136 yX7_shareOn, .instanceMethod yX7_shareOn, .selects RX7 yX7_shareOn yX7_shareOn, .initialized RX7, .code yX7_shareOn cX7_shareOn 4 (some .int)] ++ wsX70)
def wsX7_buysOn : List Cond := .code yX7_buysOn cX7_buysOn 8 (some .boolean) :: ([.fieldLink RX7 7 "FeatherSharesModel" "state" "[I", .methodLink RX7 146 yX7_moneyOn, .instanceMethod yX7_moneyOn, .selects RX7 yX7_moneyOn yX7_moneyOn, .initialized RX7, .code yX7_moneyOn cX7_moneyOn 3 (some .int), .methodLink RX7 188 yX7_plucksOn, .instanceMethod yX7_plucksOn, .selects RX7 yX7_plucksOn yX7_plucksOn, .code yX7_plucksOn cX7_plucksOn 7 (some .boolean), .methodLink RX7 136 yX7_shareOn, .instanceMethod yX7_shareOn, .selects RX7 yX7_shareOn yX7_shareOn, .code yX7_shareOn cX7_shareOn 4 (some .int)] ++ wsX70)
def wsX7_buys_r1 : List Cond := [Cond.methodLink RX7 184 yX7_isTrade, Cond.instanceMethod yX7_isTrade, Cond.selects RX7 yX7_isTrade yX7_isTrade, Cond.initialized RX7, Cond.code yX7_isTrade cX7_isTrade 5 (some .boolean), Cond.constantLong RX7 174 (9), Cond.methodLink RX7 166 yX7_isOwner, Cond.static yX7_isOwner, Cond.code yX7_isOwner cX7_isOwner 1 (some .boolean), Cond.constantLong RX7 134 (4), Cond.methodLink RX7 46 yX7_in, Cond.static yX7_in, Cond.code yX7_in cX7_in 6 (some .boolean), Cond.methodLink RX7 156 yX7_isGoose, Cond.instanceMethod yX7_isGoose, Cond.selects RX7 yX7_isGoose yX7_isGoose, Cond.code yX7_isGoose cX7_isGoose 2 (some .boolean), Cond.fieldLink RX7 128 "FeatherSharesModel" "gooseMany" "I", Cond.methodLink RX7 192 yX7_buysOn, Cond.instanceMethod yX7_buysOn, Cond.selects RX7 yX7_buysOn yX7_buysOn, Cond.code yX7_buysOn cX7_buysOn 8 (some .boolean), Cond.fieldLink RX7 7 "FeatherSharesModel" "state" "[I", Cond.methodLink RX7 146 yX7_moneyOn]
def wsX7_buys_r2 : List Cond := [Cond.instanceMethod yX7_moneyOn, Cond.selects RX7 yX7_moneyOn yX7_moneyOn, Cond.code yX7_moneyOn cX7_moneyOn 3 (some .int), Cond.methodLink RX7 188 yX7_plucksOn, Cond.instanceMethod yX7_plucksOn, Cond.selects RX7 yX7_plucksOn yX7_plucksOn, Cond.code yX7_plucksOn cX7_plucksOn 7 (some .boolean), Cond.methodLink RX7 136 yX7_shareOn, Cond.instanceMethod yX7_shareOn, Cond.selects RX7 yX7_shareOn yX7_shareOn, Cond.code yX7_shareOn cX7_shareOn 4 (some .int)]
def wsX7_buys : List Cond := .code yX7_buys cX7_buys 5 (some .int) :: ((wsX7_buys_r1 ++ wsX7_buys_r2) ++ wsX70)
def wsX7_buy_r1 : List Cond := [Cond.methodLink RX7 195 yX7_buys, Cond.instanceMethod yX7_buys, Cond.selects RX7 yX7_buys yX7_buys, Cond.initialized RX7, Cond.code yX7_buys cX7_buys 5 (some .int), Cond.methodLink RX7 184 yX7_isTrade, Cond.instanceMethod yX7_isTrade, Cond.selects RX7 yX7_isTrade yX7_isTrade, Cond.code yX7_isTrade cX7_isTrade 5 (some .boolean), Cond.constantLong RX7 174 (9), Cond.methodLink RX7 166 yX7_isOwner, Cond.static yX7_isOwner, Cond.code yX7_isOwner cX7_isOwner 1 (some .boolean), Cond.constantLong RX7 134 (4), Cond.methodLink RX7 46 yX7_in, Cond.static yX7_in, Cond.code yX7_in cX7_in 6 (some .boolean), Cond.methodLink RX7 156 yX7_isGoose, Cond.instanceMethod yX7_isGoose, Cond.selects RX7 yX7_isGoose yX7_isGoose, Cond.code yX7_isGoose cX7_isGoose 2 (some .boolean), Cond.fieldLink RX7 128 "FeatherSharesModel" "gooseMany" "I", Cond.methodLink RX7 192 yX7_buysOn, Cond.instanceMethod yX7_buysOn]
def wsX7_buy_r2 : List Cond := [Cond.selects RX7 yX7_buysOn yX7_buysOn, Cond.code yX7_buysOn cX7_buysOn 8 (some .boolean), Cond.fieldLink RX7 7 "FeatherSharesModel" "state" "[I", Cond.methodLink RX7 146 yX7_moneyOn, Cond.instanceMethod yX7_moneyOn, Cond.selects RX7 yX7_moneyOn yX7_moneyOn, Cond.code yX7_moneyOn cX7_moneyOn 3 (some .int), Cond.methodLink RX7 188 yX7_plucksOn, Cond.instanceMethod yX7_plucksOn, Cond.selects RX7 yX7_plucksOn yX7_plucksOn, Cond.code yX7_plucksOn cX7_plucksOn 7 (some .boolean), Cond.methodLink RX7 136 yX7_shareOn, Cond.instanceMethod yX7_shareOn, Cond.selects RX7 yX7_shareOn yX7_shareOn, Cond.code yX7_shareOn cX7_shareOn 4 (some .int)]
def wsX7_buy : List Cond := .code yX7_buy cX7_buy 5 (some .int) :: ((wsX7_buy_r1 ++ wsX7_buy_r2) ++ wsX70)
def wsX7_pluck_r1 : List Cond := [Cond.methodLink RX7 184 yX7_isTrade, Cond.instanceMethod yX7_isTrade, Cond.selects RX7 yX7_isTrade yX7_isTrade, Cond.initialized RX7, Cond.code yX7_isTrade cX7_isTrade 5 (some .boolean), Cond.constantLong RX7 174 (9), Cond.methodLink RX7 166 yX7_isOwner, Cond.static yX7_isOwner, Cond.code yX7_isOwner cX7_isOwner 1 (some .boolean), Cond.constantLong RX7 134 (4), Cond.methodLink RX7 46 yX7_in, Cond.static yX7_in, Cond.code yX7_in cX7_in 6 (some .boolean), Cond.methodLink RX7 156 yX7_isGoose, Cond.instanceMethod yX7_isGoose, Cond.selects RX7 yX7_isGoose yX7_isGoose, Cond.code yX7_isGoose cX7_isGoose 2 (some .boolean), Cond.fieldLink RX7 128 "FeatherSharesModel" "gooseMany" "I", Cond.methodLink RX7 188 yX7_plucksOn, Cond.instanceMethod yX7_plucksOn, Cond.selects RX7 yX7_plucksOn yX7_plucksOn, Cond.code yX7_plucksOn cX7_plucksOn 7 (some .boolean), Cond.fieldLink RX7 7 "FeatherSharesModel" "state" "[I", Cond.methodLink RX7 136 yX7_shareOn]
def wsX7_pluck_r2 : List Cond := [Cond.instanceMethod yX7_shareOn, Cond.selects RX7 yX7_shareOn yX7_shareOn, Cond.code yX7_shareOn cX7_shareOn 4 (some .int)]
def wsX7_pluck : List Cond := .code yX7_pluck cX7_pluck 5 (some .int) :: ((wsX7_pluck_r1 ++ wsX7_pluck_r2) ++ wsX70)
def wsX7_weeks_r1 : List Cond := [Cond.constantLong RX7 199 (30), Cond.fieldLink RX7 7 "FeatherSharesModel" "state" "[I", Cond.methodLink RX7 46 yX7_in, Cond.static yX7_in, Cond.initialized RX7, Cond.code yX7_in cX7_in 6 (some .boolean), Cond.methodLink RX7 201 yX7_weekOn, Cond.instanceMethod yX7_weekOn, Cond.selects RX7 yX7_weekOn yX7_weekOn, Cond.code yX7_weekOn cX7_weekOn 6 (some .int), Cond.fieldLink RX7 128 "FeatherSharesModel" "gooseMany" "I", Cond.methodLink RX7 143 yX7_eggOn, Cond.instanceMethod yX7_eggOn, Cond.selects RX7 yX7_eggOn yX7_eggOn, Cond.code yX7_eggOn cX7_eggOn 5 (some .int), Cond.methodLink RX7 136 yX7_shareOn, Cond.instanceMethod yX7_shareOn, Cond.selects RX7 yX7_shareOn yX7_shareOn, Cond.code yX7_shareOn cX7_shareOn 4 (some .int), Cond.methodLink RX7 139 yX7_feathersOn, Cond.instanceMethod yX7_feathersOn, Cond.selects RX7 yX7_feathersOn yX7_feathersOn, Cond.code yX7_feathersOn cX7_feathersOn 5 (some .int), Cond.methodLink RX7 152 yX7_moultsOn]
def wsX7_weeks_r2 : List Cond := [Cond.instanceMethod yX7_moultsOn, Cond.selects RX7 yX7_moultsOn yX7_moultsOn, Cond.code yX7_moultsOn cX7_moultsOn 6 none, Cond.methodLink RX7 149 yX7_losesOf, Cond.static yX7_losesOf, Cond.code yX7_losesOf cX7_losesOf 4 (some .int)]
def wsX7_weeks : List Cond := .code yX7_weeks cX7_weeks 4 (some .int) :: ((wsX7_weeks_r1 ++ wsX7_weeks_r2) ++ wsX70)
def wsX7_copies : List Cond := .code yX7_copies cX7_copies 4 none :: ([.fieldLink RX7 7 "FeatherSharesModel" "state" "[I"] ++ wsX70)
def wsX7_planGoes_r1 : List Cond := [Cond.fieldLink RX7 208 "FeatherSharesModel" "cameMany" "I", Cond.fieldLink RX7 211 "FeatherSharesModel" "firstNot" "I", Cond.fieldLink RX7 214 "FeatherSharesModel" "changed" "I", Cond.fieldLink RX7 7 "FeatherSharesModel" "state" "[I", Cond.methodLink RX7 205 yX7_copies, Cond.instanceMethod yX7_copies, Cond.selects RX7 yX7_copies yX7_copies, Cond.initialized RX7, Cond.code yX7_copies cX7_copies 4 none, Cond.methodLink RX7 192 yX7_buysOn, Cond.instanceMethod yX7_buysOn, Cond.selects RX7 yX7_buysOn yX7_buysOn, Cond.code yX7_buysOn cX7_buysOn 8 (some .boolean), Cond.methodLink RX7 146 yX7_moneyOn, Cond.instanceMethod yX7_moneyOn, Cond.selects RX7 yX7_moneyOn yX7_moneyOn, Cond.code yX7_moneyOn cX7_moneyOn 3 (some .int), Cond.methodLink RX7 188 yX7_plucksOn, Cond.instanceMethod yX7_plucksOn, Cond.selects RX7 yX7_plucksOn yX7_plucksOn, Cond.code yX7_plucksOn cX7_plucksOn 7 (some .boolean), Cond.methodLink RX7 136 yX7_shareOn, Cond.instanceMethod yX7_shareOn, Cond.selects RX7 yX7_shareOn yX7_shareOn]
def wsX7_planGoes_r2 : List Cond := [Cond.code yX7_shareOn cX7_shareOn 4 (some .int)]
def wsX7_planGoes : List Cond := .code yX7_planGoes cX7_planGoes 4 none :: ((wsX7_planGoes_r1 ++ wsX7_planGoes_r2) ++ wsX70)
def wsX7_runs_r1 : List Cond := [Cond.constantLong RX7 217 (2), Cond.fieldLink RX7 208 "FeatherSharesModel" "cameMany" "I", Cond.fieldLink RX7 211 "FeatherSharesModel" "firstNot" "I", Cond.fieldLink RX7 214 "FeatherSharesModel" "changed" "I", Cond.methodLink RX7 46 yX7_in, Cond.static yX7_in, Cond.initialized RX7, Cond.code yX7_in cX7_in 6 (some .boolean), Cond.methodLink RX7 219 yX7_planGoes, Cond.instanceMethod yX7_planGoes, Cond.selects RX7 yX7_planGoes yX7_planGoes, Cond.code yX7_planGoes cX7_planGoes 4 none, Cond.fieldLink RX7 7 "FeatherSharesModel" "state" "[I", Cond.methodLink RX7 205 yX7_copies, Cond.instanceMethod yX7_copies, Cond.selects RX7 yX7_copies yX7_copies, Cond.code yX7_copies cX7_copies 4 none, Cond.methodLink RX7 192 yX7_buysOn, Cond.instanceMethod yX7_buysOn, Cond.selects RX7 yX7_buysOn yX7_buysOn, Cond.code yX7_buysOn cX7_buysOn 8 (some .boolean), Cond.methodLink RX7 146 yX7_moneyOn, Cond.instanceMethod yX7_moneyOn, Cond.selects RX7 yX7_moneyOn yX7_moneyOn]
def wsX7_runs_r2 : List Cond := [Cond.code yX7_moneyOn cX7_moneyOn 3 (some .int), Cond.methodLink RX7 188 yX7_plucksOn, Cond.instanceMethod yX7_plucksOn, Cond.selects RX7 yX7_plucksOn yX7_plucksOn, Cond.code yX7_plucksOn cX7_plucksOn 7 (some .boolean), Cond.methodLink RX7 136 yX7_shareOn, Cond.instanceMethod yX7_shareOn, Cond.selects RX7 yX7_shareOn yX7_shareOn, Cond.code yX7_shareOn cX7_shareOn 4 (some .int)]
def wsX7_runs : List Cond := .code yX7_runs cX7_runs 2 (some .int) :: ((wsX7_runs_r1 ++ wsX7_runs_r2) ++ wsX70)
def wsX7_ahead_r1 : List Cond := [Cond.constantLong RX7 169 (3), Cond.methodLink RX7 166 yX7_isOwner, Cond.static yX7_isOwner, Cond.initialized RX7, Cond.code yX7_isOwner cX7_isOwner 1 (some .boolean), Cond.constantLong RX7 134 (4), Cond.methodLink RX7 46 yX7_in, Cond.static yX7_in, Cond.code yX7_in cX7_in 6 (some .boolean), Cond.methodLink RX7 219 yX7_planGoes, Cond.instanceMethod yX7_planGoes, Cond.selects RX7 yX7_planGoes yX7_planGoes, Cond.code yX7_planGoes cX7_planGoes 4 none, Cond.fieldLink RX7 208 "FeatherSharesModel" "cameMany" "I", Cond.fieldLink RX7 211 "FeatherSharesModel" "firstNot" "I", Cond.fieldLink RX7 214 "FeatherSharesModel" "changed" "I", Cond.fieldLink RX7 7 "FeatherSharesModel" "state" "[I", Cond.methodLink RX7 205 yX7_copies, Cond.instanceMethod yX7_copies, Cond.selects RX7 yX7_copies yX7_copies, Cond.code yX7_copies cX7_copies 4 none, Cond.methodLink RX7 192 yX7_buysOn, Cond.instanceMethod yX7_buysOn, Cond.selects RX7 yX7_buysOn yX7_buysOn]
def wsX7_ahead_r2 : List Cond := [Cond.code yX7_buysOn cX7_buysOn 8 (some .boolean), Cond.methodLink RX7 146 yX7_moneyOn, Cond.instanceMethod yX7_moneyOn, Cond.selects RX7 yX7_moneyOn yX7_moneyOn, Cond.code yX7_moneyOn cX7_moneyOn 3 (some .int), Cond.methodLink RX7 188 yX7_plucksOn, Cond.instanceMethod yX7_plucksOn, Cond.selects RX7 yX7_plucksOn yX7_plucksOn, Cond.code yX7_plucksOn cX7_plucksOn 7 (some .boolean), Cond.methodLink RX7 136 yX7_shareOn, Cond.instanceMethod yX7_shareOn, Cond.selects RX7 yX7_shareOn yX7_shareOn, Cond.code yX7_shareOn cX7_shareOn 4 (some .int), Cond.methodLink RX7 171 yX7_ownerOn, Cond.instanceMethod yX7_ownerOn, Cond.selects RX7 yX7_ownerOn yX7_ownerOn, Cond.code yX7_ownerOn cX7_ownerOn 4 (some .int), Cond.methodLink RX7 160 yX7_worthOn, Cond.instanceMethod yX7_worthOn, Cond.selects RX7 yX7_worthOn yX7_worthOn, Cond.code yX7_worthOn cX7_worthOn 5 (some .int), Cond.fieldLink RX7 128 "FeatherSharesModel" "gooseMany" "I", Cond.methodLink RX7 163 yX7_eggsNow, Cond.instanceMethod yX7_eggsNow]
def wsX7_ahead_r3 : List Cond := [Cond.selects RX7 yX7_eggsNow yX7_eggsNow, Cond.code yX7_eggsNow cX7_eggsNow 5 (some .int), Cond.methodLink RX7 143 yX7_eggOn, Cond.instanceMethod yX7_eggOn, Cond.selects RX7 yX7_eggOn yX7_eggOn, Cond.code yX7_eggOn cX7_eggOn 5 (some .int), Cond.methodLink RX7 139 yX7_feathersOn, Cond.instanceMethod yX7_feathersOn, Cond.selects RX7 yX7_feathersOn yX7_feathersOn, Cond.code yX7_feathersOn cX7_feathersOn 5 (some .int)]
def wsX7_ahead : List Cond := .code yX7_ahead cX7_ahead 3 (some .int) :: ((wsX7_ahead_r1 ++ (wsX7_ahead_r2 ++ wsX7_ahead_r3)) ++ wsX70)
def wsX7_weeksGo_r1 : List Cond := [Cond.methodLink RX7 205 yX7_copies, Cond.instanceMethod yX7_copies, Cond.selects RX7 yX7_copies yX7_copies, Cond.initialized RX7, Cond.code yX7_copies cX7_copies 4 none, Cond.fieldLink RX7 7 "FeatherSharesModel" "state" "[I", Cond.methodLink RX7 201 yX7_weekOn, Cond.instanceMethod yX7_weekOn, Cond.selects RX7 yX7_weekOn yX7_weekOn, Cond.code yX7_weekOn cX7_weekOn 6 (some .int), Cond.fieldLink RX7 128 "FeatherSharesModel" "gooseMany" "I", Cond.methodLink RX7 143 yX7_eggOn, Cond.instanceMethod yX7_eggOn, Cond.selects RX7 yX7_eggOn yX7_eggOn, Cond.code yX7_eggOn cX7_eggOn 5 (some .int), Cond.methodLink RX7 136 yX7_shareOn, Cond.instanceMethod yX7_shareOn, Cond.selects RX7 yX7_shareOn yX7_shareOn, Cond.code yX7_shareOn cX7_shareOn 4 (some .int), Cond.methodLink RX7 139 yX7_feathersOn, Cond.instanceMethod yX7_feathersOn, Cond.selects RX7 yX7_feathersOn yX7_feathersOn, Cond.code yX7_feathersOn cX7_feathersOn 5 (some .int), Cond.methodLink RX7 152 yX7_moultsOn]
def wsX7_weeksGo_r2 : List Cond := [Cond.instanceMethod yX7_moultsOn, Cond.selects RX7 yX7_moultsOn yX7_moultsOn, Cond.code yX7_moultsOn cX7_moultsOn 6 none, Cond.methodLink RX7 149 yX7_losesOf, Cond.static yX7_losesOf, Cond.code yX7_losesOf cX7_losesOf 4 (some .int)]
def wsX7_weeksGo : List Cond := .code yX7_weeksGo cX7_weeksGo 3 none :: ((wsX7_weeksGo_r1 ++ wsX7_weeksGo_r2) ++ wsX70)
def wsX7_later_r1 : List Cond := [Cond.constantLong RX7 222 (60), Cond.methodLink RX7 156 yX7_isGoose, Cond.instanceMethod yX7_isGoose, Cond.selects RX7 yX7_isGoose yX7_isGoose, Cond.initialized RX7, Cond.code yX7_isGoose cX7_isGoose 2 (some .boolean), Cond.fieldLink RX7 128 "FeatherSharesModel" "gooseMany" "I", Cond.methodLink RX7 46 yX7_in, Cond.static yX7_in, Cond.code yX7_in cX7_in 6 (some .boolean), Cond.methodLink RX7 166 yX7_isOwner, Cond.static yX7_isOwner, Cond.code yX7_isOwner cX7_isOwner 1 (some .boolean), Cond.constantLong RX7 134 (4), Cond.methodLink RX7 224 yX7_weeksGo, Cond.instanceMethod yX7_weeksGo, Cond.selects RX7 yX7_weeksGo yX7_weeksGo, Cond.code yX7_weeksGo cX7_weeksGo 3 none, Cond.methodLink RX7 205 yX7_copies, Cond.instanceMethod yX7_copies, Cond.selects RX7 yX7_copies yX7_copies, Cond.code yX7_copies cX7_copies 4 none, Cond.fieldLink RX7 7 "FeatherSharesModel" "state" "[I", Cond.methodLink RX7 201 yX7_weekOn]
def wsX7_later_r2 : List Cond := [Cond.instanceMethod yX7_weekOn, Cond.selects RX7 yX7_weekOn yX7_weekOn, Cond.code yX7_weekOn cX7_weekOn 6 (some .int), Cond.methodLink RX7 143 yX7_eggOn, Cond.instanceMethod yX7_eggOn, Cond.selects RX7 yX7_eggOn yX7_eggOn, Cond.code yX7_eggOn cX7_eggOn 5 (some .int), Cond.methodLink RX7 136 yX7_shareOn, Cond.instanceMethod yX7_shareOn, Cond.selects RX7 yX7_shareOn yX7_shareOn, Cond.code yX7_shareOn cX7_shareOn 4 (some .int), Cond.methodLink RX7 139 yX7_feathersOn, Cond.instanceMethod yX7_feathersOn, Cond.selects RX7 yX7_feathersOn yX7_feathersOn, Cond.code yX7_feathersOn cX7_feathersOn 5 (some .int), Cond.methodLink RX7 152 yX7_moultsOn, Cond.instanceMethod yX7_moultsOn, Cond.selects RX7 yX7_moultsOn yX7_moultsOn, Cond.code yX7_moultsOn cX7_moultsOn 6 none, Cond.methodLink RX7 149 yX7_losesOf, Cond.static yX7_losesOf, Cond.code yX7_losesOf cX7_losesOf 4 (some .int)]
def wsX7_later : List Cond := .code yX7_later cX7_later 4 (some .int) :: ((wsX7_later_r1 ++ wsX7_later_r2) ++ wsX70)
def wsX7_eggs_r1 : List Cond := [Cond.constantLong RX7 222 (60), Cond.fieldLink RX7 7 "FeatherSharesModel" "state" "[I", Cond.methodLink RX7 166 yX7_isOwner, Cond.static yX7_isOwner, Cond.initialized RX7, Cond.code yX7_isOwner cX7_isOwner 1 (some .boolean), Cond.constantLong RX7 134 (4), Cond.methodLink RX7 46 yX7_in, Cond.static yX7_in, Cond.code yX7_in cX7_in 6 (some .boolean), Cond.methodLink RX7 224 yX7_weeksGo, Cond.instanceMethod yX7_weeksGo, Cond.selects RX7 yX7_weeksGo yX7_weeksGo, Cond.code yX7_weeksGo cX7_weeksGo 3 none, Cond.methodLink RX7 205 yX7_copies, Cond.instanceMethod yX7_copies, Cond.selects RX7 yX7_copies yX7_copies, Cond.code yX7_copies cX7_copies 4 none, Cond.methodLink RX7 201 yX7_weekOn, Cond.instanceMethod yX7_weekOn, Cond.selects RX7 yX7_weekOn yX7_weekOn, Cond.code yX7_weekOn cX7_weekOn 6 (some .int), Cond.fieldLink RX7 128 "FeatherSharesModel" "gooseMany" "I", Cond.methodLink RX7 143 yX7_eggOn]
def wsX7_eggs_r2 : List Cond := [Cond.instanceMethod yX7_eggOn, Cond.selects RX7 yX7_eggOn yX7_eggOn, Cond.code yX7_eggOn cX7_eggOn 5 (some .int), Cond.methodLink RX7 136 yX7_shareOn, Cond.instanceMethod yX7_shareOn, Cond.selects RX7 yX7_shareOn yX7_shareOn, Cond.code yX7_shareOn cX7_shareOn 4 (some .int), Cond.methodLink RX7 139 yX7_feathersOn, Cond.instanceMethod yX7_feathersOn, Cond.selects RX7 yX7_feathersOn yX7_feathersOn, Cond.code yX7_feathersOn cX7_feathersOn 5 (some .int), Cond.methodLink RX7 152 yX7_moultsOn, Cond.instanceMethod yX7_moultsOn, Cond.selects RX7 yX7_moultsOn yX7_moultsOn, Cond.code yX7_moultsOn cX7_moultsOn 6 none, Cond.methodLink RX7 149 yX7_losesOf, Cond.static yX7_losesOf, Cond.code yX7_losesOf cX7_losesOf 4 (some .int)]
def wsX7_eggs : List Cond := .code yX7_eggs cX7_eggs 3 (some .int) :: ((wsX7_eggs_r1 ++ wsX7_eggs_r2) ++ wsX70)
def wsX7_bare_r1 : List Cond := [Cond.constantLong RX7 227 (495), Cond.methodLink RX7 156 yX7_isGoose, Cond.instanceMethod yX7_isGoose, Cond.selects RX7 yX7_isGoose yX7_isGoose, Cond.initialized RX7, Cond.code yX7_isGoose cX7_isGoose 2 (some .boolean), Cond.fieldLink RX7 128 "FeatherSharesModel" "gooseMany" "I", Cond.methodLink RX7 46 yX7_in, Cond.static yX7_in, Cond.code yX7_in cX7_in 6 (some .boolean), Cond.methodLink RX7 205 yX7_copies, Cond.instanceMethod yX7_copies, Cond.selects RX7 yX7_copies yX7_copies, Cond.code yX7_copies cX7_copies 4 none, Cond.fieldLink RX7 7 "FeatherSharesModel" "state" "[I", Cond.methodLink RX7 139 yX7_feathersOn, Cond.instanceMethod yX7_feathersOn, Cond.selects RX7 yX7_feathersOn yX7_feathersOn, Cond.code yX7_feathersOn cX7_feathersOn 5 (some .int), Cond.methodLink RX7 136 yX7_shareOn, Cond.instanceMethod yX7_shareOn, Cond.selects RX7 yX7_shareOn yX7_shareOn, Cond.code yX7_shareOn cX7_shareOn 4 (some .int), Cond.methodLink RX7 201 yX7_weekOn]
def wsX7_bare_r2 : List Cond := [Cond.instanceMethod yX7_weekOn, Cond.selects RX7 yX7_weekOn yX7_weekOn, Cond.code yX7_weekOn cX7_weekOn 6 (some .int), Cond.methodLink RX7 143 yX7_eggOn, Cond.instanceMethod yX7_eggOn, Cond.selects RX7 yX7_eggOn yX7_eggOn, Cond.code yX7_eggOn cX7_eggOn 5 (some .int), Cond.methodLink RX7 152 yX7_moultsOn, Cond.instanceMethod yX7_moultsOn, Cond.selects RX7 yX7_moultsOn yX7_moultsOn, Cond.code yX7_moultsOn cX7_moultsOn 6 none, Cond.methodLink RX7 149 yX7_losesOf, Cond.static yX7_losesOf, Cond.code yX7_losesOf cX7_losesOf 4 (some .int)]
def wsX7_bare : List Cond := .code yX7_bare cX7_bare 4 (some .int) :: ((wsX7_bare_r1 ++ wsX7_bare_r2) ++ wsX70)
def wsX7_rich_r1 : List Cond := [Cond.constantLong RX7 222 (60), Cond.methodLink RX7 46 yX7_in, Cond.static yX7_in, Cond.initialized RX7, Cond.code yX7_in cX7_in 6 (some .boolean), Cond.methodLink RX7 224 yX7_weeksGo, Cond.instanceMethod yX7_weeksGo, Cond.selects RX7 yX7_weeksGo yX7_weeksGo, Cond.code yX7_weeksGo cX7_weeksGo 3 none, Cond.methodLink RX7 205 yX7_copies, Cond.instanceMethod yX7_copies, Cond.selects RX7 yX7_copies yX7_copies, Cond.code yX7_copies cX7_copies 4 none, Cond.fieldLink RX7 7 "FeatherSharesModel" "state" "[I", Cond.methodLink RX7 201 yX7_weekOn, Cond.instanceMethod yX7_weekOn, Cond.selects RX7 yX7_weekOn yX7_weekOn, Cond.code yX7_weekOn cX7_weekOn 6 (some .int), Cond.fieldLink RX7 128 "FeatherSharesModel" "gooseMany" "I", Cond.methodLink RX7 143 yX7_eggOn, Cond.instanceMethod yX7_eggOn, Cond.selects RX7 yX7_eggOn yX7_eggOn, Cond.code yX7_eggOn cX7_eggOn 5 (some .int), Cond.methodLink RX7 136 yX7_shareOn]
def wsX7_rich_r2 : List Cond := [Cond.instanceMethod yX7_shareOn, Cond.selects RX7 yX7_shareOn yX7_shareOn, Cond.code yX7_shareOn cX7_shareOn 4 (some .int), Cond.methodLink RX7 139 yX7_feathersOn, Cond.instanceMethod yX7_feathersOn, Cond.selects RX7 yX7_feathersOn yX7_feathersOn, Cond.code yX7_feathersOn cX7_feathersOn 5 (some .int), Cond.methodLink RX7 152 yX7_moultsOn, Cond.instanceMethod yX7_moultsOn, Cond.selects RX7 yX7_moultsOn yX7_moultsOn, Cond.code yX7_moultsOn cX7_moultsOn 6 none, Cond.methodLink RX7 149 yX7_losesOf, Cond.static yX7_losesOf, Cond.code yX7_losesOf cX7_losesOf 4 (some .int), Cond.methodLink RX7 160 yX7_worthOn, Cond.instanceMethod yX7_worthOn, Cond.selects RX7 yX7_worthOn yX7_worthOn, Cond.code yX7_worthOn cX7_worthOn 5 (some .int), Cond.methodLink RX7 146 yX7_moneyOn, Cond.instanceMethod yX7_moneyOn, Cond.selects RX7 yX7_moneyOn yX7_moneyOn, Cond.code yX7_moneyOn cX7_moneyOn 3 (some .int)]
def wsX7_rich : List Cond := .code yX7_rich cX7_rich 5 (some .int) :: ((wsX7_rich_r1 ++ wsX7_rich_r2) ++ wsX70)
def wsX7_turn_r1 : List Cond := [Cond.methodLink RX7 156 yX7_isGoose, Cond.instanceMethod yX7_isGoose, Cond.selects RX7 yX7_isGoose yX7_isGoose, Cond.initialized RX7, Cond.code yX7_isGoose cX7_isGoose 2 (some .boolean), Cond.fieldLink RX7 128 "FeatherSharesModel" "gooseMany" "I", Cond.methodLink RX7 46 yX7_in, Cond.static yX7_in, Cond.code yX7_in cX7_in 6 (some .boolean), Cond.methodLink RX7 143 yX7_eggOn, Cond.instanceMethod yX7_eggOn, Cond.selects RX7 yX7_eggOn yX7_eggOn, Cond.code yX7_eggOn cX7_eggOn 5 (some .int), Cond.fieldLink RX7 7 "FeatherSharesModel" "state" "[I", Cond.methodLink RX7 136 yX7_shareOn, Cond.instanceMethod yX7_shareOn, Cond.selects RX7 yX7_shareOn yX7_shareOn, Cond.code yX7_shareOn cX7_shareOn 4 (some .int), Cond.methodLink RX7 139 yX7_feathersOn, Cond.instanceMethod yX7_feathersOn, Cond.selects RX7 yX7_feathersOn yX7_feathersOn, Cond.code yX7_feathersOn cX7_feathersOn 5 (some .int), Cond.methodLink RX7 205 yX7_copies, Cond.instanceMethod yX7_copies]
def wsX7_turn_r2 : List Cond := [Cond.selects RX7 yX7_copies yX7_copies, Cond.code yX7_copies cX7_copies 4 none, Cond.methodLink RX7 201 yX7_weekOn, Cond.instanceMethod yX7_weekOn, Cond.selects RX7 yX7_weekOn yX7_weekOn, Cond.code yX7_weekOn cX7_weekOn 6 (some .int), Cond.methodLink RX7 152 yX7_moultsOn, Cond.instanceMethod yX7_moultsOn, Cond.selects RX7 yX7_moultsOn yX7_moultsOn, Cond.code yX7_moultsOn cX7_moultsOn 6 none, Cond.methodLink RX7 149 yX7_losesOf, Cond.static yX7_losesOf, Cond.code yX7_losesOf cX7_losesOf 4 (some .int)]
def wsX7_turn : List Cond := .code yX7_turn cX7_turn 4 (some .int) :: ((wsX7_turn_r1 ++ wsX7_turn_r2) ++ wsX70)
def wsX7_need_r1 : List Cond := [Cond.fieldLink RX7 7 "FeatherSharesModel" "state" "[I", Cond.methodLink RX7 166 yX7_isOwner, Cond.static yX7_isOwner, Cond.initialized RX7, Cond.code yX7_isOwner cX7_isOwner 1 (some .boolean), Cond.constantLong RX7 134 (4), Cond.methodLink RX7 46 yX7_in, Cond.static yX7_in, Cond.code yX7_in cX7_in 6 (some .boolean), Cond.methodLink RX7 156 yX7_isGoose, Cond.instanceMethod yX7_isGoose, Cond.selects RX7 yX7_isGoose yX7_isGoose, Cond.code yX7_isGoose cX7_isGoose 2 (some .boolean), Cond.fieldLink RX7 128 "FeatherSharesModel" "gooseMany" "I", Cond.methodLink RX7 143 yX7_eggOn, Cond.instanceMethod yX7_eggOn, Cond.selects RX7 yX7_eggOn yX7_eggOn, Cond.code yX7_eggOn cX7_eggOn 5 (some .int), Cond.methodLink RX7 136 yX7_shareOn, Cond.instanceMethod yX7_shareOn, Cond.selects RX7 yX7_shareOn yX7_shareOn, Cond.code yX7_shareOn cX7_shareOn 4 (some .int), Cond.methodLink RX7 139 yX7_feathersOn, Cond.instanceMethod yX7_feathersOn]
def wsX7_need_r2 : List Cond := [Cond.selects RX7 yX7_feathersOn yX7_feathersOn, Cond.code yX7_feathersOn cX7_feathersOn 5 (some .int), Cond.methodLink RX7 205 yX7_copies, Cond.instanceMethod yX7_copies, Cond.selects RX7 yX7_copies yX7_copies, Cond.code yX7_copies cX7_copies 4 none, Cond.methodLink RX7 192 yX7_buysOn, Cond.instanceMethod yX7_buysOn, Cond.selects RX7 yX7_buysOn yX7_buysOn, Cond.code yX7_buysOn cX7_buysOn 8 (some .boolean), Cond.methodLink RX7 146 yX7_moneyOn, Cond.instanceMethod yX7_moneyOn, Cond.selects RX7 yX7_moneyOn yX7_moneyOn, Cond.code yX7_moneyOn cX7_moneyOn 3 (some .int), Cond.methodLink RX7 188 yX7_plucksOn, Cond.instanceMethod yX7_plucksOn, Cond.selects RX7 yX7_plucksOn yX7_plucksOn, Cond.code yX7_plucksOn cX7_plucksOn 7 (some .boolean)]
def wsX7_need : List Cond := .code yX7_need cX7_need 6 (some .int) :: ((wsX7_need_r1 ++ wsX7_need_r2) ++ wsX70)
def wsX7_bitsOf : List Cond := .code yX7_bitsOf cX7_bitsOf 3 (some .int) :: ([])
def wsX7_compares_r1 : List Cond := [Cond.fieldLink RX7 232 "FeatherSharesModel" "bestGeese" "I", Cond.fieldLink RX7 235 "FeatherSharesModel" "bestMoney" "I", Cond.fieldLink RX7 238 "FeatherSharesModel" "bestMany" "I", Cond.fieldLink RX7 241 "FeatherSharesModel" "bestFirst" "I", Cond.fieldLink RX7 244 "FeatherSharesModel" "bestSecond" "I", Cond.methodLink RX7 163 yX7_eggsNow, Cond.instanceMethod yX7_eggsNow, Cond.selects RX7 yX7_eggsNow yX7_eggsNow, Cond.initialized RX7, Cond.code yX7_eggsNow cX7_eggsNow 5 (some .int), Cond.fieldLink RX7 128 "FeatherSharesModel" "gooseMany" "I", Cond.methodLink RX7 143 yX7_eggOn, Cond.instanceMethod yX7_eggOn, Cond.selects RX7 yX7_eggOn yX7_eggOn, Cond.code yX7_eggOn cX7_eggOn 5 (some .int), Cond.fieldLink RX7 7 "FeatherSharesModel" "state" "[I", Cond.methodLink RX7 136 yX7_shareOn, Cond.instanceMethod yX7_shareOn, Cond.selects RX7 yX7_shareOn yX7_shareOn, Cond.code yX7_shareOn cX7_shareOn 4 (some .int), Cond.methodLink RX7 139 yX7_feathersOn, Cond.instanceMethod yX7_feathersOn, Cond.selects RX7 yX7_feathersOn yX7_feathersOn, Cond.code yX7_feathersOn cX7_feathersOn 5 (some .int)]
def wsX7_compares_r2 : List Cond := [Cond.methodLink RX7 229 yX7_bitsOf, Cond.static yX7_bitsOf, Cond.code yX7_bitsOf cX7_bitsOf 3 (some .int), Cond.methodLink RX7 146 yX7_moneyOn, Cond.instanceMethod yX7_moneyOn, Cond.selects RX7 yX7_moneyOn yX7_moneyOn, Cond.code yX7_moneyOn cX7_moneyOn 3 (some .int)]
def wsX7_compares : List Cond := .code yX7_compares cX7_compares 9 none :: ((wsX7_compares_r1 ++ wsX7_compares_r2) ++ wsX70)
def wsX7_buysBy_r1 : List Cond := [Cond.methodLink RX7 184 yX7_isTrade, Cond.instanceMethod yX7_isTrade, Cond.selects RX7 yX7_isTrade yX7_isTrade, Cond.initialized RX7, Cond.code yX7_isTrade cX7_isTrade 5 (some .boolean), Cond.constantLong RX7 174 (9), Cond.methodLink RX7 166 yX7_isOwner, Cond.static yX7_isOwner, Cond.code yX7_isOwner cX7_isOwner 1 (some .boolean), Cond.constantLong RX7 134 (4), Cond.methodLink RX7 46 yX7_in, Cond.static yX7_in, Cond.code yX7_in cX7_in 6 (some .boolean), Cond.methodLink RX7 156 yX7_isGoose, Cond.instanceMethod yX7_isGoose, Cond.selects RX7 yX7_isGoose yX7_isGoose, Cond.code yX7_isGoose cX7_isGoose 2 (some .boolean), Cond.fieldLink RX7 128 "FeatherSharesModel" "gooseMany" "I", Cond.methodLink RX7 192 yX7_buysOn, Cond.instanceMethod yX7_buysOn, Cond.selects RX7 yX7_buysOn yX7_buysOn, Cond.code yX7_buysOn cX7_buysOn 8 (some .boolean), Cond.fieldLink RX7 7 "FeatherSharesModel" "state" "[I", Cond.methodLink RX7 146 yX7_moneyOn]
def wsX7_buysBy_r2 : List Cond := [Cond.instanceMethod yX7_moneyOn, Cond.selects RX7 yX7_moneyOn yX7_moneyOn, Cond.code yX7_moneyOn cX7_moneyOn 3 (some .int), Cond.methodLink RX7 188 yX7_plucksOn, Cond.instanceMethod yX7_plucksOn, Cond.selects RX7 yX7_plucksOn yX7_plucksOn, Cond.code yX7_plucksOn cX7_plucksOn 7 (some .boolean), Cond.methodLink RX7 136 yX7_shareOn, Cond.instanceMethod yX7_shareOn, Cond.selects RX7 yX7_shareOn yX7_shareOn, Cond.code yX7_shareOn cX7_shareOn 4 (some .int)]
def wsX7_buysBy : List Cond := .code yX7_buysBy cX7_buysBy 7 (some .boolean) :: ((wsX7_buysBy_r1 ++ wsX7_buysBy_r2) ++ wsX70)
def wsX7_rowsOf_r1 : List Cond := [Cond.methodLink RX7 205 yX7_copies, Cond.instanceMethod yX7_copies, Cond.selects RX7 yX7_copies yX7_copies, Cond.initialized RX7, Cond.code yX7_copies cX7_copies 4 none, Cond.fieldLink RX7 7 "FeatherSharesModel" "state" "[I", Cond.methodLink RX7 247 yX7_buysBy, Cond.instanceMethod yX7_buysBy, Cond.selects RX7 yX7_buysBy yX7_buysBy, Cond.code yX7_buysBy cX7_buysBy 7 (some .boolean), Cond.methodLink RX7 184 yX7_isTrade, Cond.instanceMethod yX7_isTrade, Cond.selects RX7 yX7_isTrade yX7_isTrade, Cond.code yX7_isTrade cX7_isTrade 5 (some .boolean), Cond.constantLong RX7 174 (9), Cond.methodLink RX7 166 yX7_isOwner, Cond.static yX7_isOwner, Cond.code yX7_isOwner cX7_isOwner 1 (some .boolean), Cond.constantLong RX7 134 (4), Cond.methodLink RX7 46 yX7_in, Cond.static yX7_in, Cond.code yX7_in cX7_in 6 (some .boolean), Cond.methodLink RX7 156 yX7_isGoose, Cond.instanceMethod yX7_isGoose]
def wsX7_rowsOf_r2 : List Cond := [Cond.selects RX7 yX7_isGoose yX7_isGoose, Cond.code yX7_isGoose cX7_isGoose 2 (some .boolean), Cond.fieldLink RX7 128 "FeatherSharesModel" "gooseMany" "I", Cond.methodLink RX7 192 yX7_buysOn, Cond.instanceMethod yX7_buysOn, Cond.selects RX7 yX7_buysOn yX7_buysOn, Cond.code yX7_buysOn cX7_buysOn 8 (some .boolean), Cond.methodLink RX7 146 yX7_moneyOn, Cond.instanceMethod yX7_moneyOn, Cond.selects RX7 yX7_moneyOn yX7_moneyOn, Cond.code yX7_moneyOn cX7_moneyOn 3 (some .int), Cond.methodLink RX7 188 yX7_plucksOn, Cond.instanceMethod yX7_plucksOn, Cond.selects RX7 yX7_plucksOn yX7_plucksOn, Cond.code yX7_plucksOn cX7_plucksOn 7 (some .boolean), Cond.methodLink RX7 136 yX7_shareOn, Cond.instanceMethod yX7_shareOn, Cond.selects RX7 yX7_shareOn yX7_shareOn, Cond.code yX7_shareOn cX7_shareOn 4 (some .int), Cond.methodLink RX7 251 yX7_compares, Cond.instanceMethod yX7_compares, Cond.selects RX7 yX7_compares yX7_compares, Cond.code yX7_compares cX7_compares 9 none, Cond.fieldLink RX7 232 "FeatherSharesModel" "bestGeese" "I"]
def wsX7_rowsOf_r3 : List Cond := [Cond.fieldLink RX7 235 "FeatherSharesModel" "bestMoney" "I", Cond.fieldLink RX7 238 "FeatherSharesModel" "bestMany" "I", Cond.fieldLink RX7 241 "FeatherSharesModel" "bestFirst" "I", Cond.fieldLink RX7 244 "FeatherSharesModel" "bestSecond" "I", Cond.methodLink RX7 163 yX7_eggsNow, Cond.instanceMethod yX7_eggsNow, Cond.selects RX7 yX7_eggsNow yX7_eggsNow, Cond.code yX7_eggsNow cX7_eggsNow 5 (some .int), Cond.methodLink RX7 143 yX7_eggOn, Cond.instanceMethod yX7_eggOn, Cond.selects RX7 yX7_eggOn yX7_eggOn, Cond.code yX7_eggOn cX7_eggOn 5 (some .int), Cond.methodLink RX7 139 yX7_feathersOn, Cond.instanceMethod yX7_feathersOn, Cond.selects RX7 yX7_feathersOn yX7_feathersOn, Cond.code yX7_feathersOn cX7_feathersOn 5 (some .int), Cond.methodLink RX7 229 yX7_bitsOf, Cond.static yX7_bitsOf, Cond.code yX7_bitsOf cX7_bitsOf 3 (some .int)]
def wsX7_rowsOf : List Cond := .code yX7_rowsOf cX7_rowsOf 5 none :: ((wsX7_rowsOf_r1 ++ (wsX7_rowsOf_r2 ++ wsX7_rowsOf_r3)) ++ wsX70)
def wsX7_best_r1 : List Cond := [Cond.constantLong RX7 217 (2), Cond.constantLong RX7 255 (10), Cond.constantLong RX7 257 (11), Cond.fieldLink RX7 232 "FeatherSharesModel" "bestGeese" "I", Cond.fieldLink RX7 235 "FeatherSharesModel" "bestMoney" "I", Cond.fieldLink RX7 238 "FeatherSharesModel" "bestMany" "I", Cond.fieldLink RX7 241 "FeatherSharesModel" "bestFirst" "I", Cond.fieldLink RX7 244 "FeatherSharesModel" "bestSecond" "I", Cond.methodLink RX7 166 yX7_isOwner, Cond.static yX7_isOwner, Cond.initialized RX7, Cond.code yX7_isOwner cX7_isOwner 1 (some .boolean), Cond.constantLong RX7 134 (4), Cond.methodLink RX7 46 yX7_in, Cond.static yX7_in, Cond.code yX7_in cX7_in 6 (some .boolean), Cond.methodLink RX7 251 yX7_compares, Cond.instanceMethod yX7_compares, Cond.selects RX7 yX7_compares yX7_compares, Cond.code yX7_compares cX7_compares 9 none, Cond.methodLink RX7 163 yX7_eggsNow, Cond.instanceMethod yX7_eggsNow, Cond.selects RX7 yX7_eggsNow yX7_eggsNow, Cond.code yX7_eggsNow cX7_eggsNow 5 (some .int)]
def wsX7_best_r2 : List Cond := [Cond.fieldLink RX7 128 "FeatherSharesModel" "gooseMany" "I", Cond.methodLink RX7 143 yX7_eggOn, Cond.instanceMethod yX7_eggOn, Cond.selects RX7 yX7_eggOn yX7_eggOn, Cond.code yX7_eggOn cX7_eggOn 5 (some .int), Cond.fieldLink RX7 7 "FeatherSharesModel" "state" "[I", Cond.methodLink RX7 136 yX7_shareOn, Cond.instanceMethod yX7_shareOn, Cond.selects RX7 yX7_shareOn yX7_shareOn, Cond.code yX7_shareOn cX7_shareOn 4 (some .int), Cond.methodLink RX7 139 yX7_feathersOn, Cond.instanceMethod yX7_feathersOn, Cond.selects RX7 yX7_feathersOn yX7_feathersOn, Cond.code yX7_feathersOn cX7_feathersOn 5 (some .int), Cond.methodLink RX7 229 yX7_bitsOf, Cond.static yX7_bitsOf, Cond.code yX7_bitsOf cX7_bitsOf 3 (some .int), Cond.methodLink RX7 146 yX7_moneyOn, Cond.instanceMethod yX7_moneyOn, Cond.selects RX7 yX7_moneyOn yX7_moneyOn, Cond.code yX7_moneyOn cX7_moneyOn 3 (some .int), Cond.methodLink RX7 259 yX7_rowsOf, Cond.instanceMethod yX7_rowsOf, Cond.selects RX7 yX7_rowsOf yX7_rowsOf]
def wsX7_best_r3 : List Cond := [Cond.code yX7_rowsOf cX7_rowsOf 5 none, Cond.methodLink RX7 205 yX7_copies, Cond.instanceMethod yX7_copies, Cond.selects RX7 yX7_copies yX7_copies, Cond.code yX7_copies cX7_copies 4 none, Cond.methodLink RX7 247 yX7_buysBy, Cond.instanceMethod yX7_buysBy, Cond.selects RX7 yX7_buysBy yX7_buysBy, Cond.code yX7_buysBy cX7_buysBy 7 (some .boolean), Cond.methodLink RX7 184 yX7_isTrade, Cond.instanceMethod yX7_isTrade, Cond.selects RX7 yX7_isTrade yX7_isTrade, Cond.code yX7_isTrade cX7_isTrade 5 (some .boolean), Cond.constantLong RX7 174 (9), Cond.methodLink RX7 156 yX7_isGoose, Cond.instanceMethod yX7_isGoose, Cond.selects RX7 yX7_isGoose yX7_isGoose, Cond.code yX7_isGoose cX7_isGoose 2 (some .boolean), Cond.methodLink RX7 192 yX7_buysOn, Cond.instanceMethod yX7_buysOn, Cond.selects RX7 yX7_buysOn yX7_buysOn, Cond.code yX7_buysOn cX7_buysOn 8 (some .boolean), Cond.methodLink RX7 188 yX7_plucksOn, Cond.instanceMethod yX7_plucksOn]
def wsX7_best_r4 : List Cond := [Cond.selects RX7 yX7_plucksOn yX7_plucksOn, Cond.code yX7_plucksOn cX7_plucksOn 7 (some .boolean)]
def wsX7_best : List Cond := .code yX7_best cX7_best 5 (some .int) :: ((wsX7_best_r1 ++ (wsX7_best_r2 ++ (wsX7_best_r3 ++ wsX7_best_r4))) ++ wsX70)
def wsX7_leave_r1 : List Cond := [Cond.fieldLink RX7 7 "FeatherSharesModel" "state" "[I", Cond.methodLink RX7 166 yX7_isOwner, Cond.static yX7_isOwner, Cond.initialized RX7, Cond.code yX7_isOwner cX7_isOwner 1 (some .boolean), Cond.constantLong RX7 134 (4), Cond.methodLink RX7 46 yX7_in, Cond.static yX7_in, Cond.code yX7_in cX7_in 6 (some .boolean), Cond.methodLink RX7 219 yX7_planGoes, Cond.instanceMethod yX7_planGoes, Cond.selects RX7 yX7_planGoes yX7_planGoes, Cond.code yX7_planGoes cX7_planGoes 4 none, Cond.fieldLink RX7 208 "FeatherSharesModel" "cameMany" "I", Cond.fieldLink RX7 211 "FeatherSharesModel" "firstNot" "I", Cond.fieldLink RX7 214 "FeatherSharesModel" "changed" "I", Cond.methodLink RX7 205 yX7_copies, Cond.instanceMethod yX7_copies, Cond.selects RX7 yX7_copies yX7_copies, Cond.code yX7_copies cX7_copies 4 none, Cond.methodLink RX7 192 yX7_buysOn, Cond.instanceMethod yX7_buysOn, Cond.selects RX7 yX7_buysOn yX7_buysOn, Cond.code yX7_buysOn cX7_buysOn 8 (some .boolean)]
def wsX7_leave_r2 : List Cond := [Cond.methodLink RX7 146 yX7_moneyOn, Cond.instanceMethod yX7_moneyOn, Cond.selects RX7 yX7_moneyOn yX7_moneyOn, Cond.code yX7_moneyOn cX7_moneyOn 3 (some .int), Cond.methodLink RX7 188 yX7_plucksOn, Cond.instanceMethod yX7_plucksOn, Cond.selects RX7 yX7_plucksOn yX7_plucksOn, Cond.code yX7_plucksOn cX7_plucksOn 7 (some .boolean), Cond.methodLink RX7 136 yX7_shareOn, Cond.instanceMethod yX7_shareOn, Cond.selects RX7 yX7_shareOn yX7_shareOn, Cond.code yX7_shareOn cX7_shareOn 4 (some .int), Cond.methodLink RX7 160 yX7_worthOn, Cond.instanceMethod yX7_worthOn, Cond.selects RX7 yX7_worthOn yX7_worthOn, Cond.code yX7_worthOn cX7_worthOn 5 (some .int), Cond.fieldLink RX7 128 "FeatherSharesModel" "gooseMany" "I"]
def wsX7_leave : List Cond := .code yX7_leave cX7_leave 7 (some .int) :: ((wsX7_leave_r1 ++ wsX7_leave_r2) ++ wsX70)
def wsX7_sumOf : List Cond := .code yX7_sumOf cX7_sumOf 5 (some .int) :: ([.methodLink RX7 136 yX7_shareOn, .instanceMethod yX7_shareOn, .selects RX7 yX7_shareOn yX7_shareOn, .initialized RX7, .code yX7_shareOn cX7_shareOn 4 (some .int), .fieldLink RX7 7 "FeatherSharesModel" "state" "[I"] ++ wsX70)
def wsX7_swingsOf : List Cond := .code yX7_swingsOf cX7_swingsOf 7 (some .int) :: ([.methodLink RX7 139 yX7_feathersOn, .instanceMethod yX7_feathersOn, .selects RX7 yX7_feathersOn yX7_feathersOn, .initialized RX7, .code yX7_feathersOn cX7_feathersOn 5 (some .int), .methodLink RX7 136 yX7_shareOn, .instanceMethod yX7_shareOn, .selects RX7 yX7_shareOn yX7_shareOn, .code yX7_shareOn cX7_shareOn 4 (some .int), .fieldLink RX7 7 "FeatherSharesModel" "state" "[I", .methodLink RX7 262 yX7_sumOf, .instanceMethod yX7_sumOf, .selects RX7 yX7_sumOf yX7_sumOf, .code yX7_sumOf cX7_sumOf 5 (some .int)] ++ wsX70)
def wsX7_swings_r1 : List Cond := [Cond.methodLink RX7 156 yX7_isGoose, Cond.instanceMethod yX7_isGoose, Cond.selects RX7 yX7_isGoose yX7_isGoose, Cond.initialized RX7, Cond.code yX7_isGoose cX7_isGoose 2 (some .boolean), Cond.fieldLink RX7 128 "FeatherSharesModel" "gooseMany" "I", Cond.methodLink RX7 46 yX7_in, Cond.static yX7_in, Cond.code yX7_in cX7_in 6 (some .boolean), Cond.methodLink RX7 166 yX7_isOwner, Cond.static yX7_isOwner, Cond.code yX7_isOwner cX7_isOwner 1 (some .boolean), Cond.constantLong RX7 134 (4), Cond.methodLink RX7 265 yX7_swingsOf, Cond.instanceMethod yX7_swingsOf, Cond.selects RX7 yX7_swingsOf yX7_swingsOf, Cond.code yX7_swingsOf cX7_swingsOf 7 (some .int), Cond.methodLink RX7 139 yX7_feathersOn, Cond.instanceMethod yX7_feathersOn, Cond.selects RX7 yX7_feathersOn yX7_feathersOn, Cond.code yX7_feathersOn cX7_feathersOn 5 (some .int), Cond.methodLink RX7 136 yX7_shareOn, Cond.instanceMethod yX7_shareOn, Cond.selects RX7 yX7_shareOn yX7_shareOn]
def wsX7_swings_r2 : List Cond := [Cond.code yX7_shareOn cX7_shareOn 4 (some .int), Cond.fieldLink RX7 7 "FeatherSharesModel" "state" "[I", Cond.methodLink RX7 262 yX7_sumOf, Cond.instanceMethod yX7_sumOf, Cond.selects RX7 yX7_sumOf yX7_sumOf, Cond.code yX7_sumOf cX7_sumOf 5 (some .int)]
def wsX7_swings : List Cond := .code yX7_swings cX7_swings 3 (some .int) :: ((wsX7_swings_r1 ++ wsX7_swings_r2) ++ wsX70)
def wsX7_lowest : List Cond := .code yX7_lowest cX7_lowest 11 (some .long) :: ([])
def wsX7_power_r1 : List Cond := [Cond.constantLong RX7 268 (-1), Cond.methodLink RX7 156 yX7_isGoose, Cond.instanceMethod yX7_isGoose, Cond.selects RX7 yX7_isGoose yX7_isGoose, Cond.initialized RX7, Cond.code yX7_isGoose cX7_isGoose 2 (some .boolean), Cond.fieldLink RX7 128 "FeatherSharesModel" "gooseMany" "I", Cond.methodLink RX7 46 yX7_in, Cond.static yX7_in, Cond.code yX7_in cX7_in 6 (some .boolean), Cond.methodLink RX7 166 yX7_isOwner, Cond.static yX7_isOwner, Cond.code yX7_isOwner cX7_isOwner 1 (some .boolean), Cond.constantLong RX7 134 (4), Cond.methodLink RX7 265 yX7_swingsOf, Cond.instanceMethod yX7_swingsOf, Cond.selects RX7 yX7_swingsOf yX7_swingsOf, Cond.code yX7_swingsOf cX7_swingsOf 7 (some .int), Cond.methodLink RX7 139 yX7_feathersOn, Cond.instanceMethod yX7_feathersOn, Cond.selects RX7 yX7_feathersOn yX7_feathersOn, Cond.code yX7_feathersOn cX7_feathersOn 5 (some .int), Cond.methodLink RX7 136 yX7_shareOn, Cond.instanceMethod yX7_shareOn]
def wsX7_power_r2 : List Cond := [Cond.selects RX7 yX7_shareOn yX7_shareOn, Cond.code yX7_shareOn cX7_shareOn 4 (some .int), Cond.fieldLink RX7 7 "FeatherSharesModel" "state" "[I", Cond.methodLink RX7 262 yX7_sumOf, Cond.instanceMethod yX7_sumOf, Cond.selects RX7 yX7_sumOf yX7_sumOf, Cond.code yX7_sumOf cX7_sumOf 5 (some .int), Cond.methodLink RX7 270 yX7_lowest, Cond.static yX7_lowest, Cond.code yX7_lowest cX7_lowest 11 (some .long)]
def wsX7_power : List Cond := .code yX7_power cX7_power 6 (some .long) :: ((wsX7_power_r1 ++ wsX7_power_r2) ++ wsX70)
def wsX7_reign : List Cond := .code yX7_reign cX7_reign 4 (some .int) :: ([.methodLink RX7 156 yX7_isGoose, .instanceMethod yX7_isGoose, .selects RX7 yX7_isGoose yX7_isGoose, .initialized RX7, .code yX7_isGoose cX7_isGoose 2 (some .boolean), .fieldLink RX7 128 "FeatherSharesModel" "gooseMany" "I", .methodLink RX7 46 yX7_in, .static yX7_in, .code yX7_in cX7_in 6 (some .boolean), .methodLink RX7 166 yX7_isOwner, .static yX7_isOwner, .code yX7_isOwner cX7_isOwner 1 (some .boolean), .constantLong RX7 134 (4), .methodLink RX7 139 yX7_feathersOn, .instanceMethod yX7_feathersOn, .selects RX7 yX7_feathersOn yX7_feathersOn, .code yX7_feathersOn cX7_feathersOn 5 (some .int), .methodLink RX7 136 yX7_shareOn, .instanceMethod yX7_shareOn, .selects RX7 yX7_shareOn yX7_shareOn, .code yX7_shareOn cX7_shareOn 4 (some .int), .fieldLink RX7 7 "FeatherSharesModel" "state" "[I"] ++ wsX70)
def wsX7_byMoults_r1 : List Cond := [Cond.constantLong RX7 255 (10), Cond.methodLink RX7 205 yX7_copies, Cond.instanceMethod yX7_copies, Cond.selects RX7 yX7_copies yX7_copies, Cond.initialized RX7, Cond.code yX7_copies cX7_copies 4 none, Cond.fieldLink RX7 7 "FeatherSharesModel" "state" "[I", Cond.methodLink RX7 201 yX7_weekOn, Cond.instanceMethod yX7_weekOn, Cond.selects RX7 yX7_weekOn yX7_weekOn, Cond.code yX7_weekOn cX7_weekOn 6 (some .int), Cond.fieldLink RX7 128 "FeatherSharesModel" "gooseMany" "I", Cond.methodLink RX7 143 yX7_eggOn, Cond.instanceMethod yX7_eggOn, Cond.selects RX7 yX7_eggOn yX7_eggOn, Cond.code yX7_eggOn cX7_eggOn 5 (some .int), Cond.methodLink RX7 136 yX7_shareOn, Cond.instanceMethod yX7_shareOn, Cond.selects RX7 yX7_shareOn yX7_shareOn, Cond.code yX7_shareOn cX7_shareOn 4 (some .int), Cond.methodLink RX7 139 yX7_feathersOn, Cond.instanceMethod yX7_feathersOn, Cond.selects RX7 yX7_feathersOn yX7_feathersOn, Cond.code yX7_feathersOn cX7_feathersOn 5 (some .int)]
def wsX7_byMoults_r2 : List Cond := [Cond.methodLink RX7 152 yX7_moultsOn, Cond.instanceMethod yX7_moultsOn, Cond.selects RX7 yX7_moultsOn yX7_moultsOn, Cond.code yX7_moultsOn cX7_moultsOn 6 none, Cond.methodLink RX7 149 yX7_losesOf, Cond.static yX7_losesOf, Cond.code yX7_losesOf cX7_losesOf 4 (some .int), Cond.methodLink RX7 270 yX7_lowest, Cond.static yX7_lowest, Cond.code yX7_lowest cX7_lowest 11 (some .long)]
def wsX7_byMoults : List Cond := .code yX7_byMoults cX7_byMoults 15 (some .long) :: ((wsX7_byMoults_r1 ++ wsX7_byMoults_r2) ++ wsX70)
def wsX7_luck_r1 : List Cond := [Cond.constantLong RX7 255 (10), Cond.constantLong RX7 274 (8), Cond.constantLong RX7 268 (-1), Cond.methodLink RX7 46 yX7_in, Cond.static yX7_in, Cond.initialized RX7, Cond.code yX7_in cX7_in 6 (some .boolean), Cond.methodLink RX7 156 yX7_isGoose, Cond.instanceMethod yX7_isGoose, Cond.selects RX7 yX7_isGoose yX7_isGoose, Cond.code yX7_isGoose cX7_isGoose 2 (some .boolean), Cond.fieldLink RX7 128 "FeatherSharesModel" "gooseMany" "I", Cond.methodLink RX7 166 yX7_isOwner, Cond.static yX7_isOwner, Cond.code yX7_isOwner cX7_isOwner 1 (some .boolean), Cond.constantLong RX7 134 (4), Cond.methodLink RX7 276 yX7_byMoults, Cond.instanceMethod yX7_byMoults, Cond.selects RX7 yX7_byMoults yX7_byMoults, Cond.code yX7_byMoults cX7_byMoults 15 (some .long), Cond.methodLink RX7 205 yX7_copies, Cond.instanceMethod yX7_copies, Cond.selects RX7 yX7_copies yX7_copies, Cond.code yX7_copies cX7_copies 4 none]
def wsX7_luck_r2 : List Cond := [Cond.fieldLink RX7 7 "FeatherSharesModel" "state" "[I", Cond.methodLink RX7 201 yX7_weekOn, Cond.instanceMethod yX7_weekOn, Cond.selects RX7 yX7_weekOn yX7_weekOn, Cond.code yX7_weekOn cX7_weekOn 6 (some .int), Cond.methodLink RX7 143 yX7_eggOn, Cond.instanceMethod yX7_eggOn, Cond.selects RX7 yX7_eggOn yX7_eggOn, Cond.code yX7_eggOn cX7_eggOn 5 (some .int), Cond.methodLink RX7 136 yX7_shareOn, Cond.instanceMethod yX7_shareOn, Cond.selects RX7 yX7_shareOn yX7_shareOn, Cond.code yX7_shareOn cX7_shareOn 4 (some .int), Cond.methodLink RX7 139 yX7_feathersOn, Cond.instanceMethod yX7_feathersOn, Cond.selects RX7 yX7_feathersOn yX7_feathersOn, Cond.code yX7_feathersOn cX7_feathersOn 5 (some .int), Cond.methodLink RX7 152 yX7_moultsOn, Cond.instanceMethod yX7_moultsOn, Cond.selects RX7 yX7_moultsOn yX7_moultsOn, Cond.code yX7_moultsOn cX7_moultsOn 6 none, Cond.methodLink RX7 149 yX7_losesOf, Cond.static yX7_losesOf, Cond.code yX7_losesOf cX7_losesOf 4 (some .int)]
def wsX7_luck_r3 : List Cond := [Cond.methodLink RX7 270 yX7_lowest, Cond.static yX7_lowest, Cond.code yX7_lowest cX7_lowest 11 (some .long)]
def wsX7_luck : List Cond := .code yX7_luck cX7_luck 6 (some .long) :: ((wsX7_luck_r1 ++ (wsX7_luck_r2 ++ wsX7_luck_r3)) ++ wsX70)
def wsX7_mean_r1 : List Cond := [Cond.constantLong RX7 255 (10), Cond.constantLong RX7 274 (8), Cond.constantLong RX7 268 (-1), Cond.methodLink RX7 46 yX7_in, Cond.static yX7_in, Cond.initialized RX7, Cond.code yX7_in cX7_in 6 (some .boolean), Cond.methodLink RX7 156 yX7_isGoose, Cond.instanceMethod yX7_isGoose, Cond.selects RX7 yX7_isGoose yX7_isGoose, Cond.code yX7_isGoose cX7_isGoose 2 (some .boolean), Cond.fieldLink RX7 128 "FeatherSharesModel" "gooseMany" "I", Cond.methodLink RX7 276 yX7_byMoults, Cond.instanceMethod yX7_byMoults, Cond.selects RX7 yX7_byMoults yX7_byMoults, Cond.code yX7_byMoults cX7_byMoults 15 (some .long), Cond.methodLink RX7 205 yX7_copies, Cond.instanceMethod yX7_copies, Cond.selects RX7 yX7_copies yX7_copies, Cond.code yX7_copies cX7_copies 4 none, Cond.fieldLink RX7 7 "FeatherSharesModel" "state" "[I", Cond.methodLink RX7 201 yX7_weekOn, Cond.instanceMethod yX7_weekOn, Cond.selects RX7 yX7_weekOn yX7_weekOn]
def wsX7_mean_r2 : List Cond := [Cond.code yX7_weekOn cX7_weekOn 6 (some .int), Cond.methodLink RX7 143 yX7_eggOn, Cond.instanceMethod yX7_eggOn, Cond.selects RX7 yX7_eggOn yX7_eggOn, Cond.code yX7_eggOn cX7_eggOn 5 (some .int), Cond.methodLink RX7 136 yX7_shareOn, Cond.instanceMethod yX7_shareOn, Cond.selects RX7 yX7_shareOn yX7_shareOn, Cond.code yX7_shareOn cX7_shareOn 4 (some .int), Cond.methodLink RX7 139 yX7_feathersOn, Cond.instanceMethod yX7_feathersOn, Cond.selects RX7 yX7_feathersOn yX7_feathersOn, Cond.code yX7_feathersOn cX7_feathersOn 5 (some .int), Cond.methodLink RX7 152 yX7_moultsOn, Cond.instanceMethod yX7_moultsOn, Cond.selects RX7 yX7_moultsOn yX7_moultsOn, Cond.code yX7_moultsOn cX7_moultsOn 6 none, Cond.methodLink RX7 149 yX7_losesOf, Cond.static yX7_losesOf, Cond.code yX7_losesOf cX7_losesOf 4 (some .int), Cond.methodLink RX7 270 yX7_lowest, Cond.static yX7_lowest, Cond.code yX7_lowest cX7_lowest 11 (some .long)]
def wsX7_mean : List Cond := .code yX7_mean cX7_mean 5 (some .long) :: ((wsX7_mean_r1 ++ wsX7_mean_r2) ++ wsX70)
def wsX7_see : List Cond := .code yX7_see cX7_see 5 (some .int) :: ([.constantLong RX7 280 (20), .constantLong RX7 182 (99), .fieldLink RX7 131 "FeatherSharesModel" "seenMany" "I", .fieldLink RX7 25 "FeatherSharesModel" "seen" "[I", .methodLink RX7 156 yX7_isGoose, .instanceMethod yX7_isGoose, .selects RX7 yX7_isGoose yX7_isGoose, .initialized RX7, .code yX7_isGoose cX7_isGoose 2 (some .boolean), .fieldLink RX7 128 "FeatherSharesModel" "gooseMany" "I", .methodLink RX7 46 yX7_in, .static yX7_in, .code yX7_in cX7_in 6 (some .boolean), .methodLink RX7 166 yX7_isOwner, .static yX7_isOwner, .code yX7_isOwner cX7_isOwner 1 (some .boolean), .constantLong RX7 134 (4)] ++ wsX70)
def wsX7_forget : List Cond := .code yX7_forget cX7_forget 3 (some .int) :: ([.fieldLink RX7 131 "FeatherSharesModel" "seenMany" "I", .methodLink RX7 46 yX7_in, .static yX7_in, .initialized RX7, .code yX7_in cX7_in 6 (some .boolean)] ++ wsX70)
def wsX7_isAsSeen_r1 : List Cond := [Cond.fieldLink RX7 28 "FeatherSharesModel" "shareBy" "[I", Cond.fieldLink RX7 131 "FeatherSharesModel" "seenMany" "I", Cond.fieldLink RX7 25 "FeatherSharesModel" "seen" "[I", Cond.methodLink RX7 205 yX7_copies, Cond.instanceMethod yX7_copies, Cond.selects RX7 yX7_copies yX7_copies, Cond.initialized RX7, Cond.code yX7_copies cX7_copies 4 none, Cond.fieldLink RX7 7 "FeatherSharesModel" "state" "[I", Cond.methodLink RX7 136 yX7_shareOn, Cond.instanceMethod yX7_shareOn, Cond.selects RX7 yX7_shareOn yX7_shareOn, Cond.code yX7_shareOn cX7_shareOn 4 (some .int), Cond.methodLink RX7 201 yX7_weekOn, Cond.instanceMethod yX7_weekOn, Cond.selects RX7 yX7_weekOn yX7_weekOn, Cond.code yX7_weekOn cX7_weekOn 6 (some .int), Cond.fieldLink RX7 128 "FeatherSharesModel" "gooseMany" "I", Cond.methodLink RX7 143 yX7_eggOn, Cond.instanceMethod yX7_eggOn, Cond.selects RX7 yX7_eggOn yX7_eggOn, Cond.code yX7_eggOn cX7_eggOn 5 (some .int), Cond.methodLink RX7 139 yX7_feathersOn, Cond.instanceMethod yX7_feathersOn]
def wsX7_isAsSeen_r2 : List Cond := [Cond.selects RX7 yX7_feathersOn yX7_feathersOn, Cond.code yX7_feathersOn cX7_feathersOn 5 (some .int), Cond.methodLink RX7 152 yX7_moultsOn, Cond.instanceMethod yX7_moultsOn, Cond.selects RX7 yX7_moultsOn yX7_moultsOn, Cond.code yX7_moultsOn cX7_moultsOn 6 none, Cond.methodLink RX7 149 yX7_losesOf, Cond.static yX7_losesOf, Cond.code yX7_losesOf cX7_losesOf 4 (some .int)]
def wsX7_isAsSeen : List Cond := .code yX7_isAsSeen cX7_isAsSeen 6 (some .boolean) :: ((wsX7_isAsSeen_r1 ++ wsX7_isAsSeen_r2) ++ wsX70)
def wsX7_kindsOf_r1 : List Cond := [Cond.fieldLink RX7 7 "FeatherSharesModel" "state" "[I", Cond.methodLink RX7 282 yX7_isAsSeen, Cond.instanceMethod yX7_isAsSeen, Cond.selects RX7 yX7_isAsSeen yX7_isAsSeen, Cond.initialized RX7, Cond.code yX7_isAsSeen cX7_isAsSeen 6 (some .boolean), Cond.fieldLink RX7 28 "FeatherSharesModel" "shareBy" "[I", Cond.fieldLink RX7 131 "FeatherSharesModel" "seenMany" "I", Cond.fieldLink RX7 25 "FeatherSharesModel" "seen" "[I", Cond.methodLink RX7 205 yX7_copies, Cond.instanceMethod yX7_copies, Cond.selects RX7 yX7_copies yX7_copies, Cond.code yX7_copies cX7_copies 4 none, Cond.methodLink RX7 136 yX7_shareOn, Cond.instanceMethod yX7_shareOn, Cond.selects RX7 yX7_shareOn yX7_shareOn, Cond.code yX7_shareOn cX7_shareOn 4 (some .int), Cond.methodLink RX7 201 yX7_weekOn, Cond.instanceMethod yX7_weekOn, Cond.selects RX7 yX7_weekOn yX7_weekOn, Cond.code yX7_weekOn cX7_weekOn 6 (some .int), Cond.fieldLink RX7 128 "FeatherSharesModel" "gooseMany" "I", Cond.methodLink RX7 143 yX7_eggOn, Cond.instanceMethod yX7_eggOn]
def wsX7_kindsOf_r2 : List Cond := [Cond.selects RX7 yX7_eggOn yX7_eggOn, Cond.code yX7_eggOn cX7_eggOn 5 (some .int), Cond.methodLink RX7 139 yX7_feathersOn, Cond.instanceMethod yX7_feathersOn, Cond.selects RX7 yX7_feathersOn yX7_feathersOn, Cond.code yX7_feathersOn cX7_feathersOn 5 (some .int), Cond.methodLink RX7 152 yX7_moultsOn, Cond.instanceMethod yX7_moultsOn, Cond.selects RX7 yX7_moultsOn yX7_moultsOn, Cond.code yX7_moultsOn cX7_moultsOn 6 none, Cond.methodLink RX7 149 yX7_losesOf, Cond.static yX7_losesOf, Cond.code yX7_losesOf cX7_losesOf 4 (some .int)]
def wsX7_kindsOf : List Cond := .code yX7_kindsOf cX7_kindsOf 5 (some .int) :: ((wsX7_kindsOf_r1 ++ wsX7_kindsOf_r2) ++ wsX70)
def wsX7_kinds_r1 : List Cond := [Cond.methodLink RX7 156 yX7_isGoose, Cond.instanceMethod yX7_isGoose, Cond.selects RX7 yX7_isGoose yX7_isGoose, Cond.initialized RX7, Cond.code yX7_isGoose cX7_isGoose 2 (some .boolean), Cond.fieldLink RX7 128 "FeatherSharesModel" "gooseMany" "I", Cond.methodLink RX7 46 yX7_in, Cond.static yX7_in, Cond.code yX7_in cX7_in 6 (some .boolean), Cond.methodLink RX7 286 yX7_kindsOf, Cond.instanceMethod yX7_kindsOf, Cond.selects RX7 yX7_kindsOf yX7_kindsOf, Cond.code yX7_kindsOf cX7_kindsOf 5 (some .int), Cond.fieldLink RX7 7 "FeatherSharesModel" "state" "[I", Cond.methodLink RX7 282 yX7_isAsSeen, Cond.instanceMethod yX7_isAsSeen, Cond.selects RX7 yX7_isAsSeen yX7_isAsSeen, Cond.code yX7_isAsSeen cX7_isAsSeen 6 (some .boolean), Cond.fieldLink RX7 28 "FeatherSharesModel" "shareBy" "[I", Cond.fieldLink RX7 131 "FeatherSharesModel" "seenMany" "I", Cond.fieldLink RX7 25 "FeatherSharesModel" "seen" "[I", Cond.methodLink RX7 205 yX7_copies, Cond.instanceMethod yX7_copies, Cond.selects RX7 yX7_copies yX7_copies]
def wsX7_kinds_r2 : List Cond := [Cond.code yX7_copies cX7_copies 4 none, Cond.methodLink RX7 136 yX7_shareOn, Cond.instanceMethod yX7_shareOn, Cond.selects RX7 yX7_shareOn yX7_shareOn, Cond.code yX7_shareOn cX7_shareOn 4 (some .int), Cond.methodLink RX7 201 yX7_weekOn, Cond.instanceMethod yX7_weekOn, Cond.selects RX7 yX7_weekOn yX7_weekOn, Cond.code yX7_weekOn cX7_weekOn 6 (some .int), Cond.methodLink RX7 143 yX7_eggOn, Cond.instanceMethod yX7_eggOn, Cond.selects RX7 yX7_eggOn yX7_eggOn, Cond.code yX7_eggOn cX7_eggOn 5 (some .int), Cond.methodLink RX7 139 yX7_feathersOn, Cond.instanceMethod yX7_feathersOn, Cond.selects RX7 yX7_feathersOn yX7_feathersOn, Cond.code yX7_feathersOn cX7_feathersOn 5 (some .int), Cond.methodLink RX7 152 yX7_moultsOn, Cond.instanceMethod yX7_moultsOn, Cond.selects RX7 yX7_moultsOn yX7_moultsOn, Cond.code yX7_moultsOn cX7_moultsOn 6 none, Cond.methodLink RX7 149 yX7_losesOf, Cond.static yX7_losesOf, Cond.code yX7_losesOf cX7_losesOf 4 (some .int)]
def wsX7_kinds : List Cond := .code yX7_kinds cX7_kinds 2 (some .int) :: ((wsX7_kinds_r1 ++ wsX7_kinds_r2) ++ wsX70)
def wsX7_skins_r1 : List Cond := [Cond.fieldLink RX7 7 "FeatherSharesModel" "state" "[I", Cond.methodLink RX7 156 yX7_isGoose, Cond.instanceMethod yX7_isGoose, Cond.selects RX7 yX7_isGoose yX7_isGoose, Cond.initialized RX7, Cond.code yX7_isGoose cX7_isGoose 2 (some .boolean), Cond.fieldLink RX7 128 "FeatherSharesModel" "gooseMany" "I", Cond.methodLink RX7 46 yX7_in, Cond.static yX7_in, Cond.code yX7_in cX7_in 6 (some .boolean), Cond.methodLink RX7 282 yX7_isAsSeen, Cond.instanceMethod yX7_isAsSeen, Cond.selects RX7 yX7_isAsSeen yX7_isAsSeen, Cond.code yX7_isAsSeen cX7_isAsSeen 6 (some .boolean), Cond.fieldLink RX7 28 "FeatherSharesModel" "shareBy" "[I", Cond.fieldLink RX7 131 "FeatherSharesModel" "seenMany" "I", Cond.fieldLink RX7 25 "FeatherSharesModel" "seen" "[I", Cond.methodLink RX7 205 yX7_copies, Cond.instanceMethod yX7_copies, Cond.selects RX7 yX7_copies yX7_copies, Cond.code yX7_copies cX7_copies 4 none, Cond.methodLink RX7 136 yX7_shareOn, Cond.instanceMethod yX7_shareOn, Cond.selects RX7 yX7_shareOn yX7_shareOn]
def wsX7_skins_r2 : List Cond := [Cond.code yX7_shareOn cX7_shareOn 4 (some .int), Cond.methodLink RX7 201 yX7_weekOn, Cond.instanceMethod yX7_weekOn, Cond.selects RX7 yX7_weekOn yX7_weekOn, Cond.code yX7_weekOn cX7_weekOn 6 (some .int), Cond.methodLink RX7 143 yX7_eggOn, Cond.instanceMethod yX7_eggOn, Cond.selects RX7 yX7_eggOn yX7_eggOn, Cond.code yX7_eggOn cX7_eggOn 5 (some .int), Cond.methodLink RX7 139 yX7_feathersOn, Cond.instanceMethod yX7_feathersOn, Cond.selects RX7 yX7_feathersOn yX7_feathersOn, Cond.code yX7_feathersOn cX7_feathersOn 5 (some .int), Cond.methodLink RX7 152 yX7_moultsOn, Cond.instanceMethod yX7_moultsOn, Cond.selects RX7 yX7_moultsOn yX7_moultsOn, Cond.code yX7_moultsOn cX7_moultsOn 6 none, Cond.methodLink RX7 149 yX7_losesOf, Cond.static yX7_losesOf, Cond.code yX7_losesOf cX7_losesOf 4 (some .int)]
def wsX7_skins : List Cond := .code yX7_skins cX7_skins 5 (some .int) :: ((wsX7_skins_r1 ++ wsX7_skins_r2) ++ wsX70)
def wsX7_look_r1 : List Cond := [Cond.fieldLink RX7 28 "FeatherSharesModel" "shareBy" "[I", Cond.methodLink RX7 156 yX7_isGoose, Cond.instanceMethod yX7_isGoose, Cond.selects RX7 yX7_isGoose yX7_isGoose, Cond.initialized RX7, Cond.code yX7_isGoose cX7_isGoose 2 (some .boolean), Cond.fieldLink RX7 128 "FeatherSharesModel" "gooseMany" "I", Cond.methodLink RX7 46 yX7_in, Cond.static yX7_in, Cond.code yX7_in cX7_in 6 (some .boolean), Cond.methodLink RX7 286 yX7_kindsOf, Cond.instanceMethod yX7_kindsOf, Cond.selects RX7 yX7_kindsOf yX7_kindsOf, Cond.code yX7_kindsOf cX7_kindsOf 5 (some .int), Cond.fieldLink RX7 7 "FeatherSharesModel" "state" "[I", Cond.methodLink RX7 282 yX7_isAsSeen, Cond.instanceMethod yX7_isAsSeen, Cond.selects RX7 yX7_isAsSeen yX7_isAsSeen, Cond.code yX7_isAsSeen cX7_isAsSeen 6 (some .boolean), Cond.fieldLink RX7 131 "FeatherSharesModel" "seenMany" "I", Cond.fieldLink RX7 25 "FeatherSharesModel" "seen" "[I", Cond.methodLink RX7 205 yX7_copies, Cond.instanceMethod yX7_copies, Cond.selects RX7 yX7_copies yX7_copies]
def wsX7_look_r2 : List Cond := [Cond.code yX7_copies cX7_copies 4 none, Cond.methodLink RX7 136 yX7_shareOn, Cond.instanceMethod yX7_shareOn, Cond.selects RX7 yX7_shareOn yX7_shareOn, Cond.code yX7_shareOn cX7_shareOn 4 (some .int), Cond.methodLink RX7 201 yX7_weekOn, Cond.instanceMethod yX7_weekOn, Cond.selects RX7 yX7_weekOn yX7_weekOn, Cond.code yX7_weekOn cX7_weekOn 6 (some .int), Cond.methodLink RX7 143 yX7_eggOn, Cond.instanceMethod yX7_eggOn, Cond.selects RX7 yX7_eggOn yX7_eggOn, Cond.code yX7_eggOn cX7_eggOn 5 (some .int), Cond.methodLink RX7 139 yX7_feathersOn, Cond.instanceMethod yX7_feathersOn, Cond.selects RX7 yX7_feathersOn yX7_feathersOn, Cond.code yX7_feathersOn cX7_feathersOn 5 (some .int), Cond.methodLink RX7 152 yX7_moultsOn, Cond.instanceMethod yX7_moultsOn, Cond.selects RX7 yX7_moultsOn yX7_moultsOn, Cond.code yX7_moultsOn cX7_moultsOn 6 none, Cond.methodLink RX7 149 yX7_losesOf, Cond.static yX7_losesOf, Cond.code yX7_losesOf cX7_losesOf 4 (some .int)]
def wsX7_look_r3 : List Cond := [Cond.methodLink RX7 229 yX7_bitsOf, Cond.static yX7_bitsOf, Cond.code yX7_bitsOf cX7_bitsOf 3 (some .int)]
def wsX7_look : List Cond := .code yX7_look cX7_look 11 (some .int) :: ((wsX7_look_r1 ++ (wsX7_look_r2 ++ wsX7_look_r3)) ++ wsX70)
def wsX7_drift_r1 : List Cond := [Cond.constantLong RX7 222 (60), Cond.fieldLink RX7 128 "FeatherSharesModel" "gooseMany" "I", Cond.constant RX7 289 (1103515245), Cond.methodLink RX7 46 yX7_in, Cond.static yX7_in, Cond.initialized RX7, Cond.code yX7_in cX7_in 6 (some .boolean), Cond.methodLink RX7 205 yX7_copies, Cond.instanceMethod yX7_copies, Cond.selects RX7 yX7_copies yX7_copies, Cond.code yX7_copies cX7_copies 4 none, Cond.fieldLink RX7 7 "FeatherSharesModel" "state" "[I", Cond.methodLink RX7 192 yX7_buysOn, Cond.instanceMethod yX7_buysOn, Cond.selects RX7 yX7_buysOn yX7_buysOn, Cond.code yX7_buysOn cX7_buysOn 8 (some .boolean), Cond.methodLink RX7 146 yX7_moneyOn, Cond.instanceMethod yX7_moneyOn, Cond.selects RX7 yX7_moneyOn yX7_moneyOn, Cond.code yX7_moneyOn cX7_moneyOn 3 (some .int), Cond.methodLink RX7 188 yX7_plucksOn, Cond.instanceMethod yX7_plucksOn, Cond.selects RX7 yX7_plucksOn yX7_plucksOn, Cond.code yX7_plucksOn cX7_plucksOn 7 (some .boolean)]
def wsX7_drift_r2 : List Cond := [Cond.methodLink RX7 136 yX7_shareOn, Cond.instanceMethod yX7_shareOn, Cond.selects RX7 yX7_shareOn yX7_shareOn, Cond.code yX7_shareOn cX7_shareOn 4 (some .int), Cond.methodLink RX7 201 yX7_weekOn, Cond.instanceMethod yX7_weekOn, Cond.selects RX7 yX7_weekOn yX7_weekOn, Cond.code yX7_weekOn cX7_weekOn 6 (some .int), Cond.methodLink RX7 143 yX7_eggOn, Cond.instanceMethod yX7_eggOn, Cond.selects RX7 yX7_eggOn yX7_eggOn, Cond.code yX7_eggOn cX7_eggOn 5 (some .int), Cond.methodLink RX7 139 yX7_feathersOn, Cond.instanceMethod yX7_feathersOn, Cond.selects RX7 yX7_feathersOn yX7_feathersOn, Cond.code yX7_feathersOn cX7_feathersOn 5 (some .int), Cond.methodLink RX7 152 yX7_moultsOn, Cond.instanceMethod yX7_moultsOn, Cond.selects RX7 yX7_moultsOn yX7_moultsOn, Cond.code yX7_moultsOn cX7_moultsOn 6 none, Cond.methodLink RX7 149 yX7_losesOf, Cond.static yX7_losesOf, Cond.code yX7_losesOf cX7_losesOf 4 (some .int)]
def wsX7_drift : List Cond := .code yX7_drift cX7_drift 11 (some .int) :: ((wsX7_drift_r1 ++ wsX7_drift_r2) ++ wsX70)
def wsX7_keep : List Cond := .code yX7_keep cX7_keep 3 (some .int) :: ([.fieldLink RX7 31 "FeatherSharesModel" "isKept" "[Z", .methodLink RX7 46 yX7_in, .static yX7_in, .initialized RX7, .code yX7_in cX7_in 6 (some .boolean), .methodLink RX7 205 yX7_copies, .instanceMethod yX7_copies, .selects RX7 yX7_copies yX7_copies, .code yX7_copies cX7_copies 4 none, .fieldLink RX7 7 "FeatherSharesModel" "state" "[I"] ++ wsX70)
def wsX7_back : List Cond := .code yX7_back cX7_back 2 (some .int) :: ([.fieldLink RX7 31 "FeatherSharesModel" "isKept" "[Z", .fieldLink RX7 7 "FeatherSharesModel" "state" "[I", .methodLink RX7 46 yX7_in, .static yX7_in, .initialized RX7, .code yX7_in cX7_in 6 (some .boolean), .methodLink RX7 205 yX7_copies, .instanceMethod yX7_copies, .selects RX7 yX7_copies yX7_copies, .code yX7_copies cX7_copies 4 none] ++ wsX70)
def wsX7_sheet : List Cond := .code yX7_sheet cX7_sheet 5 (some .int) :: ([.constantLong RX7 169 (3), .constantLong RX7 217 (2), .fieldLink RX7 35 "FeatherSharesModel" "lanes" "[I", .fieldLink RX7 38 "FeatherSharesModel" "lengths" "[I", .fieldLink RX7 41 "FeatherSharesModel" "cells" "[I", .methodLink RX7 46 yX7_in, .static yX7_in, .initialized RX7, .code yX7_in cX7_in 6 (some .boolean)] ++ wsX70)
def wsX7_lay : List Cond := .code yX7_lay cX7_lay 4 (some .int) :: ([.constantLong RX7 169 (3), .fieldLink RX7 35 "FeatherSharesModel" "lanes" "[I", .fieldLink RX7 38 "FeatherSharesModel" "lengths" "[I", .fieldLink RX7 41 "FeatherSharesModel" "cells" "[I", .methodLink RX7 46 yX7_in, .static yX7_in, .initialized RX7, .code yX7_in cX7_in 6 (some .boolean)] ++ wsX70)
def wsX7_read_r1 : List Cond := [Cond.constantLong RX7 169 (3), Cond.constantLong RX7 217 (2), Cond.constantLong RX7 255 (10), Cond.fieldLink RX7 35 "FeatherSharesModel" "lanes" "[I", Cond.fieldLink RX7 38 "FeatherSharesModel" "lengths" "[I", Cond.fieldLink RX7 41 "FeatherSharesModel" "cells" "[I", Cond.fieldLink RX7 290 "FeatherSharesModel" "torn" "I", Cond.methodLink RX7 46 yX7_in, Cond.static yX7_in, Cond.initialized RX7, Cond.code yX7_in cX7_in 6 (some .boolean), Cond.methodLink RX7 205 yX7_copies, Cond.instanceMethod yX7_copies, Cond.selects RX7 yX7_copies yX7_copies, Cond.code yX7_copies cX7_copies 4 none, Cond.fieldLink RX7 7 "FeatherSharesModel" "state" "[I", Cond.methodLink RX7 195 yX7_buys, Cond.instanceMethod yX7_buys, Cond.selects RX7 yX7_buys yX7_buys, Cond.code yX7_buys cX7_buys 5 (some .int), Cond.methodLink RX7 184 yX7_isTrade, Cond.instanceMethod yX7_isTrade, Cond.selects RX7 yX7_isTrade yX7_isTrade, Cond.code yX7_isTrade cX7_isTrade 5 (some .boolean)]
def wsX7_read_r2 : List Cond := [Cond.constantLong RX7 174 (9), Cond.methodLink RX7 166 yX7_isOwner, Cond.static yX7_isOwner, Cond.code yX7_isOwner cX7_isOwner 1 (some .boolean), Cond.constantLong RX7 134 (4), Cond.methodLink RX7 156 yX7_isGoose, Cond.instanceMethod yX7_isGoose, Cond.selects RX7 yX7_isGoose yX7_isGoose, Cond.code yX7_isGoose cX7_isGoose 2 (some .boolean), Cond.fieldLink RX7 128 "FeatherSharesModel" "gooseMany" "I", Cond.methodLink RX7 192 yX7_buysOn, Cond.instanceMethod yX7_buysOn, Cond.selects RX7 yX7_buysOn yX7_buysOn, Cond.code yX7_buysOn cX7_buysOn 8 (some .boolean), Cond.methodLink RX7 146 yX7_moneyOn, Cond.instanceMethod yX7_moneyOn, Cond.selects RX7 yX7_moneyOn yX7_moneyOn, Cond.code yX7_moneyOn cX7_moneyOn 3 (some .int), Cond.methodLink RX7 188 yX7_plucksOn, Cond.instanceMethod yX7_plucksOn, Cond.selects RX7 yX7_plucksOn yX7_plucksOn, Cond.code yX7_plucksOn cX7_plucksOn 7 (some .boolean), Cond.methodLink RX7 136 yX7_shareOn, Cond.instanceMethod yX7_shareOn]
def wsX7_read_r3 : List Cond := [Cond.selects RX7 yX7_shareOn yX7_shareOn, Cond.code yX7_shareOn cX7_shareOn 4 (some .int)]
def wsX7_read : List Cond := .code yX7_read cX7_read 9 (some .int) :: ((wsX7_read_r1 ++ (wsX7_read_r2 ++ wsX7_read_r3)) ++ wsX70)
def wsX7_torn : List Cond := .code yX7_torn cX7_torn 1 (some .int) :: ([.fieldLink RX7 290 "FeatherSharesModel" "torn" "I"] ++ wsX70)
def wsX7_count : List Cond := .code yX7_count cX7_count 5 (some .int) :: ([.fieldLink RX7 128 "FeatherSharesModel" "gooseMany" "I", .fieldLink RX7 7 "FeatherSharesModel" "state" "[I", .fieldLink RX7 131 "FeatherSharesModel" "seenMany" "I", .fieldLink RX7 31 "FeatherSharesModel" "isKept" "[Z", .fieldLink RX7 50 "FeatherSharesModel" "taped" "I", .fieldLink RX7 35 "FeatherSharesModel" "lanes" "[I", .fieldLink RX7 38 "FeatherSharesModel" "lengths" "[I", .methodLink RX7 139 yX7_feathersOn, .instanceMethod yX7_feathersOn, .selects RX7 yX7_feathersOn yX7_feathersOn, .initialized RX7, .code yX7_feathersOn cX7_feathersOn 5 (some .int), .methodLink RX7 136 yX7_shareOn, .instanceMethod yX7_shareOn, .selects RX7 yX7_shareOn yX7_shareOn, .code yX7_shareOn cX7_shareOn 4 (some .int)] ++ wsX70)
def wsJ9_max_7cf53 : List Cond := .code yJ9_max_7cf53 cJ9_max_7cf53 2 (some .int) :: ([])
def wsJ9_max_f86c9 : List Cond := .code yJ9_max_f86c9 cJ9_max_f86c9 4 (some .long) :: ([])
def wsJ9_min_7cf53 : List Cond := .code yJ9_min_7cf53 cJ9_min_7cf53 2 (some .int) :: ([])
def wsL_law_r1 : List Cond := [Cond.classLink RL 7 RX6, Cond.instantiable RX6 11, Cond.initialized RX6, Cond.classLink RL 10 RX7, Cond.instantiable RX7 34, Cond.initialized RX7, Cond.methodLink RL 9 yX6_init, Cond.instanceMethod yX6_init, Cond.code yX6_init cX6_init 2 none, Cond.methodLink RX6 3 objectInit, Cond.instanceMethod objectInit, Cond.code objectInit ⟨#[0xb1]⟩ 1 none, Cond.classLink RX6 9 RX0, Cond.instantiable RX0 13, Cond.initialized RX0, Cond.fieldLink RX6 12 "FeatherShares" "now" "LFeatherShares$Flock;", Cond.fieldLink RX6 16 "FeatherShares" "trial" "LFeatherShares$Flock;", Cond.fieldLink RX6 19 "FeatherShares" "images" "[LFeatherShares$Flock;", Cond.fieldLink RX6 23 "FeatherShares" "keptImages" "I", Cond.classLink RX6 27 RX4, Cond.instantiable RX4 6, Cond.initialized RX4, Cond.fieldLink RX6 30 "FeatherShares" "tape" "LFeatherShares$Tape;", Cond.classLink RX6 34 RX5]
def wsL_law_r2 : List Cond := [Cond.instantiable RX5 7, Cond.initialized RX5, Cond.fieldLink RX6 37 "FeatherShares" "reader" "LFeatherShares$TextReader;", Cond.classLink RX6 41 RX3, Cond.instantiable RX3 5, Cond.initialized RX3, Cond.fieldLink RX6 44 "FeatherShares" "sightings" "LFeatherShares$Sightings;", Cond.arrayClass .int, Cond.fieldLink RX6 48 "FeatherShares" "laterByKind" "[I", Cond.classLink RX6 52 RX1, Cond.instantiable RX1 9, Cond.initialized RX1, Cond.fieldLink RX6 55 "FeatherShares" "rowSearch" "LFeatherShares$RowSearch;", Cond.classLink RX6 59 RX2, Cond.fieldLink RX6 61 "FeatherShares" "sheets" "[LFeatherShares$Sheet;", Cond.fieldLink RX6 65 "FeatherShares" "faultOfRead" "I", Cond.instantiable RX2 4, Cond.initialized RX2, Cond.instanceMethod yX0_init, Cond.code yX0_init cX0_init 1 none, Cond.methodLink RX0 3 objectInit, Cond.fieldLink RX0 9 "FeatherShares$Flock" "geese" "I", Cond.fieldLink RX0 15 "FeatherShares$Flock" "week" "I", Cond.fieldLink RX0 18 "FeatherShares$Flock" "trades" "I"]
def wsL_law_r3 : List Cond := [Cond.fieldLink RX0 21 "FeatherShares$Flock" "kind" "[I", Cond.fieldLink RX0 25 "FeatherShares$Flock" "skin" "[I", Cond.fieldLink RX0 28 "FeatherShares$Flock" "price" "[I", Cond.fieldLink RX0 31 "FeatherShares$Flock" "feathers" "[I", Cond.fieldLink RX0 34 "FeatherShares$Flock" "money" "[I", Cond.fieldLink RX0 37 "FeatherShares$Flock" "eggsHad" "[I", Cond.fieldLink RX0 40 "FeatherShares$Flock" "planBuyer" "[I", Cond.fieldLink RX0 43 "FeatherShares$Flock" "planSeller" "[I", Cond.fieldLink RX0 46 "FeatherShares$Flock" "planGoose" "[I", Cond.fieldLink RX0 49 "FeatherShares$Flock" "planAmount" "[I", Cond.methodLink RX0 52 yJ7_fill_53178, Cond.static yJ7_fill_53178, Cond.initialized RJ7, Cond.code yJ7_fill_53178 cJ7_fill_53178 4 none, Cond.instanceMethod yX4_init, Cond.code yX4_init cX4_init 1 none, Cond.methodLink RX4 3 objectInit, Cond.fieldLink RX4 9 "FeatherShares$Tape" "bytes" "[I", Cond.fieldLink RX4 15 "FeatherShares$Tape" "length" "I", Cond.fieldLink RX4 19 "FeatherShares$Tape" "place" "I", Cond.fieldLink RX4 22 "FeatherShares$Tape" "tokenStart" "I", Cond.fieldLink RX4 25 "FeatherShares$Tape" "token" "I", Cond.fieldLink RX4 28 "FeatherShares$Tape" "value" "I", Cond.instanceMethod yX5_init]
def wsL_law_r4 : List Cond := [Cond.code yX5_init cX5_init 1 none, Cond.methodLink RX5 3 objectInit, Cond.classLink RX5 9 RX0, Cond.fieldLink RX5 12 "FeatherShares$TextReader" "draft" "LFeatherShares$Flock;", Cond.fieldLink RX5 18 "FeatherShares$TextReader" "lines" "I", Cond.fieldLink RX5 22 "FeatherShares$TextReader" "faultFound" "I", Cond.fieldLink RX5 25 "FeatherShares$TextReader" "faultPlace" "I", Cond.fieldLink RX5 28 "FeatherShares$TextReader" "toldShares" "I", Cond.fieldLink RX5 31 "FeatherShares$TextReader" "toldMoney" "I", Cond.fieldLink RX5 34 "FeatherShares$TextReader" "namedGeese" "I", Cond.instanceMethod yX3_init, Cond.code yX3_init cX3_init 1 none, Cond.methodLink RX3 3 objectInit, Cond.fieldLink RX3 9 "FeatherShares$Sightings" "size" "I", Cond.fieldLink RX3 15 "FeatherShares$Sightings" "ofGoose" "[I", Cond.fieldLink RX3 19 "FeatherShares$Sightings" "ofOwner" "[I", Cond.fieldLink RX3 22 "FeatherShares$Sightings" "behindWeeks" "[I", Cond.fieldLink RX3 25 "FeatherShares$Sightings" "feathersSeen" "[I", Cond.instanceMethod yX1_init, Cond.code yX1_init cX1_init 1 none, Cond.methodLink RX1 3 objectInit, Cond.classLink RX1 9 RX0, Cond.fieldLink RX1 12 "FeatherShares$RowSearch" "flock" "LFeatherShares$Flock;", Cond.fieldLink RX1 18 "FeatherShares$RowSearch" "codes" "[I"]
def wsL_law_r5 : List Cond := [Cond.fieldLink RX1 22 "FeatherShares$RowSearch" "codeCount" "I", Cond.fieldLink RX1 26 "FeatherShares$RowSearch" "buyer" "I", Cond.fieldLink RX1 29 "FeatherShares$RowSearch" "bestGeese" "I", Cond.fieldLink RX1 32 "FeatherShares$RowSearch" "bestMoney" "I", Cond.fieldLink RX1 35 "FeatherShares$RowSearch" "bestLength" "I", Cond.fieldLink RX1 38 "FeatherShares$RowSearch" "bestFirst" "I", Cond.fieldLink RX1 41 "FeatherShares$RowSearch" "bestSecond" "I", Cond.instanceMethod yX2_init, Cond.code yX2_init cX2_init 1 none, Cond.methodLink RX2 3 objectInit, Cond.fieldLink RX2 9 "FeatherShares$Sheet" "cells" "[I", Cond.fieldLink RX2 15 "FeatherShares$Sheet" "isNothing" "Z", Cond.fieldLink RX2 19 "FeatherShares$Sheet" "lane" "I", Cond.fieldLink RX2 23 "FeatherShares$Sheet" "size" "I", Cond.methodLink RL 12 yX7_init, Cond.instanceMethod yX7_init, Cond.code yX7_init cX7_init 1 none, Cond.methodLink RX7 1 objectInit, Cond.fieldLink RX7 7 "FeatherSharesModel" "state" "[I", Cond.fieldLink RX7 13 "FeatherSharesModel" "readPage" "[I", Cond.fieldLink RX7 16 "FeatherSharesModel" "tape" "[I", Cond.fieldLink RX7 19 "FeatherSharesModel" "cuts" "[I", Cond.fieldLink RX7 22 "FeatherSharesModel" "letters" "[I", Cond.fieldLink RX7 25 "FeatherSharesModel" "seen" "[I"]
def wsL_law_r6 : List Cond := [Cond.fieldLink RX7 28 "FeatherSharesModel" "shareBy" "[I", Cond.arrayClass .boolean, Cond.fieldLink RX7 31 "FeatherSharesModel" "isKept" "[Z", Cond.fieldLink RX7 35 "FeatherSharesModel" "lanes" "[I", Cond.fieldLink RX7 38 "FeatherSharesModel" "lengths" "[I", Cond.fieldLink RX7 41 "FeatherSharesModel" "cells" "[I", Cond.methodLink RL 13 yX6_feed, Cond.instanceMethod yX6_feed, Cond.selects RX6 yX6_feed yX6_feed, Cond.code yX6_feed cX6_feed 2 (some .int), Cond.methodLink RX6 69 yX6_isWithin, Cond.static yX6_isWithin, Cond.code yX6_isWithin cX6_isWithin 3 (some .boolean), Cond.instanceMethod yX4_append, Cond.selects RX4 yX4_append yX4_append, Cond.code yX4_append cX4_append 2 (some .boolean), Cond.methodLink RL 17 yX7_feed, Cond.instanceMethod yX7_feed, Cond.selects RX7 yX7_feed yX7_feed, Cond.code yX7_feed cX7_feed 2 (some .int), Cond.constantLong RX7 44 (127), Cond.fieldLink RX7 50 "FeatherSharesModel" "taped" "I", Cond.methodLink RX7 46 yX7_in, Cond.static yX7_in]
def wsL_law_r7 : List Cond := [Cond.code yX7_in cX7_in 6 (some .boolean), Cond.methodLink RL 18 yX6_end, Cond.instanceMethod yX6_end, Cond.selects RX6 yX6_end yX6_end, Cond.code yX6_end cX6_end 3 (some .int), Cond.methodLink RL 21 yX7_end, Cond.instanceMethod yX7_end, Cond.selects RX7 yX7_end yX7_end, Cond.code yX7_end cX7_end 3 (some .int), Cond.methodLink RL 22 yX6_text, Cond.instanceMethod yX6_text, Cond.selects RX6 yX6_text yX6_text, Cond.code yX6_text cX6_text 1 (some .int), Cond.instanceMethod yX5_readAll, Cond.selects RX5 yX5_readAll yX5_readAll, Cond.code yX5_readAll cX5_readAll 2 none, Cond.instanceMethod yX0_clear, Cond.selects RX0 yX0_clear yX0_clear, Cond.code yX0_clear cX0_clear 1 none, Cond.instanceMethod yX4_rewind, Cond.selects RX4 yX4_rewind yX4_rewind, Cond.code yX4_rewind cX4_rewind 1 none, Cond.methodLink RX5 45 yX5_readLine, Cond.instanceMethod yX5_readLine]
def wsL_law_r8 : List Cond := [Cond.selects RX5 yX5_readLine yX5_readLine, Cond.code yX5_readLine cX5_readLine 2 (some .boolean), Cond.instanceMethod yX4_nextToken, Cond.selects RX4 yX4_nextToken yX4_nextToken, Cond.code yX4_nextToken cX4_nextToken 1 none, Cond.methodLink RX4 31 yX4_isLetter, Cond.static yX4_isLetter, Cond.code yX4_isLetter cX4_isLetter 1 (some .boolean), Cond.methodLink RX4 35 yX4_takeName, Cond.instanceMethod yX4_takeName, Cond.selects RX4 yX4_takeName yX4_takeName, Cond.code yX4_takeName cX4_takeName 1 none, Cond.methodLink RX4 38 yX4_isFigure, Cond.static yX4_isFigure, Cond.code yX4_isFigure cX4_isFigure 1 (some .boolean), Cond.methodLink RX4 41 yX4_takeNumber, Cond.instanceMethod yX4_takeNumber, Cond.selects RX4 yX4_takeNumber yX4_takeNumber, Cond.code yX4_takeNumber cX4_takeNumber 1 none, Cond.methodLink RX5 55 yX5_refuse, Cond.instanceMethod yX5_refuse, Cond.selects RX5 yX5_refuse yX5_refuse, Cond.code yX5_refuse cX5_refuse 3 none, Cond.methodLink RX5 68 yX5_lineNamed]
def wsL_law_r9 : List Cond := [Cond.static yX5_lineNamed, Cond.code yX5_lineNamed cX5_lineNamed 1 (some .int), Cond.instanceMethod yX4_spells, Cond.selects RX4 yX4_spells yX4_spells, Cond.code yX4_spells cX4_spells 3 (some .boolean), Cond.methodLink RX4 44 yJ0_length_8abf5, Cond.instanceMethod yJ0_length_8abf5, Cond.selects RJ0 yJ0_length_8abf5 yJ0_length_8abf5, Cond.initialized RJ0, Cond.code yJ0_length_8abf5 cJ0_length_8abf5 1 (some .int), Cond.fieldLink RJ0 9 "java/lang/String" "value" "[B", Cond.methodLink RJ0 335 yJ0_coder_7d493, Cond.instanceMethod yJ0_coder_7d493, Cond.selects RJ0 yJ0_coder_7d493 yJ0_coder_7d493, Cond.code yJ0_coder_7d493 cJ0_coder_7d493 1 (some .byte), Cond.fieldLink RJ0 38 "java/lang/String" "COMPACT_STRINGS" "Z", Cond.fieldLink RJ0 15 "java/lang/String" "coder" "B", Cond.methodLink RX4 49 yJ0_charAt_5068e, Cond.instanceMethod yJ0_charAt_5068e, Cond.selects RJ0 yJ0_charAt_5068e yJ0_charAt_5068e, Cond.code yJ0_charAt_5068e cJ0_charAt_5068e 2 (some .char), Cond.methodLink RJ0 492 yJ0_isLatin1_aae02, Cond.instanceMethod yJ0_isLatin1_aae02, Cond.selects RJ0 yJ0_isLatin1_aae02 yJ0_isLatin1_aae02]
def wsL_law_r10 : List Cond := [Cond.code yJ0_isLatin1_aae02 cJ0_isLatin1_aae02 1 (some .boolean), Cond.methodLink RJ0 495 yJ1_charAt_3b067, Cond.static yJ1_charAt_3b067, Cond.initialized RJ1, Cond.code yJ1_charAt_3b067 cJ1_charAt_3b067 2 (some .char), Cond.methodLink RJ1 9 yJ0_checkIndex_df160, Cond.static yJ0_checkIndex_df160, Cond.code yJ0_checkIndex_df160 cJ0_checkIndex_df160 2 none, Cond.fieldLink RJ0 1053 "jdk/internal/util/Preconditions" "SIOOBE_FORMATTER" "Ljava/util/function/BiFunction;", Cond.methodLink RJ0 1059 yJ3_checkIndex_8e157, Cond.static yJ3_checkIndex_8e157, Cond.initialized RJ3, Cond.code yJ3_checkIndex_8e157 cJ3_checkIndex_8e157 3 (some .int), Cond.methodLink RJ0 498 yJ2_charAt_3b067, Cond.static yJ2_charAt_3b067, Cond.initialized RJ2, Cond.code yJ2_charAt_3b067 cJ2_charAt_3b067 2 (some .char), Cond.methodLink RJ2 67 yJ2_checkIndex_2214a, Cond.static yJ2_checkIndex_2214a, Cond.code yJ2_checkIndex_2214a cJ2_checkIndex_2214a 2 none, Cond.methodLink RJ2 48 yJ2_length_9d52b, Cond.static yJ2_length_9d52b, Cond.code yJ2_length_9d52b cJ2_length_9d52b 1 (some .int), Cond.methodLink RJ2 414 yJ0_checkIndex_df160]
def wsL_law_r11 : List Cond := [Cond.methodLink RJ2 71 yJ2_getChar_3b067, Cond.static yJ2_getChar_3b067, Cond.code yJ2_getChar_3b067 cJ2_getChar_3b067 2 (some .char), Cond.fieldLink RJ2 44 "java/lang/StringUTF16" "$assertionsDisabled" "Z", Cond.fieldLink RJ2 59 "java/lang/StringUTF16" "HI_BYTE_SHIFT" "I", Cond.fieldLink RJ2 63 "java/lang/StringUTF16" "LO_BYTE_SHIFT" "I", Cond.methodLink RX5 72 yX5_readGoose, Cond.instanceMethod yX5_readGoose, Cond.selects RX5 yX5_readGoose yX5_readGoose, Cond.code yX5_readGoose cX5_readGoose 5 none, Cond.methodLink RX5 104 yX5_nextNumber, Cond.instanceMethod yX5_nextNumber, Cond.selects RX5 yX5_nextNumber yX5_nextNumber, Cond.code yX5_nextNumber cX5_nextNumber 4 (some .int), Cond.methodLink RX5 128 yX5_refuseOther, Cond.instanceMethod yX5_refuseOther, Cond.selects RX5 yX5_refuseOther yX5_refuseOther, Cond.code yX5_refuseOther cX5_refuseOther 3 none, Cond.methodLink RX5 108 yX5_isLineEnded, Cond.instanceMethod yX5_isLineEnded, Cond.selects RX5 yX5_isLineEnded yX5_isLineEnded, Cond.code yX5_isLineEnded cX5_isLineEnded 2 (some .boolean), Cond.instanceMethod yX0_addGoose, Cond.selects RX0 yX0_addGoose yX0_addGoose]
def wsL_law_r12 : List Cond := [Cond.code yX0_addGoose cX0_addGoose 4 none, Cond.methodLink RX5 76 yX5_readShare, Cond.instanceMethod yX5_readShare, Cond.selects RX5 yX5_readShare yX5_readShare, Cond.code yX5_readShare cX5_readShare 6 none, Cond.methodLink RX5 80 yX5_readMoney, Cond.instanceMethod yX5_readMoney, Cond.selects RX5 yX5_readMoney yX5_readMoney, Cond.code yX5_readMoney cX5_readMoney 4 none, Cond.methodLink RX5 83 yX5_readTrade, Cond.instanceMethod yX5_readTrade, Cond.selects RX5 yX5_readTrade yX5_readTrade, Cond.code yX5_readTrade cX5_readTrade 6 none, Cond.instanceMethod yX0_addToPlan, Cond.selects RX0 yX0_addToPlan yX0_addToPlan, Cond.code yX0_addToPlan cX0_addToPlan 5 (some .boolean), Cond.instanceMethod yX0_copyFrom, Cond.selects RX0 yX0_copyFrom yX0_copyFrom, Cond.code yX0_copyFrom cX0_copyFrom 2 none, Cond.methodLink RX0 58 arraycopyName, Cond.native arraycopyName, Cond.static arraycopyName, Cond.initialized "java/lang/System", Cond.methodLink RL 26 yX7_text]
def wsL_law_r13 : List Cond := [Cond.instanceMethod yX7_text, Cond.selects RX7 yX7_text yX7_text, Cond.code yX7_text cX7_text 3 (some .int), Cond.fieldLink RX7 54 "FeatherSharesModel" "broken" "I", Cond.fieldLink RX7 66 "FeatherSharesModel" "spot" "I", Cond.fieldLink RX7 102 "FeatherSharesModel" "readGeese" "I", Cond.fieldLink RX7 105 "FeatherSharesModel" "sharesTold" "I", Cond.fieldLink RX7 108 "FeatherSharesModel" "moneyTold" "I", Cond.fieldLink RX7 95 "FeatherSharesModel" "high" "I", Cond.fieldLink RX7 63 "FeatherSharesModel" "token" "I", Cond.fieldLink RX7 125 "FeatherSharesModel" "fault" "I", Cond.fieldLink RX7 60 "FeatherSharesModel" "brokenAt" "I", Cond.fieldLink RX7 128 "FeatherSharesModel" "gooseMany" "I", Cond.fieldLink RX7 131 "FeatherSharesModel" "seenMany" "I", Cond.methodLink RX7 88 yX7_step, Cond.instanceMethod yX7_step, Cond.selects RX7 yX7_step yX7_step, Cond.code yX7_step cX7_step 2 none, Cond.fieldLink RX7 57 "FeatherSharesModel" "here" "I", Cond.fieldLink RX7 73 "FeatherSharesModel" "value" "I", Cond.constantLong RX7 76 (97), Cond.constantLong RX7 78 (122), Cond.constantLong RX7 80 (48), Cond.constantLong RX7 82 (57)]
def wsL_law_r14 : List Cond := [Cond.methodLink RX7 69 yX7_byteAt, Cond.instanceMethod yX7_byteAt, Cond.selects RX7 yX7_byteAt yX7_byteAt, Cond.code yX7_byteAt cX7_byteAt 2 (some .int), Cond.methodLink RX7 84 yX7_fails, Cond.instanceMethod yX7_fails, Cond.selects RX7 yX7_fails yX7_fails, Cond.code yX7_fails cX7_fails 2 none, Cond.methodLink RX7 122 yX7_readLine, Cond.instanceMethod yX7_readLine, Cond.selects RX7 yX7_readLine yX7_readLine, Cond.code yX7_readLine cX7_readLine 2 none, Cond.constantLong RX7 117 (6), Cond.methodLink RX7 114 yX7_nameHere, Cond.instanceMethod yX7_nameHere, Cond.selects RX7 yX7_nameHere yX7_nameHere, Cond.code yX7_nameHere cX7_nameHere 4 (some .int), Cond.methodLink RX7 119 yX7_readMore, Cond.instanceMethod yX7_readMore, Cond.selects RX7 yX7_readMore yX7_readMore, Cond.code yX7_readMore cX7_readMore 4 none, Cond.methodLink RX7 91 yX7_other, Cond.instanceMethod yX7_other, Cond.selects RX7 yX7_other yX7_other]
def wsL_law_r15 : List Cond := [Cond.code yX7_other cX7_other 5 (some .int), Cond.methodLink RX7 98 yX7_gooseHere, Cond.instanceMethod yX7_gooseHere, Cond.selects RX7 yX7_gooseHere yX7_gooseHere, Cond.code yX7_gooseHere cX7_gooseHere 2 (some .int), Cond.methodLink RX7 111 yX7_readTrade, Cond.instanceMethod yX7_readTrade, Cond.selects RX7 yX7_readTrade yX7_readTrade, Cond.code yX7_readTrade cX7_readTrade 2 none, Cond.methodLink RL 27 yX6_fault, Cond.instanceMethod yX6_fault, Cond.selects RX6 yX6_fault yX6_fault, Cond.code yX6_fault cX6_fault 1 (some .int), Cond.methodLink RL 30 yX7_fault, Cond.instanceMethod yX7_fault, Cond.selects RX7 yX7_fault yX7_fault, Cond.code yX7_fault cX7_fault 1 (some .int), Cond.methodLink RL 31 yX6_rule, Cond.instanceMethod yX6_rule, Cond.selects RX6 yX6_rule yX6_rule, Cond.code yX6_rule cX6_rule 2 (some .int), Cond.methodLink RX6 115 yX6_sumOf, Cond.static yX6_sumOf, Cond.code yX6_sumOf cX6_sumOf 6 (some .int)]
def wsL_law_r16 : List Cond := [Cond.instanceMethod yX0_bareGeese, Cond.selects RX0 yX0_bareGeese yX0_bareGeese, Cond.code yX0_bareGeese cX0_bareGeese 3 (some .int), Cond.methodLink RX0 72 yX0_feathersOf, Cond.instanceMethod yX0_feathersOf, Cond.selects RX0 yX0_feathersOf yX0_feathersOf, Cond.code yX0_feathersOf cX0_feathersOf 4 (some .int), Cond.methodLink RX0 68 yX0_held, Cond.instanceMethod yX0_held, Cond.selects RX0 yX0_held yX0_held, Cond.code yX0_held cX0_held 3 (some .int), Cond.methodLink RL 34 yX7_rule, Cond.instanceMethod yX7_rule, Cond.selects RX7 yX7_rule yX7_rule, Cond.code yX7_rule cX7_rule 6 (some .int), Cond.methodLink RX7 146 yX7_moneyOn, Cond.instanceMethod yX7_moneyOn, Cond.selects RX7 yX7_moneyOn yX7_moneyOn, Cond.code yX7_moneyOn cX7_moneyOn 3 (some .int), Cond.methodLink RX7 139 yX7_feathersOn, Cond.instanceMethod yX7_feathersOn, Cond.selects RX7 yX7_feathersOn yX7_feathersOn, Cond.code yX7_feathersOn cX7_feathersOn 5 (some .int), Cond.methodLink RX7 136 yX7_shareOn]
def wsL_law_r17 : List Cond := [Cond.instanceMethod yX7_shareOn, Cond.selects RX7 yX7_shareOn yX7_shareOn, Cond.code yX7_shareOn cX7_shareOn 4 (some .int), Cond.methodLink RL 35 yX6_goose, Cond.instanceMethod yX6_goose, Cond.selects RX6 yX6_goose yX6_goose, Cond.code yX6_goose cX6_goose 3 (some .int), Cond.instanceMethod yX0_hasGoose, Cond.selects RX0 yX0_hasGoose yX0_hasGoose, Cond.code yX0_hasGoose cX0_hasGoose 2 (some .boolean), Cond.instanceMethod yX0_eggOwner, Cond.selects RX0 yX0_eggOwner yX0_eggOwner, Cond.code yX0_eggOwner cX0_eggOwner 4 (some .int), Cond.methodLink RL 39 yX7_goose, Cond.instanceMethod yX7_goose, Cond.selects RX7 yX7_goose yX7_goose, Cond.code yX7_goose cX7_goose 3 (some .int), Cond.constantLong RX7 134 (4), Cond.methodLink RX7 156 yX7_isGoose, Cond.instanceMethod yX7_isGoose, Cond.selects RX7 yX7_isGoose yX7_isGoose, Cond.code yX7_isGoose cX7_isGoose 2 (some .boolean), Cond.methodLink RX7 143 yX7_eggOn, Cond.instanceMethod yX7_eggOn]
def wsL_law_r18 : List Cond := [Cond.selects RX7 yX7_eggOn yX7_eggOn, Cond.code yX7_eggOn cX7_eggOn 5 (some .int), Cond.methodLink RL 40 yX6_owner, Cond.instanceMethod yX6_owner, Cond.selects RX6 yX6_owner yX6_owner, Cond.code yX6_owner cX6_owner 3 (some .int), Cond.methodLink RX6 145 yX6_isOwner, Cond.static yX6_isOwner, Cond.code yX6_isOwner cX6_isOwner 1 (some .boolean), Cond.instanceMethod yX0_ofOwner, Cond.selects RX0 yX0_ofOwner yX0_ofOwner, Cond.code yX0_ofOwner cX0_ofOwner 3 (some .int), Cond.methodLink RX0 79 yX0_worth, Cond.instanceMethod yX0_worth, Cond.selects RX0 yX0_worth yX0_worth, Cond.code yX0_worth cX0_worth 4 (some .int), Cond.methodLink RX0 82 yX0_geeseWithEggOf, Cond.instanceMethod yX0_geeseWithEggOf, Cond.selects RX0 yX0_geeseWithEggOf yX0_geeseWithEggOf, Cond.code yX0_geeseWithEggOf cX0_geeseWithEggOf 4 (some .int), Cond.methodLink RX0 76 yX0_eggOwner, Cond.methodLink RL 43 yX7_owner, Cond.instanceMethod yX7_owner, Cond.selects RX7 yX7_owner yX7_owner]
def wsL_law_r19 : List Cond := [Cond.code yX7_owner cX7_owner 3 (some .int), Cond.constantLong RX7 169 (3), Cond.methodLink RX7 166 yX7_isOwner, Cond.static yX7_isOwner, Cond.code yX7_isOwner cX7_isOwner 1 (some .boolean), Cond.methodLink RX7 171 yX7_ownerOn, Cond.instanceMethod yX7_ownerOn, Cond.selects RX7 yX7_ownerOn yX7_ownerOn, Cond.code yX7_ownerOn cX7_ownerOn 4 (some .int), Cond.methodLink RX7 160 yX7_worthOn, Cond.instanceMethod yX7_worthOn, Cond.selects RX7 yX7_worthOn yX7_worthOn, Cond.code yX7_worthOn cX7_worthOn 5 (some .int), Cond.methodLink RX7 163 yX7_eggsNow, Cond.instanceMethod yX7_eggsNow, Cond.selects RX7 yX7_eggsNow yX7_eggsNow, Cond.code yX7_eggsNow cX7_eggsNow 5 (some .int), Cond.methodLink RL 44 yX6_share, Cond.instanceMethod yX6_share, Cond.selects RX6 yX6_share yX6_share, Cond.code yX6_share cX6_share 3 (some .int), Cond.methodLink RL 47 yX7_share, Cond.instanceMethod yX7_share, Cond.selects RX7 yX7_share yX7_share]
def wsL_law_r20 : List Cond := [Cond.code yX7_share cX7_share 3 (some .int), Cond.methodLink RL 48 yX6_trade, Cond.instanceMethod yX6_trade, Cond.selects RX6 yX6_trade yX6_trade, Cond.code yX6_trade cX6_trade 3 (some .int), Cond.methodLink RL 51 yX7_trade, Cond.instanceMethod yX7_trade, Cond.selects RX7 yX7_trade yX7_trade, Cond.code yX7_trade cX7_trade 3 (some .int), Cond.methodLink RL 52 yX6_alter, Cond.instanceMethod yX6_alter, Cond.selects RX6 yX6_alter yX6_alter, Cond.code yX6_alter cX6_alter 4 (some .int), Cond.methodLink RX6 167 yX6_replaced, Cond.static yX6_replaced, Cond.code yX6_replaced cX6_replaced 4 (some .int), Cond.methodLink RL 56 yX7_alter, Cond.instanceMethod yX7_alter, Cond.selects RX7 yX7_alter yX7_alter, Cond.code yX7_alter cX7_alter 5 (some .int), Cond.constantLong RX7 174 (9), Cond.methodLink RX7 176 yX7_puts, Cond.instanceMethod yX7_puts, Cond.selects RX7 yX7_puts yX7_puts]
def wsL_law_r21 : List Cond := [Cond.code yX7_puts cX7_puts 6 (some .int), Cond.methodLink RL 57 yX6_purse, Cond.instanceMethod yX6_purse, Cond.selects RX6 yX6_purse yX6_purse, Cond.code yX6_purse cX6_purse 3 (some .int), Cond.methodLink RL 60 yX7_purse, Cond.instanceMethod yX7_purse, Cond.selects RX7 yX7_purse yX7_purse, Cond.code yX7_purse cX7_purse 3 (some .int), Cond.constantLong RX7 180 (999), Cond.methodLink RL 61 yX6_grant, Cond.instanceMethod yX6_grant, Cond.selects RX6 yX6_grant yX6_grant, Cond.code yX6_grant cX6_grant 4 (some .int), Cond.methodLink RL 64 yX7_grant, Cond.instanceMethod yX7_grant, Cond.selects RX7 yX7_grant yX7_grant, Cond.code yX7_grant cX7_grant 4 (some .int), Cond.constantLong RX7 182 (99), Cond.methodLink RL 65 yX6_plan, Cond.instanceMethod yX6_plan, Cond.selects RX6 yX6_plan yX6_plan, Cond.code yX6_plan cX6_plan 5 (some .int), Cond.instanceMethod yX0_isTrade]
def wsL_law_r22 : List Cond := [Cond.selects RX0 yX0_isTrade yX0_isTrade, Cond.code yX0_isTrade cX0_isTrade 5 (some .boolean), Cond.methodLink RX0 89 yX0_hasGoose, Cond.methodLink RL 69 yX7_plan, Cond.instanceMethod yX7_plan, Cond.selects RX7 yX7_plan yX7_plan, Cond.code yX7_plan cX7_plan 6 (some .int), Cond.methodLink RX7 184 yX7_isTrade, Cond.instanceMethod yX7_isTrade, Cond.selects RX7 yX7_isTrade yX7_isTrade, Cond.code yX7_isTrade cX7_isTrade 5 (some .boolean), Cond.methodLink RL 70 yX6_cut, Cond.instanceMethod yX6_cut, Cond.selects RX6 yX6_cut yX6_cut, Cond.code yX6_cut cX6_cut 3 (some .int), Cond.methodLink RL 73 yX7_cut, Cond.instanceMethod yX7_cut, Cond.selects RX7 yX7_cut yX7_cut, Cond.code yX7_cut cX7_cut 2 (some .int), Cond.methodLink RL 74 yX6_buy, Cond.instanceMethod yX6_buy, Cond.selects RX6 yX6_buy yX6_buy, Cond.code yX6_buy cX6_buy 5 (some .int), Cond.instanceMethod yX0_canTrade]
def wsL_law_r23 : List Cond := [Cond.selects RX0 yX0_canTrade yX0_canTrade, Cond.code yX0_canTrade cX0_canTrade 6 (some .boolean), Cond.methodLink RX0 92 yX0_canPluck, Cond.instanceMethod yX0_canPluck, Cond.selects RX0 yX0_canPluck yX0_canPluck, Cond.code yX0_canPluck cX0_canPluck 5 (some .boolean), Cond.instanceMethod yX0_exchange, Cond.selects RX0 yX0_exchange yX0_exchange, Cond.code yX0_exchange cX0_exchange 5 none, Cond.methodLink RX0 96 yX0_moveFeathers, Cond.instanceMethod yX0_moveFeathers, Cond.selects RX0 yX0_moveFeathers yX0_moveFeathers, Cond.code yX0_moveFeathers cX0_moveFeathers 5 none, Cond.methodLink RL 77 yX7_buy, Cond.instanceMethod yX7_buy, Cond.selects RX7 yX7_buy yX7_buy, Cond.code yX7_buy cX7_buy 5 (some .int), Cond.methodLink RX7 195 yX7_buys, Cond.instanceMethod yX7_buys, Cond.selects RX7 yX7_buys yX7_buys, Cond.code yX7_buys cX7_buys 5 (some .int), Cond.methodLink RX7 192 yX7_buysOn, Cond.instanceMethod yX7_buysOn, Cond.selects RX7 yX7_buysOn yX7_buysOn]
def wsL_law_r24 : List Cond := [Cond.code yX7_buysOn cX7_buysOn 8 (some .boolean), Cond.methodLink RX7 188 yX7_plucksOn, Cond.instanceMethod yX7_plucksOn, Cond.selects RX7 yX7_plucksOn yX7_plucksOn, Cond.code yX7_plucksOn cX7_plucksOn 7 (some .boolean), Cond.methodLink RL 78 yX6_pluck, Cond.instanceMethod yX6_pluck, Cond.selects RX6 yX6_pluck yX6_pluck, Cond.code yX6_pluck cX6_pluck 5 (some .int), Cond.methodLink RL 81 yX7_pluck, Cond.instanceMethod yX7_pluck, Cond.selects RX7 yX7_pluck yX7_pluck, Cond.code yX7_pluck cX7_pluck 5 (some .int), Cond.methodLink RL 82 yX6_weeks, Cond.instanceMethod yX6_weeks, Cond.selects RX6 yX6_weeks yX6_weeks, Cond.code yX6_weeks cX6_weeks 2 (some .int), Cond.instanceMethod yX0_passWeeks, Cond.selects RX0 yX0_passWeeks yX0_passWeeks, Cond.code yX0_passWeeks cX0_passWeeks 4 (some .int), Cond.methodLink RX0 115 yX0_passWeek, Cond.instanceMethod yX0_passWeek, Cond.selects RX0 yX0_passWeek yX0_passWeek, Cond.code yX0_passWeek cX0_passWeek 4 (some .int)]
def wsL_law_r25 : List Cond := [Cond.methodLink RX0 119 yX0_moult, Cond.instanceMethod yX0_moult, Cond.selects RX0 yX0_moult yX0_moult, Cond.code yX0_moult cX0_moult 5 none, Cond.methodLink RX0 126 Lib.Math.min.name, Cond.static Lib.Math.min.name, Cond.initialized "java/lang/Math", Cond.code Lib.Math.min.name Lib.Math.min.code 2 (some .int), Cond.methodLink RX0 123 yX0_lossOf, Cond.static yX0_lossOf, Cond.code yX0_lossOf cX0_lossOf 4 (some .int), Cond.methodLink RX0 131 Lib.Math.max.name, Cond.static Lib.Math.max.name, Cond.code Lib.Math.max.name Lib.Math.max.code 2 (some .int), Cond.methodLink RL 85 yX7_weeks, Cond.instanceMethod yX7_weeks, Cond.selects RX7 yX7_weeks yX7_weeks, Cond.code yX7_weeks cX7_weeks 4 (some .int), Cond.constantLong RX7 199 (30), Cond.methodLink RX7 201 yX7_weekOn, Cond.instanceMethod yX7_weekOn, Cond.selects RX7 yX7_weekOn yX7_weekOn, Cond.code yX7_weekOn cX7_weekOn 6 (some .int), Cond.methodLink RX7 152 yX7_moultsOn]
def wsL_law_r26 : List Cond := [Cond.instanceMethod yX7_moultsOn, Cond.selects RX7 yX7_moultsOn yX7_moultsOn, Cond.code yX7_moultsOn cX7_moultsOn 6 none, Cond.methodLink RX7 149 yX7_losesOf, Cond.static yX7_losesOf, Cond.code yX7_losesOf cX7_losesOf 4 (some .int), Cond.methodLink RL 86 yX6_runs, Cond.instanceMethod yX6_runs, Cond.selects RX6 yX6_runs yX6_runs, Cond.code yX6_runs cX6_runs 6 (some .int), Cond.instanceMethod yX0_tryPlanned, Cond.selects RX0 yX0_tryPlanned yX0_tryPlanned, Cond.code yX0_tryPlanned cX0_tryPlanned 2 (some .boolean), Cond.methodLink RX0 109 yX0_tryTrade, Cond.instanceMethod yX0_tryTrade, Cond.selects RX0 yX0_tryTrade yX0_tryTrade, Cond.code yX0_tryTrade cX0_tryTrade 5 (some .boolean), Cond.methodLink RX0 100 yX0_isTrade, Cond.methodLink RX0 103 yX0_canTrade, Cond.methodLink RX0 106 yX0_exchange, Cond.instanceMethod yX0_costOfPlanned, Cond.selects RX0 yX0_costOfPlanned yX0_costOfPlanned, Cond.code yX0_costOfPlanned cX0_costOfPlanned 2 (some .int), Cond.methodLink RL 89 yX7_runs]
def wsL_law_r27 : List Cond := [Cond.instanceMethod yX7_runs, Cond.selects RX7 yX7_runs yX7_runs, Cond.code yX7_runs cX7_runs 2 (some .int), Cond.constantLong RX7 217 (2), Cond.fieldLink RX7 208 "FeatherSharesModel" "cameMany" "I", Cond.fieldLink RX7 211 "FeatherSharesModel" "firstNot" "I", Cond.fieldLink RX7 214 "FeatherSharesModel" "changed" "I", Cond.methodLink RX7 219 yX7_planGoes, Cond.instanceMethod yX7_planGoes, Cond.selects RX7 yX7_planGoes yX7_planGoes, Cond.code yX7_planGoes cX7_planGoes 4 none, Cond.methodLink RX7 205 yX7_copies, Cond.instanceMethod yX7_copies, Cond.selects RX7 yX7_copies yX7_copies, Cond.code yX7_copies cX7_copies 4 none, Cond.methodLink RL 90 yX6_ahead, Cond.instanceMethod yX6_ahead, Cond.selects RX6 yX6_ahead yX6_ahead, Cond.code yX6_ahead cX6_ahead 3 (some .int), Cond.instanceMethod yX0_followPlanWithout, Cond.selects RX0 yX0_followPlanWithout yX0_followPlanWithout, Cond.code yX0_followPlanWithout cX0_followPlanWithout 3 none, Cond.methodLink RX0 112 yX0_tryPlanned, Cond.methodLink RL 93 yX7_ahead]
def wsL_law_r28 : List Cond := [Cond.instanceMethod yX7_ahead, Cond.selects RX7 yX7_ahead yX7_ahead, Cond.code yX7_ahead cX7_ahead 3 (some .int), Cond.methodLink RL 94 yX6_later, Cond.instanceMethod yX6_later, Cond.selects RX6 yX6_later yX6_later, Cond.code yX6_later cX6_later 4 (some .int), Cond.methodLink RL 97 yX7_later, Cond.instanceMethod yX7_later, Cond.selects RX7 yX7_later yX7_later, Cond.code yX7_later cX7_later 4 (some .int), Cond.constantLong RX7 222 (60), Cond.methodLink RX7 224 yX7_weeksGo, Cond.instanceMethod yX7_weeksGo, Cond.selects RX7 yX7_weeksGo yX7_weeksGo, Cond.code yX7_weeksGo cX7_weeksGo 3 none, Cond.methodLink RL 98 yX6_eggs, Cond.instanceMethod yX6_eggs, Cond.selects RX6 yX6_eggs yX6_eggs, Cond.code yX6_eggs cX6_eggs 3 (some .int), Cond.methodLink RL 101 yX7_eggs, Cond.instanceMethod yX7_eggs, Cond.selects RX7 yX7_eggs yX7_eggs, Cond.code yX7_eggs cX7_eggs 3 (some .int)]
def wsL_law_r29 : List Cond := [Cond.methodLink RL 102 yX6_bare, Cond.instanceMethod yX6_bare, Cond.selects RX6 yX6_bare yX6_bare, Cond.code yX6_bare cX6_bare 4 (some .int), Cond.methodLink RL 105 yX7_bare, Cond.instanceMethod yX7_bare, Cond.selects RX7 yX7_bare yX7_bare, Cond.code yX7_bare cX7_bare 4 (some .int), Cond.constantLong RX7 227 (495), Cond.methodLink RL 106 yX6_rich, Cond.instanceMethod yX6_rich, Cond.selects RX6 yX6_rich yX6_rich, Cond.code yX6_rich cX6_rich 5 (some .int), Cond.methodLink RL 109 yX7_rich, Cond.instanceMethod yX7_rich, Cond.selects RX7 yX7_rich yX7_rich, Cond.code yX7_rich cX7_rich 5 (some .int), Cond.methodLink RL 110 yX6_turn, Cond.instanceMethod yX6_turn, Cond.selects RX6 yX6_turn yX6_turn, Cond.code yX6_turn cX6_turn 4 (some .int), Cond.methodLink RL 113 yX7_turn, Cond.instanceMethod yX7_turn, Cond.selects RX7 yX7_turn yX7_turn]
def wsL_law_r30 : List Cond := [Cond.code yX7_turn cX7_turn 4 (some .int), Cond.methodLink RL 114 yX6_need, Cond.instanceMethod yX6_need, Cond.selects RX6 yX6_need yX6_need, Cond.code yX6_need cX6_need 6 (some .int), Cond.instanceMethod yX0_wouldGetEgg, Cond.selects RX0 yX0_wouldGetEgg yX0_wouldGetEgg, Cond.code yX0_wouldGetEgg cX0_wouldGetEgg 6 (some .boolean), Cond.methodLink RL 117 yX7_need, Cond.instanceMethod yX7_need, Cond.selects RX7 yX7_need yX7_need, Cond.code yX7_need cX7_need 6 (some .int), Cond.methodLink RL 118 yX6_best, Cond.instanceMethod yX6_best, Cond.selects RX6 yX6_best yX6_best, Cond.code yX6_best cX6_best 4 (some .int), Cond.instanceMethod yX1_findBest, Cond.selects RX1 yX1_findBest yX1_findBest, Cond.code yX1_findBest cX1_findBest 5 none, Cond.methodLink RX1 52 yJ6_bitCount_0f7a4, Cond.static yJ6_bitCount_0f7a4, Cond.initialized RJ6, Cond.code yJ6_bitCount_0f7a4 cJ6_bitCount_0f7a4 1 (some .int), Cond.constant RJ6 265 (1431655765)]
def wsL_law_r31 : List Cond := [Cond.constant RJ6 266 (858993459), Cond.constant RJ6 267 (252645135), Cond.methodLink RX1 57 yX1_listCodes, Cond.instanceMethod yX1_listCodes, Cond.selects RX1 yX1_listCodes yX1_listCodes, Cond.code yX1_listCodes cX1_listCodes 4 none, Cond.methodLink RX1 60 yX1_make, Cond.instanceMethod yX1_make, Cond.selects RX1 yX1_make yX1_make, Cond.code yX1_make cX1_make 3 none, Cond.methodLink RX1 79 yX1_sellerOf, Cond.static yX1_sellerOf, Cond.code yX1_sellerOf cX1_sellerOf 1 (some .int), Cond.methodLink RX1 82 yX1_gooseOf, Cond.static yX1_gooseOf, Cond.code yX1_gooseOf cX1_gooseOf 1 (some .int), Cond.methodLink RX1 85 yX1_amountOf, Cond.static yX1_amountOf, Cond.code yX1_amountOf cX1_amountOf 1 (some .int), Cond.methodLink RX1 64 yX1_weigh, Cond.instanceMethod yX1_weigh, Cond.selects RX1 yX1_weigh yX1_weigh, Cond.code yX1_weigh cX1_weigh 7 none, Cond.methodLink RX1 95 yX1_isBetter]
def wsL_law_r32 : List Cond := [Cond.instanceMethod yX1_isBetter, Cond.selects RX1 yX1_isBetter yX1_isBetter, Cond.code yX1_isBetter cX1_isBetter 4 (some .boolean), Cond.methodLink RX1 68 yX1_weighPairs, Cond.instanceMethod yX1_weighPairs, Cond.selects RX1 yX1_weighPairs yX1_weighPairs, Cond.code yX1_weighPairs cX1_weighPairs 5 none, Cond.methodLink RL 121 yX7_best, Cond.instanceMethod yX7_best, Cond.selects RX7 yX7_best yX7_best, Cond.code yX7_best cX7_best 5 (some .int), Cond.constantLong RX7 255 (10), Cond.constantLong RX7 257 (11), Cond.fieldLink RX7 232 "FeatherSharesModel" "bestGeese" "I", Cond.fieldLink RX7 235 "FeatherSharesModel" "bestMoney" "I", Cond.fieldLink RX7 238 "FeatherSharesModel" "bestMany" "I", Cond.fieldLink RX7 241 "FeatherSharesModel" "bestFirst" "I", Cond.fieldLink RX7 244 "FeatherSharesModel" "bestSecond" "I", Cond.methodLink RX7 251 yX7_compares, Cond.instanceMethod yX7_compares, Cond.selects RX7 yX7_compares yX7_compares, Cond.code yX7_compares cX7_compares 9 none, Cond.methodLink RX7 229 yX7_bitsOf, Cond.static yX7_bitsOf]
def wsL_law_r33 : List Cond := [Cond.code yX7_bitsOf cX7_bitsOf 3 (some .int), Cond.methodLink RX7 259 yX7_rowsOf, Cond.instanceMethod yX7_rowsOf, Cond.selects RX7 yX7_rowsOf yX7_rowsOf, Cond.code yX7_rowsOf cX7_rowsOf 5 none, Cond.methodLink RX7 247 yX7_buysBy, Cond.instanceMethod yX7_buysBy, Cond.selects RX7 yX7_buysBy yX7_buysBy, Cond.code yX7_buysBy cX7_buysBy 7 (some .boolean), Cond.methodLink RL 122 yX6_leave, Cond.instanceMethod yX6_leave, Cond.selects RX6 yX6_leave yX6_leave, Cond.code yX6_leave cX6_leave 7 (some .int), Cond.methodLink RX6 235 yX6_worthByPlanWithout, Cond.instanceMethod yX6_worthByPlanWithout, Cond.selects RX6 yX6_worthByPlanWithout yX6_worthByPlanWithout, Cond.code yX6_worthByPlanWithout cX6_worthByPlanWithout 3 (some .int), Cond.methodLink RL 125 yX7_leave, Cond.instanceMethod yX7_leave, Cond.selects RX7 yX7_leave yX7_leave, Cond.code yX7_leave cX7_leave 7 (some .int), Cond.methodLink RL 126 yX6_swings, Cond.instanceMethod yX6_swings, Cond.selects RX6 yX6_swings yX6_swings]
def wsL_law_r34 : List Cond := [Cond.code yX6_swings cX6_swings 3 (some .int), Cond.instanceMethod yX0_setsSwungBy, Cond.selects RX0 yX0_setsSwungBy yX0_setsSwungBy, Cond.code yX0_setsSwungBy cX0_setsSwungBy 6 (some .int), Cond.methodLink RX0 134 yX0_isInPower, Cond.instanceMethod yX0_isInPower, Cond.selects RX0 yX0_isInPower yX0_isInPower, Cond.code yX0_isInPower cX0_isInPower 5 (some .boolean), Cond.methodLink RL 129 yX7_swings, Cond.instanceMethod yX7_swings, Cond.selects RX7 yX7_swings yX7_swings, Cond.code yX7_swings cX7_swings 3 (some .int), Cond.methodLink RX7 265 yX7_swingsOf, Cond.instanceMethod yX7_swingsOf, Cond.selects RX7 yX7_swingsOf yX7_swingsOf, Cond.code yX7_swingsOf cX7_swingsOf 7 (some .int), Cond.methodLink RX7 262 yX7_sumOf, Cond.instanceMethod yX7_sumOf, Cond.selects RX7 yX7_sumOf yX7_sumOf, Cond.code yX7_sumOf cX7_sumOf 5 (some .int), Cond.methodLink RL 130 yX6_power, Cond.instanceMethod yX6_power, Cond.selects RX6 yX6_power yX6_power, Cond.code yX6_power cX6_power 6 (some .long)]
def wsL_law_r35 : List Cond := [Cond.constantLong RX6 241 (-1), Cond.methodLink RX6 243 Lib.Math.max.name, Cond.methodLink RX6 248 yX6_partOfFraction, Cond.static yX6_partOfFraction, Cond.code yX6_partOfFraction cX6_partOfFraction 7 (some .long), Cond.methodLink RX6 325 Lib.MathLoose.max_long.x, Cond.static Lib.MathLoose.max_long.x, Cond.code Lib.MathLoose.max_long.x Lib.MathLoose.max_long.code 4 (some .long), Cond.methodLink RX6 321 yX6_commonDivisor, Cond.static yX6_commonDivisor, Cond.code yX6_commonDivisor cX6_commonDivisor 11 (some .long), Cond.methodLink RL 134 yX7_power, Cond.instanceMethod yX7_power, Cond.selects RX7 yX7_power yX7_power, Cond.code yX7_power cX7_power 6 (some .long), Cond.constantLong RX7 268 (-1), Cond.methodLink RX7 270 yX7_lowest, Cond.static yX7_lowest, Cond.code yX7_lowest cX7_lowest 11 (some .long), Cond.methodLink RL 135 yX6_reign, Cond.instanceMethod yX6_reign, Cond.selects RX6 yX6_reign yX6_reign, Cond.code yX6_reign cX6_reign 4 (some .int), Cond.methodLink RL 138 yX7_reign]
def wsL_law_r36 : List Cond := [Cond.instanceMethod yX7_reign, Cond.selects RX7 yX7_reign yX7_reign, Cond.code yX7_reign cX7_reign 4 (some .int), Cond.methodLink RL 139 yX6_luck, Cond.instanceMethod yX6_luck, Cond.selects RX6 yX6_luck yX6_luck, Cond.code yX6_luck cX6_luck 9 (some .long), Cond.methodLink RX6 252 yX6_areOdds, Cond.static yX6_areOdds, Cond.code yX6_areOdds cX6_areOdds 2 (some .boolean), Cond.methodLink RX6 256 yX6_waysToMoult, Cond.static yX6_waysToMoult, Cond.code yX6_waysToMoult cX6_waysToMoult 6 (some .long), Cond.methodLink RX6 260 yX6_raised, Cond.static yX6_raised, Cond.code yX6_raised cX6_raised 5 (some .long), Cond.methodLink RL 143 yX7_luck, Cond.instanceMethod yX7_luck, Cond.selects RX7 yX7_luck yX7_luck, Cond.code yX7_luck cX7_luck 6 (some .long), Cond.constantLong RX7 274 (8), Cond.methodLink RX7 276 yX7_byMoults, Cond.instanceMethod yX7_byMoults, Cond.selects RX7 yX7_byMoults yX7_byMoults]
def wsL_law_r37 : List Cond := [Cond.code yX7_byMoults cX7_byMoults 15 (some .long), Cond.methodLink RL 144 yX6_mean, Cond.instanceMethod yX6_mean, Cond.selects RX6 yX6_mean yX6_mean, Cond.code yX6_mean cX6_mean 8 (some .long), Cond.methodLink RL 148 yX7_mean, Cond.instanceMethod yX7_mean, Cond.selects RX7 yX7_mean yX7_mean, Cond.code yX7_mean cX7_mean 5 (some .long), Cond.methodLink RL 149 yX6_see, Cond.instanceMethod yX6_see, Cond.selects RX6 yX6_see yX6_see, Cond.code yX6_see cX6_see 5 (some .int), Cond.instanceMethod yX3_add, Cond.selects RX3 yX3_add yX3_add, Cond.code yX3_add cX3_add 5 (some .boolean), Cond.methodLink RL 152 yX7_see, Cond.instanceMethod yX7_see, Cond.selects RX7 yX7_see yX7_see, Cond.code yX7_see cX7_see 5 (some .int), Cond.constantLong RX7 280 (20), Cond.methodLink RL 153 yX6_forget, Cond.instanceMethod yX6_forget, Cond.selects RX6 yX6_forget yX6_forget]
def wsL_law_r38 : List Cond := [Cond.code yX6_forget cX6_forget 3 (some .int), Cond.methodLink RL 156 yX7_forget, Cond.instanceMethod yX7_forget, Cond.selects RX7 yX7_forget yX7_forget, Cond.code yX7_forget cX7_forget 3 (some .int), Cond.methodLink RL 157 yX6_kinds, Cond.instanceMethod yX6_kinds, Cond.selects RX6 yX6_kinds yX6_kinds, Cond.code yX6_kinds cX6_kinds 2 (some .int), Cond.methodLink RX6 267 yX6_kindsAsSeen, Cond.instanceMethod yX6_kindsAsSeen, Cond.selects RX6 yX6_kindsAsSeen yX6_kindsAsSeen, Cond.code yX6_kindsAsSeen cX6_kindsAsSeen 4 (some .int), Cond.instanceMethod yX3_agreeWith, Cond.selects RX3 yX3_agreeWith yX3_agreeWith, Cond.code yX3_agreeWith cX3_agreeWith 3 (some .boolean), Cond.methodLink RX3 28 yX3_agreeAt, Cond.instanceMethod yX3_agreeAt, Cond.selects RX3 yX3_agreeAt yX3_agreeAt, Cond.code yX3_agreeAt cX3_agreeAt 4 (some .boolean), Cond.methodLink RL 160 yX7_kinds, Cond.instanceMethod yX7_kinds, Cond.selects RX7 yX7_kinds yX7_kinds, Cond.code yX7_kinds cX7_kinds 2 (some .int)]
def wsL_law_r39 : List Cond := [Cond.methodLink RX7 286 yX7_kindsOf, Cond.instanceMethod yX7_kindsOf, Cond.selects RX7 yX7_kindsOf yX7_kindsOf, Cond.code yX7_kindsOf cX7_kindsOf 5 (some .int), Cond.methodLink RX7 282 yX7_isAsSeen, Cond.instanceMethod yX7_isAsSeen, Cond.selects RX7 yX7_isAsSeen yX7_isAsSeen, Cond.code yX7_isAsSeen cX7_isAsSeen 6 (some .boolean), Cond.methodLink RL 161 yX6_skins, Cond.instanceMethod yX6_skins, Cond.selects RX6 yX6_skins yX6_skins, Cond.code yX6_skins cX6_skins 4 (some .int), Cond.methodLink RL 164 yX7_skins, Cond.instanceMethod yX7_skins, Cond.selects RX7 yX7_skins yX7_skins, Cond.code yX7_skins cX7_skins 5 (some .int), Cond.methodLink RL 165 yX6_look, Cond.instanceMethod yX6_look, Cond.selects RX6 yX6_look yX6_look, Cond.code yX6_look cX6_look 9 (some .int), Cond.methodLink RX6 274 yX6_foretellByKind, Cond.instanceMethod yX6_foretellByKind, Cond.selects RX6 yX6_foretellByKind yX6_foretellByKind, Cond.code yX6_foretellByKind cX6_foretellByKind 5 none]
def wsL_law_r40 : List Cond := [Cond.methodLink RX6 318 yX6_placeByKind, Cond.static yX6_placeByKind, Cond.code yX6_placeByKind cX6_placeByKind 3 (some .int), Cond.methodLink RX6 277 yJ6_bitCount_0f7a4, Cond.methodLink RX6 282 yX6_mostKindsAlike, Cond.instanceMethod yX6_mostKindsAlike, Cond.selects RX6 yX6_mostKindsAlike yX6_mostKindsAlike, Cond.code yX6_mostKindsAlike cX6_mostKindsAlike 9 (some .int), Cond.methodLink RL 168 yX7_look, Cond.instanceMethod yX7_look, Cond.selects RX7 yX7_look yX7_look, Cond.code yX7_look cX7_look 11 (some .int), Cond.methodLink RL 169 yX6_drift, Cond.instanceMethod yX6_drift, Cond.selects RX6 yX6_drift yX6_drift, Cond.code yX6_drift cX6_drift 8 (some .int), Cond.constant RX6 286 (1103515245), Cond.instanceMethod yX0_tryDrawn, Cond.selects RX0 yX0_tryDrawn yX0_tryDrawn, Cond.code yX0_tryDrawn cX0_tryDrawn 2 (some .boolean), Cond.methodLink RL 172 yX7_drift, Cond.instanceMethod yX7_drift, Cond.selects RX7 yX7_drift yX7_drift, Cond.code yX7_drift cX7_drift 11 (some .int)]
def wsL_law_r41 : List Cond := [Cond.constant RX7 289 (1103515245), Cond.methodLink RL 173 yX6_keep, Cond.instanceMethod yX6_keep, Cond.selects RX6 yX6_keep yX6_keep, Cond.code yX6_keep cX6_keep 3 (some .int), Cond.methodLink RL 176 yX7_keep, Cond.instanceMethod yX7_keep, Cond.selects RX7 yX7_keep yX7_keep, Cond.code yX7_keep cX7_keep 3 (some .int), Cond.methodLink RL 177 yX6_back, Cond.instanceMethod yX6_back, Cond.selects RX6 yX6_back yX6_back, Cond.code yX6_back cX6_back 2 (some .int), Cond.methodLink RL 180 yX7_back, Cond.instanceMethod yX7_back, Cond.selects RX7 yX7_back yX7_back, Cond.code yX7_back cX7_back 2 (some .int), Cond.methodLink RL 181 yX6_sheet, Cond.instanceMethod yX6_sheet, Cond.selects RX6 yX6_sheet yX6_sheet, Cond.code yX6_sheet cX6_sheet 4 (some .int), Cond.methodLink RX6 290 yX6_isSheet, Cond.static yX6_isSheet, Cond.code yX6_isSheet cX6_isSheet 1 (some .boolean)]
def wsL_law_r42 : List Cond := [Cond.methodLink RX6 293 yX6_isLane, Cond.static yX6_isLane, Cond.code yX6_isLane cX6_isLane 1 (some .boolean), Cond.instanceMethod yX2_renew, Cond.selects RX2 yX2_renew yX2_renew, Cond.code yX2_renew cX2_renew 3 none, Cond.methodLink RX2 26 yJ7_fill_53178, Cond.methodLink RL 184 yX7_sheet, Cond.instanceMethod yX7_sheet, Cond.selects RX7 yX7_sheet yX7_sheet, Cond.code yX7_sheet cX7_sheet 5 (some .int), Cond.methodLink RL 185 yX6_lay, Cond.instanceMethod yX6_lay, Cond.selects RX6 yX6_lay yX6_lay, Cond.code yX6_lay cX6_lay 5 (some .int), Cond.instanceMethod yX2_put, Cond.selects RX2 yX2_put yX2_put, Cond.code yX2_put cX2_put 3 (some .int), Cond.methodLink RL 188 yX7_lay, Cond.instanceMethod yX7_lay, Cond.selects RX7 yX7_lay yX7_lay, Cond.code yX7_lay cX7_lay 4 (some .int), Cond.methodLink RL 189 yX6_read, Cond.instanceMethod yX6_read]
def wsL_law_r43 : List Cond := [Cond.selects RX6 yX6_read yX6_read, Cond.code yX6_read cX6_read 10 (some .int), Cond.instanceMethod yX2_faultOfTrade, Cond.selects RX2 yX2_faultOfTrade yX2_faultOfTrade, Cond.code yX2_faultOfTrade cX2_faultOfTrade 3 (some .int), Cond.instanceMethod yX2_tradeOn, Cond.selects RX2 yX2_tradeOn yX2_tradeOn, Cond.code yX2_tradeOn cX2_tradeOn 3 (some .boolean), Cond.methodLink RL 192 yX7_read, Cond.instanceMethod yX7_read, Cond.selects RX7 yX7_read yX7_read, Cond.code yX7_read cX7_read 9 (some .int), Cond.fieldLink RX7 290 "FeatherSharesModel" "torn" "I", Cond.methodLink RL 193 yX6_torn, Cond.instanceMethod yX6_torn, Cond.selects RX6 yX6_torn yX6_torn, Cond.code yX6_torn cX6_torn 1 (some .int), Cond.methodLink RL 196 yX7_torn, Cond.instanceMethod yX7_torn, Cond.selects RX7 yX7_torn yX7_torn, Cond.code yX7_torn cX7_torn 1 (some .int), Cond.methodLink RL 197 yX6_count, Cond.instanceMethod yX6_count, Cond.selects RX6 yX6_count yX6_count]
def wsL_law_r44 : List Cond := [Cond.code yX6_count cX6_count 2 (some .int), Cond.instanceMethod yX0_feathersOfPlan, Cond.selects RX0 yX0_feathersOfPlan yX0_feathersOfPlan, Cond.code yX0_feathersOfPlan cX0_feathersOfPlan 3 (some .int), Cond.methodLink RL 200 yX7_count, Cond.instanceMethod yX7_count, Cond.selects RX7 yX7_count yX7_count, Cond.code yX7_count cX7_count 5 (some .int)]
def wsL_law : List Cond := (wsL_law_r1 ++ (wsL_law_r2 ++ (wsL_law_r3 ++ (wsL_law_r4 ++ (wsL_law_r5 ++ (wsL_law_r6 ++ (wsL_law_r7 ++ (wsL_law_r8 ++ (wsL_law_r9 ++ (wsL_law_r10 ++ (wsL_law_r11 ++ (wsL_law_r12 ++ (wsL_law_r13 ++ (wsL_law_r14 ++ (wsL_law_r15 ++ (wsL_law_r16 ++ (wsL_law_r17 ++ (wsL_law_r18 ++ (wsL_law_r19 ++ (wsL_law_r20 ++ (wsL_law_r21 ++ (wsL_law_r22 ++ (wsL_law_r23 ++ (wsL_law_r24 ++ (wsL_law_r25 ++ (wsL_law_r26 ++ (wsL_law_r27 ++ (wsL_law_r28 ++ (wsL_law_r29 ++ (wsL_law_r30 ++ (wsL_law_r31 ++ (wsL_law_r32 ++ (wsL_law_r33 ++ (wsL_law_r34 ++ (wsL_law_r35 ++ (wsL_law_r36 ++ (wsL_law_r37 ++ (wsL_law_r38 ++ (wsL_law_r39 ++ (wsL_law_r40 ++ (wsL_law_r41 ++ (wsL_law_r42 ++ (wsL_law_r43 ++ wsL_law_r44))))))))))))))))))))))))))))))))))))))))))) ++ wsX60 ++ wsX70 ++ wsX00 ++ wsX40 ++ wsX50 ++ wsX30 ++ wsX10 ++ wsX20 ++ ([] : List Cond)
theorem inlX0 : ∀ w ∈ wsX00, w ∈ wsL_law := fun _ h => List.mem_append_left _ (List.mem_append_left _ (List.mem_append_left _ (List.mem_append_left _ (List.mem_append_left _ (List.mem_append_left _ (List.mem_append_right _ h))))))
theorem inlX1 : ∀ w ∈ wsX10, w ∈ wsL_law := fun _ h => List.mem_append_left _ (List.mem_append_left _ (List.mem_append_right _ h))
theorem inlX2 : ∀ w ∈ wsX20, w ∈ wsL_law := fun _ h => List.mem_append_left _ (List.mem_append_right _ h)
theorem inlX3 : ∀ w ∈ wsX30, w ∈ wsL_law := fun _ h => List.mem_append_left _ (List.mem_append_left _ (List.mem_append_left _ (List.mem_append_right _ h)))
theorem inlX4 : ∀ w ∈ wsX40, w ∈ wsL_law := fun _ h => List.mem_append_left _ (List.mem_append_left _ (List.mem_append_left _ (List.mem_append_left _ (List.mem_append_left _ (List.mem_append_right _ h)))))
theorem inlX5 : ∀ w ∈ wsX50, w ∈ wsL_law := fun _ h => List.mem_append_left _ (List.mem_append_left _ (List.mem_append_left _ (List.mem_append_left _ (List.mem_append_right _ h))))
theorem inlX6 : ∀ w ∈ wsX60, w ∈ wsL_law := fun _ h => List.mem_append_left _ (List.mem_append_left _ (List.mem_append_left _ (List.mem_append_left _ (List.mem_append_left _ (List.mem_append_left _ (List.mem_append_left _ (List.mem_append_left _ (List.mem_append_right _ h))))))))
theorem inlX7 : ∀ w ∈ wsX70, w ∈ wsL_law := fun _ h => List.mem_append_left _ (List.mem_append_left _ (List.mem_append_left _ (List.mem_append_left _ (List.mem_append_left _ (List.mem_append_left _ (List.mem_append_left _ (List.mem_append_right _ h)))))))
theorem inJx145de : ∀ w ∈ wsJx145de0, w ∈ lw_tbl := by decide +kernel
theorem inJx9f9b0 : ∀ w ∈ wsJx9f9b00, w ∈ lw_tbl := by decide +kernel
theorem inJxb160c : ∀ w ∈ wsJxb160c0, w ∈ lw_tbl := by decide +kernel
theorem inJ6 : ∀ w ∈ wsJ60, w ∈ lw_tbl := by decide +kernel
theorem inJ9 : ∀ w ∈ wsJ90, w ∈ lw_tbl := by decide +kernel
theorem inJ0 : ∀ w ∈ wsJ00, w ∈ lw_tbl := by decide +kernel
theorem inJ1 : ∀ w ∈ wsJ10, w ∈ lw_tbl := by decide +kernel
theorem inJ2 : ∀ w ∈ wsJ20, w ∈ lw_tbl := by decide +kernel
theorem inJ10 : ∀ w ∈ wsJ100, w ∈ lw_tbl := by decide +kernel
theorem inJxfd54e : ∀ w ∈ wsJxfd54e0, w ∈ lw_tbl := by decide +kernel
theorem inJx3cf43 : ∀ w ∈ wsJx3cf430, w ∈ lw_tbl := by decide +kernel
theorem inJ7 : ∀ w ∈ wsJ70, w ∈ lw_tbl := by decide +kernel
theorem inJ3 : ∀ w ∈ wsJ30, w ∈ lw_tbl := by decide +kernel
set_option maxRecDepth 20000 in
theorem ggX0_init_J7_fill_53178 : GoodIn wsX0_init wsJ7_fill_53178 := goodIn_r _ [21] (by decide +kernel) (by decide +kernel)
set_option maxRecDepth 20000 in
theorem gX0_init_J7_fill_53178 : GoodIn wsX0_init (va_wsS RX0 52 yJ7_fill_53178 wsJ7_fill_53178) := goodIn_app (goodIn_of _ (by decide +kernel)) ggX0_init_J7_fill_53178
theorem dX0_init_0 : decode cX0_init 0 = .ok (.aload_n 0, 1) := by decide +kernel
theorem dX0_init_1 : decode cX0_init 1 = .ok (.invokespecial 3, 3) := by decide +kernel
theorem dX0_init_4 : decode cX0_init 4 = .ok (.aload_n 0, 1) := by decide +kernel
theorem dX0_init_5 : decode cX0_init 5 = .ok (.iconst 0, 1) := by decide +kernel
theorem dX0_init_6 : decode cX0_init 6 = .ok (.putfield 9, 3) := by decide +kernel
theorem dX0_init_9 : decode cX0_init 9 = .ok (.aload_n 0, 1) := by decide +kernel
theorem dX0_init_10 : decode cX0_init 10 = .ok (.iconst 0, 1) := by decide +kernel
theorem dX0_init_11 : decode cX0_init 11 = .ok (.putfield 15, 3) := by decide +kernel
theorem dX0_init_14 : decode cX0_init 14 = .ok (.aload_n 0, 1) := by decide +kernel
theorem dX0_init_15 : decode cX0_init 15 = .ok (.iconst 0, 1) := by decide +kernel
theorem dX0_init_16 : decode cX0_init 16 = .ok (.putfield 18, 3) := by decide +kernel
theorem dX0_init_19 : decode cX0_init 19 = .ok (.aload_n 0, 1) := by decide +kernel
theorem dX0_init_20 : decode cX0_init 20 = .ok (.iconst 3, 1) := by decide +kernel
theorem dX0_init_21 : decode cX0_init 21 = .ok (.newarray .int, 2) := by decide +kernel
theorem dX0_init_23 : decode cX0_init 23 = .ok (.putfield 21, 3) := by decide +kernel
theorem dX0_init_26 : decode cX0_init 26 = .ok (.aload_n 0, 1) := by decide +kernel
theorem dX0_init_27 : decode cX0_init 27 = .ok (.iconst 3, 1) := by decide +kernel
theorem dX0_init_28 : decode cX0_init 28 = .ok (.newarray .int, 2) := by decide +kernel
theorem dX0_init_30 : decode cX0_init 30 = .ok (.putfield 25, 3) := by decide +kernel
theorem dX0_init_33 : decode cX0_init 33 = .ok (.aload_n 0, 1) := by decide +kernel
theorem dX0_init_34 : decode cX0_init 34 = .ok (.iconst 3, 1) := by decide +kernel
theorem dX0_init_35 : decode cX0_init 35 = .ok (.newarray .int, 2) := by decide +kernel
theorem dX0_init_37 : decode cX0_init 37 = .ok (.putfield 28, 3) := by decide +kernel
theorem dX0_init_40 : decode cX0_init 40 = .ok (.aload_n 0, 1) := by decide +kernel
theorem dX0_init_41 : decode cX0_init 41 = .ok (.bipush 15, 2) := by decide +kernel
theorem dX0_init_43 : decode cX0_init 43 = .ok (.newarray .int, 2) := by decide +kernel
theorem dX0_init_45 : decode cX0_init 45 = .ok (.putfield 31, 3) := by decide +kernel
theorem dX0_init_48 : decode cX0_init 48 = .ok (.aload_n 0, 1) := by decide +kernel
theorem dX0_init_49 : decode cX0_init 49 = .ok (.iconst 5, 1) := by decide +kernel
theorem dX0_init_50 : decode cX0_init 50 = .ok (.newarray .int, 2) := by decide +kernel
theorem dX0_init_52 : decode cX0_init 52 = .ok (.putfield 34, 3) := by decide +kernel
theorem dX0_init_55 : decode cX0_init 55 = .ok (.aload_n 0, 1) := by decide +kernel
theorem dX0_init_56 : decode cX0_init 56 = .ok (.iconst 5, 1) := by decide +kernel
theorem dX0_init_57 : decode cX0_init 57 = .ok (.newarray .int, 2) := by decide +kernel
theorem dX0_init_59 : decode cX0_init 59 = .ok (.putfield 37, 3) := by decide +kernel
theorem dX0_init_62 : decode cX0_init 62 = .ok (.aload_n 0, 1) := by decide +kernel
theorem dX0_init_63 : decode cX0_init 63 = .ok (.bipush 6, 2) := by decide +kernel
theorem dX0_init_65 : decode cX0_init 65 = .ok (.newarray .int, 2) := by decide +kernel
theorem dX0_init_67 : decode cX0_init 67 = .ok (.putfield 40, 3) := by decide +kernel
theorem dX0_init_70 : decode cX0_init 70 = .ok (.aload_n 0, 1) := by decide +kernel
theorem dX0_init_71 : decode cX0_init 71 = .ok (.bipush 6, 2) := by decide +kernel
theorem dX0_init_73 : decode cX0_init 73 = .ok (.newarray .int, 2) := by decide +kernel
theorem dX0_init_75 : decode cX0_init 75 = .ok (.putfield 43, 3) := by decide +kernel
theorem dX0_init_78 : decode cX0_init 78 = .ok (.aload_n 0, 1) := by decide +kernel
theorem dX0_init_79 : decode cX0_init 79 = .ok (.bipush 6, 2) := by decide +kernel
theorem dX0_init_81 : decode cX0_init 81 = .ok (.newarray .int, 2) := by decide +kernel
theorem dX0_init_83 : decode cX0_init 83 = .ok (.putfield 46, 3) := by decide +kernel
theorem dX0_init_86 : decode cX0_init 86 = .ok (.aload_n 0, 1) := by decide +kernel
theorem dX0_init_87 : decode cX0_init 87 = .ok (.bipush 6, 2) := by decide +kernel
theorem dX0_init_89 : decode cX0_init 89 = .ok (.newarray .int, 2) := by decide +kernel
theorem dX0_init_91 : decode cX0_init 91 = .ok (.putfield 49, 3) := by decide +kernel
theorem dX0_init_94 : decode cX0_init 94 = .ok (.aload_n 0, 1) := by decide +kernel
theorem dX0_init_95 : decode cX0_init 95 = .ok (.getfield 34, 3) := by decide +kernel
theorem dX0_init_98 : decode cX0_init 98 = .ok (.bipush 20, 2) := by decide +kernel
theorem dX0_init_100 : decode cX0_init 100 = .ok (.invokestatic 52, 3) := by decide +kernel
theorem dX0_init_103 : decode cX0_init 103 = .ok (.return_, 1) := by decide +kernel
set_option maxRecDepth 20000 in
theorem ggX0_clear_J7_fill_53178 : GoodIn wsX0_clear wsJ7_fill_53178 := goodIn_r _ [10] (by decide +kernel) (by decide +kernel)
set_option maxRecDepth 20000 in
theorem gX0_clear_J7_fill_53178 : GoodIn wsX0_clear (va_wsS RX0 52 yJ7_fill_53178 wsJ7_fill_53178) := goodIn_app (goodIn_of _ (by decide +kernel)) ggX0_clear_J7_fill_53178
theorem dX0_clear_0 : decode cX0_clear 0 = .ok (.aload_n 0, 1) := by decide +kernel
theorem dX0_clear_1 : decode cX0_clear 1 = .ok (.iconst 0, 1) := by decide +kernel
theorem dX0_clear_2 : decode cX0_clear 2 = .ok (.putfield 9, 3) := by decide +kernel
theorem dX0_clear_5 : decode cX0_clear 5 = .ok (.aload_n 0, 1) := by decide +kernel
theorem dX0_clear_6 : decode cX0_clear 6 = .ok (.iconst 0, 1) := by decide +kernel
theorem dX0_clear_7 : decode cX0_clear 7 = .ok (.putfield 15, 3) := by decide +kernel
theorem dX0_clear_10 : decode cX0_clear 10 = .ok (.aload_n 0, 1) := by decide +kernel
theorem dX0_clear_11 : decode cX0_clear 11 = .ok (.iconst 0, 1) := by decide +kernel
theorem dX0_clear_12 : decode cX0_clear 12 = .ok (.putfield 18, 3) := by decide +kernel
theorem dX0_clear_15 : decode cX0_clear 15 = .ok (.aload_n 0, 1) := by decide +kernel
theorem dX0_clear_16 : decode cX0_clear 16 = .ok (.getfield 31, 3) := by decide +kernel
theorem dX0_clear_19 : decode cX0_clear 19 = .ok (.iconst 0, 1) := by decide +kernel
theorem dX0_clear_20 : decode cX0_clear 20 = .ok (.invokestatic 52, 3) := by decide +kernel
theorem dX0_clear_23 : decode cX0_clear 23 = .ok (.aload_n 0, 1) := by decide +kernel
theorem dX0_clear_24 : decode cX0_clear 24 = .ok (.getfield 34, 3) := by decide +kernel
theorem dX0_clear_27 : decode cX0_clear 27 = .ok (.bipush 20, 2) := by decide +kernel
theorem dX0_clear_29 : decode cX0_clear 29 = .ok (.invokestatic 52, 3) := by decide +kernel
theorem dX0_clear_32 : decode cX0_clear 32 = .ok (.aload_n 0, 1) := by decide +kernel
theorem dX0_clear_33 : decode cX0_clear 33 = .ok (.getfield 37, 3) := by decide +kernel
theorem dX0_clear_36 : decode cX0_clear 36 = .ok (.iconst 0, 1) := by decide +kernel
theorem dX0_clear_37 : decode cX0_clear 37 = .ok (.invokestatic 52, 3) := by decide +kernel
theorem dX0_clear_40 : decode cX0_clear 40 = .ok (.return_, 1) := by decide +kernel
theorem dX0_copyFrom_0 : decode cX0_copyFrom 0 = .ok (.aload_n 0, 1) := by decide +kernel
theorem dX0_copyFrom_1 : decode cX0_copyFrom 1 = .ok (.aload_n 1, 1) := by decide +kernel
theorem dX0_copyFrom_2 : decode cX0_copyFrom 2 = .ok (.getfield 9, 3) := by decide +kernel
theorem dX0_copyFrom_5 : decode cX0_copyFrom 5 = .ok (.putfield 9, 3) := by decide +kernel
theorem dX0_copyFrom_8 : decode cX0_copyFrom 8 = .ok (.aload_n 0, 1) := by decide +kernel
theorem dX0_copyFrom_9 : decode cX0_copyFrom 9 = .ok (.aload_n 1, 1) := by decide +kernel
theorem dX0_copyFrom_10 : decode cX0_copyFrom 10 = .ok (.getfield 15, 3) := by decide +kernel
theorem dX0_copyFrom_13 : decode cX0_copyFrom 13 = .ok (.putfield 15, 3) := by decide +kernel
theorem dX0_copyFrom_16 : decode cX0_copyFrom 16 = .ok (.aload_n 0, 1) := by decide +kernel
theorem dX0_copyFrom_17 : decode cX0_copyFrom 17 = .ok (.aload_n 1, 1) := by decide +kernel
theorem dX0_copyFrom_18 : decode cX0_copyFrom 18 = .ok (.getfield 18, 3) := by decide +kernel
theorem dX0_copyFrom_21 : decode cX0_copyFrom 21 = .ok (.putfield 18, 3) := by decide +kernel
theorem dX0_copyFrom_24 : decode cX0_copyFrom 24 = .ok (.aload_n 1, 1) := by decide +kernel
theorem dX0_copyFrom_25 : decode cX0_copyFrom 25 = .ok (.getfield 21, 3) := by decide +kernel
theorem dX0_copyFrom_28 : decode cX0_copyFrom 28 = .ok (.iconst 0, 1) := by decide +kernel
theorem dX0_copyFrom_29 : decode cX0_copyFrom 29 = .ok (.aload_n 0, 1) := by decide +kernel
theorem dX0_copyFrom_30 : decode cX0_copyFrom 30 = .ok (.getfield 21, 3) := by decide +kernel
theorem dX0_copyFrom_33 : decode cX0_copyFrom 33 = .ok (.iconst 0, 1) := by decide +kernel
theorem dX0_copyFrom_34 : decode cX0_copyFrom 34 = .ok (.iconst 3, 1) := by decide +kernel
theorem dX0_copyFrom_35 : decode cX0_copyFrom 35 = .ok (.invokestatic 58, 3) := by decide +kernel
theorem dX0_copyFrom_38 : decode cX0_copyFrom 38 = .ok (.aload_n 1, 1) := by decide +kernel
theorem dX0_copyFrom_39 : decode cX0_copyFrom 39 = .ok (.getfield 25, 3) := by decide +kernel
theorem dX0_copyFrom_42 : decode cX0_copyFrom 42 = .ok (.iconst 0, 1) := by decide +kernel
theorem dX0_copyFrom_43 : decode cX0_copyFrom 43 = .ok (.aload_n 0, 1) := by decide +kernel
theorem dX0_copyFrom_44 : decode cX0_copyFrom 44 = .ok (.getfield 25, 3) := by decide +kernel
theorem dX0_copyFrom_47 : decode cX0_copyFrom 47 = .ok (.iconst 0, 1) := by decide +kernel
theorem dX0_copyFrom_48 : decode cX0_copyFrom 48 = .ok (.iconst 3, 1) := by decide +kernel
theorem dX0_copyFrom_49 : decode cX0_copyFrom 49 = .ok (.invokestatic 58, 3) := by decide +kernel
theorem dX0_copyFrom_52 : decode cX0_copyFrom 52 = .ok (.aload_n 1, 1) := by decide +kernel
theorem dX0_copyFrom_53 : decode cX0_copyFrom 53 = .ok (.getfield 28, 3) := by decide +kernel
theorem dX0_copyFrom_56 : decode cX0_copyFrom 56 = .ok (.iconst 0, 1) := by decide +kernel
theorem dX0_copyFrom_57 : decode cX0_copyFrom 57 = .ok (.aload_n 0, 1) := by decide +kernel
theorem dX0_copyFrom_58 : decode cX0_copyFrom 58 = .ok (.getfield 28, 3) := by decide +kernel
theorem dX0_copyFrom_61 : decode cX0_copyFrom 61 = .ok (.iconst 0, 1) := by decide +kernel
theorem dX0_copyFrom_62 : decode cX0_copyFrom 62 = .ok (.iconst 3, 1) := by decide +kernel
theorem dX0_copyFrom_63 : decode cX0_copyFrom 63 = .ok (.invokestatic 58, 3) := by decide +kernel
theorem dX0_copyFrom_66 : decode cX0_copyFrom 66 = .ok (.aload_n 1, 1) := by decide +kernel
theorem dX0_copyFrom_67 : decode cX0_copyFrom 67 = .ok (.getfield 31, 3) := by decide +kernel
theorem dX0_copyFrom_70 : decode cX0_copyFrom 70 = .ok (.iconst 0, 1) := by decide +kernel
theorem dX0_copyFrom_71 : decode cX0_copyFrom 71 = .ok (.aload_n 0, 1) := by decide +kernel
theorem dX0_copyFrom_72 : decode cX0_copyFrom 72 = .ok (.getfield 31, 3) := by decide +kernel
theorem dX0_copyFrom_75 : decode cX0_copyFrom 75 = .ok (.iconst 0, 1) := by decide +kernel
theorem dX0_copyFrom_76 : decode cX0_copyFrom 76 = .ok (.bipush 15, 2) := by decide +kernel
theorem dX0_copyFrom_78 : decode cX0_copyFrom 78 = .ok (.invokestatic 58, 3) := by decide +kernel
theorem dX0_copyFrom_81 : decode cX0_copyFrom 81 = .ok (.aload_n 1, 1) := by decide +kernel
theorem dX0_copyFrom_82 : decode cX0_copyFrom 82 = .ok (.getfield 34, 3) := by decide +kernel
theorem dX0_copyFrom_85 : decode cX0_copyFrom 85 = .ok (.iconst 0, 1) := by decide +kernel
theorem dX0_copyFrom_86 : decode cX0_copyFrom 86 = .ok (.aload_n 0, 1) := by decide +kernel
theorem dX0_copyFrom_87 : decode cX0_copyFrom 87 = .ok (.getfield 34, 3) := by decide +kernel
theorem dX0_copyFrom_90 : decode cX0_copyFrom 90 = .ok (.iconst 0, 1) := by decide +kernel
theorem dX0_copyFrom_91 : decode cX0_copyFrom 91 = .ok (.iconst 5, 1) := by decide +kernel
theorem dX0_copyFrom_92 : decode cX0_copyFrom 92 = .ok (.invokestatic 58, 3) := by decide +kernel
theorem dX0_copyFrom_95 : decode cX0_copyFrom 95 = .ok (.aload_n 1, 1) := by decide +kernel
theorem dX0_copyFrom_96 : decode cX0_copyFrom 96 = .ok (.getfield 37, 3) := by decide +kernel
theorem dX0_copyFrom_99 : decode cX0_copyFrom 99 = .ok (.iconst 0, 1) := by decide +kernel
theorem dX0_copyFrom_100 : decode cX0_copyFrom 100 = .ok (.aload_n 0, 1) := by decide +kernel
theorem dX0_copyFrom_101 : decode cX0_copyFrom 101 = .ok (.getfield 37, 3) := by decide +kernel
theorem dX0_copyFrom_104 : decode cX0_copyFrom 104 = .ok (.iconst 0, 1) := by decide +kernel
theorem dX0_copyFrom_105 : decode cX0_copyFrom 105 = .ok (.iconst 5, 1) := by decide +kernel
theorem dX0_copyFrom_106 : decode cX0_copyFrom 106 = .ok (.invokestatic 58, 3) := by decide +kernel
theorem dX0_copyFrom_109 : decode cX0_copyFrom 109 = .ok (.aload_n 1, 1) := by decide +kernel
theorem dX0_copyFrom_110 : decode cX0_copyFrom 110 = .ok (.getfield 40, 3) := by decide +kernel
theorem dX0_copyFrom_113 : decode cX0_copyFrom 113 = .ok (.iconst 0, 1) := by decide +kernel
theorem dX0_copyFrom_114 : decode cX0_copyFrom 114 = .ok (.aload_n 0, 1) := by decide +kernel
theorem dX0_copyFrom_115 : decode cX0_copyFrom 115 = .ok (.getfield 40, 3) := by decide +kernel
theorem dX0_copyFrom_118 : decode cX0_copyFrom 118 = .ok (.iconst 0, 1) := by decide +kernel
theorem dX0_copyFrom_119 : decode cX0_copyFrom 119 = .ok (.bipush 6, 2) := by decide +kernel
theorem dX0_copyFrom_121 : decode cX0_copyFrom 121 = .ok (.invokestatic 58, 3) := by decide +kernel
theorem dX0_copyFrom_124 : decode cX0_copyFrom 124 = .ok (.aload_n 1, 1) := by decide +kernel
theorem dX0_copyFrom_125 : decode cX0_copyFrom 125 = .ok (.getfield 43, 3) := by decide +kernel
theorem dX0_copyFrom_128 : decode cX0_copyFrom 128 = .ok (.iconst 0, 1) := by decide +kernel
theorem dX0_copyFrom_129 : decode cX0_copyFrom 129 = .ok (.aload_n 0, 1) := by decide +kernel
theorem dX0_copyFrom_130 : decode cX0_copyFrom 130 = .ok (.getfield 43, 3) := by decide +kernel
theorem dX0_copyFrom_133 : decode cX0_copyFrom 133 = .ok (.iconst 0, 1) := by decide +kernel
theorem dX0_copyFrom_134 : decode cX0_copyFrom 134 = .ok (.bipush 6, 2) := by decide +kernel
theorem dX0_copyFrom_136 : decode cX0_copyFrom 136 = .ok (.invokestatic 58, 3) := by decide +kernel
theorem dX0_copyFrom_139 : decode cX0_copyFrom 139 = .ok (.aload_n 1, 1) := by decide +kernel
theorem dX0_copyFrom_140 : decode cX0_copyFrom 140 = .ok (.getfield 46, 3) := by decide +kernel
theorem dX0_copyFrom_143 : decode cX0_copyFrom 143 = .ok (.iconst 0, 1) := by decide +kernel
theorem dX0_copyFrom_144 : decode cX0_copyFrom 144 = .ok (.aload_n 0, 1) := by decide +kernel
theorem dX0_copyFrom_145 : decode cX0_copyFrom 145 = .ok (.getfield 46, 3) := by decide +kernel
theorem dX0_copyFrom_148 : decode cX0_copyFrom 148 = .ok (.iconst 0, 1) := by decide +kernel
theorem dX0_copyFrom_149 : decode cX0_copyFrom 149 = .ok (.bipush 6, 2) := by decide +kernel
theorem dX0_copyFrom_151 : decode cX0_copyFrom 151 = .ok (.invokestatic 58, 3) := by decide +kernel
theorem dX0_copyFrom_154 : decode cX0_copyFrom 154 = .ok (.aload_n 1, 1) := by decide +kernel
theorem dX0_copyFrom_155 : decode cX0_copyFrom 155 = .ok (.getfield 49, 3) := by decide +kernel
theorem dX0_copyFrom_158 : decode cX0_copyFrom 158 = .ok (.iconst 0, 1) := by decide +kernel
theorem dX0_copyFrom_159 : decode cX0_copyFrom 159 = .ok (.aload_n 0, 1) := by decide +kernel
theorem dX0_copyFrom_160 : decode cX0_copyFrom 160 = .ok (.getfield 49, 3) := by decide +kernel
theorem dX0_copyFrom_163 : decode cX0_copyFrom 163 = .ok (.iconst 0, 1) := by decide +kernel
theorem dX0_copyFrom_164 : decode cX0_copyFrom 164 = .ok (.bipush 6, 2) := by decide +kernel
theorem dX0_copyFrom_166 : decode cX0_copyFrom 166 = .ok (.invokestatic 58, 3) := by decide +kernel
theorem dX0_copyFrom_169 : decode cX0_copyFrom 169 = .ok (.return_, 1) := by decide +kernel
set_option maxRecDepth 20000 in
theorem ggX0_hasGoose_X6_isWithin : GoodIn wsX0_hasGoose wsX6_isWithin := goodIn_r _ [4] (by decide +kernel) (by decide +kernel)
set_option maxRecDepth 20000 in
theorem gX0_hasGoose_X6_isWithin_n64 : GoodIn wsX0_hasGoose (wsX6_isWithin) := ggX0_hasGoose_X6_isWithin
theorem dX0_hasGoose_0 : decode cX0_hasGoose 0 = .ok (.iload_n 1, 1) := by decide +kernel
theorem dX0_hasGoose_1 : decode cX0_hasGoose 1 = .ok (.iconst 0, 1) := by decide +kernel
theorem dX0_hasGoose_2 : decode cX0_hasGoose 2 = .ok (.aload_n 0, 1) := by decide +kernel
theorem dX0_hasGoose_3 : decode cX0_hasGoose 3 = .ok (.getfield 9, 3) := by decide +kernel
theorem dX0_hasGoose_6 : decode cX0_hasGoose 6 = .ok (.iconst 1, 1) := by decide +kernel
theorem dX0_hasGoose_7 : decode cX0_hasGoose 7 = .ok (.isub, 1) := by decide +kernel
theorem dX0_hasGoose_8 : decode cX0_hasGoose 8 = .ok (.invokestatic 64, 3) := by decide +kernel
theorem dX0_hasGoose_11 : decode cX0_hasGoose 11 = .ok (.ireturn, 1) := by decide +kernel
theorem dX0_addGoose_0 : decode cX0_addGoose 0 = .ok (.aload_n 0, 1) := by decide +kernel
theorem dX0_addGoose_1 : decode cX0_addGoose 1 = .ok (.getfield 9, 3) := by decide +kernel
theorem dX0_addGoose_4 : decode cX0_addGoose 4 = .ok (.iconst 3, 1) := by decide +kernel
theorem dX0_addGoose_5 : decode cX0_addGoose 5 = .ok (.if_icmp .lt 4, 3) := by decide +kernel
theorem dX0_addGoose_8 : decode cX0_addGoose 8 = .ok (.return_, 1) := by decide +kernel
theorem dX0_addGoose_9 : decode cX0_addGoose 9 = .ok (.aload_n 0, 1) := by decide +kernel
theorem dX0_addGoose_10 : decode cX0_addGoose 10 = .ok (.getfield 21, 3) := by decide +kernel
theorem dX0_addGoose_13 : decode cX0_addGoose 13 = .ok (.aload_n 0, 1) := by decide +kernel
theorem dX0_addGoose_14 : decode cX0_addGoose 14 = .ok (.getfield 9, 3) := by decide +kernel
theorem dX0_addGoose_17 : decode cX0_addGoose 17 = .ok (.iload_n 1, 1) := by decide +kernel
theorem dX0_addGoose_18 : decode cX0_addGoose 18 = .ok (.iastore, 1) := by decide +kernel
theorem dX0_addGoose_19 : decode cX0_addGoose 19 = .ok (.aload_n 0, 1) := by decide +kernel
theorem dX0_addGoose_20 : decode cX0_addGoose 20 = .ok (.getfield 25, 3) := by decide +kernel
theorem dX0_addGoose_23 : decode cX0_addGoose 23 = .ok (.aload_n 0, 1) := by decide +kernel
theorem dX0_addGoose_24 : decode cX0_addGoose 24 = .ok (.getfield 9, 3) := by decide +kernel
theorem dX0_addGoose_27 : decode cX0_addGoose 27 = .ok (.iload_n 2, 1) := by decide +kernel
theorem dX0_addGoose_28 : decode cX0_addGoose 28 = .ok (.iastore, 1) := by decide +kernel
theorem dX0_addGoose_29 : decode cX0_addGoose 29 = .ok (.aload_n 0, 1) := by decide +kernel
theorem dX0_addGoose_30 : decode cX0_addGoose 30 = .ok (.getfield 28, 3) := by decide +kernel
theorem dX0_addGoose_33 : decode cX0_addGoose 33 = .ok (.aload_n 0, 1) := by decide +kernel
theorem dX0_addGoose_34 : decode cX0_addGoose 34 = .ok (.getfield 9, 3) := by decide +kernel
theorem dX0_addGoose_37 : decode cX0_addGoose 37 = .ok (.iload_n 3, 1) := by decide +kernel
theorem dX0_addGoose_38 : decode cX0_addGoose 38 = .ok (.iastore, 1) := by decide +kernel
theorem dX0_addGoose_39 : decode cX0_addGoose 39 = .ok (.aload_n 0, 1) := by decide +kernel
theorem dX0_addGoose_40 : decode cX0_addGoose 40 = .ok (.dup, 1) := by decide +kernel
theorem dX0_addGoose_41 : decode cX0_addGoose 41 = .ok (.getfield 9, 3) := by decide +kernel
theorem dX0_addGoose_44 : decode cX0_addGoose 44 = .ok (.iconst 1, 1) := by decide +kernel
theorem dX0_addGoose_45 : decode cX0_addGoose 45 = .ok (.iadd, 1) := by decide +kernel
theorem dX0_addGoose_46 : decode cX0_addGoose 46 = .ok (.putfield 9, 3) := by decide +kernel
theorem dX0_addGoose_49 : decode cX0_addGoose 49 = .ok (.return_, 1) := by decide +kernel
theorem dX0_held_0 : decode cX0_held 0 = .ok (.aload_n 0, 1) := by decide +kernel
theorem dX0_held_1 : decode cX0_held 1 = .ok (.getfield 31, 3) := by decide +kernel
theorem dX0_held_4 : decode cX0_held 4 = .ok (.iload_n 1, 1) := by decide +kernel
theorem dX0_held_5 : decode cX0_held 5 = .ok (.iconst 5, 1) := by decide +kernel
theorem dX0_held_6 : decode cX0_held 6 = .ok (.imul, 1) := by decide +kernel
theorem dX0_held_7 : decode cX0_held 7 = .ok (.iload_n 2, 1) := by decide +kernel
theorem dX0_held_8 : decode cX0_held 8 = .ok (.iadd, 1) := by decide +kernel
theorem dX0_held_9 : decode cX0_held 9 = .ok (.iaload, 1) := by decide +kernel
theorem dX0_held_10 : decode cX0_held 10 = .ok (.ireturn, 1) := by decide +kernel
set_option maxRecDepth 20000 in
theorem ggX0_feathersOf_X0_held : GoodIn wsX0_feathersOf wsX0_held := goodIn_r _ [5, 6, 7, 8, 9, 10, 11, 12, 13, 14, 15, 16, 17, 18, 19] (by decide +kernel) (by decide +kernel)
set_option maxRecDepth 20000 in
theorem gX0_feathersOf_X0_held : GoodIn wsX0_feathersOf (wsV RX0 68 RX0 yX0_held wsX0_held) := goodIn_app (goodIn_of _ (by decide +kernel)) ggX0_feathersOf_X0_held
theorem dX0_feathersOf_0 : decode cX0_feathersOf 0 = .ok (.iconst 0, 1) := by decide +kernel
theorem dX0_feathersOf_1 : decode cX0_feathersOf 1 = .ok (.istore_n 2, 1) := by decide +kernel
theorem dX0_feathersOf_2 : decode cX0_feathersOf 2 = .ok (.iconst 0, 1) := by decide +kernel
theorem dX0_feathersOf_3 : decode cX0_feathersOf 3 = .ok (.istore_n 3, 1) := by decide +kernel
theorem dX0_feathersOf_4 : decode cX0_feathersOf 4 = .ok (.iload_n 3, 1) := by decide +kernel
theorem dX0_feathersOf_5 : decode cX0_feathersOf 5 = .ok (.iconst 5, 1) := by decide +kernel
theorem dX0_feathersOf_6 : decode cX0_feathersOf 6 = .ok (.if_icmp .ge 18, 3) := by decide +kernel
theorem dX0_feathersOf_9 : decode cX0_feathersOf 9 = .ok (.iload_n 2, 1) := by decide +kernel
theorem dX0_feathersOf_10 : decode cX0_feathersOf 10 = .ok (.aload_n 0, 1) := by decide +kernel
theorem dX0_feathersOf_11 : decode cX0_feathersOf 11 = .ok (.iload_n 1, 1) := by decide +kernel
theorem dX0_feathersOf_12 : decode cX0_feathersOf 12 = .ok (.iload_n 3, 1) := by decide +kernel
theorem dX0_feathersOf_13 : decode cX0_feathersOf 13 = .ok (.invokevirtual 68, 3) := by decide +kernel
theorem dX0_feathersOf_16 : decode cX0_feathersOf 16 = .ok (.iadd, 1) := by decide +kernel
theorem dX0_feathersOf_17 : decode cX0_feathersOf 17 = .ok (.istore_n 2, 1) := by decide +kernel
theorem dX0_feathersOf_18 : decode cX0_feathersOf 18 = .ok (.iinc 3 1, 3) := by decide +kernel
theorem dX0_feathersOf_21 : decode cX0_feathersOf 21 = .ok (.goto (-17), 3) := by decide +kernel
theorem dX0_feathersOf_24 : decode cX0_feathersOf 24 = .ok (.iload_n 2, 1) := by decide +kernel
theorem dX0_feathersOf_25 : decode cX0_feathersOf 25 = .ok (.ireturn, 1) := by decide +kernel
set_option maxRecDepth 20000 in
theorem ggX0_bareGeese_X0_feathersOf : GoodIn wsX0_bareGeese wsX0_feathersOf := goodIn_r _ [6, 7, 8, 9, 5, 10, 11, 12, 13, 14, 15, 16, 17, 18, 19, 20, 21, 22, 23, 24] (by decide +kernel) (by decide +kernel)
set_option maxRecDepth 20000 in
theorem gX0_bareGeese_X0_feathersOf : GoodIn wsX0_bareGeese (wsV RX0 72 RX0 yX0_feathersOf wsX0_feathersOf) := goodIn_app (goodIn_of _ (by decide +kernel)) ggX0_bareGeese_X0_feathersOf
theorem dX0_bareGeese_0 : decode cX0_bareGeese 0 = .ok (.iconst 0, 1) := by decide +kernel
theorem dX0_bareGeese_1 : decode cX0_bareGeese 1 = .ok (.istore_n 1, 1) := by decide +kernel
theorem dX0_bareGeese_2 : decode cX0_bareGeese 2 = .ok (.iconst 0, 1) := by decide +kernel
theorem dX0_bareGeese_3 : decode cX0_bareGeese 3 = .ok (.istore_n 2, 1) := by decide +kernel
theorem dX0_bareGeese_4 : decode cX0_bareGeese 4 = .ok (.iload_n 2, 1) := by decide +kernel
theorem dX0_bareGeese_5 : decode cX0_bareGeese 5 = .ok (.aload_n 0, 1) := by decide +kernel
theorem dX0_bareGeese_6 : decode cX0_bareGeese 6 = .ok (.getfield 9, 3) := by decide +kernel
theorem dX0_bareGeese_9 : decode cX0_bareGeese 9 = .ok (.if_icmp .ge 23, 3) := by decide +kernel
theorem dX0_bareGeese_12 : decode cX0_bareGeese 12 = .ok (.aload_n 0, 1) := by decide +kernel
theorem dX0_bareGeese_13 : decode cX0_bareGeese 13 = .ok (.iload_n 2, 1) := by decide +kernel
theorem dX0_bareGeese_14 : decode cX0_bareGeese 14 = .ok (.invokevirtual 72, 3) := by decide +kernel
theorem dX0_bareGeese_17 : decode cX0_bareGeese 17 = .ok (.ifCond .ne 9, 3) := by decide +kernel
theorem dX0_bareGeese_20 : decode cX0_bareGeese 20 = .ok (.iload_n 1, 1) := by decide +kernel
theorem dX0_bareGeese_21 : decode cX0_bareGeese 21 = .ok (.iconst 1, 1) := by decide +kernel
theorem dX0_bareGeese_22 : decode cX0_bareGeese 22 = .ok (.iload_n 2, 1) := by decide +kernel
theorem dX0_bareGeese_23 : decode cX0_bareGeese 23 = .ok (.ishl, 1) := by decide +kernel
theorem dX0_bareGeese_24 : decode cX0_bareGeese 24 = .ok (.ior, 1) := by decide +kernel
theorem dX0_bareGeese_25 : decode cX0_bareGeese 25 = .ok (.istore_n 1, 1) := by decide +kernel
theorem dX0_bareGeese_26 : decode cX0_bareGeese 26 = .ok (.iinc 2 1, 3) := by decide +kernel
theorem dX0_bareGeese_29 : decode cX0_bareGeese 29 = .ok (.goto (-25), 3) := by decide +kernel
theorem dX0_bareGeese_32 : decode cX0_bareGeese 32 = .ok (.iload_n 1, 1) := by decide +kernel
theorem dX0_bareGeese_33 : decode cX0_bareGeese 33 = .ok (.ireturn, 1) := by decide +kernel
set_option maxRecDepth 20000 in
theorem ggX0_eggOwner_X0_held : GoodIn wsX0_eggOwner wsX0_held := goodIn_r _ [6, 7, 8, 9, 10, 11, 12, 13, 14, 15, 16, 17, 18, 19, 20] (by decide +kernel) (by decide +kernel)
set_option maxRecDepth 20000 in
theorem gX0_eggOwner_X0_held : GoodIn wsX0_eggOwner (wsV RX0 68 RX0 yX0_held wsX0_held) := goodIn_app (goodIn_of _ (by decide +kernel)) ggX0_eggOwner_X0_held
theorem dX0_eggOwner_0 : decode cX0_eggOwner 0 = .ok (.iconst 0, 1) := by decide +kernel
theorem dX0_eggOwner_1 : decode cX0_eggOwner 1 = .ok (.istore_n 2, 1) := by decide +kernel
theorem dX0_eggOwner_2 : decode cX0_eggOwner 2 = .ok (.iconst 1, 1) := by decide +kernel
theorem dX0_eggOwner_3 : decode cX0_eggOwner 3 = .ok (.istore_n 3, 1) := by decide +kernel
theorem dX0_eggOwner_4 : decode cX0_eggOwner 4 = .ok (.iload_n 3, 1) := by decide +kernel
theorem dX0_eggOwner_5 : decode cX0_eggOwner 5 = .ok (.iconst 5, 1) := by decide +kernel
theorem dX0_eggOwner_6 : decode cX0_eggOwner 6 = .ok (.if_icmp .ge 26, 3) := by decide +kernel
theorem dX0_eggOwner_9 : decode cX0_eggOwner 9 = .ok (.aload_n 0, 1) := by decide +kernel
theorem dX0_eggOwner_10 : decode cX0_eggOwner 10 = .ok (.iload_n 1, 1) := by decide +kernel
theorem dX0_eggOwner_11 : decode cX0_eggOwner 11 = .ok (.iload_n 3, 1) := by decide +kernel
theorem dX0_eggOwner_12 : decode cX0_eggOwner 12 = .ok (.invokevirtual 68, 3) := by decide +kernel
theorem dX0_eggOwner_15 : decode cX0_eggOwner 15 = .ok (.aload_n 0, 1) := by decide +kernel
theorem dX0_eggOwner_16 : decode cX0_eggOwner 16 = .ok (.iload_n 1, 1) := by decide +kernel
theorem dX0_eggOwner_17 : decode cX0_eggOwner 17 = .ok (.iload_n 2, 1) := by decide +kernel
theorem dX0_eggOwner_18 : decode cX0_eggOwner 18 = .ok (.invokevirtual 68, 3) := by decide +kernel
theorem dX0_eggOwner_21 : decode cX0_eggOwner 21 = .ok (.if_icmp .le 5, 3) := by decide +kernel
theorem dX0_eggOwner_24 : decode cX0_eggOwner 24 = .ok (.iload_n 3, 1) := by decide +kernel
theorem dX0_eggOwner_25 : decode cX0_eggOwner 25 = .ok (.istore_n 2, 1) := by decide +kernel
theorem dX0_eggOwner_26 : decode cX0_eggOwner 26 = .ok (.iinc 3 1, 3) := by decide +kernel
theorem dX0_eggOwner_29 : decode cX0_eggOwner 29 = .ok (.goto (-25), 3) := by decide +kernel
theorem dX0_eggOwner_32 : decode cX0_eggOwner 32 = .ok (.aload_n 0, 1) := by decide +kernel
theorem dX0_eggOwner_33 : decode cX0_eggOwner 33 = .ok (.iload_n 1, 1) := by decide +kernel
theorem dX0_eggOwner_34 : decode cX0_eggOwner 34 = .ok (.iload_n 2, 1) := by decide +kernel
theorem dX0_eggOwner_35 : decode cX0_eggOwner 35 = .ok (.invokevirtual 68, 3) := by decide +kernel
theorem dX0_eggOwner_38 : decode cX0_eggOwner 38 = .ok (.ifCond .ne 6, 3) := by decide +kernel
theorem dX0_eggOwner_41 : decode cX0_eggOwner 41 = .ok (.bipush (-4), 2) := by decide +kernel
theorem dX0_eggOwner_43 : decode cX0_eggOwner 43 = .ok (.ireturn, 1) := by decide +kernel
theorem dX0_eggOwner_44 : decode cX0_eggOwner 44 = .ok (.aload_n 0, 1) := by decide +kernel
theorem dX0_eggOwner_45 : decode cX0_eggOwner 45 = .ok (.iload_n 1, 1) := by decide +kernel
theorem dX0_eggOwner_46 : decode cX0_eggOwner 46 = .ok (.aload_n 0, 1) := by decide +kernel
theorem dX0_eggOwner_47 : decode cX0_eggOwner 47 = .ok (.getfield 25, 3) := by decide +kernel
theorem dX0_eggOwner_50 : decode cX0_eggOwner 50 = .ok (.iload_n 1, 1) := by decide +kernel
theorem dX0_eggOwner_51 : decode cX0_eggOwner 51 = .ok (.iaload, 1) := by decide +kernel
theorem dX0_eggOwner_52 : decode cX0_eggOwner 52 = .ok (.invokevirtual 68, 3) := by decide +kernel
theorem dX0_eggOwner_55 : decode cX0_eggOwner 55 = .ok (.aload_n 0, 1) := by decide +kernel
theorem dX0_eggOwner_56 : decode cX0_eggOwner 56 = .ok (.iload_n 1, 1) := by decide +kernel
theorem dX0_eggOwner_57 : decode cX0_eggOwner 57 = .ok (.iload_n 2, 1) := by decide +kernel
theorem dX0_eggOwner_58 : decode cX0_eggOwner 58 = .ok (.invokevirtual 68, 3) := by decide +kernel
theorem dX0_eggOwner_61 : decode cX0_eggOwner 61 = .ok (.if_icmp .ne 12, 3) := by decide +kernel
theorem dX0_eggOwner_64 : decode cX0_eggOwner 64 = .ok (.aload_n 0, 1) := by decide +kernel
theorem dX0_eggOwner_65 : decode cX0_eggOwner 65 = .ok (.getfield 25, 3) := by decide +kernel
theorem dX0_eggOwner_68 : decode cX0_eggOwner 68 = .ok (.iload_n 1, 1) := by decide +kernel
theorem dX0_eggOwner_69 : decode cX0_eggOwner 69 = .ok (.iaload, 1) := by decide +kernel
theorem dX0_eggOwner_70 : decode cX0_eggOwner 70 = .ok (.goto 4, 3) := by decide +kernel
theorem dX0_eggOwner_73 : decode cX0_eggOwner 73 = .ok (.iload_n 2, 1) := by decide +kernel
theorem dX0_eggOwner_74 : decode cX0_eggOwner 74 = .ok (.ireturn, 1) := by decide +kernel
set_option maxRecDepth 20000 in
theorem ggX0_geeseWithEggOf_X0_eggOwner : GoodIn wsX0_geeseWithEggOf wsX0_eggOwner := goodIn_r _ [6, 7, 8, 9, 10, 5, 11, 12, 13, 14, 15, 16, 17, 18, 19, 20, 21, 22, 23, 24, 25] (by decide +kernel) (by decide +kernel)
set_option maxRecDepth 20000 in
theorem gX0_geeseWithEggOf_X0_eggOwner : GoodIn wsX0_geeseWithEggOf (wsV RX0 76 RX0 yX0_eggOwner wsX0_eggOwner) := goodIn_app (goodIn_of _ (by decide +kernel)) ggX0_geeseWithEggOf_X0_eggOwner
theorem dX0_geeseWithEggOf_0 : decode cX0_geeseWithEggOf 0 = .ok (.iconst 0, 1) := by decide +kernel
theorem dX0_geeseWithEggOf_1 : decode cX0_geeseWithEggOf 1 = .ok (.istore_n 2, 1) := by decide +kernel
theorem dX0_geeseWithEggOf_2 : decode cX0_geeseWithEggOf 2 = .ok (.iconst 0, 1) := by decide +kernel
theorem dX0_geeseWithEggOf_3 : decode cX0_geeseWithEggOf 3 = .ok (.istore_n 3, 1) := by decide +kernel
theorem dX0_geeseWithEggOf_4 : decode cX0_geeseWithEggOf 4 = .ok (.iload_n 3, 1) := by decide +kernel
theorem dX0_geeseWithEggOf_5 : decode cX0_geeseWithEggOf 5 = .ok (.aload_n 0, 1) := by decide +kernel
theorem dX0_geeseWithEggOf_6 : decode cX0_geeseWithEggOf 6 = .ok (.getfield 9, 3) := by decide +kernel
theorem dX0_geeseWithEggOf_9 : decode cX0_geeseWithEggOf 9 = .ok (.if_icmp .ge 24, 3) := by decide +kernel
theorem dX0_geeseWithEggOf_12 : decode cX0_geeseWithEggOf 12 = .ok (.aload_n 0, 1) := by decide +kernel
theorem dX0_geeseWithEggOf_13 : decode cX0_geeseWithEggOf 13 = .ok (.iload_n 3, 1) := by decide +kernel
theorem dX0_geeseWithEggOf_14 : decode cX0_geeseWithEggOf 14 = .ok (.invokevirtual 76, 3) := by decide +kernel
theorem dX0_geeseWithEggOf_17 : decode cX0_geeseWithEggOf 17 = .ok (.iload_n 1, 1) := by decide +kernel
theorem dX0_geeseWithEggOf_18 : decode cX0_geeseWithEggOf 18 = .ok (.if_icmp .ne 9, 3) := by decide +kernel
theorem dX0_geeseWithEggOf_21 : decode cX0_geeseWithEggOf 21 = .ok (.iload_n 2, 1) := by decide +kernel
theorem dX0_geeseWithEggOf_22 : decode cX0_geeseWithEggOf 22 = .ok (.iconst 1, 1) := by decide +kernel
theorem dX0_geeseWithEggOf_23 : decode cX0_geeseWithEggOf 23 = .ok (.iload_n 3, 1) := by decide +kernel
theorem dX0_geeseWithEggOf_24 : decode cX0_geeseWithEggOf 24 = .ok (.ishl, 1) := by decide +kernel
theorem dX0_geeseWithEggOf_25 : decode cX0_geeseWithEggOf 25 = .ok (.ior, 1) := by decide +kernel
theorem dX0_geeseWithEggOf_26 : decode cX0_geeseWithEggOf 26 = .ok (.istore_n 2, 1) := by decide +kernel
theorem dX0_geeseWithEggOf_27 : decode cX0_geeseWithEggOf 27 = .ok (.iinc 3 1, 3) := by decide +kernel
theorem dX0_geeseWithEggOf_30 : decode cX0_geeseWithEggOf 30 = .ok (.goto (-26), 3) := by decide +kernel
theorem dX0_geeseWithEggOf_33 : decode cX0_geeseWithEggOf 33 = .ok (.iload_n 2, 1) := by decide +kernel
theorem dX0_geeseWithEggOf_34 : decode cX0_geeseWithEggOf 34 = .ok (.ireturn, 1) := by decide +kernel
set_option maxRecDepth 20000 in
theorem ggX0_worth_X0_held : GoodIn wsX0_worth wsX0_held := goodIn_r _ [8, 9, 10, 11, 12, 13, 14, 15, 16, 17, 18, 19, 20, 21, 22] (by decide +kernel) (by decide +kernel)
set_option maxRecDepth 20000 in
theorem gX0_worth_X0_held : GoodIn wsX0_worth (wsV RX0 68 RX0 yX0_held wsX0_held) := goodIn_app (goodIn_of _ (by decide +kernel)) ggX0_worth_X0_held
theorem dX0_worth_0 : decode cX0_worth 0 = .ok (.aload_n 0, 1) := by decide +kernel
theorem dX0_worth_1 : decode cX0_worth 1 = .ok (.getfield 34, 3) := by decide +kernel
theorem dX0_worth_4 : decode cX0_worth 4 = .ok (.iload_n 1, 1) := by decide +kernel
theorem dX0_worth_5 : decode cX0_worth 5 = .ok (.iaload, 1) := by decide +kernel
theorem dX0_worth_6 : decode cX0_worth 6 = .ok (.istore_n 2, 1) := by decide +kernel
theorem dX0_worth_7 : decode cX0_worth 7 = .ok (.iconst 0, 1) := by decide +kernel
theorem dX0_worth_8 : decode cX0_worth 8 = .ok (.istore_n 3, 1) := by decide +kernel
theorem dX0_worth_9 : decode cX0_worth 9 = .ok (.iload_n 3, 1) := by decide +kernel
theorem dX0_worth_10 : decode cX0_worth 10 = .ok (.aload_n 0, 1) := by decide +kernel
theorem dX0_worth_11 : decode cX0_worth 11 = .ok (.getfield 9, 3) := by decide +kernel
theorem dX0_worth_14 : decode cX0_worth 14 = .ok (.if_icmp .ge 25, 3) := by decide +kernel
theorem dX0_worth_17 : decode cX0_worth 17 = .ok (.iload_n 2, 1) := by decide +kernel
theorem dX0_worth_18 : decode cX0_worth 18 = .ok (.aload_n 0, 1) := by decide +kernel
theorem dX0_worth_19 : decode cX0_worth 19 = .ok (.iload_n 3, 1) := by decide +kernel
theorem dX0_worth_20 : decode cX0_worth 20 = .ok (.iload_n 1, 1) := by decide +kernel
theorem dX0_worth_21 : decode cX0_worth 21 = .ok (.invokevirtual 68, 3) := by decide +kernel
theorem dX0_worth_24 : decode cX0_worth 24 = .ok (.aload_n 0, 1) := by decide +kernel
theorem dX0_worth_25 : decode cX0_worth 25 = .ok (.getfield 28, 3) := by decide +kernel
theorem dX0_worth_28 : decode cX0_worth 28 = .ok (.iload_n 3, 1) := by decide +kernel
theorem dX0_worth_29 : decode cX0_worth 29 = .ok (.iaload, 1) := by decide +kernel
theorem dX0_worth_30 : decode cX0_worth 30 = .ok (.imul, 1) := by decide +kernel
theorem dX0_worth_31 : decode cX0_worth 31 = .ok (.iadd, 1) := by decide +kernel
theorem dX0_worth_32 : decode cX0_worth 32 = .ok (.istore_n 2, 1) := by decide +kernel
theorem dX0_worth_33 : decode cX0_worth 33 = .ok (.iinc 3 1, 3) := by decide +kernel
theorem dX0_worth_36 : decode cX0_worth 36 = .ok (.goto (-27), 3) := by decide +kernel
theorem dX0_worth_39 : decode cX0_worth 39 = .ok (.iload_n 2, 1) := by decide +kernel
theorem dX0_worth_40 : decode cX0_worth 40 = .ok (.ireturn, 1) := by decide +kernel
set_option maxRecDepth 20000 in
theorem ggX0_ofOwner_X0_worth : GoodIn wsX0_ofOwner wsX0_worth := goodIn_r _ [7, 1, 8, 9, 10, 11, 12, 6, 13, 14, 24, 25, 26, 27, 28, 29, 30, 31, 32, 33, 34, 35, 36] (by decide +kernel) (by decide +kernel)
set_option maxRecDepth 20000 in
theorem gX0_ofOwner_X0_worth : GoodIn wsX0_ofOwner (wsV RX0 79 RX0 yX0_worth wsX0_worth) := goodIn_app (goodIn_of _ (by decide +kernel)) ggX0_ofOwner_X0_worth
set_option maxRecDepth 20000 in
theorem ggX0_ofOwner_X0_geeseWithEggOf : GoodIn wsX0_ofOwner wsX0_geeseWithEggOf := goodIn_r _ [18, 8, 19, 20, 21, 6, 22, 23, 10, 11, 12, 13, 14, 24, 25, 26, 27, 28, 29, 30, 31, 32, 33, 34, 35, 36] (by decide +kernel) (by decide +kernel)
set_option maxRecDepth 20000 in
theorem gX0_ofOwner_X0_geeseWithEggOf : GoodIn wsX0_ofOwner (wsV RX0 82 RX0 yX0_geeseWithEggOf wsX0_geeseWithEggOf) := goodIn_app (goodIn_of _ (by decide +kernel)) ggX0_ofOwner_X0_geeseWithEggOf
theorem dX0_ofOwner_0 : decode cX0_ofOwner 0 = .ok (.iload_n 2, 1) := by decide +kernel
theorem dX0_ofOwner_1 : decode cX0_ofOwner 1 = .ok (.tableswitch 57 0 3 #[31, 38, 45, 51], 31) := by decide +kernel
theorem dX0_ofOwner_32 : decode cX0_ofOwner 32 = .ok (.aload_n 0, 1) := by decide +kernel
theorem dX0_ofOwner_33 : decode cX0_ofOwner 33 = .ok (.getfield 34, 3) := by decide +kernel
theorem dX0_ofOwner_36 : decode cX0_ofOwner 36 = .ok (.iload_n 1, 1) := by decide +kernel
theorem dX0_ofOwner_37 : decode cX0_ofOwner 37 = .ok (.iaload, 1) := by decide +kernel
theorem dX0_ofOwner_38 : decode cX0_ofOwner 38 = .ok (.ireturn, 1) := by decide +kernel
theorem dX0_ofOwner_39 : decode cX0_ofOwner 39 = .ok (.aload_n 0, 1) := by decide +kernel
theorem dX0_ofOwner_40 : decode cX0_ofOwner 40 = .ok (.getfield 37, 3) := by decide +kernel
theorem dX0_ofOwner_43 : decode cX0_ofOwner 43 = .ok (.iload_n 1, 1) := by decide +kernel
theorem dX0_ofOwner_44 : decode cX0_ofOwner 44 = .ok (.iaload, 1) := by decide +kernel
theorem dX0_ofOwner_45 : decode cX0_ofOwner 45 = .ok (.ireturn, 1) := by decide +kernel
theorem dX0_ofOwner_46 : decode cX0_ofOwner 46 = .ok (.aload_n 0, 1) := by decide +kernel
theorem dX0_ofOwner_47 : decode cX0_ofOwner 47 = .ok (.iload_n 1, 1) := by decide +kernel
theorem dX0_ofOwner_48 : decode cX0_ofOwner 48 = .ok (.invokevirtual 79, 3) := by decide +kernel
theorem dX0_ofOwner_51 : decode cX0_ofOwner 51 = .ok (.ireturn, 1) := by decide +kernel
theorem dX0_ofOwner_52 : decode cX0_ofOwner 52 = .ok (.aload_n 0, 1) := by decide +kernel
theorem dX0_ofOwner_53 : decode cX0_ofOwner 53 = .ok (.iload_n 1, 1) := by decide +kernel
theorem dX0_ofOwner_54 : decode cX0_ofOwner 54 = .ok (.invokevirtual 82, 3) := by decide +kernel
theorem dX0_ofOwner_57 : decode cX0_ofOwner 57 = .ok (.ireturn, 1) := by decide +kernel
theorem dX0_ofOwner_58 : decode cX0_ofOwner 58 = .ok (.iconst (-1), 1) := by decide +kernel
theorem dX0_ofOwner_59 : decode cX0_ofOwner 59 = .ok (.ireturn, 1) := by decide +kernel
set_option maxRecDepth 20000 in
theorem ggX0_isTrade_X6_isOwner : GoodIn wsX0_isTrade wsX6_isOwner := goodIn_r _ [3, 4, 5, 2, 6] (by decide +kernel) (by decide +kernel)
set_option maxRecDepth 20000 in
theorem gX0_isTrade_X6_isOwner_n85 : GoodIn wsX0_isTrade (wsX6_isOwner) := ggX0_isTrade_X6_isOwner
set_option maxRecDepth 20000 in
theorem ggX0_isTrade_X0_hasGoose : GoodIn wsX0_isTrade wsX0_hasGoose := goodIn_r _ [11, 12, 5, 2, 6, 13, 14, 15, 16, 17, 18, 19, 20, 21, 22, 23, 24, 25] (by decide +kernel) (by decide +kernel)
set_option maxRecDepth 20000 in
theorem gX0_isTrade_X0_hasGoose : GoodIn wsX0_isTrade (wsV RX0 89 RX0 yX0_hasGoose wsX0_hasGoose) := goodIn_app (goodIn_of _ (by decide +kernel)) ggX0_isTrade_X0_hasGoose
set_option maxRecDepth 20000 in
theorem ggX0_isTrade_X6_isWithin : GoodIn wsX0_isTrade wsX6_isWithin := goodIn_r _ [6] (by decide +kernel) (by decide +kernel)
set_option maxRecDepth 20000 in
theorem gX0_isTrade_X6_isWithin_n64 : GoodIn wsX0_isTrade (wsX6_isWithin) := ggX0_isTrade_X6_isWithin
theorem dX0_isTrade_0 : decode cX0_isTrade 0 = .ok (.iload_n 1, 1) := by decide +kernel
theorem dX0_isTrade_1 : decode cX0_isTrade 1 = .ok (.invokestatic 85, 3) := by decide +kernel
theorem dX0_isTrade_4 : decode cX0_isTrade 4 = .ok (.ifCond .eq 38, 3) := by decide +kernel
theorem dX0_isTrade_7 : decode cX0_isTrade 7 = .ok (.iload_n 2, 1) := by decide +kernel
theorem dX0_isTrade_8 : decode cX0_isTrade 8 = .ok (.invokestatic 85, 3) := by decide +kernel
theorem dX0_isTrade_11 : decode cX0_isTrade 11 = .ok (.ifCond .eq 31, 3) := by decide +kernel
theorem dX0_isTrade_14 : decode cX0_isTrade 14 = .ok (.iload_n 1, 1) := by decide +kernel
theorem dX0_isTrade_15 : decode cX0_isTrade 15 = .ok (.iload_n 2, 1) := by decide +kernel
theorem dX0_isTrade_16 : decode cX0_isTrade 16 = .ok (.if_icmp .eq 26, 3) := by decide +kernel
theorem dX0_isTrade_19 : decode cX0_isTrade 19 = .ok (.aload_n 0, 1) := by decide +kernel
theorem dX0_isTrade_20 : decode cX0_isTrade 20 = .ok (.iload_n 3, 1) := by decide +kernel
theorem dX0_isTrade_21 : decode cX0_isTrade 21 = .ok (.invokevirtual 89, 3) := by decide +kernel
theorem dX0_isTrade_24 : decode cX0_isTrade 24 = .ok (.ifCond .eq 18, 3) := by decide +kernel
theorem dX0_isTrade_27 : decode cX0_isTrade 27 = .ok (.iload 4, 2) := by decide +kernel
theorem dX0_isTrade_29 : decode cX0_isTrade 29 = .ok (.iconst 1, 1) := by decide +kernel
theorem dX0_isTrade_30 : decode cX0_isTrade 30 = .ok (.bipush 9, 2) := by decide +kernel
theorem dX0_isTrade_32 : decode cX0_isTrade 32 = .ok (.invokestatic 64, 3) := by decide +kernel
theorem dX0_isTrade_35 : decode cX0_isTrade 35 = .ok (.ifCond .eq 7, 3) := by decide +kernel
theorem dX0_isTrade_38 : decode cX0_isTrade 38 = .ok (.iconst 1, 1) := by decide +kernel
theorem dX0_isTrade_39 : decode cX0_isTrade 39 = .ok (.goto 4, 3) := by decide +kernel
theorem dX0_isTrade_42 : decode cX0_isTrade 42 = .ok (.iconst 0, 1) := by decide +kernel
theorem dX0_isTrade_43 : decode cX0_isTrade 43 = .ok (.ireturn, 1) := by decide +kernel
set_option maxRecDepth 20000 in
theorem ggX0_canPluck_X0_held : GoodIn wsX0_canPluck wsX0_held := goodIn_r _ [5, 6, 7, 8, 9, 10, 11, 12, 13, 14, 15, 16, 17, 18, 19] (by decide +kernel) (by decide +kernel)
set_option maxRecDepth 20000 in
theorem gX0_canPluck_X0_held : GoodIn wsX0_canPluck (wsV RX0 68 RX0 yX0_held wsX0_held) := goodIn_app (goodIn_of _ (by decide +kernel)) ggX0_canPluck_X0_held
theorem dX0_canPluck_0 : decode cX0_canPluck 0 = .ok (.aload_n 0, 1) := by decide +kernel
theorem dX0_canPluck_1 : decode cX0_canPluck 1 = .ok (.iload_n 3, 1) := by decide +kernel
theorem dX0_canPluck_2 : decode cX0_canPluck 2 = .ok (.iload_n 2, 1) := by decide +kernel
theorem dX0_canPluck_3 : decode cX0_canPluck 3 = .ok (.invokevirtual 68, 3) := by decide +kernel
theorem dX0_canPluck_6 : decode cX0_canPluck 6 = .ok (.iload 4, 2) := by decide +kernel
theorem dX0_canPluck_8 : decode cX0_canPluck 8 = .ok (.if_icmp .lt 21, 3) := by decide +kernel
theorem dX0_canPluck_11 : decode cX0_canPluck 11 = .ok (.aload_n 0, 1) := by decide +kernel
theorem dX0_canPluck_12 : decode cX0_canPluck 12 = .ok (.iload_n 3, 1) := by decide +kernel
theorem dX0_canPluck_13 : decode cX0_canPluck 13 = .ok (.iload_n 1, 1) := by decide +kernel
theorem dX0_canPluck_14 : decode cX0_canPluck 14 = .ok (.invokevirtual 68, 3) := by decide +kernel
theorem dX0_canPluck_17 : decode cX0_canPluck 17 = .ok (.iload 4, 2) := by decide +kernel
theorem dX0_canPluck_19 : decode cX0_canPluck 19 = .ok (.iadd, 1) := by decide +kernel
theorem dX0_canPluck_20 : decode cX0_canPluck 20 = .ok (.bipush 99, 2) := by decide +kernel
theorem dX0_canPluck_22 : decode cX0_canPluck 22 = .ok (.if_icmp .gt 7, 3) := by decide +kernel
theorem dX0_canPluck_25 : decode cX0_canPluck 25 = .ok (.iconst 1, 1) := by decide +kernel
theorem dX0_canPluck_26 : decode cX0_canPluck 26 = .ok (.goto 4, 3) := by decide +kernel
theorem dX0_canPluck_29 : decode cX0_canPluck 29 = .ok (.iconst 0, 1) := by decide +kernel
theorem dX0_canPluck_30 : decode cX0_canPluck 30 = .ok (.ireturn, 1) := by decide +kernel
set_option maxRecDepth 20000 in
theorem ggX0_canTrade_X0_canPluck : GoodIn wsX0_canTrade wsX0_canPluck := goodIn_r _ [7, 8, 9, 10, 6, 11, 12, 13, 14, 15, 16, 17, 18, 19, 20, 21, 22, 23, 24, 25] (by decide +kernel) (by decide +kernel)
set_option maxRecDepth 20000 in
theorem gX0_canTrade_X0_canPluck : GoodIn wsX0_canTrade (wsV RX0 92 RX0 yX0_canPluck wsX0_canPluck) := goodIn_app (goodIn_of _ (by decide +kernel)) ggX0_canTrade_X0_canPluck
theorem dX0_canTrade_0 : decode cX0_canTrade 0 = .ok (.iload 4, 2) := by decide +kernel
theorem dX0_canTrade_2 : decode cX0_canTrade 2 = .ok (.aload_n 0, 1) := by decide +kernel
theorem dX0_canTrade_3 : decode cX0_canTrade 3 = .ok (.getfield 28, 3) := by decide +kernel
theorem dX0_canTrade_6 : decode cX0_canTrade 6 = .ok (.iload_n 3, 1) := by decide +kernel
theorem dX0_canTrade_7 : decode cX0_canTrade 7 = .ok (.iaload, 1) := by decide +kernel
theorem dX0_canTrade_8 : decode cX0_canTrade 8 = .ok (.imul, 1) := by decide +kernel
theorem dX0_canTrade_9 : decode cX0_canTrade 9 = .ok (.istore 5, 2) := by decide +kernel
theorem dX0_canTrade_11 : decode cX0_canTrade 11 = .ok (.aload_n 0, 1) := by decide +kernel
theorem dX0_canTrade_12 : decode cX0_canTrade 12 = .ok (.iload_n 1, 1) := by decide +kernel
theorem dX0_canTrade_13 : decode cX0_canTrade 13 = .ok (.iload_n 2, 1) := by decide +kernel
theorem dX0_canTrade_14 : decode cX0_canTrade 14 = .ok (.iload_n 3, 1) := by decide +kernel
theorem dX0_canTrade_15 : decode cX0_canTrade 15 = .ok (.iload 4, 2) := by decide +kernel
theorem dX0_canTrade_17 : decode cX0_canTrade 17 = .ok (.invokevirtual 92, 3) := by decide +kernel
theorem dX0_canTrade_20 : decode cX0_canTrade 20 = .ok (.ifCond .eq 33, 3) := by decide +kernel
theorem dX0_canTrade_23 : decode cX0_canTrade 23 = .ok (.aload_n 0, 1) := by decide +kernel
theorem dX0_canTrade_24 : decode cX0_canTrade 24 = .ok (.getfield 34, 3) := by decide +kernel
theorem dX0_canTrade_27 : decode cX0_canTrade 27 = .ok (.iload_n 1, 1) := by decide +kernel
theorem dX0_canTrade_28 : decode cX0_canTrade 28 = .ok (.iaload, 1) := by decide +kernel
theorem dX0_canTrade_29 : decode cX0_canTrade 29 = .ok (.iload 5, 2) := by decide +kernel
theorem dX0_canTrade_31 : decode cX0_canTrade 31 = .ok (.if_icmp .lt 22, 3) := by decide +kernel
theorem dX0_canTrade_34 : decode cX0_canTrade 34 = .ok (.aload_n 0, 1) := by decide +kernel
theorem dX0_canTrade_35 : decode cX0_canTrade 35 = .ok (.getfield 34, 3) := by decide +kernel
theorem dX0_canTrade_38 : decode cX0_canTrade 38 = .ok (.iload_n 2, 1) := by decide +kernel
theorem dX0_canTrade_39 : decode cX0_canTrade 39 = .ok (.iaload, 1) := by decide +kernel
theorem dX0_canTrade_40 : decode cX0_canTrade 40 = .ok (.iload 5, 2) := by decide +kernel
theorem dX0_canTrade_42 : decode cX0_canTrade 42 = .ok (.iadd, 1) := by decide +kernel
theorem dX0_canTrade_43 : decode cX0_canTrade 43 = .ok (.sipush 999, 3) := by decide +kernel
theorem dX0_canTrade_46 : decode cX0_canTrade 46 = .ok (.if_icmp .gt 7, 3) := by decide +kernel
theorem dX0_canTrade_49 : decode cX0_canTrade 49 = .ok (.iconst 1, 1) := by decide +kernel
theorem dX0_canTrade_50 : decode cX0_canTrade 50 = .ok (.goto 4, 3) := by decide +kernel
theorem dX0_canTrade_53 : decode cX0_canTrade 53 = .ok (.iconst 0, 1) := by decide +kernel
theorem dX0_canTrade_54 : decode cX0_canTrade 54 = .ok (.ireturn, 1) := by decide +kernel
theorem dX0_moveFeathers_0 : decode cX0_moveFeathers 0 = .ok (.aload_n 0, 1) := by decide +kernel
theorem dX0_moveFeathers_1 : decode cX0_moveFeathers 1 = .ok (.getfield 31, 3) := by decide +kernel
theorem dX0_moveFeathers_4 : decode cX0_moveFeathers 4 = .ok (.iload_n 3, 1) := by decide +kernel
theorem dX0_moveFeathers_5 : decode cX0_moveFeathers 5 = .ok (.iconst 5, 1) := by decide +kernel
theorem dX0_moveFeathers_6 : decode cX0_moveFeathers 6 = .ok (.imul, 1) := by decide +kernel
theorem dX0_moveFeathers_7 : decode cX0_moveFeathers 7 = .ok (.iload_n 2, 1) := by decide +kernel
theorem dX0_moveFeathers_8 : decode cX0_moveFeathers 8 = .ok (.iadd, 1) := by decide +kernel
theorem dX0_moveFeathers_9 : decode cX0_moveFeathers 9 = .ok (.dup2, 1) := by decide +kernel
theorem dX0_moveFeathers_10 : decode cX0_moveFeathers 10 = .ok (.iaload, 1) := by decide +kernel
theorem dX0_moveFeathers_11 : decode cX0_moveFeathers 11 = .ok (.iload 4, 2) := by decide +kernel
theorem dX0_moveFeathers_13 : decode cX0_moveFeathers 13 = .ok (.isub, 1) := by decide +kernel
theorem dX0_moveFeathers_14 : decode cX0_moveFeathers 14 = .ok (.iastore, 1) := by decide +kernel
theorem dX0_moveFeathers_15 : decode cX0_moveFeathers 15 = .ok (.aload_n 0, 1) := by decide +kernel
theorem dX0_moveFeathers_16 : decode cX0_moveFeathers 16 = .ok (.getfield 31, 3) := by decide +kernel
theorem dX0_moveFeathers_19 : decode cX0_moveFeathers 19 = .ok (.iload_n 3, 1) := by decide +kernel
theorem dX0_moveFeathers_20 : decode cX0_moveFeathers 20 = .ok (.iconst 5, 1) := by decide +kernel
theorem dX0_moveFeathers_21 : decode cX0_moveFeathers 21 = .ok (.imul, 1) := by decide +kernel
theorem dX0_moveFeathers_22 : decode cX0_moveFeathers 22 = .ok (.iload_n 1, 1) := by decide +kernel
theorem dX0_moveFeathers_23 : decode cX0_moveFeathers 23 = .ok (.iadd, 1) := by decide +kernel
theorem dX0_moveFeathers_24 : decode cX0_moveFeathers 24 = .ok (.dup2, 1) := by decide +kernel
theorem dX0_moveFeathers_25 : decode cX0_moveFeathers 25 = .ok (.iaload, 1) := by decide +kernel
theorem dX0_moveFeathers_26 : decode cX0_moveFeathers 26 = .ok (.iload 4, 2) := by decide +kernel
theorem dX0_moveFeathers_28 : decode cX0_moveFeathers 28 = .ok (.iadd, 1) := by decide +kernel
theorem dX0_moveFeathers_29 : decode cX0_moveFeathers 29 = .ok (.iastore, 1) := by decide +kernel
theorem dX0_moveFeathers_30 : decode cX0_moveFeathers 30 = .ok (.return_, 1) := by decide +kernel
set_option maxRecDepth 20000 in
theorem ggX0_exchange_X0_moveFeathers : GoodIn wsX0_exchange wsX0_moveFeathers := goodIn_r _ [7, 8, 9, 10, 11, 12, 13, 14, 15, 16, 17, 18, 19, 20, 21] (by decide +kernel) (by decide +kernel)
set_option maxRecDepth 20000 in
theorem gX0_exchange_X0_moveFeathers : GoodIn wsX0_exchange (wsV RX0 96 RX0 yX0_moveFeathers wsX0_moveFeathers) := goodIn_app (goodIn_of _ (by decide +kernel)) ggX0_exchange_X0_moveFeathers
theorem dX0_exchange_0 : decode cX0_exchange 0 = .ok (.aload_n 0, 1) := by decide +kernel
theorem dX0_exchange_1 : decode cX0_exchange 1 = .ok (.iload_n 1, 1) := by decide +kernel
theorem dX0_exchange_2 : decode cX0_exchange 2 = .ok (.iload_n 2, 1) := by decide +kernel
theorem dX0_exchange_3 : decode cX0_exchange 3 = .ok (.iload_n 3, 1) := by decide +kernel
theorem dX0_exchange_4 : decode cX0_exchange 4 = .ok (.iload 4, 2) := by decide +kernel
theorem dX0_exchange_6 : decode cX0_exchange 6 = .ok (.invokevirtual 96, 3) := by decide +kernel
theorem dX0_exchange_9 : decode cX0_exchange 9 = .ok (.aload_n 0, 1) := by decide +kernel
theorem dX0_exchange_10 : decode cX0_exchange 10 = .ok (.getfield 34, 3) := by decide +kernel
theorem dX0_exchange_13 : decode cX0_exchange 13 = .ok (.iload_n 1, 1) := by decide +kernel
theorem dX0_exchange_14 : decode cX0_exchange 14 = .ok (.dup2, 1) := by decide +kernel
theorem dX0_exchange_15 : decode cX0_exchange 15 = .ok (.iaload, 1) := by decide +kernel
theorem dX0_exchange_16 : decode cX0_exchange 16 = .ok (.iload 4, 2) := by decide +kernel
theorem dX0_exchange_18 : decode cX0_exchange 18 = .ok (.aload_n 0, 1) := by decide +kernel
theorem dX0_exchange_19 : decode cX0_exchange 19 = .ok (.getfield 28, 3) := by decide +kernel
theorem dX0_exchange_22 : decode cX0_exchange 22 = .ok (.iload_n 3, 1) := by decide +kernel
theorem dX0_exchange_23 : decode cX0_exchange 23 = .ok (.iaload, 1) := by decide +kernel
theorem dX0_exchange_24 : decode cX0_exchange 24 = .ok (.imul, 1) := by decide +kernel
theorem dX0_exchange_25 : decode cX0_exchange 25 = .ok (.isub, 1) := by decide +kernel
theorem dX0_exchange_26 : decode cX0_exchange 26 = .ok (.iastore, 1) := by decide +kernel
theorem dX0_exchange_27 : decode cX0_exchange 27 = .ok (.aload_n 0, 1) := by decide +kernel
theorem dX0_exchange_28 : decode cX0_exchange 28 = .ok (.getfield 34, 3) := by decide +kernel
theorem dX0_exchange_31 : decode cX0_exchange 31 = .ok (.iload_n 2, 1) := by decide +kernel
theorem dX0_exchange_32 : decode cX0_exchange 32 = .ok (.dup2, 1) := by decide +kernel
theorem dX0_exchange_33 : decode cX0_exchange 33 = .ok (.iaload, 1) := by decide +kernel
theorem dX0_exchange_34 : decode cX0_exchange 34 = .ok (.iload 4, 2) := by decide +kernel
theorem dX0_exchange_36 : decode cX0_exchange 36 = .ok (.aload_n 0, 1) := by decide +kernel
theorem dX0_exchange_37 : decode cX0_exchange 37 = .ok (.getfield 28, 3) := by decide +kernel
theorem dX0_exchange_40 : decode cX0_exchange 40 = .ok (.iload_n 3, 1) := by decide +kernel
theorem dX0_exchange_41 : decode cX0_exchange 41 = .ok (.iaload, 1) := by decide +kernel
theorem dX0_exchange_42 : decode cX0_exchange 42 = .ok (.imul, 1) := by decide +kernel
theorem dX0_exchange_43 : decode cX0_exchange 43 = .ok (.iadd, 1) := by decide +kernel
theorem dX0_exchange_44 : decode cX0_exchange 44 = .ok (.iastore, 1) := by decide +kernel
theorem dX0_exchange_45 : decode cX0_exchange 45 = .ok (.return_, 1) := by decide +kernel
set_option maxRecDepth 20000 in
theorem ggX0_tryTrade_X0_isTrade : GoodIn wsX0_tryTrade wsX0_isTrade := goodIn_r _ [5, 6, 7, 8, 9, 10, 11, 12, 13, 14, 4, 15, 16, 40, 41, 42, 43, 44, 45, 46, 47, 48, 49, 50, 51, 52] (by decide +kernel) (by decide +kernel)
set_option maxRecDepth 20000 in
theorem gX0_tryTrade_X0_isTrade : GoodIn wsX0_tryTrade (wsV RX0 100 RX0 yX0_isTrade wsX0_isTrade) := goodIn_app (goodIn_of _ (by decide +kernel)) ggX0_tryTrade_X0_isTrade
set_option maxRecDepth 20000 in
theorem ggX0_tryTrade_X0_canTrade : GoodIn wsX0_tryTrade wsX0_canTrade := goodIn_r _ [20, 21, 22, 23, 24, 25, 4, 26, 27, 28, 29, 30, 31, 40, 41, 42, 43, 44, 45, 46, 47, 48, 49, 50, 51, 52] (by decide +kernel) (by decide +kernel)
set_option maxRecDepth 20000 in
theorem gX0_tryTrade_X0_canTrade : GoodIn wsX0_tryTrade (wsV RX0 103 RX0 yX0_canTrade wsX0_canTrade) := goodIn_app (goodIn_of _ (by decide +kernel)) ggX0_tryTrade_X0_canTrade
set_option maxRecDepth 20000 in
theorem ggX0_tryTrade_X0_exchange : GoodIn wsX0_tryTrade wsX0_exchange := goodIn_r _ [35, 22, 21, 36, 37, 38, 4, 39, 31, 40, 41, 42, 43, 44, 45, 46, 47, 48, 49, 50, 51, 52] (by decide +kernel) (by decide +kernel)
set_option maxRecDepth 20000 in
theorem gX0_tryTrade_X0_exchange : GoodIn wsX0_tryTrade (wsV RX0 106 RX0 yX0_exchange wsX0_exchange) := goodIn_app (goodIn_of _ (by decide +kernel)) ggX0_tryTrade_X0_exchange
theorem dX0_tryTrade_0 : decode cX0_tryTrade 0 = .ok (.aload_n 0, 1) := by decide +kernel
theorem dX0_tryTrade_1 : decode cX0_tryTrade 1 = .ok (.iload_n 1, 1) := by decide +kernel
theorem dX0_tryTrade_2 : decode cX0_tryTrade 2 = .ok (.iload_n 2, 1) := by decide +kernel
theorem dX0_tryTrade_3 : decode cX0_tryTrade 3 = .ok (.iload_n 3, 1) := by decide +kernel
theorem dX0_tryTrade_4 : decode cX0_tryTrade 4 = .ok (.iload 4, 2) := by decide +kernel
theorem dX0_tryTrade_6 : decode cX0_tryTrade 6 = .ok (.invokevirtual 100, 3) := by decide +kernel
theorem dX0_tryTrade_9 : decode cX0_tryTrade 9 = .ok (.ifCond .eq 15, 3) := by decide +kernel
theorem dX0_tryTrade_12 : decode cX0_tryTrade 12 = .ok (.aload_n 0, 1) := by decide +kernel
theorem dX0_tryTrade_13 : decode cX0_tryTrade 13 = .ok (.iload_n 1, 1) := by decide +kernel
theorem dX0_tryTrade_14 : decode cX0_tryTrade 14 = .ok (.iload_n 2, 1) := by decide +kernel
theorem dX0_tryTrade_15 : decode cX0_tryTrade 15 = .ok (.iload_n 3, 1) := by decide +kernel
theorem dX0_tryTrade_16 : decode cX0_tryTrade 16 = .ok (.iload 4, 2) := by decide +kernel
theorem dX0_tryTrade_18 : decode cX0_tryTrade 18 = .ok (.invokevirtual 103, 3) := by decide +kernel
theorem dX0_tryTrade_21 : decode cX0_tryTrade 21 = .ok (.ifCond .ne 5, 3) := by decide +kernel
theorem dX0_tryTrade_24 : decode cX0_tryTrade 24 = .ok (.iconst 0, 1) := by decide +kernel
theorem dX0_tryTrade_25 : decode cX0_tryTrade 25 = .ok (.ireturn, 1) := by decide +kernel
theorem dX0_tryTrade_26 : decode cX0_tryTrade 26 = .ok (.aload_n 0, 1) := by decide +kernel
theorem dX0_tryTrade_27 : decode cX0_tryTrade 27 = .ok (.iload_n 1, 1) := by decide +kernel
theorem dX0_tryTrade_28 : decode cX0_tryTrade 28 = .ok (.iload_n 2, 1) := by decide +kernel
theorem dX0_tryTrade_29 : decode cX0_tryTrade 29 = .ok (.iload_n 3, 1) := by decide +kernel
theorem dX0_tryTrade_30 : decode cX0_tryTrade 30 = .ok (.iload 4, 2) := by decide +kernel
theorem dX0_tryTrade_32 : decode cX0_tryTrade 32 = .ok (.invokevirtual 106, 3) := by decide +kernel
theorem dX0_tryTrade_35 : decode cX0_tryTrade 35 = .ok (.iconst 1, 1) := by decide +kernel
theorem dX0_tryTrade_36 : decode cX0_tryTrade 36 = .ok (.ireturn, 1) := by decide +kernel
set_option maxRecDepth 20000 in
theorem ggX0_tryDrawn_X0_tryTrade : GoodIn wsX0_tryDrawn wsX0_tryTrade := goodIn_r _ [6, 7, 8, 9, 5, 10, 11, 12, 13, 14, 15, 16, 17, 18, 19, 20, 1, 21, 22, 23, 24, 25, 26, 27, 28, 29, 30, 31, 32, 33, 34, 35, 36, 37, 38, 39, 40, 41, 42, 43, 44, 45, 46, 47, 48, 49, 50, 51, 52, 53, 54, 55, 56] (by decide +kernel) (by decide +kernel)
set_option maxRecDepth 20000 in
theorem gX0_tryDrawn_X0_tryTrade : GoodIn wsX0_tryDrawn (wsV RX0 109 RX0 yX0_tryTrade wsX0_tryTrade) := goodIn_app (goodIn_of _ (by decide +kernel)) ggX0_tryDrawn_X0_tryTrade
theorem dX0_tryDrawn_0 : decode cX0_tryDrawn 0 = .ok (.aload_n 0, 1) := by decide +kernel
theorem dX0_tryDrawn_1 : decode cX0_tryDrawn 1 = .ok (.getfield 9, 3) := by decide +kernel
theorem dX0_tryDrawn_4 : decode cX0_tryDrawn 4 = .ok (.iconst 1, 1) := by decide +kernel
theorem dX0_tryDrawn_5 : decode cX0_tryDrawn 5 = .ok (.if_icmp .ge 5, 3) := by decide +kernel
theorem dX0_tryDrawn_8 : decode cX0_tryDrawn 8 = .ok (.iconst 0, 1) := by decide +kernel
theorem dX0_tryDrawn_9 : decode cX0_tryDrawn 9 = .ok (.ireturn, 1) := by decide +kernel
theorem dX0_tryDrawn_10 : decode cX0_tryDrawn 10 = .ok (.aload_n 0, 1) := by decide +kernel
theorem dX0_tryDrawn_11 : decode cX0_tryDrawn 11 = .ok (.iload_n 1, 1) := by decide +kernel
theorem dX0_tryDrawn_12 : decode cX0_tryDrawn 12 = .ok (.iconst 4, 1) := by decide +kernel
theorem dX0_tryDrawn_13 : decode cX0_tryDrawn 13 = .ok (.idiv, 1) := by decide +kernel
theorem dX0_tryDrawn_14 : decode cX0_tryDrawn 14 = .ok (.iconst 5, 1) := by decide +kernel
theorem dX0_tryDrawn_15 : decode cX0_tryDrawn 15 = .ok (.irem, 1) := by decide +kernel
theorem dX0_tryDrawn_16 : decode cX0_tryDrawn 16 = .ok (.iload_n 1, 1) := by decide +kernel
theorem dX0_tryDrawn_17 : decode cX0_tryDrawn 17 = .ok (.bipush 32, 2) := by decide +kernel
theorem dX0_tryDrawn_19 : decode cX0_tryDrawn 19 = .ok (.idiv, 1) := by decide +kernel
theorem dX0_tryDrawn_20 : decode cX0_tryDrawn 20 = .ok (.iconst 5, 1) := by decide +kernel
theorem dX0_tryDrawn_21 : decode cX0_tryDrawn 21 = .ok (.irem, 1) := by decide +kernel
theorem dX0_tryDrawn_22 : decode cX0_tryDrawn 22 = .ok (.iload_n 1, 1) := by decide +kernel
theorem dX0_tryDrawn_23 : decode cX0_tryDrawn 23 = .ok (.aload_n 0, 1) := by decide +kernel
theorem dX0_tryDrawn_24 : decode cX0_tryDrawn 24 = .ok (.getfield 9, 3) := by decide +kernel
theorem dX0_tryDrawn_27 : decode cX0_tryDrawn 27 = .ok (.irem, 1) := by decide +kernel
theorem dX0_tryDrawn_28 : decode cX0_tryDrawn 28 = .ok (.iconst 1, 1) := by decide +kernel
theorem dX0_tryDrawn_29 : decode cX0_tryDrawn 29 = .ok (.iload_n 1, 1) := by decide +kernel
theorem dX0_tryDrawn_30 : decode cX0_tryDrawn 30 = .ok (.sipush 256, 3) := by decide +kernel
theorem dX0_tryDrawn_33 : decode cX0_tryDrawn 33 = .ok (.idiv, 1) := by decide +kernel
theorem dX0_tryDrawn_34 : decode cX0_tryDrawn 34 = .ok (.bipush 9, 2) := by decide +kernel
theorem dX0_tryDrawn_36 : decode cX0_tryDrawn 36 = .ok (.irem, 1) := by decide +kernel
theorem dX0_tryDrawn_37 : decode cX0_tryDrawn 37 = .ok (.iadd, 1) := by decide +kernel
theorem dX0_tryDrawn_38 : decode cX0_tryDrawn 38 = .ok (.invokevirtual 109, 3) := by decide +kernel
theorem dX0_tryDrawn_41 : decode cX0_tryDrawn 41 = .ok (.ireturn, 1) := by decide +kernel
set_option maxRecDepth 20000 in
theorem ggX0_wouldGetEgg_X0_moveFeathers : GoodIn wsX0_wouldGetEgg wsX0_moveFeathers := goodIn_r _ [5, 6, 16, 17, 18, 19, 20, 21, 22, 23, 24, 25, 26, 27, 28] (by decide +kernel) (by decide +kernel)
set_option maxRecDepth 20000 in
theorem gX0_wouldGetEgg_X0_moveFeathers : GoodIn wsX0_wouldGetEgg (wsV RX0 96 RX0 yX0_moveFeathers wsX0_moveFeathers) := goodIn_app (goodIn_of _ (by decide +kernel)) ggX0_wouldGetEgg_X0_moveFeathers
set_option maxRecDepth 20000 in
theorem ggX0_wouldGetEgg_X0_eggOwner : GoodIn wsX0_wouldGetEgg wsX0_eggOwner := goodIn_r _ [10, 11, 12, 13, 14, 4, 15, 6, 16, 17, 18, 19, 20, 21, 22, 23, 24, 25, 26, 27, 28] (by decide +kernel) (by decide +kernel)
set_option maxRecDepth 20000 in
theorem gX0_wouldGetEgg_X0_eggOwner : GoodIn wsX0_wouldGetEgg (wsV RX0 76 RX0 yX0_eggOwner wsX0_eggOwner) := goodIn_app (goodIn_of _ (by decide +kernel)) ggX0_wouldGetEgg_X0_eggOwner
theorem dX0_wouldGetEgg_0 : decode cX0_wouldGetEgg 0 = .ok (.aload_n 0, 1) := by decide +kernel
theorem dX0_wouldGetEgg_1 : decode cX0_wouldGetEgg 1 = .ok (.iload_n 1, 1) := by decide +kernel
theorem dX0_wouldGetEgg_2 : decode cX0_wouldGetEgg 2 = .ok (.iload_n 2, 1) := by decide +kernel
theorem dX0_wouldGetEgg_3 : decode cX0_wouldGetEgg 3 = .ok (.iload_n 3, 1) := by decide +kernel
theorem dX0_wouldGetEgg_4 : decode cX0_wouldGetEgg 4 = .ok (.iload 4, 2) := by decide +kernel
theorem dX0_wouldGetEgg_6 : decode cX0_wouldGetEgg 6 = .ok (.invokevirtual 96, 3) := by decide +kernel
theorem dX0_wouldGetEgg_9 : decode cX0_wouldGetEgg 9 = .ok (.aload_n 0, 1) := by decide +kernel
theorem dX0_wouldGetEgg_10 : decode cX0_wouldGetEgg 10 = .ok (.iload_n 3, 1) := by decide +kernel
theorem dX0_wouldGetEgg_11 : decode cX0_wouldGetEgg 11 = .ok (.invokevirtual 76, 3) := by decide +kernel
theorem dX0_wouldGetEgg_14 : decode cX0_wouldGetEgg 14 = .ok (.iload_n 1, 1) := by decide +kernel
theorem dX0_wouldGetEgg_15 : decode cX0_wouldGetEgg 15 = .ok (.if_icmp .ne 7, 3) := by decide +kernel
theorem dX0_wouldGetEgg_18 : decode cX0_wouldGetEgg 18 = .ok (.iconst 1, 1) := by decide +kernel
theorem dX0_wouldGetEgg_19 : decode cX0_wouldGetEgg 19 = .ok (.goto 4, 3) := by decide +kernel
theorem dX0_wouldGetEgg_22 : decode cX0_wouldGetEgg 22 = .ok (.iconst 0, 1) := by decide +kernel
theorem dX0_wouldGetEgg_23 : decode cX0_wouldGetEgg 23 = .ok (.istore 5, 2) := by decide +kernel
theorem dX0_wouldGetEgg_25 : decode cX0_wouldGetEgg 25 = .ok (.aload_n 0, 1) := by decide +kernel
theorem dX0_wouldGetEgg_26 : decode cX0_wouldGetEgg 26 = .ok (.iload_n 2, 1) := by decide +kernel
theorem dX0_wouldGetEgg_27 : decode cX0_wouldGetEgg 27 = .ok (.iload_n 1, 1) := by decide +kernel
theorem dX0_wouldGetEgg_28 : decode cX0_wouldGetEgg 28 = .ok (.iload_n 3, 1) := by decide +kernel
theorem dX0_wouldGetEgg_29 : decode cX0_wouldGetEgg 29 = .ok (.iload 4, 2) := by decide +kernel
theorem dX0_wouldGetEgg_31 : decode cX0_wouldGetEgg 31 = .ok (.invokevirtual 96, 3) := by decide +kernel
theorem dX0_wouldGetEgg_34 : decode cX0_wouldGetEgg 34 = .ok (.iload 5, 2) := by decide +kernel
theorem dX0_wouldGetEgg_36 : decode cX0_wouldGetEgg 36 = .ok (.ireturn, 1) := by decide +kernel
theorem dX0_addToPlan_0 : decode cX0_addToPlan 0 = .ok (.aload_n 0, 1) := by decide +kernel
theorem dX0_addToPlan_1 : decode cX0_addToPlan 1 = .ok (.getfield 18, 3) := by decide +kernel
theorem dX0_addToPlan_4 : decode cX0_addToPlan 4 = .ok (.bipush 6, 2) := by decide +kernel
theorem dX0_addToPlan_6 : decode cX0_addToPlan 6 = .ok (.if_icmp .lt 5, 3) := by decide +kernel
theorem dX0_addToPlan_9 : decode cX0_addToPlan 9 = .ok (.iconst 0, 1) := by decide +kernel
theorem dX0_addToPlan_10 : decode cX0_addToPlan 10 = .ok (.ireturn, 1) := by decide +kernel
theorem dX0_addToPlan_11 : decode cX0_addToPlan 11 = .ok (.aload_n 0, 1) := by decide +kernel
theorem dX0_addToPlan_12 : decode cX0_addToPlan 12 = .ok (.getfield 40, 3) := by decide +kernel
theorem dX0_addToPlan_15 : decode cX0_addToPlan 15 = .ok (.aload_n 0, 1) := by decide +kernel
theorem dX0_addToPlan_16 : decode cX0_addToPlan 16 = .ok (.getfield 18, 3) := by decide +kernel
theorem dX0_addToPlan_19 : decode cX0_addToPlan 19 = .ok (.iload_n 1, 1) := by decide +kernel
theorem dX0_addToPlan_20 : decode cX0_addToPlan 20 = .ok (.iastore, 1) := by decide +kernel
theorem dX0_addToPlan_21 : decode cX0_addToPlan 21 = .ok (.aload_n 0, 1) := by decide +kernel
theorem dX0_addToPlan_22 : decode cX0_addToPlan 22 = .ok (.getfield 43, 3) := by decide +kernel
theorem dX0_addToPlan_25 : decode cX0_addToPlan 25 = .ok (.aload_n 0, 1) := by decide +kernel
theorem dX0_addToPlan_26 : decode cX0_addToPlan 26 = .ok (.getfield 18, 3) := by decide +kernel
theorem dX0_addToPlan_29 : decode cX0_addToPlan 29 = .ok (.iload_n 2, 1) := by decide +kernel
theorem dX0_addToPlan_30 : decode cX0_addToPlan 30 = .ok (.iastore, 1) := by decide +kernel
theorem dX0_addToPlan_31 : decode cX0_addToPlan 31 = .ok (.aload_n 0, 1) := by decide +kernel
theorem dX0_addToPlan_32 : decode cX0_addToPlan 32 = .ok (.getfield 46, 3) := by decide +kernel
theorem dX0_addToPlan_35 : decode cX0_addToPlan 35 = .ok (.aload_n 0, 1) := by decide +kernel
theorem dX0_addToPlan_36 : decode cX0_addToPlan 36 = .ok (.getfield 18, 3) := by decide +kernel
theorem dX0_addToPlan_39 : decode cX0_addToPlan 39 = .ok (.iload_n 3, 1) := by decide +kernel
theorem dX0_addToPlan_40 : decode cX0_addToPlan 40 = .ok (.iastore, 1) := by decide +kernel
theorem dX0_addToPlan_41 : decode cX0_addToPlan 41 = .ok (.aload_n 0, 1) := by decide +kernel
theorem dX0_addToPlan_42 : decode cX0_addToPlan 42 = .ok (.getfield 49, 3) := by decide +kernel
theorem dX0_addToPlan_45 : decode cX0_addToPlan 45 = .ok (.aload_n 0, 1) := by decide +kernel
theorem dX0_addToPlan_46 : decode cX0_addToPlan 46 = .ok (.getfield 18, 3) := by decide +kernel
theorem dX0_addToPlan_49 : decode cX0_addToPlan 49 = .ok (.iload 4, 2) := by decide +kernel
theorem dX0_addToPlan_51 : decode cX0_addToPlan 51 = .ok (.iastore, 1) := by decide +kernel
theorem dX0_addToPlan_52 : decode cX0_addToPlan 52 = .ok (.aload_n 0, 1) := by decide +kernel
theorem dX0_addToPlan_53 : decode cX0_addToPlan 53 = .ok (.dup, 1) := by decide +kernel
theorem dX0_addToPlan_54 : decode cX0_addToPlan 54 = .ok (.getfield 18, 3) := by decide +kernel
theorem dX0_addToPlan_57 : decode cX0_addToPlan 57 = .ok (.iconst 1, 1) := by decide +kernel
theorem dX0_addToPlan_58 : decode cX0_addToPlan 58 = .ok (.iadd, 1) := by decide +kernel
theorem dX0_addToPlan_59 : decode cX0_addToPlan 59 = .ok (.putfield 18, 3) := by decide +kernel
theorem dX0_addToPlan_62 : decode cX0_addToPlan 62 = .ok (.iconst 1, 1) := by decide +kernel
theorem dX0_addToPlan_63 : decode cX0_addToPlan 63 = .ok (.ireturn, 1) := by decide +kernel
set_option maxRecDepth 20000 in
theorem ggX0_tryPlanned_X0_tryTrade : GoodIn wsX0_tryPlanned wsX0_tryTrade := goodIn_r _ [9, 10, 11, 12, 8, 13, 14, 15, 16, 17, 18, 19, 20, 21, 22, 23, 24, 25, 26, 27, 28, 29, 30, 31, 32, 33, 34, 35, 36, 37, 38, 39, 40, 41, 42, 43, 44, 45, 46, 47, 48, 49, 50, 51, 52, 53, 54, 55, 56, 57, 58, 59, 60] (by decide +kernel) (by decide +kernel)
set_option maxRecDepth 20000 in
theorem gX0_tryPlanned_X0_tryTrade : GoodIn wsX0_tryPlanned (wsV RX0 109 RX0 yX0_tryTrade wsX0_tryTrade) := goodIn_app (goodIn_of _ (by decide +kernel)) ggX0_tryPlanned_X0_tryTrade
theorem dX0_tryPlanned_0 : decode cX0_tryPlanned 0 = .ok (.aload_n 0, 1) := by decide +kernel
theorem dX0_tryPlanned_1 : decode cX0_tryPlanned 1 = .ok (.aload_n 0, 1) := by decide +kernel
theorem dX0_tryPlanned_2 : decode cX0_tryPlanned 2 = .ok (.getfield 40, 3) := by decide +kernel
theorem dX0_tryPlanned_5 : decode cX0_tryPlanned 5 = .ok (.iload_n 1, 1) := by decide +kernel
theorem dX0_tryPlanned_6 : decode cX0_tryPlanned 6 = .ok (.iaload, 1) := by decide +kernel
theorem dX0_tryPlanned_7 : decode cX0_tryPlanned 7 = .ok (.aload_n 0, 1) := by decide +kernel
theorem dX0_tryPlanned_8 : decode cX0_tryPlanned 8 = .ok (.getfield 43, 3) := by decide +kernel
theorem dX0_tryPlanned_11 : decode cX0_tryPlanned 11 = .ok (.iload_n 1, 1) := by decide +kernel
theorem dX0_tryPlanned_12 : decode cX0_tryPlanned 12 = .ok (.iaload, 1) := by decide +kernel
theorem dX0_tryPlanned_13 : decode cX0_tryPlanned 13 = .ok (.aload_n 0, 1) := by decide +kernel
theorem dX0_tryPlanned_14 : decode cX0_tryPlanned 14 = .ok (.getfield 46, 3) := by decide +kernel
theorem dX0_tryPlanned_17 : decode cX0_tryPlanned 17 = .ok (.iload_n 1, 1) := by decide +kernel
theorem dX0_tryPlanned_18 : decode cX0_tryPlanned 18 = .ok (.iaload, 1) := by decide +kernel
theorem dX0_tryPlanned_19 : decode cX0_tryPlanned 19 = .ok (.aload_n 0, 1) := by decide +kernel
theorem dX0_tryPlanned_20 : decode cX0_tryPlanned 20 = .ok (.getfield 49, 3) := by decide +kernel
theorem dX0_tryPlanned_23 : decode cX0_tryPlanned 23 = .ok (.iload_n 1, 1) := by decide +kernel
theorem dX0_tryPlanned_24 : decode cX0_tryPlanned 24 = .ok (.iaload, 1) := by decide +kernel
theorem dX0_tryPlanned_25 : decode cX0_tryPlanned 25 = .ok (.invokevirtual 109, 3) := by decide +kernel
theorem dX0_tryPlanned_28 : decode cX0_tryPlanned 28 = .ok (.ireturn, 1) := by decide +kernel
theorem dX0_costOfPlanned_0 : decode cX0_costOfPlanned 0 = .ok (.aload_n 0, 1) := by decide +kernel
theorem dX0_costOfPlanned_1 : decode cX0_costOfPlanned 1 = .ok (.getfield 49, 3) := by decide +kernel
theorem dX0_costOfPlanned_4 : decode cX0_costOfPlanned 4 = .ok (.iload_n 1, 1) := by decide +kernel
theorem dX0_costOfPlanned_5 : decode cX0_costOfPlanned 5 = .ok (.iaload, 1) := by decide +kernel
theorem dX0_costOfPlanned_6 : decode cX0_costOfPlanned 6 = .ok (.aload_n 0, 1) := by decide +kernel
theorem dX0_costOfPlanned_7 : decode cX0_costOfPlanned 7 = .ok (.getfield 28, 3) := by decide +kernel
theorem dX0_costOfPlanned_10 : decode cX0_costOfPlanned 10 = .ok (.aload_n 0, 1) := by decide +kernel
theorem dX0_costOfPlanned_11 : decode cX0_costOfPlanned 11 = .ok (.getfield 46, 3) := by decide +kernel
theorem dX0_costOfPlanned_14 : decode cX0_costOfPlanned 14 = .ok (.iload_n 1, 1) := by decide +kernel
theorem dX0_costOfPlanned_15 : decode cX0_costOfPlanned 15 = .ok (.iaload, 1) := by decide +kernel
theorem dX0_costOfPlanned_16 : decode cX0_costOfPlanned 16 = .ok (.iaload, 1) := by decide +kernel
theorem dX0_costOfPlanned_17 : decode cX0_costOfPlanned 17 = .ok (.imul, 1) := by decide +kernel
theorem dX0_costOfPlanned_18 : decode cX0_costOfPlanned 18 = .ok (.ireturn, 1) := by decide +kernel
set_option maxRecDepth 20000 in
theorem ggX0_followPlanWithout_X0_tryPlanned : GoodIn wsX0_followPlanWithout wsX0_tryPlanned := goodIn_r _ [6, 7, 8, 9, 10, 11, 12, 13, 5, 14, 15, 16, 17, 18, 19, 20, 21, 22, 23, 24, 25, 26, 27, 28, 29, 30, 31, 32, 33, 34, 35, 36, 37, 38, 39, 40, 41, 42, 43, 44, 45, 46, 47, 48, 49, 50, 51, 52, 53, 54, 55, 56, 57, 58, 59, 60, 61, 62, 63, 64, 65] (by decide +kernel) (by decide +kernel)
set_option maxRecDepth 20000 in
theorem gX0_followPlanWithout_X0_tryPlanned : GoodIn wsX0_followPlanWithout (wsV RX0 112 RX0 yX0_tryPlanned wsX0_tryPlanned) := goodIn_app (goodIn_of _ (by decide +kernel)) ggX0_followPlanWithout_X0_tryPlanned
theorem dX0_followPlanWithout_0 : decode cX0_followPlanWithout 0 = .ok (.iconst 0, 1) := by decide +kernel
theorem dX0_followPlanWithout_1 : decode cX0_followPlanWithout 1 = .ok (.istore_n 2, 1) := by decide +kernel
theorem dX0_followPlanWithout_2 : decode cX0_followPlanWithout 2 = .ok (.iload_n 2, 1) := by decide +kernel
theorem dX0_followPlanWithout_3 : decode cX0_followPlanWithout 3 = .ok (.aload_n 0, 1) := by decide +kernel
theorem dX0_followPlanWithout_4 : decode cX0_followPlanWithout 4 = .ok (.getfield 18, 3) := by decide +kernel
theorem dX0_followPlanWithout_7 : decode cX0_followPlanWithout 7 = .ok (.if_icmp .ge 20, 3) := by decide +kernel
theorem dX0_followPlanWithout_10 : decode cX0_followPlanWithout 10 = .ok (.iload_n 2, 1) := by decide +kernel
theorem dX0_followPlanWithout_11 : decode cX0_followPlanWithout 11 = .ok (.iload_n 1, 1) := by decide +kernel
theorem dX0_followPlanWithout_12 : decode cX0_followPlanWithout 12 = .ok (.if_icmp .eq 9, 3) := by decide +kernel
theorem dX0_followPlanWithout_15 : decode cX0_followPlanWithout 15 = .ok (.aload_n 0, 1) := by decide +kernel
theorem dX0_followPlanWithout_16 : decode cX0_followPlanWithout 16 = .ok (.iload_n 2, 1) := by decide +kernel
theorem dX0_followPlanWithout_17 : decode cX0_followPlanWithout 17 = .ok (.invokevirtual 112, 3) := by decide +kernel
theorem dX0_followPlanWithout_20 : decode cX0_followPlanWithout 20 = .ok (.pop, 1) := by decide +kernel
theorem dX0_followPlanWithout_21 : decode cX0_followPlanWithout 21 = .ok (.iinc 2 1, 3) := by decide +kernel
theorem dX0_followPlanWithout_24 : decode cX0_followPlanWithout 24 = .ok (.goto (-22), 3) := by decide +kernel
theorem dX0_followPlanWithout_27 : decode cX0_followPlanWithout 27 = .ok (.return_, 1) := by decide +kernel
theorem dX0_feathersOfPlan_0 : decode cX0_feathersOfPlan 0 = .ok (.iconst 0, 1) := by decide +kernel
theorem dX0_feathersOfPlan_1 : decode cX0_feathersOfPlan 1 = .ok (.istore_n 1, 1) := by decide +kernel
theorem dX0_feathersOfPlan_2 : decode cX0_feathersOfPlan 2 = .ok (.iconst 0, 1) := by decide +kernel
theorem dX0_feathersOfPlan_3 : decode cX0_feathersOfPlan 3 = .ok (.istore_n 2, 1) := by decide +kernel
theorem dX0_feathersOfPlan_4 : decode cX0_feathersOfPlan 4 = .ok (.iload_n 2, 1) := by decide +kernel
theorem dX0_feathersOfPlan_5 : decode cX0_feathersOfPlan 5 = .ok (.aload_n 0, 1) := by decide +kernel
theorem dX0_feathersOfPlan_6 : decode cX0_feathersOfPlan 6 = .ok (.getfield 18, 3) := by decide +kernel
theorem dX0_feathersOfPlan_9 : decode cX0_feathersOfPlan 9 = .ok (.if_icmp .ge 18, 3) := by decide +kernel
theorem dX0_feathersOfPlan_12 : decode cX0_feathersOfPlan 12 = .ok (.iload_n 1, 1) := by decide +kernel
theorem dX0_feathersOfPlan_13 : decode cX0_feathersOfPlan 13 = .ok (.aload_n 0, 1) := by decide +kernel
theorem dX0_feathersOfPlan_14 : decode cX0_feathersOfPlan 14 = .ok (.getfield 49, 3) := by decide +kernel
theorem dX0_feathersOfPlan_17 : decode cX0_feathersOfPlan 17 = .ok (.iload_n 2, 1) := by decide +kernel
theorem dX0_feathersOfPlan_18 : decode cX0_feathersOfPlan 18 = .ok (.iaload, 1) := by decide +kernel
theorem dX0_feathersOfPlan_19 : decode cX0_feathersOfPlan 19 = .ok (.iadd, 1) := by decide +kernel
theorem dX0_feathersOfPlan_20 : decode cX0_feathersOfPlan 20 = .ok (.istore_n 1, 1) := by decide +kernel
theorem dX0_feathersOfPlan_21 : decode cX0_feathersOfPlan 21 = .ok (.iinc 2 1, 3) := by decide +kernel
theorem dX0_feathersOfPlan_24 : decode cX0_feathersOfPlan 24 = .ok (.goto (-20), 3) := by decide +kernel
theorem dX0_feathersOfPlan_27 : decode cX0_feathersOfPlan 27 = .ok (.iload_n 1, 1) := by decide +kernel
theorem dX0_feathersOfPlan_28 : decode cX0_feathersOfPlan 28 = .ok (.ireturn, 1) := by decide +kernel
set_option maxRecDepth 20000 in
theorem ggX0_passWeeks_X0_passWeek : GoodIn wsX0_passWeeks wsX0_passWeek := goodIn_r _ [5, 6, 7, 8, 9, 10, 11, 4, 12, 13, 14, 15, 16, 17, 18, 19, 20, 21, 22, 23, 24, 25, 26, 27, 28, 29, 30, 31, 32, 33, 34, 35, 36, 37, 38, 39, 40, 41, 42, 43, 44, 45, 46] (by decide +kernel) (by decide +kernel)
set_option maxRecDepth 20000 in
theorem gX0_passWeeks_X0_passWeek : GoodIn wsX0_passWeeks (wsV RX0 115 RX0 yX0_passWeek wsX0_passWeek) := goodIn_app (goodIn_of _ (by decide +kernel)) ggX0_passWeeks_X0_passWeek
theorem dX0_passWeeks_0 : decode cX0_passWeeks 0 = .ok (.iconst 0, 1) := by decide +kernel
theorem dX0_passWeeks_1 : decode cX0_passWeeks 1 = .ok (.istore_n 2, 1) := by decide +kernel
theorem dX0_passWeeks_2 : decode cX0_passWeeks 2 = .ok (.iconst 0, 1) := by decide +kernel
theorem dX0_passWeeks_3 : decode cX0_passWeeks 3 = .ok (.istore_n 3, 1) := by decide +kernel
theorem dX0_passWeeks_4 : decode cX0_passWeeks 4 = .ok (.iload_n 3, 1) := by decide +kernel
theorem dX0_passWeeks_5 : decode cX0_passWeeks 5 = .ok (.iload_n 1, 1) := by decide +kernel
theorem dX0_passWeeks_6 : decode cX0_passWeeks 6 = .ok (.if_icmp .ge 16, 3) := by decide +kernel
theorem dX0_passWeeks_9 : decode cX0_passWeeks 9 = .ok (.iload_n 2, 1) := by decide +kernel
theorem dX0_passWeeks_10 : decode cX0_passWeeks 10 = .ok (.aload_n 0, 1) := by decide +kernel
theorem dX0_passWeeks_11 : decode cX0_passWeeks 11 = .ok (.invokevirtual 115, 3) := by decide +kernel
theorem dX0_passWeeks_14 : decode cX0_passWeeks 14 = .ok (.iadd, 1) := by decide +kernel
theorem dX0_passWeeks_15 : decode cX0_passWeeks 15 = .ok (.istore_n 2, 1) := by decide +kernel
theorem dX0_passWeeks_16 : decode cX0_passWeeks 16 = .ok (.iinc 3 1, 3) := by decide +kernel
theorem dX0_passWeeks_19 : decode cX0_passWeeks 19 = .ok (.goto (-15), 3) := by decide +kernel
theorem dX0_passWeeks_22 : decode cX0_passWeeks 22 = .ok (.iload_n 2, 1) := by decide +kernel
theorem dX0_passWeeks_23 : decode cX0_passWeeks 23 = .ok (.ireturn, 1) := by decide +kernel
set_option maxRecDepth 20000 in
theorem ggX0_passWeek_X0_eggOwner : GoodIn wsX0_passWeek wsX0_eggOwner := goodIn_r _ [8, 9, 10, 11, 12, 7, 13, 14, 30, 31, 32, 33, 34, 35, 36, 37, 38, 39, 40, 41, 42] (by decide +kernel) (by decide +kernel)
set_option maxRecDepth 20000 in
theorem gX0_passWeek_X0_eggOwner : GoodIn wsX0_passWeek (wsV RX0 76 RX0 yX0_eggOwner wsX0_eggOwner) := goodIn_app (goodIn_of _ (by decide +kernel)) ggX0_passWeek_X0_eggOwner
set_option maxRecDepth 20000 in
theorem ggX0_passWeek_X0_moult : GoodIn wsX0_passWeek wsX0_moult := goodIn_r _ [18, 19, 14, 9, 20, 21, 22, 23, 10, 11, 12, 7, 13, 24, 25, 26, 27, 28, 29, 30, 31, 32, 33, 34, 35, 36, 37, 38, 39, 40, 41, 42] (by decide +kernel) (by decide +kernel)
set_option maxRecDepth 20000 in
theorem gX0_passWeek_X0_moult : GoodIn wsX0_passWeek (wsV RX0 119 RX0 yX0_moult wsX0_moult) := goodIn_app (goodIn_of _ (by decide +kernel)) ggX0_passWeek_X0_moult
theorem dX0_passWeek_0 : decode cX0_passWeek 0 = .ok (.iconst 0, 1) := by decide +kernel
theorem dX0_passWeek_1 : decode cX0_passWeek 1 = .ok (.istore_n 1, 1) := by decide +kernel
theorem dX0_passWeek_2 : decode cX0_passWeek 2 = .ok (.iconst 0, 1) := by decide +kernel
theorem dX0_passWeek_3 : decode cX0_passWeek 3 = .ok (.istore_n 2, 1) := by decide +kernel
theorem dX0_passWeek_4 : decode cX0_passWeek 4 = .ok (.iload_n 2, 1) := by decide +kernel
theorem dX0_passWeek_5 : decode cX0_passWeek 5 = .ok (.aload_n 0, 1) := by decide +kernel
theorem dX0_passWeek_6 : decode cX0_passWeek 6 = .ok (.getfield 9, 3) := by decide +kernel
theorem dX0_passWeek_9 : decode cX0_passWeek 9 = .ok (.if_icmp .ge 39, 3) := by decide +kernel
theorem dX0_passWeek_12 : decode cX0_passWeek 12 = .ok (.aload_n 0, 1) := by decide +kernel
theorem dX0_passWeek_13 : decode cX0_passWeek 13 = .ok (.iload_n 2, 1) := by decide +kernel
theorem dX0_passWeek_14 : decode cX0_passWeek 14 = .ok (.invokevirtual 76, 3) := by decide +kernel
theorem dX0_passWeek_17 : decode cX0_passWeek 17 = .ok (.istore_n 3, 1) := by decide +kernel
theorem dX0_passWeek_18 : decode cX0_passWeek 18 = .ok (.iload_n 3, 1) := by decide +kernel
theorem dX0_passWeek_19 : decode cX0_passWeek 19 = .ok (.bipush (-4), 2) := by decide +kernel
theorem dX0_passWeek_21 : decode cX0_passWeek 21 = .ok (.if_icmp .eq 16, 3) := by decide +kernel
theorem dX0_passWeek_24 : decode cX0_passWeek 24 = .ok (.aload_n 0, 1) := by decide +kernel
theorem dX0_passWeek_25 : decode cX0_passWeek 25 = .ok (.getfield 37, 3) := by decide +kernel
theorem dX0_passWeek_28 : decode cX0_passWeek 28 = .ok (.iload_n 3, 1) := by decide +kernel
theorem dX0_passWeek_29 : decode cX0_passWeek 29 = .ok (.dup2, 1) := by decide +kernel
theorem dX0_passWeek_30 : decode cX0_passWeek 30 = .ok (.iaload, 1) := by decide +kernel
theorem dX0_passWeek_31 : decode cX0_passWeek 31 = .ok (.iconst 1, 1) := by decide +kernel
theorem dX0_passWeek_32 : decode cX0_passWeek 32 = .ok (.iadd, 1) := by decide +kernel
theorem dX0_passWeek_33 : decode cX0_passWeek 33 = .ok (.iastore, 1) := by decide +kernel
theorem dX0_passWeek_34 : decode cX0_passWeek 34 = .ok (.iinc 1 1, 3) := by decide +kernel
theorem dX0_passWeek_37 : decode cX0_passWeek 37 = .ok (.aload_n 0, 1) := by decide +kernel
theorem dX0_passWeek_38 : decode cX0_passWeek 38 = .ok (.iload_n 2, 1) := by decide +kernel
theorem dX0_passWeek_39 : decode cX0_passWeek 39 = .ok (.invokevirtual 119, 3) := by decide +kernel
theorem dX0_passWeek_42 : decode cX0_passWeek 42 = .ok (.iinc 2 1, 3) := by decide +kernel
theorem dX0_passWeek_45 : decode cX0_passWeek 45 = .ok (.goto (-41), 3) := by decide +kernel
theorem dX0_passWeek_48 : decode cX0_passWeek 48 = .ok (.aload_n 0, 1) := by decide +kernel
theorem dX0_passWeek_49 : decode cX0_passWeek 49 = .ok (.dup, 1) := by decide +kernel
theorem dX0_passWeek_50 : decode cX0_passWeek 50 = .ok (.getfield 15, 3) := by decide +kernel
theorem dX0_passWeek_53 : decode cX0_passWeek 53 = .ok (.iconst 1, 1) := by decide +kernel
theorem dX0_passWeek_54 : decode cX0_passWeek 54 = .ok (.iadd, 1) := by decide +kernel
theorem dX0_passWeek_55 : decode cX0_passWeek 55 = .ok (.putfield 15, 3) := by decide +kernel
theorem dX0_passWeek_58 : decode cX0_passWeek 58 = .ok (.iload_n 1, 1) := by decide +kernel
theorem dX0_passWeek_59 : decode cX0_passWeek 59 = .ok (.ireturn, 1) := by decide +kernel
set_option maxRecDepth 20000 in
theorem ggX0_moult_X0_held : GoodIn wsX0_moult wsX0_held := goodIn_r _ [12, 2, 19, 20, 21, 22, 23, 24, 25, 26, 27, 28, 29, 30, 31] (by decide +kernel) (by decide +kernel)
set_option maxRecDepth 20000 in
theorem gX0_moult_X0_held : GoodIn wsX0_moult (wsV RX0 68 RX0 yX0_held wsX0_held) := goodIn_app (goodIn_of _ (by decide +kernel)) ggX0_moult_X0_held
set_option maxRecDepth 20000 in
theorem ggX0_moult_X0_lossOf : GoodIn wsX0_moult wsX0_lossOf := goodIn_r _ [15, 4, 5, 6, 7, 16, 17, 18] (by decide +kernel) (by decide +kernel)
set_option maxRecDepth 20000 in
theorem gX0_moult_X0_lossOf : GoodIn wsX0_moult (va_wsS RX0 123 yX0_lossOf wsX0_lossOf) := goodIn_app (goodIn_of _ (by decide +kernel)) ggX0_moult_X0_lossOf
theorem dX0_moult_0 : decode cX0_moult 0 = .ok (.iconst 0, 1) := by decide +kernel
theorem dX0_moult_1 : decode cX0_moult 1 = .ok (.istore_n 2, 1) := by decide +kernel
theorem dX0_moult_2 : decode cX0_moult 2 = .ok (.iconst 0, 1) := by decide +kernel
theorem dX0_moult_3 : decode cX0_moult 3 = .ok (.istore_n 3, 1) := by decide +kernel
theorem dX0_moult_4 : decode cX0_moult 4 = .ok (.iload_n 3, 1) := by decide +kernel
theorem dX0_moult_5 : decode cX0_moult 5 = .ok (.iconst 5, 1) := by decide +kernel
theorem dX0_moult_6 : decode cX0_moult 6 = .ok (.if_icmp .ge 46, 3) := by decide +kernel
theorem dX0_moult_9 : decode cX0_moult 9 = .ok (.aload_n 0, 1) := by decide +kernel
theorem dX0_moult_10 : decode cX0_moult 10 = .ok (.getfield 21, 3) := by decide +kernel
theorem dX0_moult_13 : decode cX0_moult 13 = .ok (.iload_n 1, 1) := by decide +kernel
theorem dX0_moult_14 : decode cX0_moult 14 = .ok (.iaload, 1) := by decide +kernel
theorem dX0_moult_15 : decode cX0_moult 15 = .ok (.aload_n 0, 1) := by decide +kernel
theorem dX0_moult_16 : decode cX0_moult 16 = .ok (.iload_n 1, 1) := by decide +kernel
theorem dX0_moult_17 : decode cX0_moult 17 = .ok (.iload_n 3, 1) := by decide +kernel
theorem dX0_moult_18 : decode cX0_moult 18 = .ok (.invokevirtual 68, 3) := by decide +kernel
theorem dX0_moult_21 : decode cX0_moult 21 = .ok (.invokestatic 123, 3) := by decide +kernel
theorem dX0_moult_24 : decode cX0_moult 24 = .ok (.istore 4, 2) := by decide +kernel
theorem dX0_moult_26 : decode cX0_moult 26 = .ok (.aload_n 0, 1) := by decide +kernel
theorem dX0_moult_27 : decode cX0_moult 27 = .ok (.getfield 31, 3) := by decide +kernel
theorem dX0_moult_30 : decode cX0_moult 30 = .ok (.iload_n 1, 1) := by decide +kernel
theorem dX0_moult_31 : decode cX0_moult 31 = .ok (.iconst 5, 1) := by decide +kernel
theorem dX0_moult_32 : decode cX0_moult 32 = .ok (.imul, 1) := by decide +kernel
theorem dX0_moult_33 : decode cX0_moult 33 = .ok (.iload_n 3, 1) := by decide +kernel
theorem dX0_moult_34 : decode cX0_moult 34 = .ok (.iadd, 1) := by decide +kernel
theorem dX0_moult_35 : decode cX0_moult 35 = .ok (.dup2, 1) := by decide +kernel
theorem dX0_moult_36 : decode cX0_moult 36 = .ok (.iaload, 1) := by decide +kernel
theorem dX0_moult_37 : decode cX0_moult 37 = .ok (.iload 4, 2) := by decide +kernel
theorem dX0_moult_39 : decode cX0_moult 39 = .ok (.isub, 1) := by decide +kernel
theorem dX0_moult_40 : decode cX0_moult 40 = .ok (.iastore, 1) := by decide +kernel
theorem dX0_moult_41 : decode cX0_moult 41 = .ok (.iload_n 2, 1) := by decide +kernel
theorem dX0_moult_42 : decode cX0_moult 42 = .ok (.iload 4, 2) := by decide +kernel
theorem dX0_moult_44 : decode cX0_moult 44 = .ok (.iadd, 1) := by decide +kernel
theorem dX0_moult_45 : decode cX0_moult 45 = .ok (.istore_n 2, 1) := by decide +kernel
theorem dX0_moult_46 : decode cX0_moult 46 = .ok (.iinc 3 1, 3) := by decide +kernel
theorem dX0_moult_49 : decode cX0_moult 49 = .ok (.goto (-45), 3) := by decide +kernel
theorem dX0_moult_52 : decode cX0_moult 52 = .ok (.aload_n 0, 1) := by decide +kernel
theorem dX0_moult_53 : decode cX0_moult 53 = .ok (.iload_n 1, 1) := by decide +kernel
theorem dX0_moult_54 : decode cX0_moult 54 = .ok (.aload_n 0, 1) := by decide +kernel
theorem dX0_moult_55 : decode cX0_moult 55 = .ok (.getfield 25, 3) := by decide +kernel
theorem dX0_moult_58 : decode cX0_moult 58 = .ok (.iload_n 1, 1) := by decide +kernel
theorem dX0_moult_59 : decode cX0_moult 59 = .ok (.iaload, 1) := by decide +kernel
theorem dX0_moult_60 : decode cX0_moult 60 = .ok (.invokevirtual 68, 3) := by decide +kernel
theorem dX0_moult_63 : decode cX0_moult 63 = .ok (.iload_n 2, 1) := by decide +kernel
theorem dX0_moult_64 : decode cX0_moult 64 = .ok (.iconst 1, 1) := by decide +kernel
theorem dX0_moult_65 : decode cX0_moult 65 = .ok (.iadd, 1) := by decide +kernel
theorem dX0_moult_66 : decode cX0_moult 66 = .ok (.iconst 2, 1) := by decide +kernel
theorem dX0_moult_67 : decode cX0_moult 67 = .ok (.idiv, 1) := by decide +kernel
theorem dX0_moult_68 : decode cX0_moult 68 = .ok (.iadd, 1) := by decide +kernel
theorem dX0_moult_69 : decode cX0_moult 69 = .ok (.istore_n 3, 1) := by decide +kernel
theorem dX0_moult_70 : decode cX0_moult 70 = .ok (.aload_n 0, 1) := by decide +kernel
theorem dX0_moult_71 : decode cX0_moult 71 = .ok (.getfield 31, 3) := by decide +kernel
theorem dX0_moult_74 : decode cX0_moult 74 = .ok (.iload_n 1, 1) := by decide +kernel
theorem dX0_moult_75 : decode cX0_moult 75 = .ok (.iconst 5, 1) := by decide +kernel
theorem dX0_moult_76 : decode cX0_moult 76 = .ok (.imul, 1) := by decide +kernel
theorem dX0_moult_77 : decode cX0_moult 77 = .ok (.aload_n 0, 1) := by decide +kernel
theorem dX0_moult_78 : decode cX0_moult 78 = .ok (.getfield 25, 3) := by decide +kernel
theorem dX0_moult_81 : decode cX0_moult 81 = .ok (.iload_n 1, 1) := by decide +kernel
theorem dX0_moult_82 : decode cX0_moult 82 = .ok (.iaload, 1) := by decide +kernel
theorem dX0_moult_83 : decode cX0_moult 83 = .ok (.iadd, 1) := by decide +kernel
theorem dX0_moult_84 : decode cX0_moult 84 = .ok (.bipush 99, 2) := by decide +kernel
theorem dX0_moult_86 : decode cX0_moult 86 = .ok (.iload_n 3, 1) := by decide +kernel
theorem dX0_moult_87 : decode cX0_moult 87 = .ok (.invokestatic 126, 3) := by decide +kernel
theorem dX0_moult_90 : decode cX0_moult 90 = .ok (.iastore, 1) := by decide +kernel
theorem dX0_moult_91 : decode cX0_moult 91 = .ok (.return_, 1) := by decide +kernel
theorem dX0_lossOf_0 : decode cX0_lossOf 0 = .ok (.iload_n 1, 1) := by decide +kernel
theorem dX0_lossOf_1 : decode cX0_lossOf 1 = .ok (.bipush 8, 2) := by decide +kernel
theorem dX0_lossOf_3 : decode cX0_lossOf 3 = .ok (.idiv, 1) := by decide +kernel
theorem dX0_lossOf_4 : decode cX0_lossOf 4 = .ok (.istore_n 2, 1) := by decide +kernel
theorem dX0_lossOf_5 : decode cX0_lossOf 5 = .ok (.iload_n 1, 1) := by decide +kernel
theorem dX0_lossOf_6 : decode cX0_lossOf 6 = .ok (.iconst 2, 1) := by decide +kernel
theorem dX0_lossOf_7 : decode cX0_lossOf 7 = .ok (.iload_n 2, 1) := by decide +kernel
theorem dX0_lossOf_8 : decode cX0_lossOf 8 = .ok (.imul, 1) := by decide +kernel
theorem dX0_lossOf_9 : decode cX0_lossOf 9 = .ok (.iconst 1, 1) := by decide +kernel
theorem dX0_lossOf_10 : decode cX0_lossOf 10 = .ok (.iadd, 1) := by decide +kernel
theorem dX0_lossOf_11 : decode cX0_lossOf 11 = .ok (.invokestatic 126, 3) := by decide +kernel
theorem dX0_lossOf_14 : decode cX0_lossOf 14 = .ok (.istore_n 3, 1) := by decide +kernel
theorem dX0_lossOf_15 : decode cX0_lossOf 15 = .ok (.iload_n 0, 1) := by decide +kernel
theorem dX0_lossOf_16 : decode cX0_lossOf 16 = .ok (.tableswitch 48 0 3 #[32, 34, 36, 40], 32) := by decide +kernel
theorem dX0_lossOf_48 : decode cX0_lossOf 48 = .ok (.iload_n 2, 1) := by decide +kernel
theorem dX0_lossOf_49 : decode cX0_lossOf 49 = .ok (.ireturn, 1) := by decide +kernel
theorem dX0_lossOf_50 : decode cX0_lossOf 50 = .ok (.iload_n 3, 1) := by decide +kernel
theorem dX0_lossOf_51 : decode cX0_lossOf 51 = .ok (.ireturn, 1) := by decide +kernel
theorem dX0_lossOf_52 : decode cX0_lossOf 52 = .ok (.iload_n 3, 1) := by decide +kernel
theorem dX0_lossOf_53 : decode cX0_lossOf 53 = .ok (.iconst 2, 1) := by decide +kernel
theorem dX0_lossOf_54 : decode cX0_lossOf 54 = .ok (.idiv, 1) := by decide +kernel
theorem dX0_lossOf_55 : decode cX0_lossOf 55 = .ok (.ireturn, 1) := by decide +kernel
theorem dX0_lossOf_56 : decode cX0_lossOf 56 = .ok (.iconst 0, 1) := by decide +kernel
theorem dX0_lossOf_57 : decode cX0_lossOf 57 = .ok (.iload_n 2, 1) := by decide +kernel
theorem dX0_lossOf_58 : decode cX0_lossOf 58 = .ok (.iconst 1, 1) := by decide +kernel
theorem dX0_lossOf_59 : decode cX0_lossOf 59 = .ok (.isub, 1) := by decide +kernel
theorem dX0_lossOf_60 : decode cX0_lossOf 60 = .ok (.invokestatic 131, 3) := by decide +kernel
theorem dX0_lossOf_63 : decode cX0_lossOf 63 = .ok (.ireturn, 1) := by decide +kernel
theorem dX0_lossOf_64 : decode cX0_lossOf 64 = .ok (.iconst 0, 1) := by decide +kernel
theorem dX0_lossOf_65 : decode cX0_lossOf 65 = .ok (.ireturn, 1) := by decide +kernel
set_option maxRecDepth 20000 in
theorem ggX0_isInPower_X0_held : GoodIn wsX0_isInPower wsX0_held := goodIn_r _ [5, 6, 11, 12, 13, 14, 15, 16, 17, 18, 19, 20, 21, 22, 23] (by decide +kernel) (by decide +kernel)
set_option maxRecDepth 20000 in
theorem gX0_isInPower_X0_held : GoodIn wsX0_isInPower (wsV RX0 68 RX0 yX0_held wsX0_held) := goodIn_app (goodIn_of _ (by decide +kernel)) ggX0_isInPower_X0_held
set_option maxRecDepth 20000 in
theorem ggX0_isInPower_X0_feathersOf : GoodIn wsX0_isInPower wsX0_feathersOf := goodIn_r _ [10, 1, 2, 3, 4, 5, 6, 11, 12, 13, 14, 15, 16, 17, 18, 19, 20, 21, 22, 23] (by decide +kernel) (by decide +kernel)
set_option maxRecDepth 20000 in
theorem gX0_isInPower_X0_feathersOf : GoodIn wsX0_isInPower (wsV RX0 72 RX0 yX0_feathersOf wsX0_feathersOf) := goodIn_app (goodIn_of _ (by decide +kernel)) ggX0_isInPower_X0_feathersOf
theorem dX0_isInPower_0 : decode cX0_isInPower 0 = .ok (.iconst 0, 1) := by decide +kernel
theorem dX0_isInPower_1 : decode cX0_isInPower 1 = .ok (.istore_n 3, 1) := by decide +kernel
theorem dX0_isInPower_2 : decode cX0_isInPower 2 = .ok (.iconst 0, 1) := by decide +kernel
theorem dX0_isInPower_3 : decode cX0_isInPower 3 = .ok (.istore 4, 2) := by decide +kernel
theorem dX0_isInPower_5 : decode cX0_isInPower 5 = .ok (.iload 4, 2) := by decide +kernel
theorem dX0_isInPower_7 : decode cX0_isInPower 7 = .ok (.iconst 5, 1) := by decide +kernel
theorem dX0_isInPower_8 : decode cX0_isInPower 8 = .ok (.if_icmp .ge 26, 3) := by decide +kernel
theorem dX0_isInPower_11 : decode cX0_isInPower 11 = .ok (.iload_n 3, 1) := by decide +kernel
theorem dX0_isInPower_12 : decode cX0_isInPower 12 = .ok (.iload_n 2, 1) := by decide +kernel
theorem dX0_isInPower_13 : decode cX0_isInPower 13 = .ok (.iload 4, 2) := by decide +kernel
theorem dX0_isInPower_15 : decode cX0_isInPower 15 = .ok (.ishr, 1) := by decide +kernel
theorem dX0_isInPower_16 : decode cX0_isInPower 16 = .ok (.iconst 1, 1) := by decide +kernel
theorem dX0_isInPower_17 : decode cX0_isInPower 17 = .ok (.iand, 1) := by decide +kernel
theorem dX0_isInPower_18 : decode cX0_isInPower 18 = .ok (.aload_n 0, 1) := by decide +kernel
theorem dX0_isInPower_19 : decode cX0_isInPower 19 = .ok (.iload_n 1, 1) := by decide +kernel
theorem dX0_isInPower_20 : decode cX0_isInPower 20 = .ok (.iload 4, 2) := by decide +kernel
theorem dX0_isInPower_22 : decode cX0_isInPower 22 = .ok (.invokevirtual 68, 3) := by decide +kernel
theorem dX0_isInPower_25 : decode cX0_isInPower 25 = .ok (.imul, 1) := by decide +kernel
theorem dX0_isInPower_26 : decode cX0_isInPower 26 = .ok (.iadd, 1) := by decide +kernel
theorem dX0_isInPower_27 : decode cX0_isInPower 27 = .ok (.istore_n 3, 1) := by decide +kernel
theorem dX0_isInPower_28 : decode cX0_isInPower 28 = .ok (.iinc 4 1, 3) := by decide +kernel
theorem dX0_isInPower_31 : decode cX0_isInPower 31 = .ok (.goto (-26), 3) := by decide +kernel
theorem dX0_isInPower_34 : decode cX0_isInPower 34 = .ok (.iconst 2, 1) := by decide +kernel
theorem dX0_isInPower_35 : decode cX0_isInPower 35 = .ok (.iload_n 3, 1) := by decide +kernel
theorem dX0_isInPower_36 : decode cX0_isInPower 36 = .ok (.imul, 1) := by decide +kernel
theorem dX0_isInPower_37 : decode cX0_isInPower 37 = .ok (.aload_n 0, 1) := by decide +kernel
theorem dX0_isInPower_38 : decode cX0_isInPower 38 = .ok (.iload_n 1, 1) := by decide +kernel
theorem dX0_isInPower_39 : decode cX0_isInPower 39 = .ok (.invokevirtual 72, 3) := by decide +kernel
theorem dX0_isInPower_42 : decode cX0_isInPower 42 = .ok (.if_icmp .le 7, 3) := by decide +kernel
theorem dX0_isInPower_45 : decode cX0_isInPower 45 = .ok (.iconst 1, 1) := by decide +kernel
theorem dX0_isInPower_46 : decode cX0_isInPower 46 = .ok (.goto 4, 3) := by decide +kernel
theorem dX0_isInPower_49 : decode cX0_isInPower 49 = .ok (.iconst 0, 1) := by decide +kernel
theorem dX0_isInPower_50 : decode cX0_isInPower 50 = .ok (.ireturn, 1) := by decide +kernel
set_option maxRecDepth 20000 in
theorem ggX0_setsSwungBy_X0_isInPower : GoodIn wsX0_setsSwungBy wsX0_isInPower := goodIn_r _ [5, 6, 7, 8, 4, 9, 10, 11, 12, 13, 14, 15, 16, 17, 18, 19, 20, 21, 22, 23, 24, 25, 26, 27] (by decide +kernel) (by decide +kernel)
set_option maxRecDepth 20000 in
theorem gX0_setsSwungBy_X0_isInPower : GoodIn wsX0_setsSwungBy (wsV RX0 134 RX0 yX0_isInPower wsX0_isInPower) := goodIn_app (goodIn_of _ (by decide +kernel)) ggX0_setsSwungBy_X0_isInPower
theorem dX0_setsSwungBy_0 : decode cX0_setsSwungBy 0 = .ok (.iconst 0, 1) := by decide +kernel
theorem dX0_setsSwungBy_1 : decode cX0_setsSwungBy 1 = .ok (.istore_n 3, 1) := by decide +kernel
theorem dX0_setsSwungBy_2 : decode cX0_setsSwungBy 2 = .ok (.iconst 0, 1) := by decide +kernel
theorem dX0_setsSwungBy_3 : decode cX0_setsSwungBy 3 = .ok (.istore 4, 2) := by decide +kernel
theorem dX0_setsSwungBy_5 : decode cX0_setsSwungBy 5 = .ok (.iload 4, 2) := by decide +kernel
theorem dX0_setsSwungBy_7 : decode cX0_setsSwungBy 7 = .ok (.bipush 32, 2) := by decide +kernel
theorem dX0_setsSwungBy_9 : decode cX0_setsSwungBy 9 = .ok (.if_icmp .ge 57, 3) := by decide +kernel
theorem dX0_setsSwungBy_12 : decode cX0_setsSwungBy 12 = .ok (.iload 4, 2) := by decide +kernel
theorem dX0_setsSwungBy_14 : decode cX0_setsSwungBy 14 = .ok (.iload_n 2, 1) := by decide +kernel
theorem dX0_setsSwungBy_15 : decode cX0_setsSwungBy 15 = .ok (.ishr, 1) := by decide +kernel
theorem dX0_setsSwungBy_16 : decode cX0_setsSwungBy 16 = .ok (.iconst 1, 1) := by decide +kernel
theorem dX0_setsSwungBy_17 : decode cX0_setsSwungBy 17 = .ok (.iand, 1) := by decide +kernel
theorem dX0_setsSwungBy_18 : decode cX0_setsSwungBy 18 = .ok (.ifCond .ne 7, 3) := by decide +kernel
theorem dX0_setsSwungBy_21 : decode cX0_setsSwungBy 21 = .ok (.iconst 1, 1) := by decide +kernel
theorem dX0_setsSwungBy_22 : decode cX0_setsSwungBy 22 = .ok (.goto 4, 3) := by decide +kernel
theorem dX0_setsSwungBy_25 : decode cX0_setsSwungBy 25 = .ok (.iconst 0, 1) := by decide +kernel
theorem dX0_setsSwungBy_26 : decode cX0_setsSwungBy 26 = .ok (.istore 5, 2) := by decide +kernel
theorem dX0_setsSwungBy_28 : decode cX0_setsSwungBy 28 = .ok (.iload 5, 2) := by decide +kernel
theorem dX0_setsSwungBy_30 : decode cX0_setsSwungBy 30 = .ok (.ifCond .eq 30, 3) := by decide +kernel
theorem dX0_setsSwungBy_33 : decode cX0_setsSwungBy 33 = .ok (.aload_n 0, 1) := by decide +kernel
theorem dX0_setsSwungBy_34 : decode cX0_setsSwungBy 34 = .ok (.iload_n 1, 1) := by decide +kernel
theorem dX0_setsSwungBy_35 : decode cX0_setsSwungBy 35 = .ok (.iload 4, 2) := by decide +kernel
theorem dX0_setsSwungBy_37 : decode cX0_setsSwungBy 37 = .ok (.invokevirtual 134, 3) := by decide +kernel
theorem dX0_setsSwungBy_40 : decode cX0_setsSwungBy 40 = .ok (.ifCond .ne 20, 3) := by decide +kernel
theorem dX0_setsSwungBy_43 : decode cX0_setsSwungBy 43 = .ok (.aload_n 0, 1) := by decide +kernel
theorem dX0_setsSwungBy_44 : decode cX0_setsSwungBy 44 = .ok (.iload_n 1, 1) := by decide +kernel
theorem dX0_setsSwungBy_45 : decode cX0_setsSwungBy 45 = .ok (.iload 4, 2) := by decide +kernel
theorem dX0_setsSwungBy_47 : decode cX0_setsSwungBy 47 = .ok (.iconst 1, 1) := by decide +kernel
theorem dX0_setsSwungBy_48 : decode cX0_setsSwungBy 48 = .ok (.iload_n 2, 1) := by decide +kernel
theorem dX0_setsSwungBy_49 : decode cX0_setsSwungBy 49 = .ok (.ishl, 1) := by decide +kernel
theorem dX0_setsSwungBy_50 : decode cX0_setsSwungBy 50 = .ok (.ior, 1) := by decide +kernel
theorem dX0_setsSwungBy_51 : decode cX0_setsSwungBy 51 = .ok (.invokevirtual 134, 3) := by decide +kernel
theorem dX0_setsSwungBy_54 : decode cX0_setsSwungBy 54 = .ok (.ifCond .eq 6, 3) := by decide +kernel
theorem dX0_setsSwungBy_57 : decode cX0_setsSwungBy 57 = .ok (.iinc 3 1, 3) := by decide +kernel
theorem dX0_setsSwungBy_60 : decode cX0_setsSwungBy 60 = .ok (.iinc 4 1, 3) := by decide +kernel
theorem dX0_setsSwungBy_63 : decode cX0_setsSwungBy 63 = .ok (.goto (-58), 3) := by decide +kernel
theorem dX0_setsSwungBy_66 : decode cX0_setsSwungBy 66 = .ok (.iload_n 3, 1) := by decide +kernel
theorem dX0_setsSwungBy_67 : decode cX0_setsSwungBy 67 = .ok (.ireturn, 1) := by decide +kernel
set_option maxRecDepth 20000 in
theorem ggX1_init_X0_init : GoodIn wsX1_init wsX0_init := goodIn_r _ [18, 19, 2, 3, 20, 21, 22, 8, 23, 24, 25, 26, 27, 28, 29, 30, 31, 32, 33, 34, 35, 36, 37, 38, 39, 40, 41, 42, 43, 44, 45, 46, 47, 48, 49] (by decide +kernel) (by decide +kernel)
set_option maxRecDepth 20000 in
theorem gX1_init_X0_init_n11 : GoodIn wsX1_init (wsX0_init) := ggX1_init_X0_init
theorem dX1_init_0 : decode cX1_init 0 = .ok (.aload_n 0, 1) := by decide +kernel
theorem dX1_init_1 : decode cX1_init 1 = .ok (.invokespecial 3, 3) := by decide +kernel
theorem dX1_init_4 : decode cX1_init 4 = .ok (.aload_n 0, 1) := by decide +kernel
theorem dX1_init_5 : decode cX1_init 5 = .ok (.new 9, 3) := by decide +kernel
theorem dX1_init_8 : decode cX1_init 8 = .ok (.dup, 1) := by decide +kernel
theorem dX1_init_9 : decode cX1_init 9 = .ok (.invokespecial 11, 3) := by decide +kernel
theorem dX1_init_12 : decode cX1_init 12 = .ok (.putfield 12, 3) := by decide +kernel
theorem dX1_init_15 : decode cX1_init 15 = .ok (.aload_n 0, 1) := by decide +kernel
theorem dX1_init_16 : decode cX1_init 16 = .ok (.sipush 135, 3) := by decide +kernel
theorem dX1_init_19 : decode cX1_init 19 = .ok (.newarray .int, 2) := by decide +kernel
theorem dX1_init_21 : decode cX1_init 21 = .ok (.putfield 18, 3) := by decide +kernel
theorem dX1_init_24 : decode cX1_init 24 = .ok (.aload_n 0, 1) := by decide +kernel
theorem dX1_init_25 : decode cX1_init 25 = .ok (.iconst 0, 1) := by decide +kernel
theorem dX1_init_26 : decode cX1_init 26 = .ok (.putfield 22, 3) := by decide +kernel
theorem dX1_init_29 : decode cX1_init 29 = .ok (.aload_n 0, 1) := by decide +kernel
theorem dX1_init_30 : decode cX1_init 30 = .ok (.iconst 0, 1) := by decide +kernel
theorem dX1_init_31 : decode cX1_init 31 = .ok (.putfield 26, 3) := by decide +kernel
theorem dX1_init_34 : decode cX1_init 34 = .ok (.aload_n 0, 1) := by decide +kernel
theorem dX1_init_35 : decode cX1_init 35 = .ok (.iconst 0, 1) := by decide +kernel
theorem dX1_init_36 : decode cX1_init 36 = .ok (.putfield 29, 3) := by decide +kernel
theorem dX1_init_39 : decode cX1_init 39 = .ok (.aload_n 0, 1) := by decide +kernel
theorem dX1_init_40 : decode cX1_init 40 = .ok (.iconst 0, 1) := by decide +kernel
theorem dX1_init_41 : decode cX1_init 41 = .ok (.putfield 32, 3) := by decide +kernel
theorem dX1_init_44 : decode cX1_init 44 = .ok (.aload_n 0, 1) := by decide +kernel
theorem dX1_init_45 : decode cX1_init 45 = .ok (.iconst 0, 1) := by decide +kernel
theorem dX1_init_46 : decode cX1_init 46 = .ok (.putfield 35, 3) := by decide +kernel
theorem dX1_init_49 : decode cX1_init 49 = .ok (.aload_n 0, 1) := by decide +kernel
theorem dX1_init_50 : decode cX1_init 50 = .ok (.bipush (-4), 2) := by decide +kernel
theorem dX1_init_52 : decode cX1_init 52 = .ok (.putfield 38, 3) := by decide +kernel
theorem dX1_init_55 : decode cX1_init 55 = .ok (.aload_n 0, 1) := by decide +kernel
theorem dX1_init_56 : decode cX1_init 56 = .ok (.bipush (-4), 2) := by decide +kernel
theorem dX1_init_58 : decode cX1_init 58 = .ok (.putfield 41, 3) := by decide +kernel
theorem dX1_init_61 : decode cX1_init 61 = .ok (.return_, 1) := by decide +kernel
set_option maxRecDepth 20000 in
theorem ggX1_findBest_X0_copyFrom : GoodIn wsX1_findBest wsX0_copyFrom := goodIn_r _ [13, 14, 15, 16, 17, 18, 19, 20, 21, 22, 23, 24, 25, 26, 27, 28, 29, 30, 102, 103, 104, 105, 106, 107, 108, 109, 110, 111, 112, 113, 114] (by decide +kernel) (by decide +kernel)
set_option maxRecDepth 20000 in
theorem gX1_findBest_X0_copyFrom_n44 : GoodIn wsX1_findBest (wsX0_copyFrom) := ggX1_findBest_X0_copyFrom
set_option maxRecDepth 20000 in
theorem ggX1_findBest_X0_geeseWithEggOf : GoodIn wsX1_findBest wsX0_geeseWithEggOf := goodIn_r _ [33, 14, 34, 35, 36, 11, 37, 22, 38, 39, 40, 41, 24, 102, 103, 104, 105, 106, 107, 108, 109, 110, 111, 112, 113, 114] (by decide +kernel) (by decide +kernel)
set_option maxRecDepth 20000 in
theorem gX1_findBest_X0_geeseWithEggOf_n48 : GoodIn wsX1_findBest (wsX0_geeseWithEggOf) := ggX1_findBest_X0_geeseWithEggOf
set_option maxRecDepth 20000 in
theorem ggX1_findBest_J6_bitCount_0f7a4 : GoodIn wsX1_findBest wsJ6_bitCount_0f7a4 := goodIn_r _ [45, 46, 47, 48] (by decide +kernel) (by decide +kernel)
set_option maxRecDepth 20000 in
theorem gX1_findBest_J6_bitCount_0f7a4 : GoodIn wsX1_findBest (va_wsS RX1 52 yJ6_bitCount_0f7a4 wsJ6_bitCount_0f7a4) := goodIn_app (goodIn_of _ (by decide +kernel)) ggX1_findBest_J6_bitCount_0f7a4
set_option maxRecDepth 20000 in
theorem ggX1_findBest_X1_listCodes : GoodIn wsX1_findBest wsX1_listCodes := goodIn_r _ [53, 8, 1, 2, 9, 54, 11, 55, 56, 23, 25, 57, 58, 59, 60, 38, 39, 40, 41, 24, 93, 94, 95, 96, 97, 98, 99, 100, 101, 102, 103, 104, 105, 106, 107, 108, 109, 110, 111, 112, 113, 114] (by decide +kernel) (by decide +kernel)
set_option maxRecDepth 20000 in
theorem gX1_findBest_X1_listCodes : GoodIn wsX1_findBest (wsV RX1 57 RX1 yX1_listCodes wsX1_listCodes) := goodIn_app (goodIn_of _ (by decide +kernel)) ggX1_findBest_X1_listCodes
set_option maxRecDepth 20000 in
theorem ggX1_findBest_X1_make : GoodIn wsX1_findBest wsX1_make := goodIn_r _ [64, 1, 2, 65, 66, 52, 67, 68, 69, 70, 71, 72, 73, 74, 11, 75, 76, 25, 23, 77, 78, 79, 80, 24, 93, 94, 95, 96, 97, 98, 99, 100, 101, 102, 103, 104, 105, 106, 107, 108, 109, 110, 111, 112, 113, 114] (by decide +kernel) (by decide +kernel)
set_option maxRecDepth 20000 in
theorem gX1_findBest_X1_make : GoodIn wsX1_findBest (wsV RX1 60 RX1 yX1_make wsX1_make) := goodIn_app (goodIn_of _ (by decide +kernel)) ggX1_findBest_X1_make
set_option maxRecDepth 20000 in
theorem ggX1_findBest_X1_weigh : GoodIn wsX1_findBest wsX1_weigh := goodIn_r _ [84, 1, 2, 3, 4, 5, 6, 7, 31, 11, 32, 33, 14, 34, 35, 36, 37, 22, 38, 39, 40, 41, 24, 42, 43, 44, 45, 46, 47, 48, 85, 86, 87, 52, 88, 93, 94, 95, 96, 97, 98, 99, 100, 101, 102, 103, 104, 105, 106, 107, 108, 109, 110, 111, 112, 113, 114] (by decide +kernel) (by decide +kernel)
set_option maxRecDepth 20000 in
theorem gX1_findBest_X1_weigh : GoodIn wsX1_findBest (wsV RX1 64 RX1 yX1_weigh wsX1_weigh) := goodIn_app (goodIn_of _ (by decide +kernel)) ggX1_findBest_X1_weigh
set_option maxRecDepth 20000 in
theorem ggX1_findBest_X1_weighPairs : GoodIn wsX1_findBest wsX1_weighPairs := goodIn_r _ [92, 8, 9, 1, 2, 65, 66, 52, 67, 68, 69, 70, 71, 72, 73, 54, 11, 55, 56, 23, 25, 57, 58, 59, 60, 38, 39, 40, 41, 24, 61, 62, 63, 64, 74, 75, 76, 77, 78, 79, 80, 81, 82, 83, 84, 3, 4, 5, 6, 7, 31, 32, 33, 14, 34, 35, 36, 37, 22, 42, 43, 44, 45, 46, 47, 48, 85, 86, 87, 88, 93, 94, 95, 96, 97, 98, 99, 100, 101, 102, 103, 104, 105, 106, 107, 108, 109, 110, 111, 112, 113, 114] (by decide +kernel) (by decide +kernel)
set_option maxRecDepth 20000 in
theorem gX1_findBest_X1_weighPairs : GoodIn wsX1_findBest (wsV RX1 68 RX1 yX1_weighPairs wsX1_weighPairs) := goodIn_app (goodIn_of _ (by decide +kernel)) ggX1_findBest_X1_weighPairs
theorem dX1_findBest_0 : decode cX1_findBest 0 = .ok (.aload_n 0, 1) := by decide +kernel
theorem dX1_findBest_1 : decode cX1_findBest 1 = .ok (.getfield 12, 3) := by decide +kernel
theorem dX1_findBest_4 : decode cX1_findBest 4 = .ok (.aload_n 1, 1) := by decide +kernel
theorem dX1_findBest_5 : decode cX1_findBest 5 = .ok (.invokevirtual 44, 3) := by decide +kernel
theorem dX1_findBest_8 : decode cX1_findBest 8 = .ok (.aload_n 0, 1) := by decide +kernel
theorem dX1_findBest_9 : decode cX1_findBest 9 = .ok (.iload_n 2, 1) := by decide +kernel
theorem dX1_findBest_10 : decode cX1_findBest 10 = .ok (.putfield 26, 3) := by decide +kernel
theorem dX1_findBest_13 : decode cX1_findBest 13 = .ok (.aload_n 0, 1) := by decide +kernel
theorem dX1_findBest_14 : decode cX1_findBest 14 = .ok (.aload_n 0, 1) := by decide +kernel
theorem dX1_findBest_15 : decode cX1_findBest 15 = .ok (.getfield 12, 3) := by decide +kernel
theorem dX1_findBest_18 : decode cX1_findBest 18 = .ok (.iload_n 2, 1) := by decide +kernel
theorem dX1_findBest_19 : decode cX1_findBest 19 = .ok (.invokevirtual 48, 3) := by decide +kernel
theorem dX1_findBest_22 : decode cX1_findBest 22 = .ok (.invokestatic 52, 3) := by decide +kernel
theorem dX1_findBest_25 : decode cX1_findBest 25 = .ok (.putfield 29, 3) := by decide +kernel
theorem dX1_findBest_28 : decode cX1_findBest 28 = .ok (.aload_n 0, 1) := by decide +kernel
theorem dX1_findBest_29 : decode cX1_findBest 29 = .ok (.iconst 0, 1) := by decide +kernel
theorem dX1_findBest_30 : decode cX1_findBest 30 = .ok (.putfield 32, 3) := by decide +kernel
theorem dX1_findBest_33 : decode cX1_findBest 33 = .ok (.aload_n 0, 1) := by decide +kernel
theorem dX1_findBest_34 : decode cX1_findBest 34 = .ok (.iconst 0, 1) := by decide +kernel
theorem dX1_findBest_35 : decode cX1_findBest 35 = .ok (.putfield 35, 3) := by decide +kernel
theorem dX1_findBest_38 : decode cX1_findBest 38 = .ok (.aload_n 0, 1) := by decide +kernel
theorem dX1_findBest_39 : decode cX1_findBest 39 = .ok (.bipush (-4), 2) := by decide +kernel
theorem dX1_findBest_41 : decode cX1_findBest 41 = .ok (.putfield 38, 3) := by decide +kernel
theorem dX1_findBest_44 : decode cX1_findBest 44 = .ok (.aload_n 0, 1) := by decide +kernel
theorem dX1_findBest_45 : decode cX1_findBest 45 = .ok (.bipush (-4), 2) := by decide +kernel
theorem dX1_findBest_47 : decode cX1_findBest 47 = .ok (.putfield 41, 3) := by decide +kernel
theorem dX1_findBest_50 : decode cX1_findBest 50 = .ok (.aload_n 0, 1) := by decide +kernel
theorem dX1_findBest_51 : decode cX1_findBest 51 = .ok (.invokevirtual 57, 3) := by decide +kernel
theorem dX1_findBest_54 : decode cX1_findBest 54 = .ok (.iconst 0, 1) := by decide +kernel
theorem dX1_findBest_55 : decode cX1_findBest 55 = .ok (.istore 4, 2) := by decide +kernel
theorem dX1_findBest_57 : decode cX1_findBest 57 = .ok (.iload 4, 2) := by decide +kernel
theorem dX1_findBest_59 : decode cX1_findBest 59 = .ok (.aload_n 0, 1) := by decide +kernel
theorem dX1_findBest_60 : decode cX1_findBest 60 = .ok (.getfield 22, 3) := by decide +kernel
theorem dX1_findBest_63 : decode cX1_findBest 63 = .ok (.if_icmp .ge 65, 3) := by decide +kernel
theorem dX1_findBest_66 : decode cX1_findBest 66 = .ok (.iload_n 3, 1) := by decide +kernel
theorem dX1_findBest_67 : decode cX1_findBest 67 = .ok (.iconst 1, 1) := by decide +kernel
theorem dX1_findBest_68 : decode cX1_findBest 68 = .ok (.if_icmp .lt 60, 3) := by decide +kernel
theorem dX1_findBest_71 : decode cX1_findBest 71 = .ok (.aload_n 0, 1) := by decide +kernel
theorem dX1_findBest_72 : decode cX1_findBest 72 = .ok (.aload_n 0, 1) := by decide +kernel
theorem dX1_findBest_73 : decode cX1_findBest 73 = .ok (.getfield 18, 3) := by decide +kernel
theorem dX1_findBest_76 : decode cX1_findBest 76 = .ok (.iload 4, 2) := by decide +kernel
theorem dX1_findBest_78 : decode cX1_findBest 78 = .ok (.iaload, 1) := by decide +kernel
theorem dX1_findBest_79 : decode cX1_findBest 79 = .ok (.iconst 1, 1) := by decide +kernel
theorem dX1_findBest_80 : decode cX1_findBest 80 = .ok (.invokevirtual 60, 3) := by decide +kernel
theorem dX1_findBest_83 : decode cX1_findBest 83 = .ok (.aload_n 0, 1) := by decide +kernel
theorem dX1_findBest_84 : decode cX1_findBest 84 = .ok (.aload_n 1, 1) := by decide +kernel
theorem dX1_findBest_85 : decode cX1_findBest 85 = .ok (.iconst 1, 1) := by decide +kernel
theorem dX1_findBest_86 : decode cX1_findBest 86 = .ok (.aload_n 0, 1) := by decide +kernel
theorem dX1_findBest_87 : decode cX1_findBest 87 = .ok (.getfield 18, 3) := by decide +kernel
theorem dX1_findBest_90 : decode cX1_findBest 90 = .ok (.iload 4, 2) := by decide +kernel
theorem dX1_findBest_92 : decode cX1_findBest 92 = .ok (.iaload, 1) := by decide +kernel
theorem dX1_findBest_93 : decode cX1_findBest 93 = .ok (.bipush (-4), 2) := by decide +kernel
theorem dX1_findBest_95 : decode cX1_findBest 95 = .ok (.invokevirtual 64, 3) := by decide +kernel
theorem dX1_findBest_98 : decode cX1_findBest 98 = .ok (.iload_n 3, 1) := by decide +kernel
theorem dX1_findBest_99 : decode cX1_findBest 99 = .ok (.iconst 2, 1) := by decide +kernel
theorem dX1_findBest_100 : decode cX1_findBest 100 = .ok (.if_icmp .lt 10, 3) := by decide +kernel
theorem dX1_findBest_103 : decode cX1_findBest 103 = .ok (.aload_n 0, 1) := by decide +kernel
theorem dX1_findBest_104 : decode cX1_findBest 104 = .ok (.aload_n 1, 1) := by decide +kernel
theorem dX1_findBest_105 : decode cX1_findBest 105 = .ok (.iload 4, 2) := by decide +kernel
theorem dX1_findBest_107 : decode cX1_findBest 107 = .ok (.invokevirtual 68, 3) := by decide +kernel
theorem dX1_findBest_110 : decode cX1_findBest 110 = .ok (.aload_n 0, 1) := by decide +kernel
theorem dX1_findBest_111 : decode cX1_findBest 111 = .ok (.aload_n 0, 1) := by decide +kernel
theorem dX1_findBest_112 : decode cX1_findBest 112 = .ok (.getfield 18, 3) := by decide +kernel
theorem dX1_findBest_115 : decode cX1_findBest 115 = .ok (.iload 4, 2) := by decide +kernel
theorem dX1_findBest_117 : decode cX1_findBest 117 = .ok (.iaload, 1) := by decide +kernel
theorem dX1_findBest_118 : decode cX1_findBest 118 = .ok (.iconst (-1), 1) := by decide +kernel
theorem dX1_findBest_119 : decode cX1_findBest 119 = .ok (.invokevirtual 60, 3) := by decide +kernel
theorem dX1_findBest_122 : decode cX1_findBest 122 = .ok (.iinc 4 1, 3) := by decide +kernel
theorem dX1_findBest_125 : decode cX1_findBest 125 = .ok (.goto (-68), 3) := by decide +kernel
theorem dX1_findBest_128 : decode cX1_findBest 128 = .ok (.return_, 1) := by decide +kernel
set_option maxRecDepth 20000 in
theorem ggX1_listCodes_X0_canTrade : GoodIn wsX1_listCodes wsX0_canTrade := goodIn_r _ [8, 9, 10, 11, 12, 13, 6, 14, 15, 16, 17, 18, 19, 29, 30, 31, 32, 33, 34, 35, 36, 37, 38, 39, 40, 41] (by decide +kernel) (by decide +kernel)
set_option maxRecDepth 20000 in
theorem gX1_listCodes_X0_canTrade_n75 : GoodIn wsX1_listCodes (wsX0_canTrade) := ggX1_listCodes_X0_canTrade
theorem dX1_listCodes_0 : decode cX1_listCodes 0 = .ok (.aload_n 0, 1) := by decide +kernel
theorem dX1_listCodes_1 : decode cX1_listCodes 1 = .ok (.iconst 0, 1) := by decide +kernel
theorem dX1_listCodes_2 : decode cX1_listCodes 2 = .ok (.putfield 22, 3) := by decide +kernel
theorem dX1_listCodes_5 : decode cX1_listCodes 5 = .ok (.iconst 0, 1) := by decide +kernel
theorem dX1_listCodes_6 : decode cX1_listCodes 6 = .ok (.istore_n 1, 1) := by decide +kernel
theorem dX1_listCodes_7 : decode cX1_listCodes 7 = .ok (.iload_n 1, 1) := by decide +kernel
theorem dX1_listCodes_8 : decode cX1_listCodes 8 = .ok (.iconst 5, 1) := by decide +kernel
theorem dX1_listCodes_9 : decode cX1_listCodes 9 = .ok (.if_icmp .ge 97, 3) := by decide +kernel
theorem dX1_listCodes_12 : decode cX1_listCodes 12 = .ok (.iconst 0, 1) := by decide +kernel
theorem dX1_listCodes_13 : decode cX1_listCodes 13 = .ok (.istore_n 2, 1) := by decide +kernel
theorem dX1_listCodes_14 : decode cX1_listCodes 14 = .ok (.iload_n 2, 1) := by decide +kernel
theorem dX1_listCodes_15 : decode cX1_listCodes 15 = .ok (.aload_n 0, 1) := by decide +kernel
theorem dX1_listCodes_16 : decode cX1_listCodes 16 = .ok (.getfield 12, 3) := by decide +kernel
theorem dX1_listCodes_19 : decode cX1_listCodes 19 = .ok (.getfield 72, 3) := by decide +kernel
theorem dX1_listCodes_22 : decode cX1_listCodes 22 = .ok (.if_icmp .ge 78, 3) := by decide +kernel
theorem dX1_listCodes_25 : decode cX1_listCodes 25 = .ok (.iconst 1, 1) := by decide +kernel
theorem dX1_listCodes_26 : decode cX1_listCodes 26 = .ok (.istore_n 3, 1) := by decide +kernel
theorem dX1_listCodes_27 : decode cX1_listCodes 27 = .ok (.iload_n 3, 1) := by decide +kernel
theorem dX1_listCodes_28 : decode cX1_listCodes 28 = .ok (.bipush 9, 2) := by decide +kernel
theorem dX1_listCodes_30 : decode cX1_listCodes 30 = .ok (.if_icmp .gt 64, 3) := by decide +kernel
theorem dX1_listCodes_33 : decode cX1_listCodes 33 = .ok (.iload_n 1, 1) := by decide +kernel
theorem dX1_listCodes_34 : decode cX1_listCodes 34 = .ok (.aload_n 0, 1) := by decide +kernel
theorem dX1_listCodes_35 : decode cX1_listCodes 35 = .ok (.getfield 26, 3) := by decide +kernel
theorem dX1_listCodes_38 : decode cX1_listCodes 38 = .ok (.if_icmp .eq 50, 3) := by decide +kernel
theorem dX1_listCodes_41 : decode cX1_listCodes 41 = .ok (.aload_n 0, 1) := by decide +kernel
theorem dX1_listCodes_42 : decode cX1_listCodes 42 = .ok (.getfield 12, 3) := by decide +kernel
theorem dX1_listCodes_45 : decode cX1_listCodes 45 = .ok (.aload_n 0, 1) := by decide +kernel
theorem dX1_listCodes_46 : decode cX1_listCodes 46 = .ok (.getfield 26, 3) := by decide +kernel
theorem dX1_listCodes_49 : decode cX1_listCodes 49 = .ok (.iload_n 1, 1) := by decide +kernel
theorem dX1_listCodes_50 : decode cX1_listCodes 50 = .ok (.iload_n 2, 1) := by decide +kernel
theorem dX1_listCodes_51 : decode cX1_listCodes 51 = .ok (.iload_n 3, 1) := by decide +kernel
theorem dX1_listCodes_52 : decode cX1_listCodes 52 = .ok (.invokevirtual 75, 3) := by decide +kernel
theorem dX1_listCodes_55 : decode cX1_listCodes 55 = .ok (.ifCond .eq 33, 3) := by decide +kernel
theorem dX1_listCodes_58 : decode cX1_listCodes 58 = .ok (.aload_n 0, 1) := by decide +kernel
theorem dX1_listCodes_59 : decode cX1_listCodes 59 = .ok (.getfield 18, 3) := by decide +kernel
theorem dX1_listCodes_62 : decode cX1_listCodes 62 = .ok (.aload_n 0, 1) := by decide +kernel
theorem dX1_listCodes_63 : decode cX1_listCodes 63 = .ok (.getfield 22, 3) := by decide +kernel
theorem dX1_listCodes_66 : decode cX1_listCodes 66 = .ok (.bipush 100, 2) := by decide +kernel
theorem dX1_listCodes_68 : decode cX1_listCodes 68 = .ok (.iload_n 1, 1) := by decide +kernel
theorem dX1_listCodes_69 : decode cX1_listCodes 69 = .ok (.imul, 1) := by decide +kernel
theorem dX1_listCodes_70 : decode cX1_listCodes 70 = .ok (.bipush 10, 2) := by decide +kernel
theorem dX1_listCodes_72 : decode cX1_listCodes 72 = .ok (.iload_n 2, 1) := by decide +kernel
theorem dX1_listCodes_73 : decode cX1_listCodes 73 = .ok (.imul, 1) := by decide +kernel
theorem dX1_listCodes_74 : decode cX1_listCodes 74 = .ok (.iadd, 1) := by decide +kernel
theorem dX1_listCodes_75 : decode cX1_listCodes 75 = .ok (.iload_n 3, 1) := by decide +kernel
theorem dX1_listCodes_76 : decode cX1_listCodes 76 = .ok (.iadd, 1) := by decide +kernel
theorem dX1_listCodes_77 : decode cX1_listCodes 77 = .ok (.iastore, 1) := by decide +kernel
theorem dX1_listCodes_78 : decode cX1_listCodes 78 = .ok (.aload_n 0, 1) := by decide +kernel
theorem dX1_listCodes_79 : decode cX1_listCodes 79 = .ok (.dup, 1) := by decide +kernel
theorem dX1_listCodes_80 : decode cX1_listCodes 80 = .ok (.getfield 22, 3) := by decide +kernel
theorem dX1_listCodes_83 : decode cX1_listCodes 83 = .ok (.iconst 1, 1) := by decide +kernel
theorem dX1_listCodes_84 : decode cX1_listCodes 84 = .ok (.iadd, 1) := by decide +kernel
theorem dX1_listCodes_85 : decode cX1_listCodes 85 = .ok (.putfield 22, 3) := by decide +kernel
theorem dX1_listCodes_88 : decode cX1_listCodes 88 = .ok (.iinc 3 1, 3) := by decide +kernel
theorem dX1_listCodes_91 : decode cX1_listCodes 91 = .ok (.goto (-64), 3) := by decide +kernel
theorem dX1_listCodes_94 : decode cX1_listCodes 94 = .ok (.iinc 2 1, 3) := by decide +kernel
theorem dX1_listCodes_97 : decode cX1_listCodes 97 = .ok (.goto (-83), 3) := by decide +kernel
theorem dX1_listCodes_100 : decode cX1_listCodes 100 = .ok (.iinc 1 1, 3) := by decide +kernel
theorem dX1_listCodes_103 : decode cX1_listCodes 103 = .ok (.goto (-96), 3) := by decide +kernel
theorem dX1_listCodes_106 : decode cX1_listCodes 106 = .ok (.return_, 1) := by decide +kernel
set_option maxRecDepth 20000 in
theorem ggX1_weighPairs_X1_sellerOf : GoodIn wsX1_weighPairs wsX1_sellerOf := goodIn_r _ [8] (by decide +kernel) (by decide +kernel)
set_option maxRecDepth 20000 in
theorem gX1_weighPairs_X1_sellerOf : GoodIn wsX1_weighPairs (va_wsS RX1 79 yX1_sellerOf wsX1_sellerOf) := goodIn_app (goodIn_of _ (by decide +kernel)) ggX1_weighPairs_X1_sellerOf
set_option maxRecDepth 20000 in
theorem ggX1_weighPairs_X1_gooseOf : GoodIn wsX1_weighPairs wsX1_gooseOf := goodIn_r _ [11] (by decide +kernel) (by decide +kernel)
set_option maxRecDepth 20000 in
theorem gX1_weighPairs_X1_gooseOf : GoodIn wsX1_weighPairs (va_wsS RX1 82 yX1_gooseOf wsX1_gooseOf) := goodIn_app (goodIn_of _ (by decide +kernel)) ggX1_weighPairs_X1_gooseOf
set_option maxRecDepth 20000 in
theorem ggX1_weighPairs_X1_amountOf : GoodIn wsX1_weighPairs wsX1_amountOf := goodIn_r _ [14] (by decide +kernel) (by decide +kernel)
set_option maxRecDepth 20000 in
theorem gX1_weighPairs_X1_amountOf : GoodIn wsX1_weighPairs (va_wsS RX1 85 yX1_amountOf wsX1_amountOf) := goodIn_app (goodIn_of _ (by decide +kernel)) ggX1_weighPairs_X1_amountOf
set_option maxRecDepth 20000 in
theorem ggX1_weighPairs_X0_canTrade : GoodIn wsX1_weighPairs wsX0_canTrade := goodIn_r _ [18, 19, 20, 21, 22, 23, 16, 24, 25, 26, 27, 28, 29, 79, 80, 81, 82, 83, 84, 85, 86, 87, 88, 89, 90, 91] (by decide +kernel) (by decide +kernel)
set_option maxRecDepth 20000 in
theorem gX1_weighPairs_X0_canTrade_n75 : GoodIn wsX1_weighPairs (wsX0_canTrade) := ggX1_weighPairs_X0_canTrade
set_option maxRecDepth 20000 in
theorem ggX1_weighPairs_X1_make : GoodIn wsX1_weighPairs wsX1_make := goodIn_r _ [33, 3, 4, 5, 6, 7, 8, 9, 10, 11, 12, 13, 14, 34, 16, 35, 36, 20, 19, 37, 38, 39, 40, 29, 70, 71, 72, 73, 74, 75, 76, 77, 78, 79, 80, 81, 82, 83, 84, 85, 86, 87, 88, 89, 90, 91] (by decide +kernel) (by decide +kernel)
set_option maxRecDepth 20000 in
theorem gX1_weighPairs_X1_make : GoodIn wsX1_weighPairs (wsV RX1 60 RX1 yX1_make wsX1_make) := goodIn_app (goodIn_of _ (by decide +kernel)) ggX1_weighPairs_X1_make
set_option maxRecDepth 20000 in
theorem ggX1_weighPairs_X1_weigh : GoodIn wsX1_weighPairs wsX1_weigh := goodIn_r _ [44, 3, 4, 45, 46, 47, 48, 49, 50, 16, 51, 52, 53, 54, 55, 56, 57, 58, 25, 26, 27, 28, 29, 59, 60, 61, 62, 63, 64, 65, 66, 67, 68, 7, 69, 70, 71, 72, 73, 74, 75, 76, 77, 78, 79, 80, 81, 82, 83, 84, 85, 86, 87, 88, 89, 90, 91] (by decide +kernel) (by decide +kernel)
set_option maxRecDepth 20000 in
theorem gX1_weighPairs_X1_weigh : GoodIn wsX1_weighPairs (wsV RX1 64 RX1 yX1_weigh wsX1_weigh) := goodIn_app (goodIn_of _ (by decide +kernel)) ggX1_weighPairs_X1_weigh
theorem dX1_weighPairs_0 : decode cX1_weighPairs 0 = .ok (.iload_n 2, 1) := by decide +kernel
theorem dX1_weighPairs_1 : decode cX1_weighPairs 1 = .ok (.istore_n 3, 1) := by decide +kernel
theorem dX1_weighPairs_2 : decode cX1_weighPairs 2 = .ok (.iload_n 3, 1) := by decide +kernel
theorem dX1_weighPairs_3 : decode cX1_weighPairs 3 = .ok (.aload_n 0, 1) := by decide +kernel
theorem dX1_weighPairs_4 : decode cX1_weighPairs 4 = .ok (.getfield 22, 3) := by decide +kernel
theorem dX1_weighPairs_7 : decode cX1_weighPairs 7 = .ok (.if_icmp .ge 74, 3) := by decide +kernel
theorem dX1_weighPairs_10 : decode cX1_weighPairs 10 = .ok (.aload_n 0, 1) := by decide +kernel
theorem dX1_weighPairs_11 : decode cX1_weighPairs 11 = .ok (.getfield 18, 3) := by decide +kernel
theorem dX1_weighPairs_14 : decode cX1_weighPairs 14 = .ok (.iload_n 3, 1) := by decide +kernel
theorem dX1_weighPairs_15 : decode cX1_weighPairs 15 = .ok (.iaload, 1) := by decide +kernel
theorem dX1_weighPairs_16 : decode cX1_weighPairs 16 = .ok (.istore 4, 2) := by decide +kernel
theorem dX1_weighPairs_18 : decode cX1_weighPairs 18 = .ok (.aload_n 0, 1) := by decide +kernel
theorem dX1_weighPairs_19 : decode cX1_weighPairs 19 = .ok (.getfield 12, 3) := by decide +kernel
theorem dX1_weighPairs_22 : decode cX1_weighPairs 22 = .ok (.aload_n 0, 1) := by decide +kernel
theorem dX1_weighPairs_23 : decode cX1_weighPairs 23 = .ok (.getfield 26, 3) := by decide +kernel
theorem dX1_weighPairs_26 : decode cX1_weighPairs 26 = .ok (.iload 4, 2) := by decide +kernel
theorem dX1_weighPairs_28 : decode cX1_weighPairs 28 = .ok (.invokestatic 79, 3) := by decide +kernel
theorem dX1_weighPairs_31 : decode cX1_weighPairs 31 = .ok (.iload 4, 2) := by decide +kernel
theorem dX1_weighPairs_33 : decode cX1_weighPairs 33 = .ok (.invokestatic 82, 3) := by decide +kernel
theorem dX1_weighPairs_36 : decode cX1_weighPairs 36 = .ok (.iload 4, 2) := by decide +kernel
theorem dX1_weighPairs_38 : decode cX1_weighPairs 38 = .ok (.invokestatic 85, 3) := by decide +kernel
theorem dX1_weighPairs_41 : decode cX1_weighPairs 41 = .ok (.invokevirtual 75, 3) := by decide +kernel
theorem dX1_weighPairs_44 : decode cX1_weighPairs 44 = .ok (.ifCond .eq 31, 3) := by decide +kernel
theorem dX1_weighPairs_47 : decode cX1_weighPairs 47 = .ok (.aload_n 0, 1) := by decide +kernel
theorem dX1_weighPairs_48 : decode cX1_weighPairs 48 = .ok (.iload 4, 2) := by decide +kernel
theorem dX1_weighPairs_50 : decode cX1_weighPairs 50 = .ok (.iconst 1, 1) := by decide +kernel
theorem dX1_weighPairs_51 : decode cX1_weighPairs 51 = .ok (.invokevirtual 60, 3) := by decide +kernel
theorem dX1_weighPairs_54 : decode cX1_weighPairs 54 = .ok (.aload_n 0, 1) := by decide +kernel
theorem dX1_weighPairs_55 : decode cX1_weighPairs 55 = .ok (.aload_n 1, 1) := by decide +kernel
theorem dX1_weighPairs_56 : decode cX1_weighPairs 56 = .ok (.iconst 2, 1) := by decide +kernel
theorem dX1_weighPairs_57 : decode cX1_weighPairs 57 = .ok (.aload_n 0, 1) := by decide +kernel
theorem dX1_weighPairs_58 : decode cX1_weighPairs 58 = .ok (.getfield 18, 3) := by decide +kernel
theorem dX1_weighPairs_61 : decode cX1_weighPairs 61 = .ok (.iload_n 2, 1) := by decide +kernel
theorem dX1_weighPairs_62 : decode cX1_weighPairs 62 = .ok (.iaload, 1) := by decide +kernel
theorem dX1_weighPairs_63 : decode cX1_weighPairs 63 = .ok (.iload 4, 2) := by decide +kernel
theorem dX1_weighPairs_65 : decode cX1_weighPairs 65 = .ok (.invokevirtual 64, 3) := by decide +kernel
theorem dX1_weighPairs_68 : decode cX1_weighPairs 68 = .ok (.aload_n 0, 1) := by decide +kernel
theorem dX1_weighPairs_69 : decode cX1_weighPairs 69 = .ok (.iload 4, 2) := by decide +kernel
theorem dX1_weighPairs_71 : decode cX1_weighPairs 71 = .ok (.iconst (-1), 1) := by decide +kernel
theorem dX1_weighPairs_72 : decode cX1_weighPairs 72 = .ok (.invokevirtual 60, 3) := by decide +kernel
theorem dX1_weighPairs_75 : decode cX1_weighPairs 75 = .ok (.iinc 3 1, 3) := by decide +kernel
theorem dX1_weighPairs_78 : decode cX1_weighPairs 78 = .ok (.goto (-76), 3) := by decide +kernel
theorem dX1_weighPairs_81 : decode cX1_weighPairs 81 = .ok (.return_, 1) := by decide +kernel
set_option maxRecDepth 20000 in
theorem ggX1_make_X1_sellerOf : GoodIn wsX1_make wsX1_sellerOf := goodIn_r _ [6] (by decide +kernel) (by decide +kernel)
set_option maxRecDepth 20000 in
theorem gX1_make_X1_sellerOf : GoodIn wsX1_make (va_wsS RX1 79 yX1_sellerOf wsX1_sellerOf) := goodIn_app (goodIn_of _ (by decide +kernel)) ggX1_make_X1_sellerOf
set_option maxRecDepth 20000 in
theorem ggX1_make_X1_gooseOf : GoodIn wsX1_make wsX1_gooseOf := goodIn_r _ [9] (by decide +kernel) (by decide +kernel)
set_option maxRecDepth 20000 in
theorem gX1_make_X1_gooseOf : GoodIn wsX1_make (va_wsS RX1 82 yX1_gooseOf wsX1_gooseOf) := goodIn_app (goodIn_of _ (by decide +kernel)) ggX1_make_X1_gooseOf
set_option maxRecDepth 20000 in
theorem ggX1_make_X1_amountOf : GoodIn wsX1_make wsX1_amountOf := goodIn_r _ [12] (by decide +kernel) (by decide +kernel)
set_option maxRecDepth 20000 in
theorem gX1_make_X1_amountOf : GoodIn wsX1_make (va_wsS RX1 85 yX1_amountOf wsX1_amountOf) := goodIn_app (goodIn_of _ (by decide +kernel)) ggX1_make_X1_amountOf
set_option maxRecDepth 20000 in
theorem ggX1_make_X0_exchange : GoodIn wsX1_make wsX0_exchange := goodIn_r _ [16, 17, 18, 19, 20, 21, 14, 22, 23, 33, 34, 35, 36, 37, 38, 39, 40, 41, 42, 43, 44, 45] (by decide +kernel) (by decide +kernel)
set_option maxRecDepth 20000 in
theorem gX1_make_X0_exchange_n88 : GoodIn wsX1_make (wsX0_exchange) := ggX1_make_X0_exchange
theorem dX1_make_0 : decode cX1_make 0 = .ok (.aload_n 0, 1) := by decide +kernel
theorem dX1_make_1 : decode cX1_make 1 = .ok (.getfield 12, 3) := by decide +kernel
theorem dX1_make_4 : decode cX1_make 4 = .ok (.aload_n 0, 1) := by decide +kernel
theorem dX1_make_5 : decode cX1_make 5 = .ok (.getfield 26, 3) := by decide +kernel
theorem dX1_make_8 : decode cX1_make 8 = .ok (.iload_n 1, 1) := by decide +kernel
theorem dX1_make_9 : decode cX1_make 9 = .ok (.invokestatic 79, 3) := by decide +kernel
theorem dX1_make_12 : decode cX1_make 12 = .ok (.iload_n 1, 1) := by decide +kernel
theorem dX1_make_13 : decode cX1_make 13 = .ok (.invokestatic 82, 3) := by decide +kernel
theorem dX1_make_16 : decode cX1_make 16 = .ok (.iload_n 2, 1) := by decide +kernel
theorem dX1_make_17 : decode cX1_make 17 = .ok (.iload_n 1, 1) := by decide +kernel
theorem dX1_make_18 : decode cX1_make 18 = .ok (.invokestatic 85, 3) := by decide +kernel
theorem dX1_make_21 : decode cX1_make 21 = .ok (.imul, 1) := by decide +kernel
theorem dX1_make_22 : decode cX1_make 22 = .ok (.invokevirtual 88, 3) := by decide +kernel
theorem dX1_make_25 : decode cX1_make 25 = .ok (.return_, 1) := by decide +kernel
set_option maxRecDepth 20000 in
theorem ggX1_weigh_X0_geeseWithEggOf : GoodIn wsX1_weigh wsX0_geeseWithEggOf := goodIn_r _ [11, 12, 13, 14, 15, 9, 16, 17, 18, 19, 20, 21, 22, 44, 45, 46, 47, 48, 49, 50, 51, 52, 53, 54, 55, 56] (by decide +kernel) (by decide +kernel)
set_option maxRecDepth 20000 in
theorem gX1_weigh_X0_geeseWithEggOf_n48 : GoodIn wsX1_weigh (wsX0_geeseWithEggOf) := ggX1_weigh_X0_geeseWithEggOf
set_option maxRecDepth 20000 in
theorem ggX1_weigh_J6_bitCount_0f7a4 : GoodIn wsX1_weigh wsJ6_bitCount_0f7a4 := goodIn_r _ [26, 27, 28, 29] (by decide +kernel) (by decide +kernel)
set_option maxRecDepth 20000 in
theorem gX1_weigh_J6_bitCount_0f7a4 : GoodIn wsX1_weigh (va_wsS RX1 52 yJ6_bitCount_0f7a4 wsJ6_bitCount_0f7a4) := goodIn_app (goodIn_of _ (by decide +kernel)) ggX1_weigh_J6_bitCount_0f7a4
set_option maxRecDepth 20000 in
theorem ggX1_weigh_X1_isBetter : GoodIn wsX1_weigh wsX1_isBetter := goodIn_r _ [34, 3, 4, 5, 35, 36, 37, 38, 39, 40, 41, 42, 43] (by decide +kernel) (by decide +kernel)
set_option maxRecDepth 20000 in
theorem gX1_weigh_X1_isBetter : GoodIn wsX1_weigh (wsV RX1 95 RX1 yX1_isBetter wsX1_isBetter) := goodIn_app (goodIn_of _ (by decide +kernel)) ggX1_weigh_X1_isBetter
theorem dX1_weigh_0 : decode cX1_weigh 0 = .ok (.aload_n 0, 1) := by decide +kernel
theorem dX1_weigh_1 : decode cX1_weigh 1 = .ok (.getfield 12, 3) := by decide +kernel
theorem dX1_weigh_4 : decode cX1_weigh 4 = .ok (.aload_n 0, 1) := by decide +kernel
theorem dX1_weigh_5 : decode cX1_weigh 5 = .ok (.getfield 26, 3) := by decide +kernel
theorem dX1_weigh_8 : decode cX1_weigh 8 = .ok (.invokevirtual 48, 3) := by decide +kernel
theorem dX1_weigh_11 : decode cX1_weigh 11 = .ok (.invokestatic 52, 3) := by decide +kernel
theorem dX1_weigh_14 : decode cX1_weigh 14 = .ok (.istore 5, 2) := by decide +kernel
theorem dX1_weigh_16 : decode cX1_weigh 16 = .ok (.aload_n 1, 1) := by decide +kernel
theorem dX1_weigh_17 : decode cX1_weigh 17 = .ok (.getfield 92, 3) := by decide +kernel
theorem dX1_weigh_20 : decode cX1_weigh 20 = .ok (.aload_n 0, 1) := by decide +kernel
theorem dX1_weigh_21 : decode cX1_weigh 21 = .ok (.getfield 26, 3) := by decide +kernel
theorem dX1_weigh_24 : decode cX1_weigh 24 = .ok (.iaload, 1) := by decide +kernel
theorem dX1_weigh_25 : decode cX1_weigh 25 = .ok (.aload_n 0, 1) := by decide +kernel
theorem dX1_weigh_26 : decode cX1_weigh 26 = .ok (.getfield 12, 3) := by decide +kernel
theorem dX1_weigh_29 : decode cX1_weigh 29 = .ok (.getfield 92, 3) := by decide +kernel
theorem dX1_weigh_32 : decode cX1_weigh 32 = .ok (.aload_n 0, 1) := by decide +kernel
theorem dX1_weigh_33 : decode cX1_weigh 33 = .ok (.getfield 26, 3) := by decide +kernel
theorem dX1_weigh_36 : decode cX1_weigh 36 = .ok (.iaload, 1) := by decide +kernel
theorem dX1_weigh_37 : decode cX1_weigh 37 = .ok (.isub, 1) := by decide +kernel
theorem dX1_weigh_38 : decode cX1_weigh 38 = .ok (.istore 6, 2) := by decide +kernel
theorem dX1_weigh_40 : decode cX1_weigh 40 = .ok (.aload_n 0, 1) := by decide +kernel
theorem dX1_weigh_41 : decode cX1_weigh 41 = .ok (.iload 5, 2) := by decide +kernel
theorem dX1_weigh_43 : decode cX1_weigh 43 = .ok (.iload 6, 2) := by decide +kernel
theorem dX1_weigh_45 : decode cX1_weigh 45 = .ok (.iload_n 2, 1) := by decide +kernel
theorem dX1_weigh_46 : decode cX1_weigh 46 = .ok (.invokevirtual 95, 3) := by decide +kernel
theorem dX1_weigh_49 : decode cX1_weigh 49 = .ok (.ifCond .eq 31, 3) := by decide +kernel
theorem dX1_weigh_52 : decode cX1_weigh 52 = .ok (.aload_n 0, 1) := by decide +kernel
theorem dX1_weigh_53 : decode cX1_weigh 53 = .ok (.iload 5, 2) := by decide +kernel
theorem dX1_weigh_55 : decode cX1_weigh 55 = .ok (.putfield 29, 3) := by decide +kernel
theorem dX1_weigh_58 : decode cX1_weigh 58 = .ok (.aload_n 0, 1) := by decide +kernel
theorem dX1_weigh_59 : decode cX1_weigh 59 = .ok (.iload 6, 2) := by decide +kernel
theorem dX1_weigh_61 : decode cX1_weigh 61 = .ok (.putfield 32, 3) := by decide +kernel
theorem dX1_weigh_64 : decode cX1_weigh 64 = .ok (.aload_n 0, 1) := by decide +kernel
theorem dX1_weigh_65 : decode cX1_weigh 65 = .ok (.iload_n 2, 1) := by decide +kernel
theorem dX1_weigh_66 : decode cX1_weigh 66 = .ok (.putfield 35, 3) := by decide +kernel
theorem dX1_weigh_69 : decode cX1_weigh 69 = .ok (.aload_n 0, 1) := by decide +kernel
theorem dX1_weigh_70 : decode cX1_weigh 70 = .ok (.iload_n 3, 1) := by decide +kernel
theorem dX1_weigh_71 : decode cX1_weigh 71 = .ok (.putfield 38, 3) := by decide +kernel
theorem dX1_weigh_74 : decode cX1_weigh 74 = .ok (.aload_n 0, 1) := by decide +kernel
theorem dX1_weigh_75 : decode cX1_weigh 75 = .ok (.iload 4, 2) := by decide +kernel
theorem dX1_weigh_77 : decode cX1_weigh 77 = .ok (.putfield 41, 3) := by decide +kernel
theorem dX1_weigh_80 : decode cX1_weigh 80 = .ok (.return_, 1) := by decide +kernel
theorem dX1_isBetter_0 : decode cX1_isBetter 0 = .ok (.iload_n 1, 1) := by decide +kernel
theorem dX1_isBetter_1 : decode cX1_isBetter 1 = .ok (.aload_n 0, 1) := by decide +kernel
theorem dX1_isBetter_2 : decode cX1_isBetter 2 = .ok (.getfield 29, 3) := by decide +kernel
theorem dX1_isBetter_5 : decode cX1_isBetter 5 = .ok (.if_icmp .eq 17, 3) := by decide +kernel
theorem dX1_isBetter_8 : decode cX1_isBetter 8 = .ok (.iload_n 1, 1) := by decide +kernel
theorem dX1_isBetter_9 : decode cX1_isBetter 9 = .ok (.aload_n 0, 1) := by decide +kernel
theorem dX1_isBetter_10 : decode cX1_isBetter 10 = .ok (.getfield 29, 3) := by decide +kernel
theorem dX1_isBetter_13 : decode cX1_isBetter 13 = .ok (.if_icmp .le 7, 3) := by decide +kernel
theorem dX1_isBetter_16 : decode cX1_isBetter 16 = .ok (.iconst 1, 1) := by decide +kernel
theorem dX1_isBetter_17 : decode cX1_isBetter 17 = .ok (.goto 4, 3) := by decide +kernel
theorem dX1_isBetter_20 : decode cX1_isBetter 20 = .ok (.iconst 0, 1) := by decide +kernel
theorem dX1_isBetter_21 : decode cX1_isBetter 21 = .ok (.ireturn, 1) := by decide +kernel
theorem dX1_isBetter_22 : decode cX1_isBetter 22 = .ok (.iload_n 2, 1) := by decide +kernel
theorem dX1_isBetter_23 : decode cX1_isBetter 23 = .ok (.aload_n 0, 1) := by decide +kernel
theorem dX1_isBetter_24 : decode cX1_isBetter 24 = .ok (.getfield 32, 3) := by decide +kernel
theorem dX1_isBetter_27 : decode cX1_isBetter 27 = .ok (.if_icmp .lt 19, 3) := by decide +kernel
theorem dX1_isBetter_30 : decode cX1_isBetter 30 = .ok (.iload_n 2, 1) := by decide +kernel
theorem dX1_isBetter_31 : decode cX1_isBetter 31 = .ok (.aload_n 0, 1) := by decide +kernel
theorem dX1_isBetter_32 : decode cX1_isBetter 32 = .ok (.getfield 32, 3) := by decide +kernel
theorem dX1_isBetter_35 : decode cX1_isBetter 35 = .ok (.if_icmp .ne 15, 3) := by decide +kernel
theorem dX1_isBetter_38 : decode cX1_isBetter 38 = .ok (.iload_n 3, 1) := by decide +kernel
theorem dX1_isBetter_39 : decode cX1_isBetter 39 = .ok (.aload_n 0, 1) := by decide +kernel
theorem dX1_isBetter_40 : decode cX1_isBetter 40 = .ok (.getfield 35, 3) := by decide +kernel
theorem dX1_isBetter_43 : decode cX1_isBetter 43 = .ok (.if_icmp .ge 7, 3) := by decide +kernel
theorem dX1_isBetter_46 : decode cX1_isBetter 46 = .ok (.iconst 1, 1) := by decide +kernel
theorem dX1_isBetter_47 : decode cX1_isBetter 47 = .ok (.goto 4, 3) := by decide +kernel
theorem dX1_isBetter_50 : decode cX1_isBetter 50 = .ok (.iconst 0, 1) := by decide +kernel
theorem dX1_isBetter_51 : decode cX1_isBetter 51 = .ok (.ireturn, 1) := by decide +kernel
theorem dX1_sellerOf_0 : decode cX1_sellerOf 0 = .ok (.iload_n 0, 1) := by decide +kernel
theorem dX1_sellerOf_1 : decode cX1_sellerOf 1 = .ok (.bipush 100, 2) := by decide +kernel
theorem dX1_sellerOf_3 : decode cX1_sellerOf 3 = .ok (.idiv, 1) := by decide +kernel
theorem dX1_sellerOf_4 : decode cX1_sellerOf 4 = .ok (.ireturn, 1) := by decide +kernel
theorem dX1_gooseOf_0 : decode cX1_gooseOf 0 = .ok (.iload_n 0, 1) := by decide +kernel
theorem dX1_gooseOf_1 : decode cX1_gooseOf 1 = .ok (.bipush 10, 2) := by decide +kernel
theorem dX1_gooseOf_3 : decode cX1_gooseOf 3 = .ok (.idiv, 1) := by decide +kernel
theorem dX1_gooseOf_4 : decode cX1_gooseOf 4 = .ok (.bipush 10, 2) := by decide +kernel
theorem dX1_gooseOf_6 : decode cX1_gooseOf 6 = .ok (.irem, 1) := by decide +kernel
theorem dX1_gooseOf_7 : decode cX1_gooseOf 7 = .ok (.ireturn, 1) := by decide +kernel
theorem dX1_amountOf_0 : decode cX1_amountOf 0 = .ok (.iload_n 0, 1) := by decide +kernel
theorem dX1_amountOf_1 : decode cX1_amountOf 1 = .ok (.bipush 10, 2) := by decide +kernel
theorem dX1_amountOf_3 : decode cX1_amountOf 3 = .ok (.irem, 1) := by decide +kernel
theorem dX1_amountOf_4 : decode cX1_amountOf 4 = .ok (.ireturn, 1) := by decide +kernel
theorem dX2_init_0 : decode cX2_init 0 = .ok (.aload_n 0, 1) := by decide +kernel
theorem dX2_init_1 : decode cX2_init 1 = .ok (.invokespecial 3, 3) := by decide +kernel
theorem dX2_init_4 : decode cX2_init 4 = .ok (.aload_n 0, 1) := by decide +kernel
theorem dX2_init_5 : decode cX2_init 5 = .ok (.bipush 40, 2) := by decide +kernel
theorem dX2_init_7 : decode cX2_init 7 = .ok (.newarray .int, 2) := by decide +kernel
theorem dX2_init_9 : decode cX2_init 9 = .ok (.putfield 9, 3) := by decide +kernel
theorem dX2_init_12 : decode cX2_init 12 = .ok (.aload_n 0, 1) := by decide +kernel
theorem dX2_init_13 : decode cX2_init 13 = .ok (.iconst 1, 1) := by decide +kernel
theorem dX2_init_14 : decode cX2_init 14 = .ok (.putfield 15, 3) := by decide +kernel
theorem dX2_init_17 : decode cX2_init 17 = .ok (.aload_n 0, 1) := by decide +kernel
theorem dX2_init_18 : decode cX2_init 18 = .ok (.iconst 0, 1) := by decide +kernel
theorem dX2_init_19 : decode cX2_init 19 = .ok (.putfield 19, 3) := by decide +kernel
theorem dX2_init_22 : decode cX2_init 22 = .ok (.aload_n 0, 1) := by decide +kernel
theorem dX2_init_23 : decode cX2_init 23 = .ok (.iconst 0, 1) := by decide +kernel
theorem dX2_init_24 : decode cX2_init 24 = .ok (.putfield 23, 3) := by decide +kernel
theorem dX2_init_27 : decode cX2_init 27 = .ok (.return_, 1) := by decide +kernel
set_option maxRecDepth 20000 in
theorem ggX2_renew_J7_fill_53178 : GoodIn wsX2_renew wsJ7_fill_53178 := goodIn_r _ [8] (by decide +kernel) (by decide +kernel)
set_option maxRecDepth 20000 in
theorem gX2_renew_J7_fill_53178 : GoodIn wsX2_renew (va_wsS RX2 26 yJ7_fill_53178 wsJ7_fill_53178) := goodIn_app (goodIn_of _ (by decide +kernel)) ggX2_renew_J7_fill_53178
theorem dX2_renew_0 : decode cX2_renew 0 = .ok (.aload_n 0, 1) := by decide +kernel
theorem dX2_renew_1 : decode cX2_renew 1 = .ok (.iconst 0, 1) := by decide +kernel
theorem dX2_renew_2 : decode cX2_renew 2 = .ok (.putfield 15, 3) := by decide +kernel
theorem dX2_renew_5 : decode cX2_renew 5 = .ok (.aload_n 0, 1) := by decide +kernel
theorem dX2_renew_6 : decode cX2_renew 6 = .ok (.iload_n 1, 1) := by decide +kernel
theorem dX2_renew_7 : decode cX2_renew 7 = .ok (.putfield 19, 3) := by decide +kernel
theorem dX2_renew_10 : decode cX2_renew 10 = .ok (.aload_n 0, 1) := by decide +kernel
theorem dX2_renew_11 : decode cX2_renew 11 = .ok (.iload_n 2, 1) := by decide +kernel
theorem dX2_renew_12 : decode cX2_renew 12 = .ok (.putfield 23, 3) := by decide +kernel
theorem dX2_renew_15 : decode cX2_renew 15 = .ok (.aload_n 0, 1) := by decide +kernel
theorem dX2_renew_16 : decode cX2_renew 16 = .ok (.getfield 9, 3) := by decide +kernel
theorem dX2_renew_19 : decode cX2_renew 19 = .ok (.iconst 0, 1) := by decide +kernel
theorem dX2_renew_20 : decode cX2_renew 20 = .ok (.invokestatic 26, 3) := by decide +kernel
theorem dX2_renew_23 : decode cX2_renew 23 = .ok (.return_, 1) := by decide +kernel
set_option maxRecDepth 20000 in
theorem ggX2_put_X6_isWithin : GoodIn wsX2_put wsX6_isWithin := goodIn_r _ [7] (by decide +kernel) (by decide +kernel)
set_option maxRecDepth 20000 in
theorem gX2_put_X6_isWithin_n32 : GoodIn wsX2_put (wsX6_isWithin) := ggX2_put_X6_isWithin
theorem dX2_put_0 : decode cX2_put 0 = .ok (.aload_n 0, 1) := by decide +kernel
theorem dX2_put_1 : decode cX2_put 1 = .ok (.getfield 15, 3) := by decide +kernel
theorem dX2_put_4 : decode cX2_put 4 = .ok (.ifCond .eq 5, 3) := by decide +kernel
theorem dX2_put_7 : decode cX2_put 7 = .ok (.iconst 1, 1) := by decide +kernel
theorem dX2_put_8 : decode cX2_put 8 = .ok (.ireturn, 1) := by decide +kernel
theorem dX2_put_9 : decode cX2_put 9 = .ok (.iload_n 1, 1) := by decide +kernel
theorem dX2_put_10 : decode cX2_put 10 = .ok (.iconst 0, 1) := by decide +kernel
theorem dX2_put_11 : decode cX2_put 11 = .ok (.aload_n 0, 1) := by decide +kernel
theorem dX2_put_12 : decode cX2_put 12 = .ok (.getfield 23, 3) := by decide +kernel
theorem dX2_put_15 : decode cX2_put 15 = .ok (.iconst 1, 1) := by decide +kernel
theorem dX2_put_16 : decode cX2_put 16 = .ok (.isub, 1) := by decide +kernel
theorem dX2_put_17 : decode cX2_put 17 = .ok (.invokestatic 32, 3) := by decide +kernel
theorem dX2_put_20 : decode cX2_put 20 = .ok (.ifCond .ne 5, 3) := by decide +kernel
theorem dX2_put_23 : decode cX2_put 23 = .ok (.iconst 2, 1) := by decide +kernel
theorem dX2_put_24 : decode cX2_put 24 = .ok (.ireturn, 1) := by decide +kernel
theorem dX2_put_25 : decode cX2_put 25 = .ok (.aload_n 0, 1) := by decide +kernel
theorem dX2_put_26 : decode cX2_put 26 = .ok (.getfield 9, 3) := by decide +kernel
theorem dX2_put_29 : decode cX2_put 29 = .ok (.iload_n 1, 1) := by decide +kernel
theorem dX2_put_30 : decode cX2_put 30 = .ok (.aload_n 0, 1) := by decide +kernel
theorem dX2_put_31 : decode cX2_put 31 = .ok (.getfield 19, 3) := by decide +kernel
theorem dX2_put_34 : decode cX2_put 34 = .ok (.ifCond .ne 8, 3) := by decide +kernel
theorem dX2_put_37 : decode cX2_put 37 = .ok (.iload_n 2, 1) := by decide +kernel
theorem dX2_put_38 : decode cX2_put 38 = .ok (.i2b, 1) := by decide +kernel
theorem dX2_put_39 : decode cX2_put 39 = .ok (.goto 17, 3) := by decide +kernel
theorem dX2_put_42 : decode cX2_put 42 = .ok (.aload_n 0, 1) := by decide +kernel
theorem dX2_put_43 : decode cX2_put 43 = .ok (.getfield 19, 3) := by decide +kernel
theorem dX2_put_46 : decode cX2_put 46 = .ok (.iconst 1, 1) := by decide +kernel
theorem dX2_put_47 : decode cX2_put 47 = .ok (.if_icmp .ne 8, 3) := by decide +kernel
theorem dX2_put_50 : decode cX2_put 50 = .ok (.iload_n 2, 1) := by decide +kernel
theorem dX2_put_51 : decode cX2_put 51 = .ok (.i2s, 1) := by decide +kernel
theorem dX2_put_52 : decode cX2_put 52 = .ok (.goto 4, 3) := by decide +kernel
theorem dX2_put_55 : decode cX2_put 55 = .ok (.iload_n 2, 1) := by decide +kernel
theorem dX2_put_56 : decode cX2_put 56 = .ok (.iastore, 1) := by decide +kernel
theorem dX2_put_57 : decode cX2_put 57 = .ok (.iconst 0, 1) := by decide +kernel
theorem dX2_put_58 : decode cX2_put 58 = .ok (.ireturn, 1) := by decide +kernel
set_option maxRecDepth 20000 in
theorem ggX2_faultOfTrade_X6_isWithin : GoodIn wsX2_faultOfTrade wsX6_isWithin := goodIn_r _ [6] (by decide +kernel) (by decide +kernel)
set_option maxRecDepth 20000 in
theorem gX2_faultOfTrade_X6_isWithin_n32 : GoodIn wsX2_faultOfTrade (wsX6_isWithin) := ggX2_faultOfTrade_X6_isWithin
theorem dX2_faultOfTrade_0 : decode cX2_faultOfTrade 0 = .ok (.aload_n 0, 1) := by decide +kernel
theorem dX2_faultOfTrade_1 : decode cX2_faultOfTrade 1 = .ok (.getfield 15, 3) := by decide +kernel
theorem dX2_faultOfTrade_4 : decode cX2_faultOfTrade 4 = .ok (.ifCond .eq 5, 3) := by decide +kernel
theorem dX2_faultOfTrade_7 : decode cX2_faultOfTrade 7 = .ok (.iconst 1, 1) := by decide +kernel
theorem dX2_faultOfTrade_8 : decode cX2_faultOfTrade 8 = .ok (.ireturn, 1) := by decide +kernel
theorem dX2_faultOfTrade_9 : decode cX2_faultOfTrade 9 = .ok (.aload_n 0, 1) := by decide +kernel
theorem dX2_faultOfTrade_10 : decode cX2_faultOfTrade 10 = .ok (.getfield 19, 3) := by decide +kernel
theorem dX2_faultOfTrade_13 : decode cX2_faultOfTrade 13 = .ok (.iload_n 1, 1) := by decide +kernel
theorem dX2_faultOfTrade_14 : decode cX2_faultOfTrade 14 = .ok (.if_icmp .eq 5, 3) := by decide +kernel
theorem dX2_faultOfTrade_17 : decode cX2_faultOfTrade 17 = .ok (.iconst 3, 1) := by decide +kernel
theorem dX2_faultOfTrade_18 : decode cX2_faultOfTrade 18 = .ok (.ireturn, 1) := by decide +kernel
theorem dX2_faultOfTrade_19 : decode cX2_faultOfTrade 19 = .ok (.iload_n 2, 1) := by decide +kernel
theorem dX2_faultOfTrade_20 : decode cX2_faultOfTrade 20 = .ok (.iconst 0, 1) := by decide +kernel
theorem dX2_faultOfTrade_21 : decode cX2_faultOfTrade 21 = .ok (.aload_n 0, 1) := by decide +kernel
theorem dX2_faultOfTrade_22 : decode cX2_faultOfTrade 22 = .ok (.getfield 23, 3) := by decide +kernel
theorem dX2_faultOfTrade_25 : decode cX2_faultOfTrade 25 = .ok (.iconst 4, 1) := by decide +kernel
theorem dX2_faultOfTrade_26 : decode cX2_faultOfTrade 26 = .ok (.isub, 1) := by decide +kernel
theorem dX2_faultOfTrade_27 : decode cX2_faultOfTrade 27 = .ok (.invokestatic 32, 3) := by decide +kernel
theorem dX2_faultOfTrade_30 : decode cX2_faultOfTrade 30 = .ok (.ifCond .eq 7, 3) := by decide +kernel
theorem dX2_faultOfTrade_33 : decode cX2_faultOfTrade 33 = .ok (.iconst 0, 1) := by decide +kernel
theorem dX2_faultOfTrade_34 : decode cX2_faultOfTrade 34 = .ok (.goto 4, 3) := by decide +kernel
theorem dX2_faultOfTrade_37 : decode cX2_faultOfTrade 37 = .ok (.iconst 2, 1) := by decide +kernel
theorem dX2_faultOfTrade_38 : decode cX2_faultOfTrade 38 = .ok (.ireturn, 1) := by decide +kernel
set_option maxRecDepth 20000 in
theorem ggX2_tradeOn_X0_tryTrade : GoodIn wsX2_tradeOn wsX0_tryTrade := goodIn_r _ [5, 6, 7, 8, 3, 9, 10, 11, 12, 13, 14, 15, 16, 17, 18, 19, 20, 21, 22, 23, 24, 25, 26, 27, 28, 29, 30, 31, 32, 33, 34, 35, 36, 37, 38, 39, 40, 41, 42, 43, 48, 49, 50, 51, 52, 53, 54, 55, 56, 57, 58, 59, 60] (by decide +kernel) (by decide +kernel)
set_option maxRecDepth 20000 in
theorem gX2_tradeOn_X0_tryTrade_n36 : GoodIn wsX2_tradeOn (wsX0_tryTrade) := ggX2_tradeOn_X0_tryTrade
theorem dX2_tradeOn_0 : decode cX2_tradeOn 0 = .ok (.aload_n 2, 1) := by decide +kernel
theorem dX2_tradeOn_1 : decode cX2_tradeOn 1 = .ok (.aload_n 0, 1) := by decide +kernel
theorem dX2_tradeOn_2 : decode cX2_tradeOn 2 = .ok (.getfield 9, 3) := by decide +kernel
theorem dX2_tradeOn_5 : decode cX2_tradeOn 5 = .ok (.iload_n 1, 1) := by decide +kernel
theorem dX2_tradeOn_6 : decode cX2_tradeOn 6 = .ok (.iaload, 1) := by decide +kernel
theorem dX2_tradeOn_7 : decode cX2_tradeOn 7 = .ok (.aload_n 0, 1) := by decide +kernel
theorem dX2_tradeOn_8 : decode cX2_tradeOn 8 = .ok (.getfield 9, 3) := by decide +kernel
theorem dX2_tradeOn_11 : decode cX2_tradeOn 11 = .ok (.iload_n 1, 1) := by decide +kernel
theorem dX2_tradeOn_12 : decode cX2_tradeOn 12 = .ok (.iconst 1, 1) := by decide +kernel
theorem dX2_tradeOn_13 : decode cX2_tradeOn 13 = .ok (.iadd, 1) := by decide +kernel
theorem dX2_tradeOn_14 : decode cX2_tradeOn 14 = .ok (.iaload, 1) := by decide +kernel
theorem dX2_tradeOn_15 : decode cX2_tradeOn 15 = .ok (.aload_n 0, 1) := by decide +kernel
theorem dX2_tradeOn_16 : decode cX2_tradeOn 16 = .ok (.getfield 9, 3) := by decide +kernel
theorem dX2_tradeOn_19 : decode cX2_tradeOn 19 = .ok (.iload_n 1, 1) := by decide +kernel
theorem dX2_tradeOn_20 : decode cX2_tradeOn 20 = .ok (.iconst 2, 1) := by decide +kernel
theorem dX2_tradeOn_21 : decode cX2_tradeOn 21 = .ok (.iadd, 1) := by decide +kernel
theorem dX2_tradeOn_22 : decode cX2_tradeOn 22 = .ok (.iaload, 1) := by decide +kernel
theorem dX2_tradeOn_23 : decode cX2_tradeOn 23 = .ok (.aload_n 0, 1) := by decide +kernel
theorem dX2_tradeOn_24 : decode cX2_tradeOn 24 = .ok (.getfield 9, 3) := by decide +kernel
theorem dX2_tradeOn_27 : decode cX2_tradeOn 27 = .ok (.iload_n 1, 1) := by decide +kernel
theorem dX2_tradeOn_28 : decode cX2_tradeOn 28 = .ok (.iconst 3, 1) := by decide +kernel
theorem dX2_tradeOn_29 : decode cX2_tradeOn 29 = .ok (.iadd, 1) := by decide +kernel
theorem dX2_tradeOn_30 : decode cX2_tradeOn 30 = .ok (.iaload, 1) := by decide +kernel
theorem dX2_tradeOn_31 : decode cX2_tradeOn 31 = .ok (.invokevirtual 36, 3) := by decide +kernel
theorem dX2_tradeOn_34 : decode cX2_tradeOn 34 = .ok (.ireturn, 1) := by decide +kernel
theorem dX3_init_0 : decode cX3_init 0 = .ok (.aload_n 0, 1) := by decide +kernel
theorem dX3_init_1 : decode cX3_init 1 = .ok (.invokespecial 3, 3) := by decide +kernel
theorem dX3_init_4 : decode cX3_init 4 = .ok (.aload_n 0, 1) := by decide +kernel
theorem dX3_init_5 : decode cX3_init 5 = .ok (.iconst 0, 1) := by decide +kernel
theorem dX3_init_6 : decode cX3_init 6 = .ok (.putfield 9, 3) := by decide +kernel
theorem dX3_init_9 : decode cX3_init 9 = .ok (.aload_n 0, 1) := by decide +kernel
theorem dX3_init_10 : decode cX3_init 10 = .ok (.bipush 6, 2) := by decide +kernel
theorem dX3_init_12 : decode cX3_init 12 = .ok (.newarray .int, 2) := by decide +kernel
theorem dX3_init_14 : decode cX3_init 14 = .ok (.putfield 15, 3) := by decide +kernel
theorem dX3_init_17 : decode cX3_init 17 = .ok (.aload_n 0, 1) := by decide +kernel
theorem dX3_init_18 : decode cX3_init 18 = .ok (.bipush 6, 2) := by decide +kernel
theorem dX3_init_20 : decode cX3_init 20 = .ok (.newarray .int, 2) := by decide +kernel
theorem dX3_init_22 : decode cX3_init 22 = .ok (.putfield 19, 3) := by decide +kernel
theorem dX3_init_25 : decode cX3_init 25 = .ok (.aload_n 0, 1) := by decide +kernel
theorem dX3_init_26 : decode cX3_init 26 = .ok (.bipush 6, 2) := by decide +kernel
theorem dX3_init_28 : decode cX3_init 28 = .ok (.newarray .int, 2) := by decide +kernel
theorem dX3_init_30 : decode cX3_init 30 = .ok (.putfield 22, 3) := by decide +kernel
theorem dX3_init_33 : decode cX3_init 33 = .ok (.aload_n 0, 1) := by decide +kernel
theorem dX3_init_34 : decode cX3_init 34 = .ok (.bipush 6, 2) := by decide +kernel
theorem dX3_init_36 : decode cX3_init 36 = .ok (.newarray .int, 2) := by decide +kernel
theorem dX3_init_38 : decode cX3_init 38 = .ok (.putfield 25, 3) := by decide +kernel
theorem dX3_init_41 : decode cX3_init 41 = .ok (.return_, 1) := by decide +kernel
theorem dX3_add_0 : decode cX3_add 0 = .ok (.aload_n 0, 1) := by decide +kernel
theorem dX3_add_1 : decode cX3_add 1 = .ok (.getfield 9, 3) := by decide +kernel
theorem dX3_add_4 : decode cX3_add 4 = .ok (.bipush 6, 2) := by decide +kernel
theorem dX3_add_6 : decode cX3_add 6 = .ok (.if_icmp .lt 5, 3) := by decide +kernel
theorem dX3_add_9 : decode cX3_add 9 = .ok (.iconst 0, 1) := by decide +kernel
theorem dX3_add_10 : decode cX3_add 10 = .ok (.ireturn, 1) := by decide +kernel
theorem dX3_add_11 : decode cX3_add 11 = .ok (.aload_n 0, 1) := by decide +kernel
theorem dX3_add_12 : decode cX3_add 12 = .ok (.getfield 15, 3) := by decide +kernel
theorem dX3_add_15 : decode cX3_add 15 = .ok (.aload_n 0, 1) := by decide +kernel
theorem dX3_add_16 : decode cX3_add 16 = .ok (.getfield 9, 3) := by decide +kernel
theorem dX3_add_19 : decode cX3_add 19 = .ok (.iload_n 1, 1) := by decide +kernel
theorem dX3_add_20 : decode cX3_add 20 = .ok (.iastore, 1) := by decide +kernel
theorem dX3_add_21 : decode cX3_add 21 = .ok (.aload_n 0, 1) := by decide +kernel
theorem dX3_add_22 : decode cX3_add 22 = .ok (.getfield 19, 3) := by decide +kernel
theorem dX3_add_25 : decode cX3_add 25 = .ok (.aload_n 0, 1) := by decide +kernel
theorem dX3_add_26 : decode cX3_add 26 = .ok (.getfield 9, 3) := by decide +kernel
theorem dX3_add_29 : decode cX3_add 29 = .ok (.iload_n 2, 1) := by decide +kernel
theorem dX3_add_30 : decode cX3_add 30 = .ok (.iastore, 1) := by decide +kernel
theorem dX3_add_31 : decode cX3_add 31 = .ok (.aload_n 0, 1) := by decide +kernel
theorem dX3_add_32 : decode cX3_add 32 = .ok (.getfield 22, 3) := by decide +kernel
theorem dX3_add_35 : decode cX3_add 35 = .ok (.aload_n 0, 1) := by decide +kernel
theorem dX3_add_36 : decode cX3_add 36 = .ok (.getfield 9, 3) := by decide +kernel
theorem dX3_add_39 : decode cX3_add 39 = .ok (.iload_n 3, 1) := by decide +kernel
theorem dX3_add_40 : decode cX3_add 40 = .ok (.iastore, 1) := by decide +kernel
theorem dX3_add_41 : decode cX3_add 41 = .ok (.aload_n 0, 1) := by decide +kernel
theorem dX3_add_42 : decode cX3_add 42 = .ok (.getfield 25, 3) := by decide +kernel
theorem dX3_add_45 : decode cX3_add 45 = .ok (.aload_n 0, 1) := by decide +kernel
theorem dX3_add_46 : decode cX3_add 46 = .ok (.getfield 9, 3) := by decide +kernel
theorem dX3_add_49 : decode cX3_add 49 = .ok (.iload 4, 2) := by decide +kernel
theorem dX3_add_51 : decode cX3_add 51 = .ok (.iastore, 1) := by decide +kernel
theorem dX3_add_52 : decode cX3_add 52 = .ok (.aload_n 0, 1) := by decide +kernel
theorem dX3_add_53 : decode cX3_add 53 = .ok (.dup, 1) := by decide +kernel
theorem dX3_add_54 : decode cX3_add 54 = .ok (.getfield 9, 3) := by decide +kernel
theorem dX3_add_57 : decode cX3_add 57 = .ok (.iconst 1, 1) := by decide +kernel
theorem dX3_add_58 : decode cX3_add 58 = .ok (.iadd, 1) := by decide +kernel
theorem dX3_add_59 : decode cX3_add 59 = .ok (.putfield 9, 3) := by decide +kernel
theorem dX3_add_62 : decode cX3_add 62 = .ok (.iconst 1, 1) := by decide +kernel
theorem dX3_add_63 : decode cX3_add 63 = .ok (.ireturn, 1) := by decide +kernel
set_option maxRecDepth 20000 in
theorem ggX3_agreeWith_X3_agreeAt : GoodIn wsX3_agreeWith wsX3_agreeAt := goodIn_r _ [5, 6, 7, 8, 9, 10, 11, 12, 13, 14, 15, 43, 44, 45, 46, 47, 48, 49, 50, 51, 52, 53, 54, 55, 56, 57, 58, 59, 60] (by decide +kernel) (by decide +kernel)
set_option maxRecDepth 20000 in
theorem gX3_agreeWith_X3_agreeAt : GoodIn wsX3_agreeWith (wsV RX3 28 RX3 yX3_agreeAt wsX3_agreeAt) := goodIn_app (goodIn_of _ (by decide +kernel)) ggX3_agreeWith_X3_agreeAt
set_option maxRecDepth 20000 in
theorem ggX3_agreeWith_X0_passWeek : GoodIn wsX3_agreeWith wsX0_passWeek := goodIn_r _ [18, 19, 20, 21, 22, 23, 24, 12, 25, 26, 27, 11, 13, 14, 15, 28, 29, 30, 31, 32, 33, 34, 35, 36, 37, 38, 39, 40, 41, 42, 48, 49, 50, 51, 52, 53, 54, 55, 56, 57, 58, 59, 60] (by decide +kernel) (by decide +kernel)
set_option maxRecDepth 20000 in
theorem gX3_agreeWith_X0_passWeek_n32 : GoodIn wsX3_agreeWith (wsX0_passWeek) := ggX3_agreeWith_X0_passWeek
theorem dX3_agreeWith_0 : decode cX3_agreeWith 0 = .ok (.iconst 0, 1) := by decide +kernel
theorem dX3_agreeWith_1 : decode cX3_agreeWith 1 = .ok (.istore_n 2, 1) := by decide +kernel
theorem dX3_agreeWith_2 : decode cX3_agreeWith 2 = .ok (.iload_n 2, 1) := by decide +kernel
theorem dX3_agreeWith_3 : decode cX3_agreeWith 3 = .ok (.bipush 20, 2) := by decide +kernel
theorem dX3_agreeWith_5 : decode cX3_agreeWith 5 = .ok (.if_icmp .gt 25, 3) := by decide +kernel
theorem dX3_agreeWith_8 : decode cX3_agreeWith 8 = .ok (.aload_n 0, 1) := by decide +kernel
theorem dX3_agreeWith_9 : decode cX3_agreeWith 9 = .ok (.iload_n 2, 1) := by decide +kernel
theorem dX3_agreeWith_10 : decode cX3_agreeWith 10 = .ok (.aload_n 1, 1) := by decide +kernel
theorem dX3_agreeWith_11 : decode cX3_agreeWith 11 = .ok (.invokevirtual 28, 3) := by decide +kernel
theorem dX3_agreeWith_14 : decode cX3_agreeWith 14 = .ok (.ifCond .ne 5, 3) := by decide +kernel
theorem dX3_agreeWith_17 : decode cX3_agreeWith 17 = .ok (.iconst 0, 1) := by decide +kernel
theorem dX3_agreeWith_18 : decode cX3_agreeWith 18 = .ok (.ireturn, 1) := by decide +kernel
theorem dX3_agreeWith_19 : decode cX3_agreeWith 19 = .ok (.aload_n 1, 1) := by decide +kernel
theorem dX3_agreeWith_20 : decode cX3_agreeWith 20 = .ok (.invokevirtual 32, 3) := by decide +kernel
theorem dX3_agreeWith_23 : decode cX3_agreeWith 23 = .ok (.pop, 1) := by decide +kernel
theorem dX3_agreeWith_24 : decode cX3_agreeWith 24 = .ok (.iinc 2 1, 3) := by decide +kernel
theorem dX3_agreeWith_27 : decode cX3_agreeWith 27 = .ok (.goto (-25), 3) := by decide +kernel
theorem dX3_agreeWith_30 : decode cX3_agreeWith 30 = .ok (.iconst 1, 1) := by decide +kernel
theorem dX3_agreeWith_31 : decode cX3_agreeWith 31 = .ok (.ireturn, 1) := by decide +kernel
set_option maxRecDepth 20000 in
theorem ggX3_agreeAt_X0_held : GoodIn wsX3_agreeAt wsX0_held := goodIn_r _ [9, 10, 16, 17, 18, 19, 20, 21, 22, 23, 24, 25, 26, 27, 28] (by decide +kernel) (by decide +kernel)
set_option maxRecDepth 20000 in
theorem gX3_agreeAt_X0_held_n38 : GoodIn wsX3_agreeAt (wsX0_held) := ggX3_agreeAt_X0_held
theorem dX3_agreeAt_0 : decode cX3_agreeAt 0 = .ok (.iconst 0, 1) := by decide +kernel
theorem dX3_agreeAt_1 : decode cX3_agreeAt 1 = .ok (.istore_n 3, 1) := by decide +kernel
theorem dX3_agreeAt_2 : decode cX3_agreeAt 2 = .ok (.iload_n 3, 1) := by decide +kernel
theorem dX3_agreeAt_3 : decode cX3_agreeAt 3 = .ok (.aload_n 0, 1) := by decide +kernel
theorem dX3_agreeAt_4 : decode cX3_agreeAt 4 = .ok (.getfield 9, 3) := by decide +kernel
theorem dX3_agreeAt_7 : decode cX3_agreeAt 7 = .ok (.if_icmp .ge 46, 3) := by decide +kernel
theorem dX3_agreeAt_10 : decode cX3_agreeAt 10 = .ok (.aload_n 0, 1) := by decide +kernel
theorem dX3_agreeAt_11 : decode cX3_agreeAt 11 = .ok (.getfield 22, 3) := by decide +kernel
theorem dX3_agreeAt_14 : decode cX3_agreeAt 14 = .ok (.iload_n 3, 1) := by decide +kernel
theorem dX3_agreeAt_15 : decode cX3_agreeAt 15 = .ok (.iaload, 1) := by decide +kernel
theorem dX3_agreeAt_16 : decode cX3_agreeAt 16 = .ok (.iload_n 1, 1) := by decide +kernel
theorem dX3_agreeAt_17 : decode cX3_agreeAt 17 = .ok (.if_icmp .ne 30, 3) := by decide +kernel
theorem dX3_agreeAt_20 : decode cX3_agreeAt 20 = .ok (.aload_n 2, 1) := by decide +kernel
theorem dX3_agreeAt_21 : decode cX3_agreeAt 21 = .ok (.aload_n 0, 1) := by decide +kernel
theorem dX3_agreeAt_22 : decode cX3_agreeAt 22 = .ok (.getfield 15, 3) := by decide +kernel
theorem dX3_agreeAt_25 : decode cX3_agreeAt 25 = .ok (.iload_n 3, 1) := by decide +kernel
theorem dX3_agreeAt_26 : decode cX3_agreeAt 26 = .ok (.iaload, 1) := by decide +kernel
theorem dX3_agreeAt_27 : decode cX3_agreeAt 27 = .ok (.aload_n 0, 1) := by decide +kernel
theorem dX3_agreeAt_28 : decode cX3_agreeAt 28 = .ok (.getfield 19, 3) := by decide +kernel
theorem dX3_agreeAt_31 : decode cX3_agreeAt 31 = .ok (.iload_n 3, 1) := by decide +kernel
theorem dX3_agreeAt_32 : decode cX3_agreeAt 32 = .ok (.iaload, 1) := by decide +kernel
theorem dX3_agreeAt_33 : decode cX3_agreeAt 33 = .ok (.invokevirtual 38, 3) := by decide +kernel
theorem dX3_agreeAt_36 : decode cX3_agreeAt 36 = .ok (.aload_n 0, 1) := by decide +kernel
theorem dX3_agreeAt_37 : decode cX3_agreeAt 37 = .ok (.getfield 25, 3) := by decide +kernel
theorem dX3_agreeAt_40 : decode cX3_agreeAt 40 = .ok (.iload_n 3, 1) := by decide +kernel
theorem dX3_agreeAt_41 : decode cX3_agreeAt 41 = .ok (.iaload, 1) := by decide +kernel
theorem dX3_agreeAt_42 : decode cX3_agreeAt 42 = .ok (.if_icmp .eq 5, 3) := by decide +kernel
theorem dX3_agreeAt_45 : decode cX3_agreeAt 45 = .ok (.iconst 0, 1) := by decide +kernel
theorem dX3_agreeAt_46 : decode cX3_agreeAt 46 = .ok (.ireturn, 1) := by decide +kernel
theorem dX3_agreeAt_47 : decode cX3_agreeAt 47 = .ok (.iinc 3 1, 3) := by decide +kernel
theorem dX3_agreeAt_50 : decode cX3_agreeAt 50 = .ok (.goto (-48), 3) := by decide +kernel
theorem dX3_agreeAt_53 : decode cX3_agreeAt 53 = .ok (.iconst 1, 1) := by decide +kernel
theorem dX3_agreeAt_54 : decode cX3_agreeAt 54 = .ok (.ireturn, 1) := by decide +kernel
theorem dX4_init_0 : decode cX4_init 0 = .ok (.aload_n 0, 1) := by decide +kernel
theorem dX4_init_1 : decode cX4_init 1 = .ok (.invokespecial 3, 3) := by decide +kernel
theorem dX4_init_4 : decode cX4_init 4 = .ok (.aload_n 0, 1) := by decide +kernel
theorem dX4_init_5 : decode cX4_init 5 = .ok (.sipush 160, 3) := by decide +kernel
theorem dX4_init_8 : decode cX4_init 8 = .ok (.newarray .int, 2) := by decide +kernel
theorem dX4_init_10 : decode cX4_init 10 = .ok (.putfield 9, 3) := by decide +kernel
theorem dX4_init_13 : decode cX4_init 13 = .ok (.aload_n 0, 1) := by decide +kernel
theorem dX4_init_14 : decode cX4_init 14 = .ok (.iconst 0, 1) := by decide +kernel
theorem dX4_init_15 : decode cX4_init 15 = .ok (.putfield 15, 3) := by decide +kernel
theorem dX4_init_18 : decode cX4_init 18 = .ok (.aload_n 0, 1) := by decide +kernel
theorem dX4_init_19 : decode cX4_init 19 = .ok (.iconst 0, 1) := by decide +kernel
theorem dX4_init_20 : decode cX4_init 20 = .ok (.putfield 19, 3) := by decide +kernel
theorem dX4_init_23 : decode cX4_init 23 = .ok (.aload_n 0, 1) := by decide +kernel
theorem dX4_init_24 : decode cX4_init 24 = .ok (.iconst 0, 1) := by decide +kernel
theorem dX4_init_25 : decode cX4_init 25 = .ok (.putfield 22, 3) := by decide +kernel
theorem dX4_init_28 : decode cX4_init 28 = .ok (.aload_n 0, 1) := by decide +kernel
theorem dX4_init_29 : decode cX4_init 29 = .ok (.iconst 0, 1) := by decide +kernel
theorem dX4_init_30 : decode cX4_init 30 = .ok (.putfield 25, 3) := by decide +kernel
theorem dX4_init_33 : decode cX4_init 33 = .ok (.aload_n 0, 1) := by decide +kernel
theorem dX4_init_34 : decode cX4_init 34 = .ok (.iconst 0, 1) := by decide +kernel
theorem dX4_init_35 : decode cX4_init 35 = .ok (.putfield 28, 3) := by decide +kernel
theorem dX4_init_38 : decode cX4_init 38 = .ok (.return_, 1) := by decide +kernel
theorem dX4_append_0 : decode cX4_append 0 = .ok (.aload_n 0, 1) := by decide +kernel
theorem dX4_append_1 : decode cX4_append 1 = .ok (.getfield 15, 3) := by decide +kernel
theorem dX4_append_4 : decode cX4_append 4 = .ok (.sipush 160, 3) := by decide +kernel
theorem dX4_append_7 : decode cX4_append 7 = .ok (.if_icmp .lt 5, 3) := by decide +kernel
theorem dX4_append_10 : decode cX4_append 10 = .ok (.iconst 0, 1) := by decide +kernel
theorem dX4_append_11 : decode cX4_append 11 = .ok (.ireturn, 1) := by decide +kernel
theorem dX4_append_12 : decode cX4_append 12 = .ok (.aload_n 0, 1) := by decide +kernel
theorem dX4_append_13 : decode cX4_append 13 = .ok (.getfield 9, 3) := by decide +kernel
theorem dX4_append_16 : decode cX4_append 16 = .ok (.aload_n 0, 1) := by decide +kernel
theorem dX4_append_17 : decode cX4_append 17 = .ok (.getfield 15, 3) := by decide +kernel
theorem dX4_append_20 : decode cX4_append 20 = .ok (.iload_n 1, 1) := by decide +kernel
theorem dX4_append_21 : decode cX4_append 21 = .ok (.iastore, 1) := by decide +kernel
theorem dX4_append_22 : decode cX4_append 22 = .ok (.aload_n 0, 1) := by decide +kernel
theorem dX4_append_23 : decode cX4_append 23 = .ok (.dup, 1) := by decide +kernel
theorem dX4_append_24 : decode cX4_append 24 = .ok (.getfield 15, 3) := by decide +kernel
theorem dX4_append_27 : decode cX4_append 27 = .ok (.iconst 1, 1) := by decide +kernel
theorem dX4_append_28 : decode cX4_append 28 = .ok (.iadd, 1) := by decide +kernel
theorem dX4_append_29 : decode cX4_append 29 = .ok (.putfield 15, 3) := by decide +kernel
theorem dX4_append_32 : decode cX4_append 32 = .ok (.iconst 1, 1) := by decide +kernel
theorem dX4_append_33 : decode cX4_append 33 = .ok (.ireturn, 1) := by decide +kernel
theorem dX4_rewind_0 : decode cX4_rewind 0 = .ok (.aload_n 0, 1) := by decide +kernel
theorem dX4_rewind_1 : decode cX4_rewind 1 = .ok (.iconst 0, 1) := by decide +kernel
theorem dX4_rewind_2 : decode cX4_rewind 2 = .ok (.putfield 19, 3) := by decide +kernel
theorem dX4_rewind_5 : decode cX4_rewind 5 = .ok (.aload_n 0, 1) := by decide +kernel
theorem dX4_rewind_6 : decode cX4_rewind 6 = .ok (.iconst 0, 1) := by decide +kernel
theorem dX4_rewind_7 : decode cX4_rewind 7 = .ok (.putfield 22, 3) := by decide +kernel
theorem dX4_rewind_10 : decode cX4_rewind 10 = .ok (.aload_n 0, 1) := by decide +kernel
theorem dX4_rewind_11 : decode cX4_rewind 11 = .ok (.iconst 0, 1) := by decide +kernel
theorem dX4_rewind_12 : decode cX4_rewind 12 = .ok (.putfield 25, 3) := by decide +kernel
theorem dX4_rewind_15 : decode cX4_rewind 15 = .ok (.return_, 1) := by decide +kernel
set_option maxRecDepth 20000 in
theorem ggX4_nextToken_X4_isLetter : GoodIn wsX4_nextToken wsX4_isLetter := goodIn_r _ [9] (by decide +kernel) (by decide +kernel)
set_option maxRecDepth 20000 in
theorem gX4_nextToken_X4_isLetter : GoodIn wsX4_nextToken (va_wsS RX4 31 yX4_isLetter wsX4_isLetter) := goodIn_app (goodIn_of _ (by decide +kernel)) ggX4_nextToken_X4_isLetter
set_option maxRecDepth 20000 in
theorem ggX4_nextToken_X4_takeName : GoodIn wsX4_nextToken wsX4_takeName := goodIn_r _ [13, 5, 1, 2, 3, 6, 7, 8, 9, 22, 23, 24, 25, 26, 27] (by decide +kernel) (by decide +kernel)
set_option maxRecDepth 20000 in
theorem gX4_nextToken_X4_takeName : GoodIn wsX4_nextToken (wsV RX4 35 RX4 yX4_takeName wsX4_takeName) := goodIn_app (goodIn_of _ (by decide +kernel)) ggX4_nextToken_X4_takeName
set_option maxRecDepth 20000 in
theorem ggX4_nextToken_X4_isFigure : GoodIn wsX4_nextToken wsX4_isFigure := goodIn_r _ [16] (by decide +kernel) (by decide +kernel)
set_option maxRecDepth 20000 in
theorem gX4_nextToken_X4_isFigure : GoodIn wsX4_nextToken (va_wsS RX4 38 yX4_isFigure wsX4_isFigure) := goodIn_app (goodIn_of _ (by decide +kernel)) ggX4_nextToken_X4_isFigure
set_option maxRecDepth 20000 in
theorem ggX4_nextToken_X4_takeNumber : GoodIn wsX4_nextToken wsX4_takeNumber := goodIn_r _ [20, 21, 1, 2, 3, 4, 5, 14, 15, 8, 16, 22, 23, 24, 25, 26, 27] (by decide +kernel) (by decide +kernel)
set_option maxRecDepth 20000 in
theorem gX4_nextToken_X4_takeNumber : GoodIn wsX4_nextToken (wsV RX4 41 RX4 yX4_takeNumber wsX4_takeNumber) := goodIn_app (goodIn_of _ (by decide +kernel)) ggX4_nextToken_X4_takeNumber
theorem dX4_nextToken_0 : decode cX4_nextToken 0 = .ok (.aload_n 0, 1) := by decide +kernel
theorem dX4_nextToken_1 : decode cX4_nextToken 1 = .ok (.getfield 19, 3) := by decide +kernel
theorem dX4_nextToken_4 : decode cX4_nextToken 4 = .ok (.aload_n 0, 1) := by decide +kernel
theorem dX4_nextToken_5 : decode cX4_nextToken 5 = .ok (.getfield 15, 3) := by decide +kernel
theorem dX4_nextToken_8 : decode cX4_nextToken 8 = .ok (.if_icmp .ge 30, 3) := by decide +kernel
theorem dX4_nextToken_11 : decode cX4_nextToken 11 = .ok (.aload_n 0, 1) := by decide +kernel
theorem dX4_nextToken_12 : decode cX4_nextToken 12 = .ok (.getfield 9, 3) := by decide +kernel
theorem dX4_nextToken_15 : decode cX4_nextToken 15 = .ok (.aload_n 0, 1) := by decide +kernel
theorem dX4_nextToken_16 : decode cX4_nextToken 16 = .ok (.getfield 19, 3) := by decide +kernel
theorem dX4_nextToken_19 : decode cX4_nextToken 19 = .ok (.iaload, 1) := by decide +kernel
theorem dX4_nextToken_20 : decode cX4_nextToken 20 = .ok (.bipush 32, 2) := by decide +kernel
theorem dX4_nextToken_22 : decode cX4_nextToken 22 = .ok (.if_icmp .ne 16, 3) := by decide +kernel
theorem dX4_nextToken_25 : decode cX4_nextToken 25 = .ok (.aload_n 0, 1) := by decide +kernel
theorem dX4_nextToken_26 : decode cX4_nextToken 26 = .ok (.dup, 1) := by decide +kernel
theorem dX4_nextToken_27 : decode cX4_nextToken 27 = .ok (.getfield 19, 3) := by decide +kernel
theorem dX4_nextToken_30 : decode cX4_nextToken 30 = .ok (.iconst 1, 1) := by decide +kernel
theorem dX4_nextToken_31 : decode cX4_nextToken 31 = .ok (.iadd, 1) := by decide +kernel
theorem dX4_nextToken_32 : decode cX4_nextToken 32 = .ok (.putfield 19, 3) := by decide +kernel
theorem dX4_nextToken_35 : decode cX4_nextToken 35 = .ok (.goto (-35), 3) := by decide +kernel
theorem dX4_nextToken_38 : decode cX4_nextToken 38 = .ok (.aload_n 0, 1) := by decide +kernel
theorem dX4_nextToken_39 : decode cX4_nextToken 39 = .ok (.aload_n 0, 1) := by decide +kernel
theorem dX4_nextToken_40 : decode cX4_nextToken 40 = .ok (.getfield 19, 3) := by decide +kernel
theorem dX4_nextToken_43 : decode cX4_nextToken 43 = .ok (.putfield 22, 3) := by decide +kernel
theorem dX4_nextToken_46 : decode cX4_nextToken 46 = .ok (.aload_n 0, 1) := by decide +kernel
theorem dX4_nextToken_47 : decode cX4_nextToken 47 = .ok (.getfield 19, 3) := by decide +kernel
theorem dX4_nextToken_50 : decode cX4_nextToken 50 = .ok (.aload_n 0, 1) := by decide +kernel
theorem dX4_nextToken_51 : decode cX4_nextToken 51 = .ok (.getfield 15, 3) := by decide +kernel
theorem dX4_nextToken_54 : decode cX4_nextToken 54 = .ok (.if_icmp .lt 11, 3) := by decide +kernel
theorem dX4_nextToken_57 : decode cX4_nextToken 57 = .ok (.aload_n 0, 1) := by decide +kernel
theorem dX4_nextToken_58 : decode cX4_nextToken 58 = .ok (.iconst 0, 1) := by decide +kernel
theorem dX4_nextToken_59 : decode cX4_nextToken 59 = .ok (.putfield 25, 3) := by decide +kernel
theorem dX4_nextToken_62 : decode cX4_nextToken 62 = .ok (.goto 80, 3) := by decide +kernel
theorem dX4_nextToken_65 : decode cX4_nextToken 65 = .ok (.aload_n 0, 1) := by decide +kernel
theorem dX4_nextToken_66 : decode cX4_nextToken 66 = .ok (.getfield 9, 3) := by decide +kernel
theorem dX4_nextToken_69 : decode cX4_nextToken 69 = .ok (.aload_n 0, 1) := by decide +kernel
theorem dX4_nextToken_70 : decode cX4_nextToken 70 = .ok (.getfield 19, 3) := by decide +kernel
theorem dX4_nextToken_73 : decode cX4_nextToken 73 = .ok (.iaload, 1) := by decide +kernel
theorem dX4_nextToken_74 : decode cX4_nextToken 74 = .ok (.invokestatic 31, 3) := by decide +kernel
theorem dX4_nextToken_77 : decode cX4_nextToken 77 = .ok (.ifCond .eq 10, 3) := by decide +kernel
theorem dX4_nextToken_80 : decode cX4_nextToken 80 = .ok (.aload_n 0, 1) := by decide +kernel
theorem dX4_nextToken_81 : decode cX4_nextToken 81 = .ok (.invokevirtual 35, 3) := by decide +kernel
theorem dX4_nextToken_84 : decode cX4_nextToken 84 = .ok (.goto 58, 3) := by decide +kernel
theorem dX4_nextToken_87 : decode cX4_nextToken 87 = .ok (.aload_n 0, 1) := by decide +kernel
theorem dX4_nextToken_88 : decode cX4_nextToken 88 = .ok (.getfield 9, 3) := by decide +kernel
theorem dX4_nextToken_91 : decode cX4_nextToken 91 = .ok (.aload_n 0, 1) := by decide +kernel
theorem dX4_nextToken_92 : decode cX4_nextToken 92 = .ok (.getfield 19, 3) := by decide +kernel
theorem dX4_nextToken_95 : decode cX4_nextToken 95 = .ok (.iaload, 1) := by decide +kernel
theorem dX4_nextToken_96 : decode cX4_nextToken 96 = .ok (.invokestatic 38, 3) := by decide +kernel
theorem dX4_nextToken_99 : decode cX4_nextToken 99 = .ok (.ifCond .eq 10, 3) := by decide +kernel
theorem dX4_nextToken_102 : decode cX4_nextToken 102 = .ok (.aload_n 0, 1) := by decide +kernel
theorem dX4_nextToken_103 : decode cX4_nextToken 103 = .ok (.invokevirtual 41, 3) := by decide +kernel
theorem dX4_nextToken_106 : decode cX4_nextToken 106 = .ok (.goto 36, 3) := by decide +kernel
theorem dX4_nextToken_109 : decode cX4_nextToken 109 = .ok (.aload_n 0, 1) := by decide +kernel
theorem dX4_nextToken_110 : decode cX4_nextToken 110 = .ok (.aload_n 0, 1) := by decide +kernel
theorem dX4_nextToken_111 : decode cX4_nextToken 111 = .ok (.getfield 9, 3) := by decide +kernel
theorem dX4_nextToken_114 : decode cX4_nextToken 114 = .ok (.aload_n 0, 1) := by decide +kernel
theorem dX4_nextToken_115 : decode cX4_nextToken 115 = .ok (.getfield 19, 3) := by decide +kernel
theorem dX4_nextToken_118 : decode cX4_nextToken 118 = .ok (.iaload, 1) := by decide +kernel
theorem dX4_nextToken_119 : decode cX4_nextToken 119 = .ok (.bipush 59, 2) := by decide +kernel
theorem dX4_nextToken_121 : decode cX4_nextToken 121 = .ok (.if_icmp .ne 7, 3) := by decide +kernel
theorem dX4_nextToken_124 : decode cX4_nextToken 124 = .ok (.iconst 3, 1) := by decide +kernel
theorem dX4_nextToken_125 : decode cX4_nextToken 125 = .ok (.goto 4, 3) := by decide +kernel
theorem dX4_nextToken_128 : decode cX4_nextToken 128 = .ok (.iconst 4, 1) := by decide +kernel
theorem dX4_nextToken_129 : decode cX4_nextToken 129 = .ok (.putfield 25, 3) := by decide +kernel
theorem dX4_nextToken_132 : decode cX4_nextToken 132 = .ok (.aload_n 0, 1) := by decide +kernel
theorem dX4_nextToken_133 : decode cX4_nextToken 133 = .ok (.dup, 1) := by decide +kernel
theorem dX4_nextToken_134 : decode cX4_nextToken 134 = .ok (.getfield 19, 3) := by decide +kernel
theorem dX4_nextToken_137 : decode cX4_nextToken 137 = .ok (.iconst 1, 1) := by decide +kernel
theorem dX4_nextToken_138 : decode cX4_nextToken 138 = .ok (.iadd, 1) := by decide +kernel
theorem dX4_nextToken_139 : decode cX4_nextToken 139 = .ok (.putfield 19, 3) := by decide +kernel
theorem dX4_nextToken_142 : decode cX4_nextToken 142 = .ok (.return_, 1) := by decide +kernel
set_option maxRecDepth 20000 in
theorem ggX4_takeName_X4_isLetter : GoodIn wsX4_takeName wsX4_isLetter := goodIn_r _ [8] (by decide +kernel) (by decide +kernel)
set_option maxRecDepth 20000 in
theorem gX4_takeName_X4_isLetter : GoodIn wsX4_takeName (va_wsS RX4 31 yX4_isLetter wsX4_isLetter) := goodIn_app (goodIn_of _ (by decide +kernel)) ggX4_takeName_X4_isLetter
theorem dX4_takeName_0 : decode cX4_takeName 0 = .ok (.aload_n 0, 1) := by decide +kernel
theorem dX4_takeName_1 : decode cX4_takeName 1 = .ok (.iconst 1, 1) := by decide +kernel
theorem dX4_takeName_2 : decode cX4_takeName 2 = .ok (.putfield 25, 3) := by decide +kernel
theorem dX4_takeName_5 : decode cX4_takeName 5 = .ok (.aload_n 0, 1) := by decide +kernel
theorem dX4_takeName_6 : decode cX4_takeName 6 = .ok (.getfield 19, 3) := by decide +kernel
theorem dX4_takeName_9 : decode cX4_takeName 9 = .ok (.aload_n 0, 1) := by decide +kernel
theorem dX4_takeName_10 : decode cX4_takeName 10 = .ok (.getfield 15, 3) := by decide +kernel
theorem dX4_takeName_13 : decode cX4_takeName 13 = .ok (.if_icmp .ge 31, 3) := by decide +kernel
theorem dX4_takeName_16 : decode cX4_takeName 16 = .ok (.aload_n 0, 1) := by decide +kernel
theorem dX4_takeName_17 : decode cX4_takeName 17 = .ok (.getfield 9, 3) := by decide +kernel
theorem dX4_takeName_20 : decode cX4_takeName 20 = .ok (.aload_n 0, 1) := by decide +kernel
theorem dX4_takeName_21 : decode cX4_takeName 21 = .ok (.getfield 19, 3) := by decide +kernel
theorem dX4_takeName_24 : decode cX4_takeName 24 = .ok (.iaload, 1) := by decide +kernel
theorem dX4_takeName_25 : decode cX4_takeName 25 = .ok (.invokestatic 31, 3) := by decide +kernel
theorem dX4_takeName_28 : decode cX4_takeName 28 = .ok (.ifCond .eq 16, 3) := by decide +kernel
theorem dX4_takeName_31 : decode cX4_takeName 31 = .ok (.aload_n 0, 1) := by decide +kernel
theorem dX4_takeName_32 : decode cX4_takeName 32 = .ok (.dup, 1) := by decide +kernel
theorem dX4_takeName_33 : decode cX4_takeName 33 = .ok (.getfield 19, 3) := by decide +kernel
theorem dX4_takeName_36 : decode cX4_takeName 36 = .ok (.iconst 1, 1) := by decide +kernel
theorem dX4_takeName_37 : decode cX4_takeName 37 = .ok (.iadd, 1) := by decide +kernel
theorem dX4_takeName_38 : decode cX4_takeName 38 = .ok (.putfield 19, 3) := by decide +kernel
theorem dX4_takeName_41 : decode cX4_takeName 41 = .ok (.goto (-36), 3) := by decide +kernel
theorem dX4_takeName_44 : decode cX4_takeName 44 = .ok (.return_, 1) := by decide +kernel
set_option maxRecDepth 20000 in
theorem ggX4_takeNumber_X4_isFigure : GoodIn wsX4_takeNumber wsX4_isFigure := goodIn_r _ [10] (by decide +kernel) (by decide +kernel)
set_option maxRecDepth 20000 in
theorem gX4_takeNumber_X4_isFigure : GoodIn wsX4_takeNumber (va_wsS RX4 38 yX4_isFigure wsX4_isFigure) := goodIn_app (goodIn_of _ (by decide +kernel)) ggX4_takeNumber_X4_isFigure
theorem dX4_takeNumber_0 : decode cX4_takeNumber 0 = .ok (.aload_n 0, 1) := by decide +kernel
theorem dX4_takeNumber_1 : decode cX4_takeNumber 1 = .ok (.iconst 0, 1) := by decide +kernel
theorem dX4_takeNumber_2 : decode cX4_takeNumber 2 = .ok (.putfield 28, 3) := by decide +kernel
theorem dX4_takeNumber_5 : decode cX4_takeNumber 5 = .ok (.aload_n 0, 1) := by decide +kernel
theorem dX4_takeNumber_6 : decode cX4_takeNumber 6 = .ok (.getfield 19, 3) := by decide +kernel
theorem dX4_takeNumber_9 : decode cX4_takeNumber 9 = .ok (.aload_n 0, 1) := by decide +kernel
theorem dX4_takeNumber_10 : decode cX4_takeNumber 10 = .ok (.getfield 15, 3) := by decide +kernel
theorem dX4_takeNumber_13 : decode cX4_takeNumber 13 = .ok (.if_icmp .ge 55, 3) := by decide +kernel
theorem dX4_takeNumber_16 : decode cX4_takeNumber 16 = .ok (.aload_n 0, 1) := by decide +kernel
theorem dX4_takeNumber_17 : decode cX4_takeNumber 17 = .ok (.getfield 9, 3) := by decide +kernel
theorem dX4_takeNumber_20 : decode cX4_takeNumber 20 = .ok (.aload_n 0, 1) := by decide +kernel
theorem dX4_takeNumber_21 : decode cX4_takeNumber 21 = .ok (.getfield 19, 3) := by decide +kernel
theorem dX4_takeNumber_24 : decode cX4_takeNumber 24 = .ok (.iaload, 1) := by decide +kernel
theorem dX4_takeNumber_25 : decode cX4_takeNumber 25 = .ok (.invokestatic 38, 3) := by decide +kernel
theorem dX4_takeNumber_28 : decode cX4_takeNumber 28 = .ok (.ifCond .eq 40, 3) := by decide +kernel
theorem dX4_takeNumber_31 : decode cX4_takeNumber 31 = .ok (.aload_n 0, 1) := by decide +kernel
theorem dX4_takeNumber_32 : decode cX4_takeNumber 32 = .ok (.bipush 10, 2) := by decide +kernel
theorem dX4_takeNumber_34 : decode cX4_takeNumber 34 = .ok (.aload_n 0, 1) := by decide +kernel
theorem dX4_takeNumber_35 : decode cX4_takeNumber 35 = .ok (.getfield 28, 3) := by decide +kernel
theorem dX4_takeNumber_38 : decode cX4_takeNumber 38 = .ok (.imul, 1) := by decide +kernel
theorem dX4_takeNumber_39 : decode cX4_takeNumber 39 = .ok (.aload_n 0, 1) := by decide +kernel
theorem dX4_takeNumber_40 : decode cX4_takeNumber 40 = .ok (.getfield 9, 3) := by decide +kernel
theorem dX4_takeNumber_43 : decode cX4_takeNumber 43 = .ok (.aload_n 0, 1) := by decide +kernel
theorem dX4_takeNumber_44 : decode cX4_takeNumber 44 = .ok (.getfield 19, 3) := by decide +kernel
theorem dX4_takeNumber_47 : decode cX4_takeNumber 47 = .ok (.iaload, 1) := by decide +kernel
theorem dX4_takeNumber_48 : decode cX4_takeNumber 48 = .ok (.iadd, 1) := by decide +kernel
theorem dX4_takeNumber_49 : decode cX4_takeNumber 49 = .ok (.bipush 48, 2) := by decide +kernel
theorem dX4_takeNumber_51 : decode cX4_takeNumber 51 = .ok (.isub, 1) := by decide +kernel
theorem dX4_takeNumber_52 : decode cX4_takeNumber 52 = .ok (.putfield 28, 3) := by decide +kernel
theorem dX4_takeNumber_55 : decode cX4_takeNumber 55 = .ok (.aload_n 0, 1) := by decide +kernel
theorem dX4_takeNumber_56 : decode cX4_takeNumber 56 = .ok (.dup, 1) := by decide +kernel
theorem dX4_takeNumber_57 : decode cX4_takeNumber 57 = .ok (.getfield 19, 3) := by decide +kernel
theorem dX4_takeNumber_60 : decode cX4_takeNumber 60 = .ok (.iconst 1, 1) := by decide +kernel
theorem dX4_takeNumber_61 : decode cX4_takeNumber 61 = .ok (.iadd, 1) := by decide +kernel
theorem dX4_takeNumber_62 : decode cX4_takeNumber 62 = .ok (.putfield 19, 3) := by decide +kernel
theorem dX4_takeNumber_65 : decode cX4_takeNumber 65 = .ok (.goto (-60), 3) := by decide +kernel
theorem dX4_takeNumber_68 : decode cX4_takeNumber 68 = .ok (.aload_n 0, 1) := by decide +kernel
theorem dX4_takeNumber_69 : decode cX4_takeNumber 69 = .ok (.aload_n 0, 1) := by decide +kernel
theorem dX4_takeNumber_70 : decode cX4_takeNumber 70 = .ok (.getfield 19, 3) := by decide +kernel
theorem dX4_takeNumber_73 : decode cX4_takeNumber 73 = .ok (.aload_n 0, 1) := by decide +kernel
theorem dX4_takeNumber_74 : decode cX4_takeNumber 74 = .ok (.getfield 22, 3) := by decide +kernel
theorem dX4_takeNumber_77 : decode cX4_takeNumber 77 = .ok (.isub, 1) := by decide +kernel
theorem dX4_takeNumber_78 : decode cX4_takeNumber 78 = .ok (.iconst 2, 1) := by decide +kernel
theorem dX4_takeNumber_79 : decode cX4_takeNumber 79 = .ok (.if_icmp .gt 7, 3) := by decide +kernel
theorem dX4_takeNumber_82 : decode cX4_takeNumber 82 = .ok (.iconst 2, 1) := by decide +kernel
theorem dX4_takeNumber_83 : decode cX4_takeNumber 83 = .ok (.goto 4, 3) := by decide +kernel
theorem dX4_takeNumber_86 : decode cX4_takeNumber 86 = .ok (.iconst 4, 1) := by decide +kernel
theorem dX4_takeNumber_87 : decode cX4_takeNumber 87 = .ok (.putfield 25, 3) := by decide +kernel
theorem dX4_takeNumber_90 : decode cX4_takeNumber 90 = .ok (.return_, 1) := by decide +kernel
set_option maxRecDepth 20000 in
theorem ggX4_spells_J0_length_8abf5 : GoodIn wsX4_spells wsJ0_length_8abf5 := goodIn_r _ [8, 9, 10, 11, 12, 7, 13, 14, 15] (by decide +kernel) (by decide +kernel)
set_option maxRecDepth 20000 in
theorem gX4_spells_J0_length_8abf5 : GoodIn wsX4_spells (wsV RX4 44 RJ0 yJ0_length_8abf5 wsJ0_length_8abf5) := goodIn_app (goodIn_of _ (by decide +kernel)) ggX4_spells_J0_length_8abf5
set_option maxRecDepth 20000 in
theorem ggX4_spells_J0_charAt_5068e : GoodIn wsX4_spells wsJ0_charAt_5068e := goodIn_r _ [19, 9, 20, 21, 22, 7, 23, 14, 15, 24, 25, 26, 27, 28, 29, 30, 31, 32, 33, 34, 35, 36, 37, 38, 39, 40, 41, 42, 43, 44, 45, 46, 47, 48, 49, 50, 51, 52] (by decide +kernel) (by decide +kernel)
set_option maxRecDepth 20000 in
theorem gX4_spells_J0_charAt_5068e : GoodIn wsX4_spells (wsV RX4 49 RJ0 yJ0_charAt_5068e wsJ0_charAt_5068e) := goodIn_app (goodIn_of _ (by decide +kernel)) ggX4_spells_J0_charAt_5068e
theorem dX4_spells_0 : decode cX4_spells 0 = .ok (.aload_n 1, 1) := by decide +kernel
theorem dX4_spells_1 : decode cX4_spells 1 = .ok (.invokevirtual 44, 3) := by decide +kernel
theorem dX4_spells_4 : decode cX4_spells 4 = .ok (.aload_n 0, 1) := by decide +kernel
theorem dX4_spells_5 : decode cX4_spells 5 = .ok (.getfield 19, 3) := by decide +kernel
theorem dX4_spells_8 : decode cX4_spells 8 = .ok (.aload_n 0, 1) := by decide +kernel
theorem dX4_spells_9 : decode cX4_spells 9 = .ok (.getfield 22, 3) := by decide +kernel
theorem dX4_spells_12 : decode cX4_spells 12 = .ok (.isub, 1) := by decide +kernel
theorem dX4_spells_13 : decode cX4_spells 13 = .ok (.if_icmp .eq 5, 3) := by decide +kernel
theorem dX4_spells_16 : decode cX4_spells 16 = .ok (.iconst 0, 1) := by decide +kernel
theorem dX4_spells_17 : decode cX4_spells 17 = .ok (.ireturn, 1) := by decide +kernel
theorem dX4_spells_18 : decode cX4_spells 18 = .ok (.iconst 0, 1) := by decide +kernel
theorem dX4_spells_19 : decode cX4_spells 19 = .ok (.istore_n 2, 1) := by decide +kernel
theorem dX4_spells_20 : decode cX4_spells 20 = .ok (.iload_n 2, 1) := by decide +kernel
theorem dX4_spells_21 : decode cX4_spells 21 = .ok (.aload_n 1, 1) := by decide +kernel
theorem dX4_spells_22 : decode cX4_spells 22 = .ok (.invokevirtual 44, 3) := by decide +kernel
theorem dX4_spells_25 : decode cX4_spells 25 = .ok (.if_icmp .ge 30, 3) := by decide +kernel
theorem dX4_spells_28 : decode cX4_spells 28 = .ok (.aload_n 1, 1) := by decide +kernel
theorem dX4_spells_29 : decode cX4_spells 29 = .ok (.iload_n 2, 1) := by decide +kernel
theorem dX4_spells_30 : decode cX4_spells 30 = .ok (.invokevirtual 49, 3) := by decide +kernel
theorem dX4_spells_33 : decode cX4_spells 33 = .ok (.aload_n 0, 1) := by decide +kernel
theorem dX4_spells_34 : decode cX4_spells 34 = .ok (.getfield 9, 3) := by decide +kernel
theorem dX4_spells_37 : decode cX4_spells 37 = .ok (.aload_n 0, 1) := by decide +kernel
theorem dX4_spells_38 : decode cX4_spells 38 = .ok (.getfield 22, 3) := by decide +kernel
theorem dX4_spells_41 : decode cX4_spells 41 = .ok (.iload_n 2, 1) := by decide +kernel
theorem dX4_spells_42 : decode cX4_spells 42 = .ok (.iadd, 1) := by decide +kernel
theorem dX4_spells_43 : decode cX4_spells 43 = .ok (.iaload, 1) := by decide +kernel
theorem dX4_spells_44 : decode cX4_spells 44 = .ok (.if_icmp .eq 5, 3) := by decide +kernel
theorem dX4_spells_47 : decode cX4_spells 47 = .ok (.iconst 0, 1) := by decide +kernel
theorem dX4_spells_48 : decode cX4_spells 48 = .ok (.ireturn, 1) := by decide +kernel
theorem dX4_spells_49 : decode cX4_spells 49 = .ok (.iinc 2 1, 3) := by decide +kernel
theorem dX4_spells_52 : decode cX4_spells 52 = .ok (.goto (-32), 3) := by decide +kernel
theorem dX4_spells_55 : decode cX4_spells 55 = .ok (.iconst 1, 1) := by decide +kernel
theorem dX4_spells_56 : decode cX4_spells 56 = .ok (.ireturn, 1) := by decide +kernel
theorem dX4_isLetter_0 : decode cX4_isLetter 0 = .ok (.iload_n 0, 1) := by decide +kernel
theorem dX4_isLetter_1 : decode cX4_isLetter 1 = .ok (.bipush 97, 2) := by decide +kernel
theorem dX4_isLetter_3 : decode cX4_isLetter 3 = .ok (.if_icmp .lt 13, 3) := by decide +kernel
theorem dX4_isLetter_6 : decode cX4_isLetter 6 = .ok (.iload_n 0, 1) := by decide +kernel
theorem dX4_isLetter_7 : decode cX4_isLetter 7 = .ok (.bipush 122, 2) := by decide +kernel
theorem dX4_isLetter_9 : decode cX4_isLetter 9 = .ok (.if_icmp .gt 7, 3) := by decide +kernel
theorem dX4_isLetter_12 : decode cX4_isLetter 12 = .ok (.iconst 1, 1) := by decide +kernel
theorem dX4_isLetter_13 : decode cX4_isLetter 13 = .ok (.goto 4, 3) := by decide +kernel
theorem dX4_isLetter_16 : decode cX4_isLetter 16 = .ok (.iconst 0, 1) := by decide +kernel
theorem dX4_isLetter_17 : decode cX4_isLetter 17 = .ok (.ireturn, 1) := by decide +kernel
theorem dX4_isFigure_0 : decode cX4_isFigure 0 = .ok (.iload_n 0, 1) := by decide +kernel
theorem dX4_isFigure_1 : decode cX4_isFigure 1 = .ok (.bipush 48, 2) := by decide +kernel
theorem dX4_isFigure_3 : decode cX4_isFigure 3 = .ok (.if_icmp .lt 13, 3) := by decide +kernel
theorem dX4_isFigure_6 : decode cX4_isFigure 6 = .ok (.iload_n 0, 1) := by decide +kernel
theorem dX4_isFigure_7 : decode cX4_isFigure 7 = .ok (.bipush 57, 2) := by decide +kernel
theorem dX4_isFigure_9 : decode cX4_isFigure 9 = .ok (.if_icmp .gt 7, 3) := by decide +kernel
theorem dX4_isFigure_12 : decode cX4_isFigure 12 = .ok (.iconst 1, 1) := by decide +kernel
theorem dX4_isFigure_13 : decode cX4_isFigure 13 = .ok (.goto 4, 3) := by decide +kernel
theorem dX4_isFigure_16 : decode cX4_isFigure 16 = .ok (.iconst 0, 1) := by decide +kernel
theorem dX4_isFigure_17 : decode cX4_isFigure 17 = .ok (.ireturn, 1) := by decide +kernel
set_option maxRecDepth 20000 in
theorem ggX5_init_X0_init : GoodIn wsX5_init wsX0_init := goodIn_r _ [15, 16, 2, 3, 17, 18, 19, 20, 21, 22, 23, 24, 25, 26, 27, 28, 29, 30, 31, 32, 33, 34, 35, 36, 37, 38, 39, 40, 41, 42, 43, 44, 45, 46, 47] (by decide +kernel) (by decide +kernel)
set_option maxRecDepth 20000 in
theorem gX5_init_X0_init_n11 : GoodIn wsX5_init (wsX0_init) := ggX5_init_X0_init
theorem dX5_init_0 : decode cX5_init 0 = .ok (.aload_n 0, 1) := by decide +kernel
theorem dX5_init_1 : decode cX5_init 1 = .ok (.invokespecial 3, 3) := by decide +kernel
theorem dX5_init_4 : decode cX5_init 4 = .ok (.aload_n 0, 1) := by decide +kernel
theorem dX5_init_5 : decode cX5_init 5 = .ok (.new 9, 3) := by decide +kernel
theorem dX5_init_8 : decode cX5_init 8 = .ok (.dup, 1) := by decide +kernel
theorem dX5_init_9 : decode cX5_init 9 = .ok (.invokespecial 11, 3) := by decide +kernel
theorem dX5_init_12 : decode cX5_init 12 = .ok (.putfield 12, 3) := by decide +kernel
theorem dX5_init_15 : decode cX5_init 15 = .ok (.aload_n 0, 1) := by decide +kernel
theorem dX5_init_16 : decode cX5_init 16 = .ok (.iconst 0, 1) := by decide +kernel
theorem dX5_init_17 : decode cX5_init 17 = .ok (.putfield 18, 3) := by decide +kernel
theorem dX5_init_20 : decode cX5_init 20 = .ok (.aload_n 0, 1) := by decide +kernel
theorem dX5_init_21 : decode cX5_init 21 = .ok (.iconst 0, 1) := by decide +kernel
theorem dX5_init_22 : decode cX5_init 22 = .ok (.putfield 22, 3) := by decide +kernel
theorem dX5_init_25 : decode cX5_init 25 = .ok (.aload_n 0, 1) := by decide +kernel
theorem dX5_init_26 : decode cX5_init 26 = .ok (.iconst 0, 1) := by decide +kernel
theorem dX5_init_27 : decode cX5_init 27 = .ok (.putfield 25, 3) := by decide +kernel
theorem dX5_init_30 : decode cX5_init 30 = .ok (.aload_n 0, 1) := by decide +kernel
theorem dX5_init_31 : decode cX5_init 31 = .ok (.iconst 0, 1) := by decide +kernel
theorem dX5_init_32 : decode cX5_init 32 = .ok (.putfield 28, 3) := by decide +kernel
theorem dX5_init_35 : decode cX5_init 35 = .ok (.aload_n 0, 1) := by decide +kernel
theorem dX5_init_36 : decode cX5_init 36 = .ok (.iconst 0, 1) := by decide +kernel
theorem dX5_init_37 : decode cX5_init 37 = .ok (.putfield 31, 3) := by decide +kernel
theorem dX5_init_40 : decode cX5_init 40 = .ok (.aload_n 0, 1) := by decide +kernel
theorem dX5_init_41 : decode cX5_init 41 = .ok (.iconst 0, 1) := by decide +kernel
theorem dX5_init_42 : decode cX5_init 42 = .ok (.putfield 34, 3) := by decide +kernel
theorem dX5_init_45 : decode cX5_init 45 = .ok (.return_, 1) := by decide +kernel
set_option maxRecDepth 20000 in
theorem ggX5_readAll_X0_clear : GoodIn wsX5_readAll wsX0_clear := goodIn_r _ [11, 12, 13, 14, 15, 16, 17, 18, 19, 20, 21, 164, 165, 166, 167, 168, 169, 170, 171, 172, 173, 174, 175, 176] (by decide +kernel) (by decide +kernel)
set_option maxRecDepth 20000 in
theorem gX5_readAll_X0_clear_n37 : GoodIn wsX5_readAll (wsX0_clear) := ggX5_readAll_X0_clear
set_option maxRecDepth 20000 in
theorem ggX5_readAll_X4_rewind : GoodIn wsX5_readAll wsX4_rewind := goodIn_r _ [25, 26, 27, 28, 177, 178, 179, 180, 181, 182] (by decide +kernel) (by decide +kernel)
set_option maxRecDepth 20000 in
theorem gX5_readAll_X4_rewind_n40 : GoodIn wsX5_readAll (wsX4_rewind) := ggX5_readAll_X4_rewind
set_option maxRecDepth 20000 in
theorem ggX5_readAll_X5_readLine : GoodIn wsX5_readAll wsX5_readLine := goodIn_r _ [33, 3, 34, 23, 35, 36, 26, 37, 38, 27, 28, 39, 40, 41, 42, 43, 44, 45, 46, 47, 48, 49, 50, 51, 52, 53, 54, 55, 56, 32, 57, 4, 58, 59, 60, 61, 62, 63, 64, 65, 66, 67, 68, 69, 70, 71, 72, 73, 74, 75, 76, 77, 78, 79, 80, 81, 82, 83, 84, 85, 86, 87, 88, 89, 90, 91, 92, 93, 94, 95, 96, 97, 98, 99, 100, 101, 102, 103, 104, 105, 106, 107, 108, 109, 110, 111, 112, 113, 114, 115, 116, 1, 117, 118, 119, 120, 121, 122, 123, 124, 125, 126, 127, 128, 129, 130, 131, 132, 9, 133, 134, 12, 135, 136, 137, 138, 139, 140, 141, 5, 7, 142, 143, 144, 145, 6, 146, 147, 148, 149, 150, 151, 152, 14, 153, 154, 155, 156, 177, 178, 179, 180, 181, 182, 157, 158, 159, 160, 161, 162, 163, 164, 165, 166, 167, 168, 169, 170, 171, 172, 173, 174, 175, 176] (by decide +kernel) (by decide +kernel)
set_option maxRecDepth 20000 in
theorem gX5_readAll_X5_readLine : GoodIn wsX5_readAll (wsV RX5 45 RX5 yX5_readLine wsX5_readLine) := goodIn_app (goodIn_of _ (by decide +kernel)) ggX5_readAll_X5_readLine
set_option maxRecDepth 20000 in
theorem ggX5_readAll_X5_refuse : GoodIn wsX5_readAll wsX5_refuse := goodIn_r _ [57, 3, 4, 157, 158, 159, 160, 161, 162, 163] (by decide +kernel) (by decide +kernel)
set_option maxRecDepth 20000 in
theorem gX5_readAll_X5_refuse : GoodIn wsX5_readAll (wsV RX5 55 RX5 yX5_refuse wsX5_refuse) := goodIn_app (goodIn_of _ (by decide +kernel)) ggX5_readAll_X5_refuse
theorem dX5_readAll_0 : decode cX5_readAll 0 = .ok (.aload_n 0, 1) := by decide +kernel
theorem dX5_readAll_1 : decode cX5_readAll 1 = .ok (.getfield 12, 3) := by decide +kernel
theorem dX5_readAll_4 : decode cX5_readAll 4 = .ok (.invokevirtual 37, 3) := by decide +kernel
theorem dX5_readAll_7 : decode cX5_readAll 7 = .ok (.aload_n 0, 1) := by decide +kernel
theorem dX5_readAll_8 : decode cX5_readAll 8 = .ok (.iconst 0, 1) := by decide +kernel
theorem dX5_readAll_9 : decode cX5_readAll 9 = .ok (.putfield 18, 3) := by decide +kernel
theorem dX5_readAll_12 : decode cX5_readAll 12 = .ok (.aload_n 0, 1) := by decide +kernel
theorem dX5_readAll_13 : decode cX5_readAll 13 = .ok (.iconst 0, 1) := by decide +kernel
theorem dX5_readAll_14 : decode cX5_readAll 14 = .ok (.putfield 22, 3) := by decide +kernel
theorem dX5_readAll_17 : decode cX5_readAll 17 = .ok (.aload_n 0, 1) := by decide +kernel
theorem dX5_readAll_18 : decode cX5_readAll 18 = .ok (.iconst 0, 1) := by decide +kernel
theorem dX5_readAll_19 : decode cX5_readAll 19 = .ok (.putfield 25, 3) := by decide +kernel
theorem dX5_readAll_22 : decode cX5_readAll 22 = .ok (.aload_n 0, 1) := by decide +kernel
theorem dX5_readAll_23 : decode cX5_readAll 23 = .ok (.iconst 0, 1) := by decide +kernel
theorem dX5_readAll_24 : decode cX5_readAll 24 = .ok (.putfield 28, 3) := by decide +kernel
theorem dX5_readAll_27 : decode cX5_readAll 27 = .ok (.aload_n 0, 1) := by decide +kernel
theorem dX5_readAll_28 : decode cX5_readAll 28 = .ok (.iconst 0, 1) := by decide +kernel
theorem dX5_readAll_29 : decode cX5_readAll 29 = .ok (.putfield 31, 3) := by decide +kernel
theorem dX5_readAll_32 : decode cX5_readAll 32 = .ok (.aload_n 0, 1) := by decide +kernel
theorem dX5_readAll_33 : decode cX5_readAll 33 = .ok (.iconst 0, 1) := by decide +kernel
theorem dX5_readAll_34 : decode cX5_readAll 34 = .ok (.putfield 34, 3) := by decide +kernel
theorem dX5_readAll_37 : decode cX5_readAll 37 = .ok (.aload_n 1, 1) := by decide +kernel
theorem dX5_readAll_38 : decode cX5_readAll 38 = .ok (.invokevirtual 40, 3) := by decide +kernel
theorem dX5_readAll_41 : decode cX5_readAll 41 = .ok (.aload_n 0, 1) := by decide +kernel
theorem dX5_readAll_42 : decode cX5_readAll 42 = .ok (.getfield 18, 3) := by decide +kernel
theorem dX5_readAll_45 : decode cX5_readAll 45 = .ok (.sipush 160, 3) := by decide +kernel
theorem dX5_readAll_48 : decode cX5_readAll 48 = .ok (.if_icmp .gt 24, 3) := by decide +kernel
theorem dX5_readAll_51 : decode cX5_readAll 51 = .ok (.aload_n 0, 1) := by decide +kernel
theorem dX5_readAll_52 : decode cX5_readAll 52 = .ok (.aload_n 1, 1) := by decide +kernel
theorem dX5_readAll_53 : decode cX5_readAll 53 = .ok (.invokevirtual 45, 3) := by decide +kernel
theorem dX5_readAll_56 : decode cX5_readAll 56 = .ok (.ifCond .eq 16, 3) := by decide +kernel
theorem dX5_readAll_59 : decode cX5_readAll 59 = .ok (.aload_n 0, 1) := by decide +kernel
theorem dX5_readAll_60 : decode cX5_readAll 60 = .ok (.dup, 1) := by decide +kernel
theorem dX5_readAll_61 : decode cX5_readAll 61 = .ok (.getfield 18, 3) := by decide +kernel
theorem dX5_readAll_64 : decode cX5_readAll 64 = .ok (.iconst 1, 1) := by decide +kernel
theorem dX5_readAll_65 : decode cX5_readAll 65 = .ok (.iadd, 1) := by decide +kernel
theorem dX5_readAll_66 : decode cX5_readAll 66 = .ok (.putfield 18, 3) := by decide +kernel
theorem dX5_readAll_69 : decode cX5_readAll 69 = .ok (.goto (-28), 3) := by decide +kernel
theorem dX5_readAll_72 : decode cX5_readAll 72 = .ok (.aload_n 0, 1) := by decide +kernel
theorem dX5_readAll_73 : decode cX5_readAll 73 = .ok (.getfield 34, 3) := by decide +kernel
theorem dX5_readAll_76 : decode cX5_readAll 76 = .ok (.aload_n 0, 1) := by decide +kernel
theorem dX5_readAll_77 : decode cX5_readAll 77 = .ok (.getfield 12, 3) := by decide +kernel
theorem dX5_readAll_80 : decode cX5_readAll 80 = .ok (.getfield 49, 3) := by decide +kernel
theorem dX5_readAll_83 : decode cX5_readAll 83 = .ok (.ishr, 1) := by decide +kernel
theorem dX5_readAll_84 : decode cX5_readAll 84 = .ok (.ifCond .eq 13, 3) := by decide +kernel
theorem dX5_readAll_87 : decode cX5_readAll 87 = .ok (.aload_n 0, 1) := by decide +kernel
theorem dX5_readAll_88 : decode cX5_readAll 88 = .ok (.bipush 6, 2) := by decide +kernel
theorem dX5_readAll_90 : decode cX5_readAll 90 = .ok (.aload_n 1, 1) := by decide +kernel
theorem dX5_readAll_91 : decode cX5_readAll 91 = .ok (.getfield 52, 3) := by decide +kernel
theorem dX5_readAll_94 : decode cX5_readAll 94 = .ok (.invokevirtual 55, 3) := by decide +kernel
theorem dX5_readAll_97 : decode cX5_readAll 97 = .ok (.return_, 1) := by decide +kernel
theorem dX5_refuse_0 : decode cX5_refuse 0 = .ok (.aload_n 0, 1) := by decide +kernel
theorem dX5_refuse_1 : decode cX5_refuse 1 = .ok (.getfield 22, 3) := by decide +kernel
theorem dX5_refuse_4 : decode cX5_refuse 4 = .ok (.ifCond .ne 13, 3) := by decide +kernel
theorem dX5_refuse_7 : decode cX5_refuse 7 = .ok (.aload_n 0, 1) := by decide +kernel
theorem dX5_refuse_8 : decode cX5_refuse 8 = .ok (.iload_n 1, 1) := by decide +kernel
theorem dX5_refuse_9 : decode cX5_refuse 9 = .ok (.putfield 22, 3) := by decide +kernel
theorem dX5_refuse_12 : decode cX5_refuse 12 = .ok (.aload_n 0, 1) := by decide +kernel
theorem dX5_refuse_13 : decode cX5_refuse 13 = .ok (.iload_n 2, 1) := by decide +kernel
theorem dX5_refuse_14 : decode cX5_refuse 14 = .ok (.putfield 25, 3) := by decide +kernel
theorem dX5_refuse_17 : decode cX5_refuse 17 = .ok (.return_, 1) := by decide +kernel
set_option maxRecDepth 20000 in
theorem ggX5_readLine_X4_nextToken : GoodIn wsX5_readLine wsX4_nextToken := goodIn_r _ [5, 6, 7, 8, 9, 10, 11, 12, 3, 13, 14, 15, 16, 17, 18, 19, 20, 21, 22, 23, 24, 25, 138, 139, 140, 141, 142, 143] (by decide +kernel) (by decide +kernel)
set_option maxRecDepth 20000 in
theorem gX5_readLine_X4_nextToken_n59 : GoodIn wsX5_readLine (wsX4_nextToken) := ggX5_readLine_X4_nextToken
set_option maxRecDepth 20000 in
theorem ggX5_readLine_X5_refuse : GoodIn wsX5_readLine wsX5_refuse := goodIn_r _ [30, 1, 31, 144, 145, 146, 147, 148, 149, 150] (by decide +kernel) (by decide +kernel)
set_option maxRecDepth 20000 in
theorem gX5_readLine_X5_refuse : GoodIn wsX5_readLine (wsV RX5 55 RX5 yX5_refuse wsX5_refuse) := goodIn_app (goodIn_of _ (by decide +kernel)) ggX5_readLine_X5_refuse
set_option maxRecDepth 20000 in
theorem ggX5_readLine_X5_lineNamed : GoodIn wsX5_readLine wsX5_lineNamed := goodIn_r _ [34, 35, 3, 36, 37, 6, 9, 8, 38, 39, 40, 41, 42, 43, 44, 45, 46, 47, 48, 49, 50, 51, 52, 53, 54, 55, 56, 57, 58, 59, 60, 61, 62, 63, 64, 65, 66, 67, 68, 69, 70, 71, 72, 73, 74, 75, 76, 77, 78, 79, 80, 81, 82, 83, 84, 85, 86, 138, 139, 140, 141, 142, 143] (by decide +kernel) (by decide +kernel)
set_option maxRecDepth 20000 in
theorem gX5_readLine_X5_lineNamed : GoodIn wsX5_readLine (va_wsS RX5 68 yX5_lineNamed wsX5_lineNamed) := goodIn_app (goodIn_of _ (by decide +kernel)) ggX5_readLine_X5_lineNamed
set_option maxRecDepth 20000 in
theorem ggX5_readLine_X5_readGoose : GoodIn wsX5_readLine wsX5_readGoose := goodIn_r _ [90, 91, 26, 27, 28, 29, 30, 1, 31, 92, 93, 94, 95, 2, 3, 4, 5, 6, 7, 8, 9, 10, 11, 12, 13, 14, 15, 16, 17, 18, 19, 20, 21, 22, 23, 24, 25, 96, 97, 98, 99, 100, 101, 102, 103, 104, 105, 106, 107, 108, 109, 110, 111, 112, 113, 114, 144, 145, 146, 147, 148, 149, 150, 151, 152, 153, 154, 155, 156, 157, 158, 159, 160, 161, 162, 163, 138, 139, 140, 141, 142, 143] (by decide +kernel) (by decide +kernel)
set_option maxRecDepth 20000 in
theorem gX5_readLine_X5_readGoose : GoodIn wsX5_readLine (wsV RX5 72 RX5 yX5_readGoose wsX5_readGoose) := goodIn_app (goodIn_of _ (by decide +kernel)) ggX5_readLine_X5_readGoose
set_option maxRecDepth 20000 in
theorem ggX5_readLine_X5_readShare : GoodIn wsX5_readLine wsX5_readShare := goodIn_r _ [118, 119, 120, 91, 92, 93, 94, 29, 95, 1, 2, 3, 4, 5, 6, 7, 8, 9, 10, 11, 12, 13, 14, 15, 16, 17, 18, 19, 20, 21, 22, 23, 24, 25, 96, 97, 98, 99, 26, 27, 28, 30, 31, 100, 101, 102, 103, 104, 105, 106, 144, 145, 146, 147, 148, 149, 150, 138, 139, 140, 141, 142, 143, 151, 152, 153, 154, 155, 156, 157, 158, 159, 160, 161, 162, 163] (by decide +kernel) (by decide +kernel)
set_option maxRecDepth 20000 in
theorem gX5_readLine_X5_readShare : GoodIn wsX5_readLine (wsV RX5 76 RX5 yX5_readShare wsX5_readShare) := goodIn_app (goodIn_of _ (by decide +kernel)) ggX5_readLine_X5_readShare
set_option maxRecDepth 20000 in
theorem ggX5_readLine_X5_readMoney : GoodIn wsX5_readLine wsX5_readMoney := goodIn_r _ [124, 125, 91, 92, 93, 94, 29, 95, 1, 2, 3, 4, 5, 6, 7, 8, 9, 10, 11, 12, 13, 14, 15, 16, 17, 18, 19, 20, 21, 22, 23, 24, 25, 96, 97, 98, 99, 26, 27, 28, 30, 31, 100, 101, 102, 103, 104, 105, 106, 144, 145, 146, 147, 148, 149, 150, 138, 139, 140, 141, 142, 143, 151, 152, 153, 154, 155, 156, 157, 158, 159, 160, 161, 162, 163] (by decide +kernel) (by decide +kernel)
set_option maxRecDepth 20000 in
theorem gX5_readLine_X5_readMoney : GoodIn wsX5_readLine (wsV RX5 80 RX5 yX5_readMoney wsX5_readMoney) := goodIn_app (goodIn_of _ (by decide +kernel)) ggX5_readLine_X5_readMoney
set_option maxRecDepth 20000 in
theorem ggX5_readLine_X5_readTrade : GoodIn wsX5_readLine wsX5_readTrade := goodIn_r _ [129, 91, 120, 26, 27, 28, 29, 30, 1, 31, 92, 93, 94, 95, 2, 3, 4, 5, 6, 7, 8, 9, 10, 11, 12, 13, 14, 15, 16, 17, 18, 19, 20, 21, 22, 23, 24, 25, 96, 97, 98, 99, 100, 101, 102, 103, 104, 105, 106, 130, 108, 131, 132, 133, 134, 135, 136, 137, 144, 145, 146, 147, 148, 149, 150, 151, 152, 153, 154, 155, 156, 157, 158, 159, 160, 161, 162, 163, 138, 139, 140, 141, 142, 143] (by decide +kernel) (by decide +kernel)
set_option maxRecDepth 20000 in
theorem gX5_readLine_X5_readTrade : GoodIn wsX5_readLine (wsV RX5 83 RX5 yX5_readTrade wsX5_readTrade) := goodIn_app (goodIn_of _ (by decide +kernel)) ggX5_readLine_X5_readTrade
theorem dX5_readLine_0 : decode cX5_readLine 0 = .ok (.aload_n 1, 1) := by decide +kernel
theorem dX5_readLine_1 : decode cX5_readLine 1 = .ok (.invokevirtual 59, 3) := by decide +kernel
theorem dX5_readLine_4 : decode cX5_readLine 4 = .ok (.aload_n 1, 1) := by decide +kernel
theorem dX5_readLine_5 : decode cX5_readLine 5 = .ok (.getfield 62, 3) := by decide +kernel
theorem dX5_readLine_8 : decode cX5_readLine 8 = .ok (.ifCond .ne 5, 3) := by decide +kernel
theorem dX5_readLine_11 : decode cX5_readLine 11 = .ok (.iconst 0, 1) := by decide +kernel
theorem dX5_readLine_12 : decode cX5_readLine 12 = .ok (.ireturn, 1) := by decide +kernel
theorem dX5_readLine_13 : decode cX5_readLine 13 = .ok (.aload_n 1, 1) := by decide +kernel
theorem dX5_readLine_14 : decode cX5_readLine 14 = .ok (.getfield 62, 3) := by decide +kernel
theorem dX5_readLine_17 : decode cX5_readLine 17 = .ok (.iconst 4, 1) := by decide +kernel
theorem dX5_readLine_18 : decode cX5_readLine 18 = .ok (.if_icmp .ne 14, 3) := by decide +kernel
theorem dX5_readLine_21 : decode cX5_readLine 21 = .ok (.aload_n 0, 1) := by decide +kernel
theorem dX5_readLine_22 : decode cX5_readLine 22 = .ok (.iconst 1, 1) := by decide +kernel
theorem dX5_readLine_23 : decode cX5_readLine 23 = .ok (.aload_n 1, 1) := by decide +kernel
theorem dX5_readLine_24 : decode cX5_readLine 24 = .ok (.getfield 65, 3) := by decide +kernel
theorem dX5_readLine_27 : decode cX5_readLine 27 = .ok (.invokevirtual 55, 3) := by decide +kernel
theorem dX5_readLine_30 : decode cX5_readLine 30 = .ok (.iconst 0, 1) := by decide +kernel
theorem dX5_readLine_31 : decode cX5_readLine 31 = .ok (.ireturn, 1) := by decide +kernel
theorem dX5_readLine_32 : decode cX5_readLine 32 = .ok (.aload_n 1, 1) := by decide +kernel
theorem dX5_readLine_33 : decode cX5_readLine 33 = .ok (.invokestatic 68, 3) := by decide +kernel
theorem dX5_readLine_36 : decode cX5_readLine 36 = .ok (.tableswitch 128 0 12 #[68, 77, 86, 95, 128, 128, 128, 128, 128, 128, 104, 112, 120], 68) := by decide +kernel
theorem dX5_readLine_104 : decode cX5_readLine 104 = .ok (.aload_n 0, 1) := by decide +kernel
theorem dX5_readLine_105 : decode cX5_readLine 105 = .ok (.aload_n 1, 1) := by decide +kernel
theorem dX5_readLine_106 : decode cX5_readLine 106 = .ok (.iconst 0, 1) := by decide +kernel
theorem dX5_readLine_107 : decode cX5_readLine 107 = .ok (.invokevirtual 72, 3) := by decide +kernel
theorem dX5_readLine_110 : decode cX5_readLine 110 = .ok (.goto 63, 3) := by decide +kernel
theorem dX5_readLine_113 : decode cX5_readLine 113 = .ok (.aload_n 0, 1) := by decide +kernel
theorem dX5_readLine_114 : decode cX5_readLine 114 = .ok (.aload_n 1, 1) := by decide +kernel
theorem dX5_readLine_115 : decode cX5_readLine 115 = .ok (.iconst 1, 1) := by decide +kernel
theorem dX5_readLine_116 : decode cX5_readLine 116 = .ok (.invokevirtual 72, 3) := by decide +kernel
theorem dX5_readLine_119 : decode cX5_readLine 119 = .ok (.goto 54, 3) := by decide +kernel
theorem dX5_readLine_122 : decode cX5_readLine 122 = .ok (.aload_n 0, 1) := by decide +kernel
theorem dX5_readLine_123 : decode cX5_readLine 123 = .ok (.aload_n 1, 1) := by decide +kernel
theorem dX5_readLine_124 : decode cX5_readLine 124 = .ok (.iconst 2, 1) := by decide +kernel
theorem dX5_readLine_125 : decode cX5_readLine 125 = .ok (.invokevirtual 72, 3) := by decide +kernel
theorem dX5_readLine_128 : decode cX5_readLine 128 = .ok (.goto 45, 3) := by decide +kernel
theorem dX5_readLine_131 : decode cX5_readLine 131 = .ok (.aload_n 0, 1) := by decide +kernel
theorem dX5_readLine_132 : decode cX5_readLine 132 = .ok (.aload_n 1, 1) := by decide +kernel
theorem dX5_readLine_133 : decode cX5_readLine 133 = .ok (.iconst 3, 1) := by decide +kernel
theorem dX5_readLine_134 : decode cX5_readLine 134 = .ok (.invokevirtual 72, 3) := by decide +kernel
theorem dX5_readLine_137 : decode cX5_readLine 137 = .ok (.goto 36, 3) := by decide +kernel
theorem dX5_readLine_140 : decode cX5_readLine 140 = .ok (.aload_n 0, 1) := by decide +kernel
theorem dX5_readLine_141 : decode cX5_readLine 141 = .ok (.aload_n 1, 1) := by decide +kernel
theorem dX5_readLine_142 : decode cX5_readLine 142 = .ok (.invokevirtual 76, 3) := by decide +kernel
theorem dX5_readLine_145 : decode cX5_readLine 145 = .ok (.goto 28, 3) := by decide +kernel
theorem dX5_readLine_148 : decode cX5_readLine 148 = .ok (.aload_n 0, 1) := by decide +kernel
theorem dX5_readLine_149 : decode cX5_readLine 149 = .ok (.aload_n 1, 1) := by decide +kernel
theorem dX5_readLine_150 : decode cX5_readLine 150 = .ok (.invokevirtual 80, 3) := by decide +kernel
theorem dX5_readLine_153 : decode cX5_readLine 153 = .ok (.goto 20, 3) := by decide +kernel
theorem dX5_readLine_156 : decode cX5_readLine 156 = .ok (.aload_n 0, 1) := by decide +kernel
theorem dX5_readLine_157 : decode cX5_readLine 157 = .ok (.aload_n 1, 1) := by decide +kernel
theorem dX5_readLine_158 : decode cX5_readLine 158 = .ok (.invokevirtual 83, 3) := by decide +kernel
theorem dX5_readLine_161 : decode cX5_readLine 161 = .ok (.goto 12, 3) := by decide +kernel
theorem dX5_readLine_164 : decode cX5_readLine 164 = .ok (.aload_n 0, 1) := by decide +kernel
theorem dX5_readLine_165 : decode cX5_readLine 165 = .ok (.iconst 2, 1) := by decide +kernel
theorem dX5_readLine_166 : decode cX5_readLine 166 = .ok (.aload_n 1, 1) := by decide +kernel
theorem dX5_readLine_167 : decode cX5_readLine 167 = .ok (.getfield 65, 3) := by decide +kernel
theorem dX5_readLine_170 : decode cX5_readLine 170 = .ok (.invokevirtual 55, 3) := by decide +kernel
theorem dX5_readLine_173 : decode cX5_readLine 173 = .ok (.aload_n 0, 1) := by decide +kernel
theorem dX5_readLine_174 : decode cX5_readLine 174 = .ok (.getfield 22, 3) := by decide +kernel
theorem dX5_readLine_177 : decode cX5_readLine 177 = .ok (.ifCond .ne 7, 3) := by decide +kernel
theorem dX5_readLine_180 : decode cX5_readLine 180 = .ok (.iconst 1, 1) := by decide +kernel
theorem dX5_readLine_181 : decode cX5_readLine 181 = .ok (.goto 4, 3) := by decide +kernel
theorem dX5_readLine_184 : decode cX5_readLine 184 = .ok (.iconst 0, 1) := by decide +kernel
theorem dX5_readLine_185 : decode cX5_readLine 185 = .ok (.ireturn, 1) := by decide +kernel
set_option maxRecDepth 20000 in
theorem ggX5_lineNamed_X4_spells : GoodIn wsX5_lineNamed wsX4_spells := goodIn_r _ [4, 5, 6, 7, 8, 9, 10, 11, 12, 13, 14, 15, 16, 17, 18, 19, 20, 21, 22, 23, 24, 25, 26, 27, 28, 29, 30, 31, 32, 33, 34, 35, 36, 37, 38, 39, 40, 41, 42, 43, 44, 45, 46, 47, 48, 49, 50, 51, 52, 53, 54, 55, 56, 57, 58, 59, 60, 61, 62] (by decide +kernel) (by decide +kernel)
set_option maxRecDepth 20000 in
theorem gX5_lineNamed_X4_spells_n88 : GoodIn wsX5_lineNamed (wsX4_spells) := ggX5_lineNamed_X4_spells
theorem dX5_lineNamed_0 : decode cX5_lineNamed 0 = .ok (.aload_n 0, 1) := by decide +kernel
theorem dX5_lineNamed_1 : decode cX5_lineNamed 1 = .ok (.getfield 62, 3) := by decide +kernel
theorem dX5_lineNamed_4 : decode cX5_lineNamed 4 = .ok (.iconst 1, 1) := by decide +kernel
theorem dX5_lineNamed_5 : decode cX5_lineNamed 5 = .ok (.if_icmp .eq 6, 3) := by decide +kernel
theorem dX5_lineNamed_8 : decode cX5_lineNamed 8 = .ok (.bipush (-4), 2) := by decide +kernel
theorem dX5_lineNamed_10 : decode cX5_lineNamed 10 = .ok (.ireturn, 1) := by decide +kernel
theorem dX5_lineNamed_11 : decode cX5_lineNamed 11 = .ok (.aload_n 0, 1) := by decide +kernel
theorem dX5_lineNamed_12 : decode cX5_lineNamed 12 = .ok (.ldc 86, 2) := by decide +kernel
theorem dX5_lineNamed_14 : decode cX5_lineNamed 14 = .ok (.invokevirtual 88, 3) := by decide +kernel
theorem dX5_lineNamed_17 : decode cX5_lineNamed 17 = .ok (.ifCond .eq 7, 3) := by decide +kernel
theorem dX5_lineNamed_20 : decode cX5_lineNamed 20 = .ok (.iconst 0, 1) := by decide +kernel
theorem dX5_lineNamed_21 : decode cX5_lineNamed 21 = .ok (.goto 86, 3) := by decide +kernel
theorem dX5_lineNamed_24 : decode cX5_lineNamed 24 = .ok (.aload_n 0, 1) := by decide +kernel
theorem dX5_lineNamed_25 : decode cX5_lineNamed 25 = .ok (.ldc 92, 2) := by decide +kernel
theorem dX5_lineNamed_27 : decode cX5_lineNamed 27 = .ok (.invokevirtual 88, 3) := by decide +kernel
theorem dX5_lineNamed_30 : decode cX5_lineNamed 30 = .ok (.ifCond .eq 7, 3) := by decide +kernel
theorem dX5_lineNamed_33 : decode cX5_lineNamed 33 = .ok (.iconst 1, 1) := by decide +kernel
theorem dX5_lineNamed_34 : decode cX5_lineNamed 34 = .ok (.goto 73, 3) := by decide +kernel
theorem dX5_lineNamed_37 : decode cX5_lineNamed 37 = .ok (.aload_n 0, 1) := by decide +kernel
theorem dX5_lineNamed_38 : decode cX5_lineNamed 38 = .ok (.ldc 94, 2) := by decide +kernel
theorem dX5_lineNamed_40 : decode cX5_lineNamed 40 = .ok (.invokevirtual 88, 3) := by decide +kernel
theorem dX5_lineNamed_43 : decode cX5_lineNamed 43 = .ok (.ifCond .eq 7, 3) := by decide +kernel
theorem dX5_lineNamed_46 : decode cX5_lineNamed 46 = .ok (.iconst 2, 1) := by decide +kernel
theorem dX5_lineNamed_47 : decode cX5_lineNamed 47 = .ok (.goto 60, 3) := by decide +kernel
theorem dX5_lineNamed_50 : decode cX5_lineNamed 50 = .ok (.aload_n 0, 1) := by decide +kernel
theorem dX5_lineNamed_51 : decode cX5_lineNamed 51 = .ok (.ldc 96, 2) := by decide +kernel
theorem dX5_lineNamed_53 : decode cX5_lineNamed 53 = .ok (.invokevirtual 88, 3) := by decide +kernel
theorem dX5_lineNamed_56 : decode cX5_lineNamed 56 = .ok (.ifCond .eq 7, 3) := by decide +kernel
theorem dX5_lineNamed_59 : decode cX5_lineNamed 59 = .ok (.iconst 3, 1) := by decide +kernel
theorem dX5_lineNamed_60 : decode cX5_lineNamed 60 = .ok (.goto 47, 3) := by decide +kernel
theorem dX5_lineNamed_63 : decode cX5_lineNamed 63 = .ok (.aload_n 0, 1) := by decide +kernel
theorem dX5_lineNamed_64 : decode cX5_lineNamed 64 = .ok (.ldc 98, 2) := by decide +kernel
theorem dX5_lineNamed_66 : decode cX5_lineNamed 66 = .ok (.invokevirtual 88, 3) := by decide +kernel
theorem dX5_lineNamed_69 : decode cX5_lineNamed 69 = .ok (.ifCond .eq 8, 3) := by decide +kernel
theorem dX5_lineNamed_72 : decode cX5_lineNamed 72 = .ok (.bipush 10, 2) := by decide +kernel
theorem dX5_lineNamed_74 : decode cX5_lineNamed 74 = .ok (.goto 33, 3) := by decide +kernel
theorem dX5_lineNamed_77 : decode cX5_lineNamed 77 = .ok (.aload_n 0, 1) := by decide +kernel
theorem dX5_lineNamed_78 : decode cX5_lineNamed 78 = .ok (.ldc 100, 2) := by decide +kernel
theorem dX5_lineNamed_80 : decode cX5_lineNamed 80 = .ok (.invokevirtual 88, 3) := by decide +kernel
theorem dX5_lineNamed_83 : decode cX5_lineNamed 83 = .ok (.ifCond .eq 8, 3) := by decide +kernel
theorem dX5_lineNamed_86 : decode cX5_lineNamed 86 = .ok (.bipush 11, 2) := by decide +kernel
theorem dX5_lineNamed_88 : decode cX5_lineNamed 88 = .ok (.goto 19, 3) := by decide +kernel
theorem dX5_lineNamed_91 : decode cX5_lineNamed 91 = .ok (.aload_n 0, 1) := by decide +kernel
theorem dX5_lineNamed_92 : decode cX5_lineNamed 92 = .ok (.ldc 102, 2) := by decide +kernel
theorem dX5_lineNamed_94 : decode cX5_lineNamed 94 = .ok (.invokevirtual 88, 3) := by decide +kernel
theorem dX5_lineNamed_97 : decode cX5_lineNamed 97 = .ok (.ifCond .eq 8, 3) := by decide +kernel
theorem dX5_lineNamed_100 : decode cX5_lineNamed 100 = .ok (.bipush 12, 2) := by decide +kernel
theorem dX5_lineNamed_102 : decode cX5_lineNamed 102 = .ok (.goto 5, 3) := by decide +kernel
theorem dX5_lineNamed_105 : decode cX5_lineNamed 105 = .ok (.bipush (-4), 2) := by decide +kernel
theorem dX5_lineNamed_107 : decode cX5_lineNamed 107 = .ok (.ireturn, 1) := by decide +kernel
set_option maxRecDepth 20000 in
theorem ggX5_readGoose_X5_refuse : GoodIn wsX5_readGoose wsX5_refuse := goodIn_r _ [6, 7, 8, 56, 57, 58, 59, 60, 61, 62] (by decide +kernel) (by decide +kernel)
set_option maxRecDepth 20000 in
theorem gX5_readGoose_X5_refuse : GoodIn wsX5_readGoose (wsV RX5 55 RX5 yX5_refuse wsX5_refuse) := goodIn_app (goodIn_of _ (by decide +kernel)) ggX5_readGoose_X5_refuse
set_option maxRecDepth 20000 in
theorem ggX5_readGoose_X5_nextNumber : GoodIn wsX5_readGoose wsX5_nextNumber := goodIn_r _ [12, 7, 13, 14, 15, 16, 17, 18, 19, 20, 21, 22, 23, 24, 25, 26, 27, 28, 29, 30, 31, 32, 33, 34, 35, 36, 37, 38, 39, 5, 40, 2, 3, 4, 6, 8, 41, 42, 43, 56, 57, 58, 59, 60, 61, 62, 76, 77, 78, 79, 80, 81] (by decide +kernel) (by decide +kernel)
set_option maxRecDepth 20000 in
theorem gX5_readGoose_X5_nextNumber : GoodIn wsX5_readGoose (wsV RX5 104 RX5 yX5_nextNumber wsX5_nextNumber) := goodIn_app (goodIn_of _ (by decide +kernel)) ggX5_readGoose_X5_nextNumber
set_option maxRecDepth 20000 in
theorem ggX5_readGoose_X5_isLineEnded : GoodIn wsX5_readGoose wsX5_isLineEnded := goodIn_r _ [47, 7, 13, 14, 15, 16, 17, 18, 19, 20, 21, 22, 23, 24, 25, 26, 27, 28, 29, 30, 31, 32, 33, 34, 35, 36, 37, 38, 39, 5, 40, 2, 3, 4, 6, 8, 56, 57, 58, 59, 60, 61, 62, 76, 77, 78, 79, 80, 81] (by decide +kernel) (by decide +kernel)
set_option maxRecDepth 20000 in
theorem gX5_readGoose_X5_isLineEnded : GoodIn wsX5_readGoose (wsV RX5 108 RX5 yX5_isLineEnded wsX5_isLineEnded) := goodIn_app (goodIn_of _ (by decide +kernel)) ggX5_readGoose_X5_isLineEnded
set_option maxRecDepth 20000 in
theorem ggX5_readGoose_X0_addGoose : GoodIn wsX5_readGoose wsX0_addGoose := goodIn_r _ [51, 52, 53, 54, 55, 63, 64, 65, 66, 67, 68, 69, 70, 71, 72, 73, 74, 75] (by decide +kernel) (by decide +kernel)
set_option maxRecDepth 20000 in
theorem gX5_readGoose_X0_addGoose_n111 : GoodIn wsX5_readGoose (wsX0_addGoose) := ggX5_readGoose_X0_addGoose
theorem dX5_readGoose_0 : decode cX5_readGoose 0 = .ok (.aload_n 0, 1) := by decide +kernel
theorem dX5_readGoose_1 : decode cX5_readGoose 1 = .ok (.getfield 12, 3) := by decide +kernel
theorem dX5_readGoose_4 : decode cX5_readGoose 4 = .ok (.getfield 49, 3) := by decide +kernel
theorem dX5_readGoose_7 : decode cX5_readGoose 7 = .ok (.iconst 3, 1) := by decide +kernel
theorem dX5_readGoose_8 : decode cX5_readGoose 8 = .ok (.if_icmp .lt 12, 3) := by decide +kernel
theorem dX5_readGoose_11 : decode cX5_readGoose 11 = .ok (.aload_n 0, 1) := by decide +kernel
theorem dX5_readGoose_12 : decode cX5_readGoose 12 = .ok (.iconst 5, 1) := by decide +kernel
theorem dX5_readGoose_13 : decode cX5_readGoose 13 = .ok (.aload_n 1, 1) := by decide +kernel
theorem dX5_readGoose_14 : decode cX5_readGoose 14 = .ok (.getfield 65, 3) := by decide +kernel
theorem dX5_readGoose_17 : decode cX5_readGoose 17 = .ok (.invokevirtual 55, 3) := by decide +kernel
theorem dX5_readGoose_20 : decode cX5_readGoose 20 = .ok (.aload_n 0, 1) := by decide +kernel
theorem dX5_readGoose_21 : decode cX5_readGoose 21 = .ok (.aload_n 1, 1) := by decide +kernel
theorem dX5_readGoose_22 : decode cX5_readGoose 22 = .ok (.iconst 0, 1) := by decide +kernel
theorem dX5_readGoose_23 : decode cX5_readGoose 23 = .ok (.iconst 4, 1) := by decide +kernel
theorem dX5_readGoose_24 : decode cX5_readGoose 24 = .ok (.invokevirtual 104, 3) := by decide +kernel
theorem dX5_readGoose_27 : decode cX5_readGoose 27 = .ok (.istore_n 3, 1) := by decide +kernel
theorem dX5_readGoose_28 : decode cX5_readGoose 28 = .ok (.aload_n 0, 1) := by decide +kernel
theorem dX5_readGoose_29 : decode cX5_readGoose 29 = .ok (.aload_n 1, 1) := by decide +kernel
theorem dX5_readGoose_30 : decode cX5_readGoose 30 = .ok (.iconst 1, 1) := by decide +kernel
theorem dX5_readGoose_31 : decode cX5_readGoose 31 = .ok (.bipush 9, 2) := by decide +kernel
theorem dX5_readGoose_33 : decode cX5_readGoose 33 = .ok (.invokevirtual 104, 3) := by decide +kernel
theorem dX5_readGoose_36 : decode cX5_readGoose 36 = .ok (.istore 4, 2) := by decide +kernel
theorem dX5_readGoose_38 : decode cX5_readGoose 38 = .ok (.aload_n 0, 1) := by decide +kernel
theorem dX5_readGoose_39 : decode cX5_readGoose 39 = .ok (.aload_n 1, 1) := by decide +kernel
theorem dX5_readGoose_40 : decode cX5_readGoose 40 = .ok (.invokevirtual 108, 3) := by decide +kernel
theorem dX5_readGoose_43 : decode cX5_readGoose 43 = .ok (.ifCond .eq 14, 3) := by decide +kernel
theorem dX5_readGoose_46 : decode cX5_readGoose 46 = .ok (.aload_n 0, 1) := by decide +kernel
theorem dX5_readGoose_47 : decode cX5_readGoose 47 = .ok (.getfield 12, 3) := by decide +kernel
theorem dX5_readGoose_50 : decode cX5_readGoose 50 = .ok (.iload_n 2, 1) := by decide +kernel
theorem dX5_readGoose_51 : decode cX5_readGoose 51 = .ok (.iload_n 3, 1) := by decide +kernel
theorem dX5_readGoose_52 : decode cX5_readGoose 52 = .ok (.iload 4, 2) := by decide +kernel
theorem dX5_readGoose_54 : decode cX5_readGoose 54 = .ok (.invokevirtual 111, 3) := by decide +kernel
theorem dX5_readGoose_57 : decode cX5_readGoose 57 = .ok (.return_, 1) := by decide +kernel
set_option maxRecDepth 20000 in
theorem ggX5_readShare_X5_nextNumber : GoodIn wsX5_readShare wsX5_nextNumber := goodIn_r _ [8, 9, 10, 11, 12, 13, 14, 15, 16, 17, 18, 19, 20, 21, 22, 23, 24, 25, 26, 27, 28, 29, 30, 31, 32, 33, 34, 35, 36, 7, 37, 38, 39, 40, 41, 42, 43, 44, 45, 50, 51, 52, 53, 54, 55, 56, 57, 58, 59, 60, 61, 62] (by decide +kernel) (by decide +kernel)
set_option maxRecDepth 20000 in
theorem gX5_readShare_X5_nextNumber : GoodIn wsX5_readShare (wsV RX5 104 RX5 yX5_nextNumber wsX5_nextNumber) := goodIn_app (goodIn_of _ (by decide +kernel)) ggX5_readShare_X5_nextNumber
set_option maxRecDepth 20000 in
theorem ggX5_readShare_X5_refuse : GoodIn wsX5_readShare wsX5_refuse := goodIn_r _ [41, 9, 42, 50, 51, 52, 53, 54, 55, 56] (by decide +kernel) (by decide +kernel)
set_option maxRecDepth 20000 in
theorem gX5_readShare_X5_refuse : GoodIn wsX5_readShare (wsV RX5 55 RX5 yX5_refuse wsX5_refuse) := goodIn_app (goodIn_of _ (by decide +kernel)) ggX5_readShare_X5_refuse
set_option maxRecDepth 20000 in
theorem ggX5_readShare_X5_isLineEnded : GoodIn wsX5_readShare wsX5_isLineEnded := goodIn_r _ [49, 9, 10, 11, 12, 13, 14, 15, 16, 17, 18, 19, 20, 21, 22, 23, 24, 25, 26, 27, 28, 29, 30, 31, 32, 33, 34, 35, 36, 7, 37, 38, 39, 40, 41, 42, 50, 51, 52, 53, 54, 55, 56, 57, 58, 59, 60, 61, 62] (by decide +kernel) (by decide +kernel)
set_option maxRecDepth 20000 in
theorem gX5_readShare_X5_isLineEnded : GoodIn wsX5_readShare (wsV RX5 108 RX5 yX5_isLineEnded wsX5_isLineEnded) := goodIn_app (goodIn_of _ (by decide +kernel)) ggX5_readShare_X5_isLineEnded
theorem dX5_readShare_0 : decode cX5_readShare 0 = .ok (.aload_n 0, 1) := by decide +kernel
theorem dX5_readShare_1 : decode cX5_readShare 1 = .ok (.aload_n 1, 1) := by decide +kernel
theorem dX5_readShare_2 : decode cX5_readShare 2 = .ok (.iconst 0, 1) := by decide +kernel
theorem dX5_readShare_3 : decode cX5_readShare 3 = .ok (.iconst 2, 1) := by decide +kernel
theorem dX5_readShare_4 : decode cX5_readShare 4 = .ok (.invokevirtual 104, 3) := by decide +kernel
theorem dX5_readShare_7 : decode cX5_readShare 7 = .ok (.istore_n 2, 1) := by decide +kernel
theorem dX5_readShare_8 : decode cX5_readShare 8 = .ok (.aload_n 0, 1) := by decide +kernel
theorem dX5_readShare_9 : decode cX5_readShare 9 = .ok (.aload_n 1, 1) := by decide +kernel
theorem dX5_readShare_10 : decode cX5_readShare 10 = .ok (.iconst 0, 1) := by decide +kernel
theorem dX5_readShare_11 : decode cX5_readShare 11 = .ok (.iconst 4, 1) := by decide +kernel
theorem dX5_readShare_12 : decode cX5_readShare 12 = .ok (.invokevirtual 104, 3) := by decide +kernel
theorem dX5_readShare_15 : decode cX5_readShare 15 = .ok (.istore_n 3, 1) := by decide +kernel
theorem dX5_readShare_16 : decode cX5_readShare 16 = .ok (.iload_n 2, 1) := by decide +kernel
theorem dX5_readShare_17 : decode cX5_readShare 17 = .ok (.iconst 5, 1) := by decide +kernel
theorem dX5_readShare_18 : decode cX5_readShare 18 = .ok (.imul, 1) := by decide +kernel
theorem dX5_readShare_19 : decode cX5_readShare 19 = .ok (.iload_n 3, 1) := by decide +kernel
theorem dX5_readShare_20 : decode cX5_readShare 20 = .ok (.iadd, 1) := by decide +kernel
theorem dX5_readShare_21 : decode cX5_readShare 21 = .ok (.istore 4, 2) := by decide +kernel
theorem dX5_readShare_23 : decode cX5_readShare 23 = .ok (.aload_n 0, 1) := by decide +kernel
theorem dX5_readShare_24 : decode cX5_readShare 24 = .ok (.getfield 28, 3) := by decide +kernel
theorem dX5_readShare_27 : decode cX5_readShare 27 = .ok (.iload 4, 2) := by decide +kernel
theorem dX5_readShare_29 : decode cX5_readShare 29 = .ok (.ishr, 1) := by decide +kernel
theorem dX5_readShare_30 : decode cX5_readShare 30 = .ok (.iconst 1, 1) := by decide +kernel
theorem dX5_readShare_31 : decode cX5_readShare 31 = .ok (.iand, 1) := by decide +kernel
theorem dX5_readShare_32 : decode cX5_readShare 32 = .ok (.iconst 1, 1) := by decide +kernel
theorem dX5_readShare_33 : decode cX5_readShare 33 = .ok (.if_icmp .ne 12, 3) := by decide +kernel
theorem dX5_readShare_36 : decode cX5_readShare 36 = .ok (.aload_n 0, 1) := by decide +kernel
theorem dX5_readShare_37 : decode cX5_readShare 37 = .ok (.iconst 4, 1) := by decide +kernel
theorem dX5_readShare_38 : decode cX5_readShare 38 = .ok (.aload_n 1, 1) := by decide +kernel
theorem dX5_readShare_39 : decode cX5_readShare 39 = .ok (.getfield 65, 3) := by decide +kernel
theorem dX5_readShare_42 : decode cX5_readShare 42 = .ok (.invokevirtual 55, 3) := by decide +kernel
theorem dX5_readShare_45 : decode cX5_readShare 45 = .ok (.aload_n 0, 1) := by decide +kernel
theorem dX5_readShare_46 : decode cX5_readShare 46 = .ok (.aload_n 1, 1) := by decide +kernel
theorem dX5_readShare_47 : decode cX5_readShare 47 = .ok (.iconst 0, 1) := by decide +kernel
theorem dX5_readShare_48 : decode cX5_readShare 48 = .ok (.bipush 99, 2) := by decide +kernel
theorem dX5_readShare_50 : decode cX5_readShare 50 = .ok (.invokevirtual 104, 3) := by decide +kernel
theorem dX5_readShare_53 : decode cX5_readShare 53 = .ok (.istore 5, 2) := by decide +kernel
theorem dX5_readShare_55 : decode cX5_readShare 55 = .ok (.aload_n 0, 1) := by decide +kernel
theorem dX5_readShare_56 : decode cX5_readShare 56 = .ok (.aload_n 1, 1) := by decide +kernel
theorem dX5_readShare_57 : decode cX5_readShare 57 = .ok (.invokevirtual 108, 3) := by decide +kernel
theorem dX5_readShare_60 : decode cX5_readShare 60 = .ok (.ifCond .eq 40, 3) := by decide +kernel
theorem dX5_readShare_63 : decode cX5_readShare 63 = .ok (.aload_n 0, 1) := by decide +kernel
theorem dX5_readShare_64 : decode cX5_readShare 64 = .ok (.dup, 1) := by decide +kernel
theorem dX5_readShare_65 : decode cX5_readShare 65 = .ok (.getfield 28, 3) := by decide +kernel
theorem dX5_readShare_68 : decode cX5_readShare 68 = .ok (.iconst 1, 1) := by decide +kernel
theorem dX5_readShare_69 : decode cX5_readShare 69 = .ok (.iload 4, 2) := by decide +kernel
theorem dX5_readShare_71 : decode cX5_readShare 71 = .ok (.ishl, 1) := by decide +kernel
theorem dX5_readShare_72 : decode cX5_readShare 72 = .ok (.ior, 1) := by decide +kernel
theorem dX5_readShare_73 : decode cX5_readShare 73 = .ok (.putfield 28, 3) := by decide +kernel
theorem dX5_readShare_76 : decode cX5_readShare 76 = .ok (.aload_n 0, 1) := by decide +kernel
theorem dX5_readShare_77 : decode cX5_readShare 77 = .ok (.dup, 1) := by decide +kernel
theorem dX5_readShare_78 : decode cX5_readShare 78 = .ok (.getfield 34, 3) := by decide +kernel
theorem dX5_readShare_81 : decode cX5_readShare 81 = .ok (.iconst 1, 1) := by decide +kernel
theorem dX5_readShare_82 : decode cX5_readShare 82 = .ok (.iload_n 2, 1) := by decide +kernel
theorem dX5_readShare_83 : decode cX5_readShare 83 = .ok (.ishl, 1) := by decide +kernel
theorem dX5_readShare_84 : decode cX5_readShare 84 = .ok (.ior, 1) := by decide +kernel
theorem dX5_readShare_85 : decode cX5_readShare 85 = .ok (.putfield 34, 3) := by decide +kernel
theorem dX5_readShare_88 : decode cX5_readShare 88 = .ok (.aload_n 0, 1) := by decide +kernel
theorem dX5_readShare_89 : decode cX5_readShare 89 = .ok (.getfield 12, 3) := by decide +kernel
theorem dX5_readShare_92 : decode cX5_readShare 92 = .ok (.getfield 115, 3) := by decide +kernel
theorem dX5_readShare_95 : decode cX5_readShare 95 = .ok (.iload 4, 2) := by decide +kernel
theorem dX5_readShare_97 : decode cX5_readShare 97 = .ok (.iload 5, 2) := by decide +kernel
theorem dX5_readShare_99 : decode cX5_readShare 99 = .ok (.iastore, 1) := by decide +kernel
theorem dX5_readShare_100 : decode cX5_readShare 100 = .ok (.return_, 1) := by decide +kernel
set_option maxRecDepth 20000 in
theorem ggX5_readMoney_X5_nextNumber : GoodIn wsX5_readMoney wsX5_nextNumber := goodIn_r _ [7, 8, 9, 10, 11, 12, 13, 14, 15, 16, 17, 18, 19, 20, 21, 22, 23, 24, 25, 26, 27, 28, 29, 30, 31, 32, 33, 34, 35, 6, 36, 37, 38, 39, 40, 41, 42, 43, 44, 49, 50, 51, 52, 53, 54, 55, 56, 57, 58, 59, 60, 61] (by decide +kernel) (by decide +kernel)
set_option maxRecDepth 20000 in
theorem gX5_readMoney_X5_nextNumber : GoodIn wsX5_readMoney (wsV RX5 104 RX5 yX5_nextNumber wsX5_nextNumber) := goodIn_app (goodIn_of _ (by decide +kernel)) ggX5_readMoney_X5_nextNumber
set_option maxRecDepth 20000 in
theorem ggX5_readMoney_X5_refuse : GoodIn wsX5_readMoney wsX5_refuse := goodIn_r _ [40, 8, 41, 49, 50, 51, 52, 53, 54, 55] (by decide +kernel) (by decide +kernel)
set_option maxRecDepth 20000 in
theorem gX5_readMoney_X5_refuse : GoodIn wsX5_readMoney (wsV RX5 55 RX5 yX5_refuse wsX5_refuse) := goodIn_app (goodIn_of _ (by decide +kernel)) ggX5_readMoney_X5_refuse
set_option maxRecDepth 20000 in
theorem ggX5_readMoney_X5_isLineEnded : GoodIn wsX5_readMoney wsX5_isLineEnded := goodIn_r _ [48, 8, 9, 10, 11, 12, 13, 14, 15, 16, 17, 18, 19, 20, 21, 22, 23, 24, 25, 26, 27, 28, 29, 30, 31, 32, 33, 34, 35, 6, 36, 37, 38, 39, 40, 41, 49, 50, 51, 52, 53, 54, 55, 56, 57, 58, 59, 60, 61] (by decide +kernel) (by decide +kernel)
set_option maxRecDepth 20000 in
theorem gX5_readMoney_X5_isLineEnded : GoodIn wsX5_readMoney (wsV RX5 108 RX5 yX5_isLineEnded wsX5_isLineEnded) := goodIn_app (goodIn_of _ (by decide +kernel)) ggX5_readMoney_X5_isLineEnded
theorem dX5_readMoney_0 : decode cX5_readMoney 0 = .ok (.aload_n 0, 1) := by decide +kernel
theorem dX5_readMoney_1 : decode cX5_readMoney 1 = .ok (.aload_n 1, 1) := by decide +kernel
theorem dX5_readMoney_2 : decode cX5_readMoney 2 = .ok (.iconst 0, 1) := by decide +kernel
theorem dX5_readMoney_3 : decode cX5_readMoney 3 = .ok (.iconst 4, 1) := by decide +kernel
theorem dX5_readMoney_4 : decode cX5_readMoney 4 = .ok (.invokevirtual 104, 3) := by decide +kernel
theorem dX5_readMoney_7 : decode cX5_readMoney 7 = .ok (.istore_n 2, 1) := by decide +kernel
theorem dX5_readMoney_8 : decode cX5_readMoney 8 = .ok (.aload_n 0, 1) := by decide +kernel
theorem dX5_readMoney_9 : decode cX5_readMoney 9 = .ok (.getfield 31, 3) := by decide +kernel
theorem dX5_readMoney_12 : decode cX5_readMoney 12 = .ok (.iload_n 2, 1) := by decide +kernel
theorem dX5_readMoney_13 : decode cX5_readMoney 13 = .ok (.ishr, 1) := by decide +kernel
theorem dX5_readMoney_14 : decode cX5_readMoney 14 = .ok (.iconst 1, 1) := by decide +kernel
theorem dX5_readMoney_15 : decode cX5_readMoney 15 = .ok (.iand, 1) := by decide +kernel
theorem dX5_readMoney_16 : decode cX5_readMoney 16 = .ok (.iconst 1, 1) := by decide +kernel
theorem dX5_readMoney_17 : decode cX5_readMoney 17 = .ok (.if_icmp .ne 12, 3) := by decide +kernel
theorem dX5_readMoney_20 : decode cX5_readMoney 20 = .ok (.aload_n 0, 1) := by decide +kernel
theorem dX5_readMoney_21 : decode cX5_readMoney 21 = .ok (.iconst 4, 1) := by decide +kernel
theorem dX5_readMoney_22 : decode cX5_readMoney 22 = .ok (.aload_n 1, 1) := by decide +kernel
theorem dX5_readMoney_23 : decode cX5_readMoney 23 = .ok (.getfield 65, 3) := by decide +kernel
theorem dX5_readMoney_26 : decode cX5_readMoney 26 = .ok (.invokevirtual 55, 3) := by decide +kernel
theorem dX5_readMoney_29 : decode cX5_readMoney 29 = .ok (.aload_n 0, 1) := by decide +kernel
theorem dX5_readMoney_30 : decode cX5_readMoney 30 = .ok (.aload_n 1, 1) := by decide +kernel
theorem dX5_readMoney_31 : decode cX5_readMoney 31 = .ok (.iconst 0, 1) := by decide +kernel
theorem dX5_readMoney_32 : decode cX5_readMoney 32 = .ok (.bipush 99, 2) := by decide +kernel
theorem dX5_readMoney_34 : decode cX5_readMoney 34 = .ok (.invokevirtual 104, 3) := by decide +kernel
theorem dX5_readMoney_37 : decode cX5_readMoney 37 = .ok (.istore_n 3, 1) := by decide +kernel
theorem dX5_readMoney_38 : decode cX5_readMoney 38 = .ok (.aload_n 0, 1) := by decide +kernel
theorem dX5_readMoney_39 : decode cX5_readMoney 39 = .ok (.aload_n 1, 1) := by decide +kernel
theorem dX5_readMoney_40 : decode cX5_readMoney 40 = .ok (.invokevirtual 108, 3) := by decide +kernel
theorem dX5_readMoney_43 : decode cX5_readMoney 43 = .ok (.ifCond .eq 25, 3) := by decide +kernel
theorem dX5_readMoney_46 : decode cX5_readMoney 46 = .ok (.aload_n 0, 1) := by decide +kernel
theorem dX5_readMoney_47 : decode cX5_readMoney 47 = .ok (.dup, 1) := by decide +kernel
theorem dX5_readMoney_48 : decode cX5_readMoney 48 = .ok (.getfield 31, 3) := by decide +kernel
theorem dX5_readMoney_51 : decode cX5_readMoney 51 = .ok (.iconst 1, 1) := by decide +kernel
theorem dX5_readMoney_52 : decode cX5_readMoney 52 = .ok (.iload_n 2, 1) := by decide +kernel
theorem dX5_readMoney_53 : decode cX5_readMoney 53 = .ok (.ishl, 1) := by decide +kernel
theorem dX5_readMoney_54 : decode cX5_readMoney 54 = .ok (.ior, 1) := by decide +kernel
theorem dX5_readMoney_55 : decode cX5_readMoney 55 = .ok (.putfield 31, 3) := by decide +kernel
theorem dX5_readMoney_58 : decode cX5_readMoney 58 = .ok (.aload_n 0, 1) := by decide +kernel
theorem dX5_readMoney_59 : decode cX5_readMoney 59 = .ok (.getfield 12, 3) := by decide +kernel
theorem dX5_readMoney_62 : decode cX5_readMoney 62 = .ok (.getfield 119, 3) := by decide +kernel
theorem dX5_readMoney_65 : decode cX5_readMoney 65 = .ok (.iload_n 2, 1) := by decide +kernel
theorem dX5_readMoney_66 : decode cX5_readMoney 66 = .ok (.iload_n 3, 1) := by decide +kernel
theorem dX5_readMoney_67 : decode cX5_readMoney 67 = .ok (.iastore, 1) := by decide +kernel
theorem dX5_readMoney_68 : decode cX5_readMoney 68 = .ok (.return_, 1) := by decide +kernel
set_option maxRecDepth 20000 in
theorem ggX5_readTrade_X5_refuse : GoodIn wsX5_readTrade wsX5_refuse := goodIn_r _ [7, 8, 9, 58, 59, 60, 61, 62, 63, 64] (by decide +kernel) (by decide +kernel)
set_option maxRecDepth 20000 in
theorem gX5_readTrade_X5_refuse : GoodIn wsX5_readTrade (wsV RX5 55 RX5 yX5_refuse wsX5_refuse) := goodIn_app (goodIn_of _ (by decide +kernel)) ggX5_readTrade_X5_refuse
set_option maxRecDepth 20000 in
theorem ggX5_readTrade_X5_nextNumber : GoodIn wsX5_readTrade wsX5_nextNumber := goodIn_r _ [13, 8, 14, 15, 16, 17, 18, 19, 20, 21, 22, 23, 24, 25, 26, 27, 28, 29, 30, 31, 32, 33, 34, 35, 36, 37, 38, 39, 40, 6, 41, 3, 4, 5, 7, 9, 42, 43, 44, 58, 59, 60, 61, 62, 63, 64, 78, 79, 80, 81, 82, 83] (by decide +kernel) (by decide +kernel)
set_option maxRecDepth 20000 in
theorem gX5_readTrade_X5_nextNumber : GoodIn wsX5_readTrade (wsV RX5 104 RX5 yX5_nextNumber wsX5_nextNumber) := goodIn_app (goodIn_of _ (by decide +kernel)) ggX5_readTrade_X5_nextNumber
set_option maxRecDepth 20000 in
theorem ggX5_readTrade_X5_isLineEnded : GoodIn wsX5_readTrade wsX5_isLineEnded := goodIn_r _ [48, 8, 14, 15, 16, 17, 18, 19, 20, 21, 22, 23, 24, 25, 26, 27, 28, 29, 30, 31, 32, 33, 34, 35, 36, 37, 38, 39, 40, 6, 41, 3, 4, 5, 7, 9, 58, 59, 60, 61, 62, 63, 64, 78, 79, 80, 81, 82, 83] (by decide +kernel) (by decide +kernel)
set_option maxRecDepth 20000 in
theorem gX5_readTrade_X5_isLineEnded : GoodIn wsX5_readTrade (wsV RX5 108 RX5 yX5_isLineEnded wsX5_isLineEnded) := goodIn_app (goodIn_of _ (by decide +kernel)) ggX5_readTrade_X5_isLineEnded
set_option maxRecDepth 20000 in
theorem ggX5_readTrade_X0_addToPlan : GoodIn wsX5_readTrade wsX0_addToPlan := goodIn_r _ [52, 53, 54, 55, 56, 57, 65, 66, 67, 68, 69, 70, 71, 72, 73, 74, 75, 76, 77] (by decide +kernel) (by decide +kernel)
set_option maxRecDepth 20000 in
theorem gX5_readTrade_X0_addToPlan_n124 : GoodIn wsX5_readTrade (wsX0_addToPlan) := ggX5_readTrade_X0_addToPlan
theorem dX5_readTrade_0 : decode cX5_readTrade 0 = .ok (.aload_n 0, 1) := by decide +kernel
theorem dX5_readTrade_1 : decode cX5_readTrade 1 = .ok (.getfield 12, 3) := by decide +kernel
theorem dX5_readTrade_4 : decode cX5_readTrade 4 = .ok (.getfield 121, 3) := by decide +kernel
theorem dX5_readTrade_7 : decode cX5_readTrade 7 = .ok (.bipush 6, 2) := by decide +kernel
theorem dX5_readTrade_9 : decode cX5_readTrade 9 = .ok (.if_icmp .lt 12, 3) := by decide +kernel
theorem dX5_readTrade_12 : decode cX5_readTrade 12 = .ok (.aload_n 0, 1) := by decide +kernel
theorem dX5_readTrade_13 : decode cX5_readTrade 13 = .ok (.iconst 5, 1) := by decide +kernel
theorem dX5_readTrade_14 : decode cX5_readTrade 14 = .ok (.aload_n 1, 1) := by decide +kernel
theorem dX5_readTrade_15 : decode cX5_readTrade 15 = .ok (.getfield 65, 3) := by decide +kernel
theorem dX5_readTrade_18 : decode cX5_readTrade 18 = .ok (.invokevirtual 55, 3) := by decide +kernel
theorem dX5_readTrade_21 : decode cX5_readTrade 21 = .ok (.aload_n 0, 1) := by decide +kernel
theorem dX5_readTrade_22 : decode cX5_readTrade 22 = .ok (.aload_n 1, 1) := by decide +kernel
theorem dX5_readTrade_23 : decode cX5_readTrade 23 = .ok (.iconst 0, 1) := by decide +kernel
theorem dX5_readTrade_24 : decode cX5_readTrade 24 = .ok (.iconst 4, 1) := by decide +kernel
theorem dX5_readTrade_25 : decode cX5_readTrade 25 = .ok (.invokevirtual 104, 3) := by decide +kernel
theorem dX5_readTrade_28 : decode cX5_readTrade 28 = .ok (.istore_n 2, 1) := by decide +kernel
theorem dX5_readTrade_29 : decode cX5_readTrade 29 = .ok (.aload_n 0, 1) := by decide +kernel
theorem dX5_readTrade_30 : decode cX5_readTrade 30 = .ok (.aload_n 1, 1) := by decide +kernel
theorem dX5_readTrade_31 : decode cX5_readTrade 31 = .ok (.iconst 0, 1) := by decide +kernel
theorem dX5_readTrade_32 : decode cX5_readTrade 32 = .ok (.iconst 4, 1) := by decide +kernel
theorem dX5_readTrade_33 : decode cX5_readTrade 33 = .ok (.invokevirtual 104, 3) := by decide +kernel
theorem dX5_readTrade_36 : decode cX5_readTrade 36 = .ok (.istore_n 3, 1) := by decide +kernel
theorem dX5_readTrade_37 : decode cX5_readTrade 37 = .ok (.iload_n 3, 1) := by decide +kernel
theorem dX5_readTrade_38 : decode cX5_readTrade 38 = .ok (.iload_n 2, 1) := by decide +kernel
theorem dX5_readTrade_39 : decode cX5_readTrade 39 = .ok (.if_icmp .ne 12, 3) := by decide +kernel
theorem dX5_readTrade_42 : decode cX5_readTrade 42 = .ok (.aload_n 0, 1) := by decide +kernel
theorem dX5_readTrade_43 : decode cX5_readTrade 43 = .ok (.iconst 3, 1) := by decide +kernel
theorem dX5_readTrade_44 : decode cX5_readTrade 44 = .ok (.aload_n 1, 1) := by decide +kernel
theorem dX5_readTrade_45 : decode cX5_readTrade 45 = .ok (.getfield 65, 3) := by decide +kernel
theorem dX5_readTrade_48 : decode cX5_readTrade 48 = .ok (.invokevirtual 55, 3) := by decide +kernel
theorem dX5_readTrade_51 : decode cX5_readTrade 51 = .ok (.aload_n 0, 1) := by decide +kernel
theorem dX5_readTrade_52 : decode cX5_readTrade 52 = .ok (.aload_n 1, 1) := by decide +kernel
theorem dX5_readTrade_53 : decode cX5_readTrade 53 = .ok (.iconst 0, 1) := by decide +kernel
theorem dX5_readTrade_54 : decode cX5_readTrade 54 = .ok (.iconst 2, 1) := by decide +kernel
theorem dX5_readTrade_55 : decode cX5_readTrade 55 = .ok (.invokevirtual 104, 3) := by decide +kernel
theorem dX5_readTrade_58 : decode cX5_readTrade 58 = .ok (.istore 4, 2) := by decide +kernel
theorem dX5_readTrade_60 : decode cX5_readTrade 60 = .ok (.aload_n 0, 1) := by decide +kernel
theorem dX5_readTrade_61 : decode cX5_readTrade 61 = .ok (.aload_n 1, 1) := by decide +kernel
theorem dX5_readTrade_62 : decode cX5_readTrade 62 = .ok (.iconst 1, 1) := by decide +kernel
theorem dX5_readTrade_63 : decode cX5_readTrade 63 = .ok (.bipush 9, 2) := by decide +kernel
theorem dX5_readTrade_65 : decode cX5_readTrade 65 = .ok (.invokevirtual 104, 3) := by decide +kernel
theorem dX5_readTrade_68 : decode cX5_readTrade 68 = .ok (.istore 5, 2) := by decide +kernel
theorem dX5_readTrade_70 : decode cX5_readTrade 70 = .ok (.aload_n 0, 1) := by decide +kernel
theorem dX5_readTrade_71 : decode cX5_readTrade 71 = .ok (.aload_n 1, 1) := by decide +kernel
theorem dX5_readTrade_72 : decode cX5_readTrade 72 = .ok (.invokevirtual 108, 3) := by decide +kernel
theorem dX5_readTrade_75 : decode cX5_readTrade 75 = .ok (.ifCond .eq 30, 3) := by decide +kernel
theorem dX5_readTrade_78 : decode cX5_readTrade 78 = .ok (.aload_n 0, 1) := by decide +kernel
theorem dX5_readTrade_79 : decode cX5_readTrade 79 = .ok (.dup, 1) := by decide +kernel
theorem dX5_readTrade_80 : decode cX5_readTrade 80 = .ok (.getfield 34, 3) := by decide +kernel
theorem dX5_readTrade_83 : decode cX5_readTrade 83 = .ok (.iconst 1, 1) := by decide +kernel
theorem dX5_readTrade_84 : decode cX5_readTrade 84 = .ok (.iload 4, 2) := by decide +kernel
theorem dX5_readTrade_86 : decode cX5_readTrade 86 = .ok (.ishl, 1) := by decide +kernel
theorem dX5_readTrade_87 : decode cX5_readTrade 87 = .ok (.ior, 1) := by decide +kernel
theorem dX5_readTrade_88 : decode cX5_readTrade 88 = .ok (.putfield 34, 3) := by decide +kernel
theorem dX5_readTrade_91 : decode cX5_readTrade 91 = .ok (.aload_n 0, 1) := by decide +kernel
theorem dX5_readTrade_92 : decode cX5_readTrade 92 = .ok (.getfield 12, 3) := by decide +kernel
theorem dX5_readTrade_95 : decode cX5_readTrade 95 = .ok (.iload_n 2, 1) := by decide +kernel
theorem dX5_readTrade_96 : decode cX5_readTrade 96 = .ok (.iload_n 3, 1) := by decide +kernel
theorem dX5_readTrade_97 : decode cX5_readTrade 97 = .ok (.iload 4, 2) := by decide +kernel
theorem dX5_readTrade_99 : decode cX5_readTrade 99 = .ok (.iload 5, 2) := by decide +kernel
theorem dX5_readTrade_101 : decode cX5_readTrade 101 = .ok (.invokevirtual 124, 3) := by decide +kernel
theorem dX5_readTrade_104 : decode cX5_readTrade 104 = .ok (.pop, 1) := by decide +kernel
theorem dX5_readTrade_105 : decode cX5_readTrade 105 = .ok (.return_, 1) := by decide +kernel
set_option maxRecDepth 20000 in
theorem ggX5_nextNumber_X4_nextToken : GoodIn wsX5_nextNumber wsX4_nextToken := goodIn_r _ [5, 6, 7, 8, 9, 10, 11, 12, 3, 13, 14, 15, 16, 17, 18, 19, 20, 21, 22, 23, 24, 25, 46, 47, 48, 49, 50, 51] (by decide +kernel) (by decide +kernel)
set_option maxRecDepth 20000 in
theorem gX5_nextNumber_X4_nextToken_n59 : GoodIn wsX5_nextNumber (wsX4_nextToken) := ggX5_nextNumber_X4_nextToken
set_option maxRecDepth 20000 in
theorem ggX5_nextNumber_X5_refuseOther : GoodIn wsX5_nextNumber wsX5_refuseOther := goodIn_r _ [30, 31, 32, 33, 29, 34, 1, 35, 46, 47, 48, 49, 50, 51, 39, 40, 41, 42, 43, 44, 45] (by decide +kernel) (by decide +kernel)
set_option maxRecDepth 20000 in
theorem gX5_nextNumber_X5_refuseOther : GoodIn wsX5_nextNumber (wsV RX5 128 RX5 yX5_refuseOther wsX5_refuseOther) := goodIn_app (goodIn_of _ (by decide +kernel)) ggX5_nextNumber_X5_refuseOther
set_option maxRecDepth 20000 in
theorem ggX5_nextNumber_X6_isWithin : GoodIn wsX5_nextNumber wsX6_isWithin := goodIn_r _ [38] (by decide +kernel) (by decide +kernel)
set_option maxRecDepth 20000 in
theorem gX5_nextNumber_X6_isWithin_n134 : GoodIn wsX5_nextNumber (wsX6_isWithin) := ggX5_nextNumber_X6_isWithin
set_option maxRecDepth 20000 in
theorem ggX5_nextNumber_X5_refuse : GoodIn wsX5_nextNumber wsX5_refuse := goodIn_r _ [34, 1, 35, 39, 40, 41, 42, 43, 44, 45] (by decide +kernel) (by decide +kernel)
set_option maxRecDepth 20000 in
theorem gX5_nextNumber_X5_refuse : GoodIn wsX5_nextNumber (wsV RX5 55 RX5 yX5_refuse wsX5_refuse) := goodIn_app (goodIn_of _ (by decide +kernel)) ggX5_nextNumber_X5_refuse
theorem dX5_nextNumber_0 : decode cX5_nextNumber 0 = .ok (.aload_n 0, 1) := by decide +kernel
theorem dX5_nextNumber_1 : decode cX5_nextNumber 1 = .ok (.getfield 22, 3) := by decide +kernel
theorem dX5_nextNumber_4 : decode cX5_nextNumber 4 = .ok (.ifCond .eq 5, 3) := by decide +kernel
theorem dX5_nextNumber_7 : decode cX5_nextNumber 7 = .ok (.iload_n 2, 1) := by decide +kernel
theorem dX5_nextNumber_8 : decode cX5_nextNumber 8 = .ok (.ireturn, 1) := by decide +kernel
theorem dX5_nextNumber_9 : decode cX5_nextNumber 9 = .ok (.aload_n 1, 1) := by decide +kernel
theorem dX5_nextNumber_10 : decode cX5_nextNumber 10 = .ok (.invokevirtual 59, 3) := by decide +kernel
theorem dX5_nextNumber_13 : decode cX5_nextNumber 13 = .ok (.aload_n 0, 1) := by decide +kernel
theorem dX5_nextNumber_14 : decode cX5_nextNumber 14 = .ok (.aload_n 1, 1) := by decide +kernel
theorem dX5_nextNumber_15 : decode cX5_nextNumber 15 = .ok (.iconst 2, 1) := by decide +kernel
theorem dX5_nextNumber_16 : decode cX5_nextNumber 16 = .ok (.invokevirtual 128, 3) := by decide +kernel
theorem dX5_nextNumber_19 : decode cX5_nextNumber 19 = .ok (.aload_n 0, 1) := by decide +kernel
theorem dX5_nextNumber_20 : decode cX5_nextNumber 20 = .ok (.getfield 22, 3) := by decide +kernel
theorem dX5_nextNumber_23 : decode cX5_nextNumber 23 = .ok (.ifCond .ne 24, 3) := by decide +kernel
theorem dX5_nextNumber_26 : decode cX5_nextNumber 26 = .ok (.aload_n 1, 1) := by decide +kernel
theorem dX5_nextNumber_27 : decode cX5_nextNumber 27 = .ok (.getfield 131, 3) := by decide +kernel
theorem dX5_nextNumber_30 : decode cX5_nextNumber 30 = .ok (.iload_n 2, 1) := by decide +kernel
theorem dX5_nextNumber_31 : decode cX5_nextNumber 31 = .ok (.iload_n 3, 1) := by decide +kernel
theorem dX5_nextNumber_32 : decode cX5_nextNumber 32 = .ok (.invokestatic 134, 3) := by decide +kernel
theorem dX5_nextNumber_35 : decode cX5_nextNumber 35 = .ok (.ifCond .ne 12, 3) := by decide +kernel
theorem dX5_nextNumber_38 : decode cX5_nextNumber 38 = .ok (.aload_n 0, 1) := by decide +kernel
theorem dX5_nextNumber_39 : decode cX5_nextNumber 39 = .ok (.iconst 3, 1) := by decide +kernel
theorem dX5_nextNumber_40 : decode cX5_nextNumber 40 = .ok (.aload_n 1, 1) := by decide +kernel
theorem dX5_nextNumber_41 : decode cX5_nextNumber 41 = .ok (.getfield 65, 3) := by decide +kernel
theorem dX5_nextNumber_44 : decode cX5_nextNumber 44 = .ok (.invokevirtual 55, 3) := by decide +kernel
theorem dX5_nextNumber_47 : decode cX5_nextNumber 47 = .ok (.aload_n 0, 1) := by decide +kernel
theorem dX5_nextNumber_48 : decode cX5_nextNumber 48 = .ok (.getfield 22, 3) := by decide +kernel
theorem dX5_nextNumber_51 : decode cX5_nextNumber 51 = .ok (.ifCond .ne 10, 3) := by decide +kernel
theorem dX5_nextNumber_54 : decode cX5_nextNumber 54 = .ok (.aload_n 1, 1) := by decide +kernel
theorem dX5_nextNumber_55 : decode cX5_nextNumber 55 = .ok (.getfield 131, 3) := by decide +kernel
theorem dX5_nextNumber_58 : decode cX5_nextNumber 58 = .ok (.goto 4, 3) := by decide +kernel
theorem dX5_nextNumber_61 : decode cX5_nextNumber 61 = .ok (.iload_n 2, 1) := by decide +kernel
theorem dX5_nextNumber_62 : decode cX5_nextNumber 62 = .ok (.ireturn, 1) := by decide +kernel
set_option maxRecDepth 20000 in
theorem ggX5_isLineEnded_X4_nextToken : GoodIn wsX5_isLineEnded wsX4_nextToken := goodIn_r _ [5, 6, 7, 8, 9, 10, 11, 12, 3, 13, 14, 15, 16, 17, 18, 19, 20, 21, 22, 23, 24, 25, 43, 44, 45, 46, 47, 48] (by decide +kernel) (by decide +kernel)
set_option maxRecDepth 20000 in
theorem gX5_isLineEnded_X4_nextToken_n59 : GoodIn wsX5_isLineEnded (wsX4_nextToken) := ggX5_isLineEnded_X4_nextToken
set_option maxRecDepth 20000 in
theorem ggX5_isLineEnded_X5_refuseOther : GoodIn wsX5_isLineEnded wsX5_refuseOther := goodIn_r _ [30, 31, 32, 33, 29, 34, 1, 35, 43, 44, 45, 46, 47, 48, 36, 37, 38, 39, 40, 41, 42] (by decide +kernel) (by decide +kernel)
set_option maxRecDepth 20000 in
theorem gX5_isLineEnded_X5_refuseOther : GoodIn wsX5_isLineEnded (wsV RX5 128 RX5 yX5_refuseOther wsX5_refuseOther) := goodIn_app (goodIn_of _ (by decide +kernel)) ggX5_isLineEnded_X5_refuseOther
theorem dX5_isLineEnded_0 : decode cX5_isLineEnded 0 = .ok (.aload_n 0, 1) := by decide +kernel
theorem dX5_isLineEnded_1 : decode cX5_isLineEnded 1 = .ok (.getfield 22, 3) := by decide +kernel
theorem dX5_isLineEnded_4 : decode cX5_isLineEnded 4 = .ok (.ifCond .eq 5, 3) := by decide +kernel
theorem dX5_isLineEnded_7 : decode cX5_isLineEnded 7 = .ok (.iconst 0, 1) := by decide +kernel
theorem dX5_isLineEnded_8 : decode cX5_isLineEnded 8 = .ok (.ireturn, 1) := by decide +kernel
theorem dX5_isLineEnded_9 : decode cX5_isLineEnded 9 = .ok (.aload_n 1, 1) := by decide +kernel
theorem dX5_isLineEnded_10 : decode cX5_isLineEnded 10 = .ok (.invokevirtual 59, 3) := by decide +kernel
theorem dX5_isLineEnded_13 : decode cX5_isLineEnded 13 = .ok (.aload_n 0, 1) := by decide +kernel
theorem dX5_isLineEnded_14 : decode cX5_isLineEnded 14 = .ok (.aload_n 1, 1) := by decide +kernel
theorem dX5_isLineEnded_15 : decode cX5_isLineEnded 15 = .ok (.iconst 3, 1) := by decide +kernel
theorem dX5_isLineEnded_16 : decode cX5_isLineEnded 16 = .ok (.invokevirtual 128, 3) := by decide +kernel
theorem dX5_isLineEnded_19 : decode cX5_isLineEnded 19 = .ok (.aload_n 0, 1) := by decide +kernel
theorem dX5_isLineEnded_20 : decode cX5_isLineEnded 20 = .ok (.getfield 22, 3) := by decide +kernel
theorem dX5_isLineEnded_23 : decode cX5_isLineEnded 23 = .ok (.ifCond .ne 7, 3) := by decide +kernel
theorem dX5_isLineEnded_26 : decode cX5_isLineEnded 26 = .ok (.iconst 1, 1) := by decide +kernel
theorem dX5_isLineEnded_27 : decode cX5_isLineEnded 27 = .ok (.goto 4, 3) := by decide +kernel
theorem dX5_isLineEnded_30 : decode cX5_isLineEnded 30 = .ok (.iconst 0, 1) := by decide +kernel
theorem dX5_isLineEnded_31 : decode cX5_isLineEnded 31 = .ok (.ireturn, 1) := by decide +kernel
set_option maxRecDepth 20000 in
theorem ggX5_refuseOther_X5_refuse : GoodIn wsX5_refuseOther wsX5_refuse := goodIn_r _ [5, 6, 7, 14, 15, 16, 17, 18, 19, 20] (by decide +kernel) (by decide +kernel)
set_option maxRecDepth 20000 in
theorem gX5_refuseOther_X5_refuse : GoodIn wsX5_refuseOther (wsV RX5 55 RX5 yX5_refuse wsX5_refuse) := goodIn_app (goodIn_of _ (by decide +kernel)) ggX5_refuseOther_X5_refuse
theorem dX5_refuseOther_0 : decode cX5_refuseOther 0 = .ok (.aload_n 1, 1) := by decide +kernel
theorem dX5_refuseOther_1 : decode cX5_refuseOther 1 = .ok (.getfield 62, 3) := by decide +kernel
theorem dX5_refuseOther_4 : decode cX5_refuseOther 4 = .ok (.iconst 4, 1) := by decide +kernel
theorem dX5_refuseOther_5 : decode cX5_refuseOther 5 = .ok (.if_icmp .ne 15, 3) := by decide +kernel
theorem dX5_refuseOther_8 : decode cX5_refuseOther 8 = .ok (.aload_n 0, 1) := by decide +kernel
theorem dX5_refuseOther_9 : decode cX5_refuseOther 9 = .ok (.iconst 1, 1) := by decide +kernel
theorem dX5_refuseOther_10 : decode cX5_refuseOther 10 = .ok (.aload_n 1, 1) := by decide +kernel
theorem dX5_refuseOther_11 : decode cX5_refuseOther 11 = .ok (.getfield 65, 3) := by decide +kernel
theorem dX5_refuseOther_14 : decode cX5_refuseOther 14 = .ok (.invokevirtual 55, 3) := by decide +kernel
theorem dX5_refuseOther_17 : decode cX5_refuseOther 17 = .ok (.goto 20, 3) := by decide +kernel
theorem dX5_refuseOther_20 : decode cX5_refuseOther 20 = .ok (.aload_n 1, 1) := by decide +kernel
theorem dX5_refuseOther_21 : decode cX5_refuseOther 21 = .ok (.getfield 62, 3) := by decide +kernel
theorem dX5_refuseOther_24 : decode cX5_refuseOther 24 = .ok (.iload_n 2, 1) := by decide +kernel
theorem dX5_refuseOther_25 : decode cX5_refuseOther 25 = .ok (.if_icmp .eq 12, 3) := by decide +kernel
theorem dX5_refuseOther_28 : decode cX5_refuseOther 28 = .ok (.aload_n 0, 1) := by decide +kernel
theorem dX5_refuseOther_29 : decode cX5_refuseOther 29 = .ok (.iconst 2, 1) := by decide +kernel
theorem dX5_refuseOther_30 : decode cX5_refuseOther 30 = .ok (.aload_n 1, 1) := by decide +kernel
theorem dX5_refuseOther_31 : decode cX5_refuseOther 31 = .ok (.getfield 65, 3) := by decide +kernel
theorem dX5_refuseOther_34 : decode cX5_refuseOther 34 = .ok (.invokevirtual 55, 3) := by decide +kernel
theorem dX5_refuseOther_37 : decode cX5_refuseOther 37 = .ok (.return_, 1) := by decide +kernel
abbrev vwCl : List vw_C := [(RX0, TX0, 13), (RX1, TX1, 9), (RX2, TX2, 4), (RX3, TX3, 5), (RX4, TX4, 6), (RX5, TX5, 7), (RX6, TX6, 11), (RX7, TX7, 34)]
